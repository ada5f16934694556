set_option linter.all false
abbrev c_MH_expand : ByteArray := prog_13_method_7_code
abbrev y_MH_expand : MethodName := ⟨"LatticeKeysModel$Hands", "expand", "([B)V"⟩
abbrev w_MH_expand : List Cond := Cond.code y_MH_expand c_MH_expand 6 none :: WG
theorem dMH_expand_0 : decode c_MH_expand 0 = .ok (.iconst 0, 1) := by decide +kernel
theorem dMH_expand_1 : decode c_MH_expand 1 = .ok (.istore_n 2, 1) := by decide +kernel
theorem dMH_expand_2 : decode c_MH_expand 2 = .ok (.iload_n 2, 1) := by decide +kernel
theorem dMH_expand_3 : decode c_MH_expand 3 = .ok (.aload_n 0, 1) := by decide +kernel
theorem dMH_expand_4 : decode c_MH_expand 4 = .ok (.getfield 107, 3) := by decide +kernel
theorem dMH_expand_7 : decode c_MH_expand 7 = .ok (.if_icmp .ge 156, 3) := by decide +kernel
theorem dMH_expand_10 : decode c_MH_expand 10 = .ok (.iconst 0, 1) := by decide +kernel
theorem dMH_expand_11 : decode c_MH_expand 11 = .ok (.istore_n 3, 1) := by decide +kernel
theorem dMH_expand_12 : decode c_MH_expand 12 = .ok (.iload_n 3, 1) := by decide +kernel
theorem dMH_expand_13 : decode c_MH_expand 13 = .ok (.aload_n 0, 1) := by decide +kernel
theorem dMH_expand_14 : decode c_MH_expand 14 = .ok (.getfield 110, 3) := by decide +kernel
theorem dMH_expand_17 : decode c_MH_expand 17 = .ok (.if_icmp .ge 140, 3) := by decide +kernel
theorem dMH_expand_20 : decode c_MH_expand 20 = .ok (.aload_n 0, 1) := by decide +kernel
theorem dMH_expand_21 : decode c_MH_expand 21 = .ok (.getfield 87, 3) := by decide +kernel
theorem dMH_expand_24 : decode c_MH_expand 24 = .ok (.sipush 168, 3) := by decide +kernel
theorem dMH_expand_27 : decode c_MH_expand 27 = .ok (.bipush 31, 2) := by decide +kernel
theorem dMH_expand_29 : decode c_MH_expand 29 = .ok (.invokevirtual 136, 3) := by decide +kernel
theorem dMH_expand_32 : decode c_MH_expand 32 = .ok (.aload_n 0, 1) := by decide +kernel
theorem dMH_expand_33 : decode c_MH_expand 33 = .ok (.getfield 87, 3) := by decide +kernel
theorem dMH_expand_36 : decode c_MH_expand 36 = .ok (.aload_n 1, 1) := by decide +kernel
theorem dMH_expand_37 : decode c_MH_expand 37 = .ok (.iconst 0, 1) := by decide +kernel
theorem dMH_expand_38 : decode c_MH_expand 38 = .ok (.bipush 32, 2) := by decide +kernel
theorem dMH_expand_40 : decode c_MH_expand 40 = .ok (.invokevirtual 142, 3) := by decide +kernel
theorem dMH_expand_43 : decode c_MH_expand 43 = .ok (.aload_n 0, 1) := by decide +kernel
theorem dMH_expand_44 : decode c_MH_expand 44 = .ok (.getfield 87, 3) := by decide +kernel
theorem dMH_expand_47 : decode c_MH_expand 47 = .ok (.iload_n 3, 1) := by decide +kernel
theorem dMH_expand_48 : decode c_MH_expand 48 = .ok (.invokevirtual 146, 3) := by decide +kernel
theorem dMH_expand_51 : decode c_MH_expand 51 = .ok (.aload_n 0, 1) := by decide +kernel
theorem dMH_expand_52 : decode c_MH_expand 52 = .ok (.getfield 87, 3) := by decide +kernel
theorem dMH_expand_55 : decode c_MH_expand 55 = .ok (.iload_n 2, 1) := by decide +kernel
theorem dMH_expand_56 : decode c_MH_expand 56 = .ok (.invokevirtual 146, 3) := by decide +kernel
theorem dMH_expand_59 : decode c_MH_expand 59 = .ok (.aload_n 0, 1) := by decide +kernel
theorem dMH_expand_60 : decode c_MH_expand 60 = .ok (.getfield 87, 3) := by decide +kernel
theorem dMH_expand_63 : decode c_MH_expand 63 = .ok (.invokevirtual 149, 3) := by decide +kernel
theorem dMH_expand_66 : decode c_MH_expand 66 = .ok (.iconst 0, 1) := by decide +kernel
theorem dMH_expand_67 : decode c_MH_expand 67 = .ok (.istore 4, 2) := by decide +kernel
theorem dMH_expand_69 : decode c_MH_expand 69 = .ok (.iload 4, 2) := by decide +kernel
theorem dMH_expand_71 : decode c_MH_expand 71 = .ok (.sipush 256, 3) := by decide +kernel
theorem dMH_expand_74 : decode c_MH_expand 74 = .ok (.if_icmp .ge 77, 3) := by decide +kernel
theorem dMH_expand_77 : decode c_MH_expand 77 = .ok (.aload_n 0, 1) := by decide +kernel
theorem dMH_expand_78 : decode c_MH_expand 78 = .ok (.getfield 87, 3) := by decide +kernel
theorem dMH_expand_81 : decode c_MH_expand 81 = .ok (.invokevirtual 152, 3) := by decide +kernel
theorem dMH_expand_84 : decode c_MH_expand 84 = .ok (.istore 5, 2) := by decide +kernel
theorem dMH_expand_86 : decode c_MH_expand 86 = .ok (.iload 5, 2) := by decide +kernel
theorem dMH_expand_88 : decode c_MH_expand 88 = .ok (.aload_n 0, 1) := by decide +kernel
theorem dMH_expand_89 : decode c_MH_expand 89 = .ok (.getfield 87, 3) := by decide +kernel
theorem dMH_expand_92 : decode c_MH_expand 92 = .ok (.invokevirtual 152, 3) := by decide +kernel
theorem dMH_expand_95 : decode c_MH_expand 95 = .ok (.bipush 8, 2) := by decide +kernel
theorem dMH_expand_97 : decode c_MH_expand 97 = .ok (.ishl, 1) := by decide +kernel
theorem dMH_expand_98 : decode c_MH_expand 98 = .ok (.iadd, 1) := by decide +kernel
theorem dMH_expand_99 : decode c_MH_expand 99 = .ok (.istore 5, 2) := by decide +kernel
theorem dMH_expand_101 : decode c_MH_expand 101 = .ok (.iload 5, 2) := by decide +kernel
theorem dMH_expand_103 : decode c_MH_expand 103 = .ok (.aload_n 0, 1) := by decide +kernel
theorem dMH_expand_104 : decode c_MH_expand 104 = .ok (.getfield 87, 3) := by decide +kernel
theorem dMH_expand_107 : decode c_MH_expand 107 = .ok (.invokevirtual 152, 3) := by decide +kernel
theorem dMH_expand_110 : decode c_MH_expand 110 = .ok (.bipush 127, 2) := by decide +kernel
theorem dMH_expand_112 : decode c_MH_expand 112 = .ok (.iand, 1) := by decide +kernel
theorem dMH_expand_113 : decode c_MH_expand 113 = .ok (.bipush 16, 2) := by decide +kernel
theorem dMH_expand_115 : decode c_MH_expand 115 = .ok (.ishl, 1) := by decide +kernel
theorem dMH_expand_116 : decode c_MH_expand 116 = .ok (.iadd, 1) := by decide +kernel
theorem dMH_expand_117 : decode c_MH_expand 117 = .ok (.istore 5, 2) := by decide +kernel
theorem dMH_expand_119 : decode c_MH_expand 119 = .ok (.iload 5, 2) := by decide +kernel
theorem dMH_expand_121 : decode c_MH_expand 121 = .ok (.ldc 11, 2) := by decide +kernel
theorem dMH_expand_123 : decode c_MH_expand 123 = .ok (.if_icmp .lt 6, 3) := by decide +kernel
theorem dMH_expand_126 : decode c_MH_expand 126 = .ok (.goto (-57), 3) := by decide +kernel
theorem dMH_expand_129 : decode c_MH_expand 129 = .ok (.aload_n 0, 1) := by decide +kernel
theorem dMH_expand_130 : decode c_MH_expand 130 = .ok (.getfield 21, 3) := by decide +kernel
theorem dMH_expand_133 : decode c_MH_expand 133 = .ok (.bipush 8, 2) := by decide +kernel
theorem dMH_expand_135 : decode c_MH_expand 135 = .ok (.iload_n 2, 1) := by decide +kernel
theorem dMH_expand_136 : decode c_MH_expand 136 = .ok (.imul, 1) := by decide +kernel
theorem dMH_expand_137 : decode c_MH_expand 137 = .ok (.iload_n 3, 1) := by decide +kernel
theorem dMH_expand_138 : decode c_MH_expand 138 = .ok (.iadd, 1) := by decide +kernel
theorem dMH_expand_139 : decode c_MH_expand 139 = .ok (.aaload, 1) := by decide +kernel
theorem dMH_expand_140 : decode c_MH_expand 140 = .ok (.iload 4, 2) := by decide +kernel
theorem dMH_expand_142 : decode c_MH_expand 142 = .ok (.iload 5, 2) := by decide +kernel
theorem dMH_expand_144 : decode c_MH_expand 144 = .ok (.iastore, 1) := by decide +kernel
theorem dMH_expand_145 : decode c_MH_expand 145 = .ok (.iinc 4 1, 3) := by decide +kernel
theorem dMH_expand_148 : decode c_MH_expand 148 = .ok (.goto (-79), 3) := by decide +kernel
theorem dMH_expand_151 : decode c_MH_expand 151 = .ok (.iinc 3 1, 3) := by decide +kernel
theorem dMH_expand_154 : decode c_MH_expand 154 = .ok (.goto (-142), 3) := by decide +kernel
theorem dMH_expand_157 : decode c_MH_expand 157 = .ok (.iinc 2 1, 3) := by decide +kernel
theorem dMH_expand_160 : decode c_MH_expand 160 = .ok (.goto (-158), 3) := by decide +kernel
theorem dMH_expand_163 : decode c_MH_expand 163 = .ok (.return_, 1) := by decide +kernel
def M_MH_expand_0 (k : Nat) : Prop := (227 ≤ k ∧ k < 291) ∨ k = 172 ∨ (0 : Nat) = 1
noncomputable def F_MH_expand_0_L2 (i21 : Nat) (i22 : Nat) (kk : Nat → Sto → Sto) : Nat → Nat → Sto → Sto
  | 0, nn21, s28 => kk (i22 + 1) s28
  | n23 + 1, nn21, s28 => if 256 ≤ nn21 then kk (i22 + 1) s28 else bnd (F_MS_next  s28) fun q21 => bnd (q21.1.toNatClampNeg) fun z25 => bnd (F_MS_next  q21.2) fun q22 => bnd (q22.1.toNatClampNeg) fun z26 => bnd (((nI z25) + ((nI z26) <<< ((nI 8) &&& 31)))) fun z27 => bnd (F_MS_next  q22.2) fun q23 => bnd (q23.1.toNatClampNeg) fun z28 => bnd ((z27 + (((nI z28) &&& (nI 127)) <<< ((nI 16) &&& 31)))) fun z29 => if z29 < (nI 8380417) then bnd (sI q23.2 ((227 + ((8 * i21) + i22))) nn21 z29) fun s29 => F_MH_expand_0_L2 i21 i22 kk n23 (nn21 + 1) s29 else F_MH_expand_0_L2 i21 i22 kk n23 nn21 q23.2
noncomputable def E_MH_expand_0_L2 (i21 : Nat) (i22 : Nat) (ke : Nat → Sto → Prop) : Nat → Nat → Sto → Prop
  | 0, nn21, s28 => (256 ≤ nn21) ∧ (ke (i22 + 1) s28)
  | n23 + 1, nn21, s28 => if 256 ≤ nn21 then ke (i22 + 1) s28 else bnd (F_MS_next  s28) fun q21 => bnd (q21.1.toNatClampNeg) fun z25 => bnd (F_MS_next  q21.2) fun q22 => bnd (q22.1.toNatClampNeg) fun z26 => bnd (((nI z25) + ((nI z26) <<< ((nI 8) &&& 31)))) fun z27 => bnd (F_MS_next  q22.2) fun q23 => bnd (q23.1.toNatClampNeg) fun z28 => bnd ((z27 + (((nI z28) &&& (nI 127)) <<< ((nI 16) &&& 31)))) fun z29 => if z29 < (nI 8380417) then bnd (sI q23.2 ((227 + ((8 * i21) + i22))) nn21 z29) fun s29 => E_MH_expand_0_L2 i21 i22 ke n23 (nn21 + 1) s29 else E_MH_expand_0_L2 i21 i22 ke n23 nn21 q23.2
noncomputable def F_MH_expand_0_L1 (pb : Nat) (n : Nat) (i21 : Nat) (kk : Nat → Sto → Sto) : Nat → Nat → Sto → Sto
  | 0, i22, s22 => bnd ((s22.1 225 25).toNatClampNeg) fun z23 => kk (i21 + 1) s22
  | n22 + 1, i22, s22 => bnd ((s22.1 225 25).toNatClampNeg) fun z24 => bnd (F_MS_begin 168 (nI 31) s22) fun s23 => bnd (F_MS_puts pb n 0 32 s23) fun s24 => bnd (F_MS_put (nI i22) s24) fun s25 => bnd (F_MS_put (nI i21) s25) fun s26 => bnd (F_MS_end  s26) fun s27 => F_MH_expand_0_L2 i21 i22 (F_MH_expand_0_L1 pb n i21 kk n22) fuelM 0 s27
noncomputable def E_MH_expand_0_L1 (pb : Nat) (n : Nat) (i21 : Nat) (ke : Nat → Sto → Prop) : Nat → Nat → Sto → Prop
  | 0, i22, s22 => bnd ((s22.1 225 25).toNatClampNeg) fun z23 => ke (i21 + 1) s22
  | n22 + 1, i22, s22 => bnd ((s22.1 225 25).toNatClampNeg) fun z24 => bnd (F_MS_begin 168 (nI 31) s22) fun s23 => bnd (F_MS_puts pb n 0 32 s23) fun s24 => bnd (F_MS_put (nI i22) s24) fun s25 => bnd (F_MS_put (nI i21) s25) fun s26 => bnd (F_MS_end  s26) fun s27 => E_MH_expand_0_L2 i21 i22 (E_MH_expand_0_L1 pb n i21 ke n22) fuelM 0 s27
noncomputable def F_MH_expand_0_L0 (pb : Nat) (n : Nat) : Nat → Nat → Sto → Sto
  | 0, i21, s21 => bnd ((s21.1 225 24).toNatClampNeg) fun z21 => s21
  | n21 + 1, i21, s21 => bnd ((s21.1 225 24).toNatClampNeg) fun z22 => F_MH_expand_0_L1 pb n i21 (F_MH_expand_0_L0 pb n n21) 4 0 s21
noncomputable def E_MH_expand_0_L0 (pb : Nat) (n : Nat) : Nat → Nat → Sto → Prop
  | 0, i21, s21 => bnd ((s21.1 225 24).toNatClampNeg) fun z21 => True
  | n21 + 1, i21, s21 => bnd ((s21.1 225 24).toNatClampNeg) fun z22 => E_MH_expand_0_L1 pb n i21 (E_MH_expand_0_L0 pb n n21) 4 0 s21
noncomputable def F_MH_expand_0 (pb : Nat) (n : Nat) (s : Sto) : Sto := F_MH_expand_0_L0 pb n 4 0 s
noncomputable def E_MH_expand_0 (pb : Nat) (n : Nat) (s : Sto) : Prop := E_MH_expand_0_L0 pb n 4 0 s
set_option maxHeartbeats 8000000 in
set_option maxRecDepth 100000 in
theorem N_MH_expand_0 (l : Launch) (g : Gd) (sz : Nat) (T : TyN) (s : Sto) (pl : va_W) (hO : okn g T s pl) (hU : inj T) (h0 b : Nat) (pb : Nat) (n : Nat) (k_h0 : T h0 = some 225) (k_b : T b = some pb) (n_b : nsp pb = (1, n, [])) (e_c0 : s.1 225 23 = nI 0) (e_c1 : s.1 225 24 = nI 4) (e_c2 : s.1 225 25 = nI 4) (e_c3 : s.1 225 26 = nI 2) (e_c4 : s.1 225 27 = nI 131072) (e_c5 : s.1 225 28 = nI 95232) (e_c6 : s.1 225 29 = nI 78) (e_c7 : s.1 225 30 = nI 32) (h1 : 32 ≤ n) (h2 : n < 65536) (hE : E_MH_expand_0 pb n s)  : Met l y_MH_expand w_MH_expand ({ frames := 4, cells := 0, slots := 0, locals := 90 } : Room) (va_Pc [.ref h0, .ref b] (pr (en g) g.1 vcl sz ([] ++ pl))) (va_Qv (fun (u : (Sto) × va_W) => (u.1 = F_MH_expand_0 pb n s ∧ frm (M_MH_expand_0) s u.1 ∧ True) ∧ okn g T u.1 u.2) (po g.1 vcl (va_A ([] ++ pl) sz) (fun (u : (Sto) × va_W) => [] ++ u.2)) (va_A ([] ++ pl) sz)) 0 0 (va_A ([] ++ pl) sz) := by
  refine mc_entry (cc := c_MH_expand) (maxL := 6) (ret := none) (by decide) rfl (Nat.le_of_ble_eq_true rfl) ?_
  intro p e s0 m args below meth c ls F hr hlk hnm hsz hP hD hEn hA hl
  obtain ⟨hx, hb, hml, hown, hts⟩ := id F
  have hK := hEn.1
  generalize va_A ([] ++ pl) sz = A at hD hEn hA ⊢
  have hS : va_S A s0.heap s0.heap [] := va_S.rf
  have hl : lv_has ls 6 [(0, .ref h0), (1, .ref b)] := hl
  have hR : F_MH_expand_0 pb n s = F_MH_expand_0 pb n s := rfl
  have hF : frm (M_MH_expand_0) s s := frm_rf
  have ne_172_pb : 172 ≠ pb := nsp_ne (p := 172) rfl n_b (show (5 : Nat) ≠ 1 by decide)
  have ne_225_pb : 225 ≠ pb := nsp_ne (p := 225) rfl n_b (show (5 : Nat) ≠ 1 by decide)
  refine lv_iconst (v := nI 0) hx hb dMH_expand_0 (by decide) ?_
  refine lv_istore_n (lv' := [(2, .int (nI 0)), (0, .ref h0), (1, .ref b)]) hx hb dMH_expand_1 rfl hl (by decide) rfl (fun ls hl => ?_)
  have lp21 : ∀ (n21 : Nat) (i21 : Nat) (s21 : Sto) (pl : va_W) (ls : Array Slot) (H : Heap) (locs : List Loc), n21 + i21 = 4 → frm (M_MH_expand_0) s s21 → s21.1 225 23 = nI 0 → s21.1 225 24 = nI 4 → s21.1 225 25 = nI 4 → s21.1 225 26 = nI 2 → s21.1 225 27 = nI 131072 → s21.1 225 28 = nI 95232 → s21.1 225 29 = nI 78 → s21.1 225 30 = nI 32 → E_MH_expand_0_L0 pb n n21 i21 s21 → F_MH_expand_0 pb n s = F_MH_expand_0_L0 pb n n21 i21 s21 → lv_has ls 6 [(2, .int (nI i21)), (0, .ref h0), (1, .ref b)] → okn g T s21 pl → va_P g.1 vcl ([] ++ pl) H → va_D A ([] ++ pl) → va_S A s0.heap H locs → W p l e ({ frames := 4, cells := 0, slots := 0, locals := 90 } : Room) s0 m args below meth c H locs 0 0 (MQ below (va_Qv (fun (u : (Sto) × va_W) => (u.1 = F_MH_expand_0 pb n s ∧ frm (M_MH_expand_0) s u.1 ∧ True) ∧ okn g T u.1 u.2) (po g.1 vcl A (fun (u : (Sto) × va_W) => [] ++ u.2)) A) args s0 0 0 A) (F0 m 2 ls []) := by
    intro n21
    induction n21 with
    | zero =>
      intro i21 s21 pl ls H locs hm21 hF hf21 hf22 hf23 hf24 hf25 hf26 hf27 hf28 hE hR hl hO hP hD hS
      refine lv_iload_n hx hb dMH_expand_2 rfl (lv_at hl 0 rfl) ?_
      refine lv_aload_n hx hb dMH_expand_3 rfl (lv_at hl 1 rfl) ?_
      refine nw_get (C := "LatticeKeysModel$Hands") (TT := T_MH) (N := 31) hx hb hts (wg_ft i_MH) hown hK hO k_h0 (kn := 225) (ci := 12) (fl := [(3, 172), (3, 181), (3, 226), (3, 291), (3, 299), (3, 308), (3, 317), (3, 326), (3, 334), (3, 342), (3, 350), (3, 359), (3, 368), (3, 369), (3, 370), (3, 371), (3, 372), (3, 373), (3, 374), (3, 375), (3, 376), (3, 377), (3, 378), (0, 0), (0, 0), (0, 0), (0, 0), (0, 0), (0, 0), (0, 0), (0, 0)]) rfl hP rfl 24 (by decide) (hts _ (wg_t kw_1456)) (fun _ h9 => h9) (cd := (0, 0)) rfl dMH_expand_4 (fun v21 hv21 => ?_)
      obtain rfl := (show v21 = .int (s21.1 225 24) from hv21)
      obtain ⟨z21, ez21, hz21, hz22⟩ := cl_of (b := 2147483648) hf22 (by omega) (by decide)
      replace hR := bnd_step hR ez21
      first | rw [bnd_eq, ← ez21] at hE | replace hE := bndP_step hE ez21
      refine mi_as hz21 ?_
      subst hz22
      refine mi_ge (tgt := 163) hx hb dMH_expand_7 (by decide) (by omega) (by omega) (fun h21 => ?_) (fun h21 => absurd h21 (by omega))
      exact mp_vret hx hb hr hlk hP hD hS (s21, pl) ⟨⟨hR.symm, hF, trivial⟩, hO⟩ [] rfl rfl rfl (by omega) (by omega) dMH_expand_163
    | succ n21 ih21 =>
      intro i21 s21 pl ls H locs hm21 hF hf29 hf30 hf31 hf32 hf33 hf34 hf35 hf36 hE hR hl hO hP hD hS
      refine lv_iload_n hx hb dMH_expand_2 rfl (lv_at hl 0 rfl) ?_
      refine lv_aload_n hx hb dMH_expand_3 rfl (lv_at hl 1 rfl) ?_
      refine nw_get (C := "LatticeKeysModel$Hands") (TT := T_MH) (N := 31) hx hb hts (wg_ft i_MH) hown hK hO k_h0 (kn := 225) (ci := 12) (fl := [(3, 172), (3, 181), (3, 226), (3, 291), (3, 299), (3, 308), (3, 317), (3, 326), (3, 334), (3, 342), (3, 350), (3, 359), (3, 368), (3, 369), (3, 370), (3, 371), (3, 372), (3, 373), (3, 374), (3, 375), (3, 376), (3, 377), (3, 378), (0, 0), (0, 0), (0, 0), (0, 0), (0, 0), (0, 0), (0, 0), (0, 0)]) rfl hP rfl 24 (by decide) (hts _ (wg_t kw_1456)) (fun _ h9 => h9) (cd := (0, 0)) rfl dMH_expand_4 (fun v22 hv22 => ?_)
      obtain rfl := (show v22 = .int (s21.1 225 24) from hv22)
      obtain ⟨z22, ez22, hz23, hz24⟩ := cl_of (b := 2147483648) hf30 (by omega) (by decide)
      replace hR := bnd_step hR ez22
      first | rw [bnd_eq, ← ez22] at hE | replace hE := bndP_step hE ez22
      refine mi_as hz23 ?_
      subst hz24
      refine mi_ge (tgt := 163) hx hb dMH_expand_7 (by decide) (by omega) (by omega) (fun h22 => absurd h22 (by omega)) (fun h22 => ?_)
      refine lv_iconst (v := nI 0) hx hb dMH_expand_10 (by decide) ?_
      refine lv_istore_n (lv' := [(3, .int (nI 0)), (2, .int (nI i21)), (0, .ref h0), (1, .ref b)]) hx hb dMH_expand_11 rfl hl (by decide) rfl (fun ls hl => ?_)
      have lp22 : ∀ (n22 : Nat) (i22 : Nat) (s22 : Sto) (pl : va_W) (ls : Array Slot) (H : Heap) (locs : List Loc), n22 + i22 = 4 → frm (M_MH_expand_0) s s22 → s22.1 225 23 = nI 0 → s22.1 225 24 = nI 4 → s22.1 225 25 = nI 4 → s22.1 225 26 = nI 2 → s22.1 225 27 = nI 131072 → s22.1 225 28 = nI 95232 → s22.1 225 29 = nI 78 → s22.1 225 30 = nI 32 → E_MH_expand_0_L1 pb n i21 (E_MH_expand_0_L0 pb n n21) n22 i22 s22 → F_MH_expand_0 pb n s = F_MH_expand_0_L1 pb n i21 (F_MH_expand_0_L0 pb n n21) n22 i22 s22 → lv_has ls 6 [(3, .int (nI i22)), (2, .int (nI i21)), (0, .ref h0), (1, .ref b)] → okn g T s22 pl → va_P g.1 vcl ([] ++ pl) H → va_D A ([] ++ pl) → va_S A s0.heap H locs → W p l e ({ frames := 4, cells := 0, slots := 0, locals := 90 } : Room) s0 m args below meth c H locs 0 0 (MQ below (va_Qv (fun (u : (Sto) × va_W) => (u.1 = F_MH_expand_0 pb n s ∧ frm (M_MH_expand_0) s u.1 ∧ True) ∧ okn g T u.1 u.2) (po g.1 vcl A (fun (u : (Sto) × va_W) => [] ++ u.2)) A) args s0 0 0 A) (F0 m 12 ls []) := by
        intro n22
        induction n22 with
        | zero =>
          intro i22 s22 pl ls H locs hm22 hF hf37 hf38 hf39 hf40 hf41 hf42 hf43 hf44 hE hR hl hO hP hD hS
          refine lv_iload_n hx hb dMH_expand_12 rfl (lv_at hl 0 rfl) ?_
          refine lv_aload_n hx hb dMH_expand_13 rfl (lv_at hl 2 rfl) ?_
          refine nw_get (C := "LatticeKeysModel$Hands") (TT := T_MH) (N := 31) hx hb hts (wg_ft i_MH) hown hK hO k_h0 (kn := 225) (ci := 12) (fl := [(3, 172), (3, 181), (3, 226), (3, 291), (3, 299), (3, 308), (3, 317), (3, 326), (3, 334), (3, 342), (3, 350), (3, 359), (3, 368), (3, 369), (3, 370), (3, 371), (3, 372), (3, 373), (3, 374), (3, 375), (3, 376), (3, 377), (3, 378), (0, 0), (0, 0), (0, 0), (0, 0), (0, 0), (0, 0), (0, 0), (0, 0)]) rfl hP rfl 25 (by decide) (hts _ (wg_t kw_1457)) (fun _ h9 => h9) (cd := (0, 0)) rfl dMH_expand_14 (fun v23 hv23 => ?_)
          obtain rfl := (show v23 = .int (s22.1 225 25) from hv23)
          obtain ⟨z23, ez23, hz25, hz26⟩ := cl_of (b := 2147483648) hf39 (by omega) (by decide)
          replace hR := bnd_step hR ez23
          first | rw [bnd_eq, ← ez23] at hE | replace hE := bndP_step hE ez23
          refine mi_as hz25 ?_
          subst hz26
          refine mi_ge (tgt := 157) hx hb dMH_expand_17 (by decide) (by omega) (by omega) (fun h23 => ?_) (fun h23 => absurd h23 (by omega))
          refine mi_iinc (k := 1) (x := i21) (d := 1) (y := i21 + 1) (lv' := [(2, .int (nI (i21 + 1))), (3, .int (nI i22)), (0, .ref h0), (1, .ref b)]) hx hb dMH_expand_157 hl rfl (by decide) rfl (by decide) rfl (fun ls hl => ?_)
          refine lv_goto (tgt := 2) hx hb dMH_expand_160 (by decide) ?_
          exact ih21 (i21 + 1) s22 pl ls H locs (by omega) hF hf37 hf38 hf39 hf40 hf41 hf42 hf43 hf44 hE hR (lv_sub hl [0, 2, 3] rfl) hO hP hD hS
        | succ n22 ih22 =>
          intro i22 s22 pl ls H locs hm22 hF hf45 hf46 hf47 hf48 hf49 hf50 hf51 hf52 hE hR hl hO hP hD hS
          refine lv_iload_n hx hb dMH_expand_12 rfl (lv_at hl 0 rfl) ?_
          refine lv_aload_n hx hb dMH_expand_13 rfl (lv_at hl 2 rfl) ?_
          refine nw_get (C := "LatticeKeysModel$Hands") (TT := T_MH) (N := 31) hx hb hts (wg_ft i_MH) hown hK hO k_h0 (kn := 225) (ci := 12) (fl := [(3, 172), (3, 181), (3, 226), (3, 291), (3, 299), (3, 308), (3, 317), (3, 326), (3, 334), (3, 342), (3, 350), (3, 359), (3, 368), (3, 369), (3, 370), (3, 371), (3, 372), (3, 373), (3, 374), (3, 375), (3, 376), (3, 377), (3, 378), (0, 0), (0, 0), (0, 0), (0, 0), (0, 0), (0, 0), (0, 0), (0, 0)]) rfl hP rfl 25 (by decide) (hts _ (wg_t kw_1457)) (fun _ h9 => h9) (cd := (0, 0)) rfl dMH_expand_14 (fun v24 hv24 => ?_)
          obtain rfl := (show v24 = .int (s22.1 225 25) from hv24)
          obtain ⟨z24, ez24, hz27, hz28⟩ := cl_of (b := 2147483648) hf47 (by omega) (by decide)
          replace hR := bnd_step hR ez24
          first | rw [bnd_eq, ← ez24] at hE | replace hE := bndP_step hE ez24
          refine mi_as hz27 ?_
          subst hz28
          refine mi_ge (tgt := 157) hx hb dMH_expand_17 (by decide) (by omega) (by omega) (fun h24 => absurd h24 (by omega)) (fun h24 => ?_)
          refine lv_aload_n hx hb dMH_expand_20 rfl (lv_at hl 2 rfl) ?_
          refine nw_get (C := "LatticeKeysModel$Hands") (TT := T_MH) (N := 31) hx hb hts (wg_ft i_MH) hown hK hO k_h0 (kn := 225) (ci := 12) (fl := [(3, 172), (3, 181), (3, 226), (3, 291), (3, 299), (3, 308), (3, 317), (3, 326), (3, 334), (3, 342), (3, 350), (3, 359), (3, 368), (3, 369), (3, 370), (3, 371), (3, 372), (3, 373), (3, 374), (3, 375), (3, 376), (3, 377), (3, 378), (0, 0), (0, 0), (0, 0), (0, 0), (0, 0), (0, 0), (0, 0), (0, 0)]) rfl hP rfl 0 (by decide) (hts _ (wg_t kw_1432)) (fun _ h9 => h9) (cd := (3, 172)) rfl dMH_expand_21 (fun v25 hv25 => ?_)
          obtain ⟨r21, rfl, kr21⟩ := (show ∃ r : Nat, v25 = .ref r ∧ T r = some 172 from hv25)
          refine lv_sipush (v := nI 168) hx hb dMH_expand_24 (by decide) ?_
          refine lv_bipush (v := nI 31) hx hb dMH_expand_27 (by decide) ?_
          refine mp_v (cx := []) (wr := []) hP hD hS hA [] [] rfl rfl rfl (by decide) (va_runV (As := [.int (nI 168), .int (nI 31)]) (rest := []) F (N_MS_begin l g _ T s22 pl hO hU r21 168 (nI 31) kr21 (by omega)) (cwV 2 hts (wg_app (wg_c kw_1727 (wg_c kw_1608 (wg_c kw_1609 (wg_c kw_10 wg_n)))) kw_1610) rfl rfl rfl (by decide +kernel) ⟨by decide, by decide⟩) (pn_W "LatticeKeysModel$Sponge" (en_ok g) (ci := 9) (kn := 172) (fl := [(3, 173), (3, 174), (3, 175), (3, 176), (3, 177), (0, 0), (0, 0), (0, 0)]) hK hO kr21 rfl hP hD hS hA hEn [] rfl rfl rfl) rfl rfl hl.1 rfl (lv_room (Nat.le_of_ble_eq_true rfl)) dMH_expand_29 ⟨by omega, by omega⟩) (fun  u21 H locs hu21 hP hD hS => ?_)
          obtain ⟨s23, pl⟩ := u21
          obtain ⟨⟨eq21, hFc21, ⟨x21, hx_21, hb_21⟩, ⟨x22, hx_22, hb_22⟩, -⟩, hO⟩ := hu21
          have hO : okn g T s23 pl := hO
          have hP : va_P g.1 vcl ([] ++ pl) _ := hP
          have hD : va_D _ ([] ++ pl) := hD
          have hFc21 : frm (M_MS_begin) s22 s23 := hFc21
          have hb_21 : x21 = 0 := hb_21
          have hb_22 : x22 = 168 := hb_22
          replace hR := bnd_step hR eq21
          first | rw [bnd_eq, ← eq21] at hE | replace hE := bndP_step hE eq21
          have hF := frm_tr hF hFc21 (fun k hk => by unfold M_MS_begin at hk; unfold M_MH_expand_0; omega)
          have hf53 : s23.1 225 23 = nI 0 := fc_F hf45 hFc21 (by unfold M_MS_begin; omega)
          have hf54 : s23.1 225 24 = nI 4 := fc_F hf46 hFc21 (by unfold M_MS_begin; omega)
          have hf55 : s23.1 225 25 = nI 4 := fc_F hf47 hFc21 (by unfold M_MS_begin; omega)
          have hf56 : s23.1 225 26 = nI 2 := fc_F hf48 hFc21 (by unfold M_MS_begin; omega)
          have hf57 : s23.1 225 27 = nI 131072 := fc_F hf49 hFc21 (by unfold M_MS_begin; omega)
          have hf58 : s23.1 225 28 = nI 95232 := fc_F hf50 hFc21 (by unfold M_MS_begin; omega)
          have hf59 : s23.1 225 29 = nI 78 := fc_F hf51 hFc21 (by unfold M_MS_begin; omega)
          have hf60 : s23.1 225 30 = nI 32 := fc_F hf52 hFc21 (by unfold M_MS_begin; omega)
          refine W.widen (k := 0) (n := 0) (by omega) (by omega) ?_
          refine lv_aload_n hx hb dMH_expand_32 rfl (lv_at hl 2 rfl) ?_
          refine nw_get (C := "LatticeKeysModel$Hands") (TT := T_MH) (N := 31) hx hb hts (wg_ft i_MH) hown hK hO k_h0 (kn := 225) (ci := 12) (fl := [(3, 172), (3, 181), (3, 226), (3, 291), (3, 299), (3, 308), (3, 317), (3, 326), (3, 334), (3, 342), (3, 350), (3, 359), (3, 368), (3, 369), (3, 370), (3, 371), (3, 372), (3, 373), (3, 374), (3, 375), (3, 376), (3, 377), (3, 378), (0, 0), (0, 0), (0, 0), (0, 0), (0, 0), (0, 0), (0, 0), (0, 0)]) rfl hP rfl 0 (by decide) (hts _ (wg_t kw_1432)) (fun _ h9 => h9) (cd := (3, 172)) rfl dMH_expand_33 (fun v26 hv26 => ?_)
          obtain ⟨r22, rfl, kr22⟩ := (show ∃ r : Nat, v26 = .ref r ∧ T r = some 172 from hv26)
          refine lv_aload_n hx hb dMH_expand_36 rfl (lv_at hl 3 rfl) ?_
          refine lv_iconst (v := nI 0) hx hb dMH_expand_37 (by decide) ?_
          refine lv_bipush (v := nI 32) hx hb dMH_expand_38 (by decide) ?_
          refine mp_v (cx := []) (wr := []) hP hD hS hA [] [] rfl rfl rfl (by decide) (va_runV (As := [.ref b, .int (nI 0), .int (nI 32)]) (rest := []) F (N_MS_puts l g _ T s23 pl hO hU r22 b pb n 0 32 x21 x22 kr22 k_b n_b hx_21 hx_22 (by omega) (by omega) (by omega) (by omega)) (cwV 3 hts (wg_app (wg_c kw_1719 (wg_c kw_1612 (wg_c kw_1613 (wg_c kw_10 wg_n)))) kw_1614) rfl rfl rfl (by decide +kernel) ⟨by decide, by decide⟩) (pn_W "LatticeKeysModel$Sponge" (en_ok g) (ci := 9) (kn := 172) (fl := [(3, 173), (3, 174), (3, 175), (3, 176), (3, 177), (0, 0), (0, 0), (0, 0)]) hK hO kr22 rfl hP hD hS hA hEn [] rfl rfl rfl) rfl rfl hl.1 rfl (lv_room (Nat.le_of_ble_eq_true rfl)) dMH_expand_40 ⟨by omega, by omega⟩) (fun  u22 H locs hu22 hP hD hS => ?_)
          obtain ⟨s24, pl⟩ := u22
          obtain ⟨⟨eq22, hFc22, ⟨x24, hx_24, hb_24⟩, ⟨x25, hx_25, hb_25⟩, -⟩, hO⟩ := hu22
          have hO : okn g T s24 pl := hO
          have hP : va_P g.1 vcl ([] ++ pl) _ := hP
          have hD : va_D _ ([] ++ pl) := hD
          have hFc22 : frm (M_MS_puts) s23 s24 := hFc22
          have hb_24 : x24 < x22 := hb_24
          have hb_25 : x25 = x22 := hb_25
          replace hR := bnd_step hR eq22
          first | rw [bnd_eq, ← eq22] at hE | replace hE := bndP_step hE eq22
          have hF := frm_tr hF hFc22 (fun k hk => by unfold M_MS_puts at hk; unfold M_MH_expand_0; omega)
          have hf61 : s24.1 225 23 = nI 0 := fc_F hf53 hFc22 (by unfold M_MS_puts; omega)
          have hf62 : s24.1 225 24 = nI 4 := fc_F hf54 hFc22 (by unfold M_MS_puts; omega)
          have hf63 : s24.1 225 25 = nI 4 := fc_F hf55 hFc22 (by unfold M_MS_puts; omega)
          have hf64 : s24.1 225 26 = nI 2 := fc_F hf56 hFc22 (by unfold M_MS_puts; omega)
          have hf65 : s24.1 225 27 = nI 131072 := fc_F hf57 hFc22 (by unfold M_MS_puts; omega)
          have hf66 : s24.1 225 28 = nI 95232 := fc_F hf58 hFc22 (by unfold M_MS_puts; omega)
          have hf67 : s24.1 225 29 = nI 78 := fc_F hf59 hFc22 (by unfold M_MS_puts; omega)
          have hf68 : s24.1 225 30 = nI 32 := fc_F hf60 hFc22 (by unfold M_MS_puts; omega)
          refine W.widen (k := 0) (n := 0) (by omega) (by omega) ?_
          refine lv_aload_n hx hb dMH_expand_43 rfl (lv_at hl 2 rfl) ?_
          refine nw_get (C := "LatticeKeysModel$Hands") (TT := T_MH) (N := 31) hx hb hts (wg_ft i_MH) hown hK hO k_h0 (kn := 225) (ci := 12) (fl := [(3, 172), (3, 181), (3, 226), (3, 291), (3, 299), (3, 308), (3, 317), (3, 326), (3, 334), (3, 342), (3, 350), (3, 359), (3, 368), (3, 369), (3, 370), (3, 371), (3, 372), (3, 373), (3, 374), (3, 375), (3, 376), (3, 377), (3, 378), (0, 0), (0, 0), (0, 0), (0, 0), (0, 0), (0, 0), (0, 0), (0, 0)]) rfl hP rfl 0 (by decide) (hts _ (wg_t kw_1432)) (fun _ h9 => h9) (cd := (3, 172)) rfl dMH_expand_44 (fun v27 hv27 => ?_)
          obtain ⟨r23, rfl, kr23⟩ := (show ∃ r : Nat, v27 = .ref r ∧ T r = some 172 from hv27)
          refine lv_iload_n hx hb dMH_expand_47 rfl (lv_at hl 0 rfl) ?_
          refine mp_v (cx := []) (wr := []) hP hD hS hA [] [] rfl rfl rfl (by decide) (va_runV (As := [.int (nI i22)]) (rest := []) F (N_MS_put l g _ T s24 pl hO hU r23 (nI i22) x24 x25 kr23 hx_24 hx_25 (by omega) (by omega)) (cwV 1 hts (wg_app (wg_c kw_1720 (wg_c kw_1616 (wg_c kw_1617 (wg_c kw_10 wg_n)))) kw_1618) rfl rfl rfl (by decide +kernel) ⟨by decide, by decide⟩) (pn_W "LatticeKeysModel$Sponge" (en_ok g) (ci := 9) (kn := 172) (fl := [(3, 173), (3, 174), (3, 175), (3, 176), (3, 177), (0, 0), (0, 0), (0, 0)]) hK hO kr23 rfl hP hD hS hA hEn [] rfl rfl rfl) rfl rfl hl.1 rfl (lv_room (Nat.le_of_ble_eq_true rfl)) dMH_expand_48 ⟨by omega, by omega⟩) (fun  u23 H locs hu23 hP hD hS => ?_)
          obtain ⟨s25, pl⟩ := u23
          obtain ⟨⟨eq23, hFc23, ⟨x27, hx_27, hb_27⟩, ⟨x28, hx_28, hb_28⟩, -⟩, hO⟩ := hu23
          have hO : okn g T s25 pl := hO
          have hP : va_P g.1 vcl ([] ++ pl) _ := hP
          have hD : va_D _ ([] ++ pl) := hD
          have hFc23 : frm (M_MS_put) s24 s25 := hFc23
          have hb_27 : x27 < x25 := hb_27
          have hb_28 : x28 = x25 := hb_28
          replace hR := bnd_step hR eq23
          first | rw [bnd_eq, ← eq23] at hE | replace hE := bndP_step hE eq23
          have hF := frm_tr hF hFc23 (fun k hk => by unfold M_MS_put at hk; unfold M_MH_expand_0; omega)
          have hf69 : s25.1 225 23 = nI 0 := fc_F hf61 hFc23 (by unfold M_MS_put; omega)
          have hf70 : s25.1 225 24 = nI 4 := fc_F hf62 hFc23 (by unfold M_MS_put; omega)
          have hf71 : s25.1 225 25 = nI 4 := fc_F hf63 hFc23 (by unfold M_MS_put; omega)
          have hf72 : s25.1 225 26 = nI 2 := fc_F hf64 hFc23 (by unfold M_MS_put; omega)
          have hf73 : s25.1 225 27 = nI 131072 := fc_F hf65 hFc23 (by unfold M_MS_put; omega)
          have hf74 : s25.1 225 28 = nI 95232 := fc_F hf66 hFc23 (by unfold M_MS_put; omega)
          have hf75 : s25.1 225 29 = nI 78 := fc_F hf67 hFc23 (by unfold M_MS_put; omega)
          have hf76 : s25.1 225 30 = nI 32 := fc_F hf68 hFc23 (by unfold M_MS_put; omega)
          refine W.widen (k := 0) (n := 0) (by omega) (by omega) ?_
          refine lv_aload_n hx hb dMH_expand_51 rfl (lv_at hl 2 rfl) ?_
          refine nw_get (C := "LatticeKeysModel$Hands") (TT := T_MH) (N := 31) hx hb hts (wg_ft i_MH) hown hK hO k_h0 (kn := 225) (ci := 12) (fl := [(3, 172), (3, 181), (3, 226), (3, 291), (3, 299), (3, 308), (3, 317), (3, 326), (3, 334), (3, 342), (3, 350), (3, 359), (3, 368), (3, 369), (3, 370), (3, 371), (3, 372), (3, 373), (3, 374), (3, 375), (3, 376), (3, 377), (3, 378), (0, 0), (0, 0), (0, 0), (0, 0), (0, 0), (0, 0), (0, 0), (0, 0)]) rfl hP rfl 0 (by decide) (hts _ (wg_t kw_1432)) (fun _ h9 => h9) (cd := (3, 172)) rfl dMH_expand_52 (fun v28 hv28 => ?_)
          obtain ⟨r24, rfl, kr24⟩ := (show ∃ r : Nat, v28 = .ref r ∧ T r = some 172 from hv28)
          refine lv_iload_n hx hb dMH_expand_55 rfl (lv_at hl 1 rfl) ?_
          refine mp_v (cx := []) (wr := []) hP hD hS hA [] [] rfl rfl rfl (by decide) (va_runV (As := [.int (nI i21)]) (rest := []) F (N_MS_put l g _ T s25 pl hO hU r24 (nI i21) x27 x28 kr24 hx_27 hx_28 (by omega) (by omega)) (cwV 1 hts (wg_app (wg_c kw_1720 (wg_c kw_1616 (wg_c kw_1617 (wg_c kw_10 wg_n)))) kw_1618) rfl rfl rfl (by decide +kernel) ⟨by decide, by decide⟩) (pn_W "LatticeKeysModel$Sponge" (en_ok g) (ci := 9) (kn := 172) (fl := [(3, 173), (3, 174), (3, 175), (3, 176), (3, 177), (0, 0), (0, 0), (0, 0)]) hK hO kr24 rfl hP hD hS hA hEn [] rfl rfl rfl) rfl rfl hl.1 rfl (lv_room (Nat.le_of_ble_eq_true rfl)) dMH_expand_56 ⟨by omega, by omega⟩) (fun  u24 H locs hu24 hP hD hS => ?_)
          obtain ⟨s26, pl⟩ := u24
          obtain ⟨⟨eq24, hFc24, ⟨x30, hx_30, hb_30⟩, ⟨x31, hx_31, hb_31⟩, -⟩, hO⟩ := hu24
          have hO : okn g T s26 pl := hO
          have hP : va_P g.1 vcl ([] ++ pl) _ := hP
          have hD : va_D _ ([] ++ pl) := hD
          have hFc24 : frm (M_MS_put) s25 s26 := hFc24
          have hb_30 : x30 < x28 := hb_30
          have hb_31 : x31 = x28 := hb_31
          replace hR := bnd_step hR eq24
          first | rw [bnd_eq, ← eq24] at hE | replace hE := bndP_step hE eq24
          have hF := frm_tr hF hFc24 (fun k hk => by unfold M_MS_put at hk; unfold M_MH_expand_0; omega)
          have hf77 : s26.1 225 23 = nI 0 := fc_F hf69 hFc24 (by unfold M_MS_put; omega)
          have hf78 : s26.1 225 24 = nI 4 := fc_F hf70 hFc24 (by unfold M_MS_put; omega)
          have hf79 : s26.1 225 25 = nI 4 := fc_F hf71 hFc24 (by unfold M_MS_put; omega)
          have hf80 : s26.1 225 26 = nI 2 := fc_F hf72 hFc24 (by unfold M_MS_put; omega)
          have hf81 : s26.1 225 27 = nI 131072 := fc_F hf73 hFc24 (by unfold M_MS_put; omega)
          have hf82 : s26.1 225 28 = nI 95232 := fc_F hf74 hFc24 (by unfold M_MS_put; omega)
          have hf83 : s26.1 225 29 = nI 78 := fc_F hf75 hFc24 (by unfold M_MS_put; omega)
          have hf84 : s26.1 225 30 = nI 32 := fc_F hf76 hFc24 (by unfold M_MS_put; omega)
          refine W.widen (k := 0) (n := 0) (by omega) (by omega) ?_
          refine lv_aload_n hx hb dMH_expand_59 rfl (lv_at hl 2 rfl) ?_
          refine nw_get (C := "LatticeKeysModel$Hands") (TT := T_MH) (N := 31) hx hb hts (wg_ft i_MH) hown hK hO k_h0 (kn := 225) (ci := 12) (fl := [(3, 172), (3, 181), (3, 226), (3, 291), (3, 299), (3, 308), (3, 317), (3, 326), (3, 334), (3, 342), (3, 350), (3, 359), (3, 368), (3, 369), (3, 370), (3, 371), (3, 372), (3, 373), (3, 374), (3, 375), (3, 376), (3, 377), (3, 378), (0, 0), (0, 0), (0, 0), (0, 0), (0, 0), (0, 0), (0, 0), (0, 0)]) rfl hP rfl 0 (by decide) (hts _ (wg_t kw_1432)) (fun _ h9 => h9) (cd := (3, 172)) rfl dMH_expand_60 (fun v29 hv29 => ?_)
          obtain ⟨r25, rfl, kr25⟩ := (show ∃ r : Nat, v29 = .ref r ∧ T r = some 172 from hv29)
          refine mp_v (cx := []) (wr := []) hP hD hS hA [] [] rfl rfl rfl (by decide) (va_runV (As := []) (rest := []) F (N_MS_end l g _ T s26 pl hO hU r25 x30 x31 kr25 hx_30 hx_31 (by omega) (by omega)) (cwV 0 hts (wg_app (wg_c kw_1721 (wg_c kw_1634 (wg_c kw_1635 (wg_c kw_10 wg_n)))) kw_1636) rfl rfl rfl (by decide +kernel) ⟨by decide, by decide⟩) (pn_W "LatticeKeysModel$Sponge" (en_ok g) (ci := 9) (kn := 172) (fl := [(3, 173), (3, 174), (3, 175), (3, 176), (3, 177), (0, 0), (0, 0), (0, 0)]) hK hO kr25 rfl hP hD hS hA hEn [] rfl rfl rfl) rfl rfl hl.1 rfl (lv_room (Nat.le_of_ble_eq_true rfl)) dMH_expand_63 ⟨by omega, by omega⟩) (fun  u25 H locs hu25 hP hD hS => ?_)
          obtain ⟨s27, pl⟩ := u25
          obtain ⟨⟨eq25, hFc25, ⟨x33, hx_33, hb_33⟩, ⟨x34, hx_34, hb_34⟩, -⟩, hO⟩ := hu25
          have hO : okn g T s27 pl := hO
          have hP : va_P g.1 vcl ([] ++ pl) _ := hP
          have hD : va_D _ ([] ++ pl) := hD
          have hFc25 : frm (M_MS_end) s26 s27 := hFc25
          have hb_33 : x33 = 0 := hb_33
          have hb_34 : x34 = x31 := hb_34
          replace hR := bnd_step hR eq25
          first | rw [bnd_eq, ← eq25] at hE | replace hE := bndP_step hE eq25
          have hF := frm_tr hF hFc25 (fun k hk => by unfold M_MS_end at hk; unfold M_MH_expand_0; omega)
          have hf85 : s27.1 225 23 = nI 0 := fc_F hf77 hFc25 (by unfold M_MS_end; omega)
          have hf86 : s27.1 225 24 = nI 4 := fc_F hf78 hFc25 (by unfold M_MS_end; omega)
          have hf87 : s27.1 225 25 = nI 4 := fc_F hf79 hFc25 (by unfold M_MS_end; omega)
          have hf88 : s27.1 225 26 = nI 2 := fc_F hf80 hFc25 (by unfold M_MS_end; omega)
          have hf89 : s27.1 225 27 = nI 131072 := fc_F hf81 hFc25 (by unfold M_MS_end; omega)
          have hf90 : s27.1 225 28 = nI 95232 := fc_F hf82 hFc25 (by unfold M_MS_end; omega)
          have hf91 : s27.1 225 29 = nI 78 := fc_F hf83 hFc25 (by unfold M_MS_end; omega)
          have hf92 : s27.1 225 30 = nI 32 := fc_F hf84 hFc25 (by unfold M_MS_end; omega)
          refine W.widen (k := 0) (n := 0) (by omega) (by omega) ?_
          refine lv_iconst (v := nI 0) hx hb dMH_expand_66 (by decide) ?_
          refine lv_istore (lv' := [(4, .int (nI 0)), (3, .int (nI i22)), (2, .int (nI i21)), (0, .ref h0), (1, .ref b)]) hx hb dMH_expand_67 hl (by decide) rfl (fun ls hl => ?_)
          have lp23 : ∀ (n23 : Nat) (nn21 : Nat) (s28 : Sto) (ps21 : Nat) (pl : va_W) (ls : Array Slot) (H : Heap) (locs : List Loc), 0 = 0 → (nn21 ≤ 256) → (ps21 ≤ 168) → frm (M_MH_expand_0) s s28 → s28.1 225 23 = nI 0 → s28.1 225 24 = nI 4 → s28.1 225 25 = nI 4 → s28.1 225 26 = nI 2 → s28.1 225 27 = nI 131072 → s28.1 225 28 = nI 95232 → s28.1 225 29 = nI 78 → s28.1 225 30 = nI 32 → s28.1 172 6 = nI ps21 → s28.1 172 5 = nI x34 → E_MH_expand_0_L2 i21 i22 (E_MH_expand_0_L1 pb n i21 (E_MH_expand_0_L0 pb n n21) n22) n23 nn21 s28 → F_MH_expand_0 pb n s = F_MH_expand_0_L2 i21 i22 (F_MH_expand_0_L1 pb n i21 (F_MH_expand_0_L0 pb n n21) n22) n23 nn21 s28 → lv_has ls 6 [(4, .int (nI nn21)), (3, .int (nI i22)), (2, .int (nI i21)), (0, .ref h0), (1, .ref b)] → okn g T s28 pl → va_P g.1 vcl ([] ++ pl) H → va_D A ([] ++ pl) → va_S A s0.heap H locs → W p l e ({ frames := 4, cells := 0, slots := 0, locals := 90 } : Room) s0 m args below meth c H locs 0 0 (MQ below (va_Qv (fun (u : (Sto) × va_W) => (u.1 = F_MH_expand_0 pb n s ∧ frm (M_MH_expand_0) s u.1 ∧ True) ∧ okn g T u.1 u.2) (po g.1 vcl A (fun (u : (Sto) × va_W) => [] ++ u.2)) A) args s0 0 0 A) (F0 m 69 ls []) := by
            intro n23
            induction n23 with
            | zero =>
              intro nn21 s28 ps21 pl ls H locs hm23 hi21 hi22 hF hf93 hf94 hf95 hf96 hf97 hf98 hf99 hf100 hf101 hf102 hE hR hl hO hP hD hS
              refine lv_iload hx hb dMH_expand_69 (lv_at hl 0 rfl) ?_
              refine lv_sipush (v := nI 256) hx hb dMH_expand_71 (by decide) ?_
              refine mi_ge (tgt := 151) hx hb dMH_expand_74 (by decide) (by omega) (by omega) (fun h25 => ?_) (fun h25 => absurd h25 (by have h9 : 256 ≤ nn21 := hE.1; omega))
              replace hE := hE.2
              refine mi_iinc (k := 1) (x := i22) (d := 1) (y := i22 + 1) (lv' := [(3, .int (nI (i22 + 1))), (4, .int (nI nn21)), (2, .int (nI i21)), (0, .ref h0), (1, .ref b)]) hx hb dMH_expand_151 hl rfl (by decide) rfl (by decide) rfl (fun ls hl => ?_)
              refine lv_goto (tgt := 12) hx hb dMH_expand_154 (by decide) ?_
              exact ih22 (i22 + 1) s28 pl ls H locs (by omega) hF hf93 hf94 hf95 hf96 hf97 hf98 hf99 hf100 hE hR (lv_sub hl [0, 2, 3, 4] rfl) hO hP hD hS
            | succ n23 ih23 =>
              intro nn21 s28 ps21 pl ls H locs hm23 hi21 hi22 hF hf103 hf104 hf105 hf106 hf107 hf108 hf109 hf110 hf111 hf112 hE hR hl hO hP hD hS
              refine lv_iload hx hb dMH_expand_69 (lv_at hl 0 rfl) ?_
              refine lv_sipush (v := nI 256) hx hb dMH_expand_71 (by decide) ?_
              refine mi_ge (tgt := 151) hx hb dMH_expand_74 (by decide) (by omega) (by omega) (fun h26 => ?_) (fun h26 => ?_)
              · replace hR := hR.trans (if_pos h26)
                first | rw [if_pos h26] at hE | rw [E_MH_expand_0_L0, if_pos h26] at hE | rw [E_MH_expand_0_L1, if_pos h26] at hE | rw [E_MH_expand_0_L2, if_pos h26] at hE | rw [E_MH_expand_0_L3, if_pos h26] at hE | rw [E_MH_expand_0_L4, if_pos h26] at hE | rw [E_MH_expand_0_L5, if_pos h26] at hE | rw [E_MH_expand_0_L6, if_pos h26] at hE | rw [E_MH_expand_0_L7, if_pos h26] at hE | rw [E_MH_expand_0_L8, if_pos h26] at hE | replace hE := iteP_pos h26 hE
                refine mi_iinc (k := 1) (x := i22) (d := 1) (y := i22 + 1) (lv' := [(3, .int (nI (i22 + 1))), (4, .int (nI nn21)), (2, .int (nI i21)), (0, .ref h0), (1, .ref b)]) hx hb dMH_expand_151 hl rfl (by decide) rfl (by decide) rfl (fun ls hl => ?_)
                refine lv_goto (tgt := 12) hx hb dMH_expand_154 (by decide) ?_
                exact ih22 (i22 + 1) s28 pl ls H locs (by omega) hF hf103 hf104 hf105 hf106 hf107 hf108 hf109 hf110 hE hR (lv_sub hl [0, 2, 3, 4] rfl) hO hP hD hS
              · replace hR := hR.trans (if_neg (Nat.not_le.mpr h26))
                first | rw [if_neg (Nat.not_le.mpr h26)] at hE | rw [E_MH_expand_0_L0, if_neg (Nat.not_le.mpr h26)] at hE | rw [E_MH_expand_0_L1, if_neg (Nat.not_le.mpr h26)] at hE | rw [E_MH_expand_0_L2, if_neg (Nat.not_le.mpr h26)] at hE | rw [E_MH_expand_0_L3, if_neg (Nat.not_le.mpr h26)] at hE | rw [E_MH_expand_0_L4, if_neg (Nat.not_le.mpr h26)] at hE | rw [E_MH_expand_0_L5, if_neg (Nat.not_le.mpr h26)] at hE | rw [E_MH_expand_0_L6, if_neg (Nat.not_le.mpr h26)] at hE | rw [E_MH_expand_0_L7, if_neg (Nat.not_le.mpr h26)] at hE | rw [E_MH_expand_0_L8, if_neg (Nat.not_le.mpr h26)] at hE | replace hE := iteP_neg (Nat.not_le.mpr h26) hE
                refine lv_aload_n hx hb dMH_expand_77 rfl (lv_at hl 3 rfl) ?_
                refine nw_get (C := "LatticeKeysModel$Hands") (TT := T_MH) (N := 31) hx hb hts (wg_ft i_MH) hown hK hO k_h0 (kn := 225) (ci := 12) (fl := [(3, 172), (3, 181), (3, 226), (3, 291), (3, 299), (3, 308), (3, 317), (3, 326), (3, 334), (3, 342), (3, 350), (3, 359), (3, 368), (3, 369), (3, 370), (3, 371), (3, 372), (3, 373), (3, 374), (3, 375), (3, 376), (3, 377), (3, 378), (0, 0), (0, 0), (0, 0), (0, 0), (0, 0), (0, 0), (0, 0), (0, 0)]) rfl hP rfl 0 (by decide) (hts _ (wg_t kw_1432)) (fun _ h9 => h9) (cd := (3, 172)) rfl dMH_expand_78 (fun v30 hv30 => ?_)
                obtain ⟨r26, rfl, kr26⟩ := (show ∃ r : Nat, v30 = .ref r ∧ T r = some 172 from hv30)
                refine mp_i (cx := []) (wr := []) hP hD hS hA [] [] rfl rfl rfl (by decide) (va_runV (As := []) (rest := []) F (N_MS_next l g _ T s28 pl hO hU r26 ps21 x34 kr26 hf111 hf112 (by omega) (by omega)) (cwV 0 hts (wg_app (wg_c kw_1728 (wg_c kw_1642 (wg_c kw_1643 (wg_c kw_10 wg_n)))) kw_1644) rfl rfl rfl (by decide +kernel) ⟨by decide, by decide⟩) (pn_W "LatticeKeysModel$Sponge" (en_ok g) (ci := 9) (kn := 172) (fl := [(3, 173), (3, 174), (3, 175), (3, 176), (3, 177), (0, 0), (0, 0), (0, 0)]) hK hO kr26 rfl hP hD hS hA hEn [] rfl rfl rfl) rfl rfl hl.1 rfl (lv_room (Nat.le_of_ble_eq_true rfl)) dMH_expand_81 ⟨by omega, by omega⟩) (fun r27 u26 H locs hu26 hP hD hS => ?_)
                obtain ⟨q21, pl⟩ := u26
                obtain ⟨⟨eq26, rfl, hFc26, ⟨x38, hx_38, hb_38⟩, ⟨x36, hx_36, hb_36⟩, ⟨x37, hx_37, hb_37⟩, -⟩, hO⟩ := hu26
                have hO : okn g T q21.2 pl := hO
                have hP : va_P g.1 vcl ([] ++ pl) _ := hP
                have hD : va_D _ ([] ++ pl) := hD
                have hFc26 : frm (M_MS_next) s28 q21.2 := hFc26
                have hb_36 : x36 ≤ x34 := hb_36
                have hb_37 : x37 = x34 := hb_37
                have hb_38 : x38 < 256 := hb_38
                replace hR := bnd_step hR eq26
                first | rw [bnd_eq, ← eq26] at hE | replace hE := bndP_step hE eq26
                have hF := frm_tr hF hFc26 (fun k hk => by unfold M_MS_next at hk; unfold M_MH_expand_0; omega)
                have hf113 : q21.2.1 225 23 = nI 0 := fc_F hf103 hFc26 (by unfold M_MS_next; omega)
                have hf114 : q21.2.1 225 24 = nI 4 := fc_F hf104 hFc26 (by unfold M_MS_next; omega)
                have hf115 : q21.2.1 225 25 = nI 4 := fc_F hf105 hFc26 (by unfold M_MS_next; omega)
                have hf116 : q21.2.1 225 26 = nI 2 := fc_F hf106 hFc26 (by unfold M_MS_next; omega)
                have hf117 : q21.2.1 225 27 = nI 131072 := fc_F hf107 hFc26 (by unfold M_MS_next; omega)
                have hf118 : q21.2.1 225 28 = nI 95232 := fc_F hf108 hFc26 (by unfold M_MS_next; omega)
                have hf119 : q21.2.1 225 29 = nI 78 := fc_F hf109 hFc26 (by unfold M_MS_next; omega)
                have hf120 : q21.2.1 225 30 = nI 32 := fc_F hf110 hFc26 (by unfold M_MS_next; omega)
                obtain ⟨z25, ez25, hz29, hz30⟩ := cl_of (b := 2147483648) hx_38 (by omega) (by decide)
                replace hR := bnd_step hR ez25
                first | rw [bnd_eq, ← ez25] at hE | replace hE := bndP_step hE ez25
                refine mi_as hz29 ?_
                refine W.widen (k := 0) (n := 0) (by omega) (by omega) ?_
                refine lv_istore (lv' := [(5, .int (nI z25)), (4, .int (nI nn21)), (3, .int (nI i22)), (2, .int (nI i21)), (0, .ref h0), (1, .ref b)]) hx hb dMH_expand_84 hl (by decide) rfl (fun ls hl => ?_)
                refine lv_iload hx hb dMH_expand_86 (lv_at hl 0 rfl) ?_
                refine lv_aload_n hx hb dMH_expand_88 rfl (lv_at hl 4 rfl) ?_
                refine nw_get (C := "LatticeKeysModel$Hands") (TT := T_MH) (N := 31) hx hb hts (wg_ft i_MH) hown hK hO k_h0 (kn := 225) (ci := 12) (fl := [(3, 172), (3, 181), (3, 226), (3, 291), (3, 299), (3, 308), (3, 317), (3, 326), (3, 334), (3, 342), (3, 350), (3, 359), (3, 368), (3, 369), (3, 370), (3, 371), (3, 372), (3, 373), (3, 374), (3, 375), (3, 376), (3, 377), (3, 378), (0, 0), (0, 0), (0, 0), (0, 0), (0, 0), (0, 0), (0, 0), (0, 0)]) rfl hP rfl 0 (by decide) (hts _ (wg_t kw_1432)) (fun _ h9 => h9) (cd := (3, 172)) rfl dMH_expand_89 (fun v31 hv31 => ?_)
                obtain ⟨r28, rfl, kr27⟩ := (show ∃ r : Nat, v31 = .ref r ∧ T r = some 172 from hv31)
                refine mp_i (cx := []) (wr := []) hP hD hS hA [] [] rfl rfl rfl (by decide) (va_runV (As := []) (rest := [.int (nI z25)]) F (N_MS_next l g _ T q21.2 pl hO hU r28 x36 x37 kr27 hx_36 hx_37 (by omega) (by omega)) (cwV 0 hts (wg_app (wg_c kw_1728 (wg_c kw_1642 (wg_c kw_1643 (wg_c kw_10 wg_n)))) kw_1644) rfl rfl rfl (by decide +kernel) ⟨by decide, by decide⟩) (pn_W "LatticeKeysModel$Sponge" (en_ok g) (ci := 9) (kn := 172) (fl := [(3, 173), (3, 174), (3, 175), (3, 176), (3, 177), (0, 0), (0, 0), (0, 0)]) hK hO kr27 rfl hP hD hS hA hEn [] rfl rfl rfl) rfl rfl hl.1 rfl (lv_room (Nat.le_of_ble_eq_true rfl)) dMH_expand_92 ⟨by omega, by omega⟩) (fun r29 u27 H locs hu27 hP hD hS => ?_)
                obtain ⟨q22, pl⟩ := u27
                obtain ⟨⟨eq27, rfl, hFc27, ⟨x41, hx_41, hb_41⟩, ⟨x39, hx_39, hb_39⟩, ⟨x40, hx_40, hb_40⟩, -⟩, hO⟩ := hu27
                have hO : okn g T q22.2 pl := hO
                have hP : va_P g.1 vcl ([] ++ pl) _ := hP
                have hD : va_D _ ([] ++ pl) := hD
                have hFc27 : frm (M_MS_next) q21.2 q22.2 := hFc27
                have hb_39 : x39 ≤ x37 := hb_39
                have hb_40 : x40 = x37 := hb_40
                have hb_41 : x41 < 256 := hb_41
                replace hR := bnd_step hR eq27
                first | rw [bnd_eq, ← eq27] at hE | replace hE := bndP_step hE eq27
                have hF := frm_tr hF hFc27 (fun k hk => by unfold M_MS_next at hk; unfold M_MH_expand_0; omega)
                have hf121 : q22.2.1 225 23 = nI 0 := fc_F hf113 hFc27 (by unfold M_MS_next; omega)
                have hf122 : q22.2.1 225 24 = nI 4 := fc_F hf114 hFc27 (by unfold M_MS_next; omega)
                have hf123 : q22.2.1 225 25 = nI 4 := fc_F hf115 hFc27 (by unfold M_MS_next; omega)
                have hf124 : q22.2.1 225 26 = nI 2 := fc_F hf116 hFc27 (by unfold M_MS_next; omega)
                have hf125 : q22.2.1 225 27 = nI 131072 := fc_F hf117 hFc27 (by unfold M_MS_next; omega)
                have hf126 : q22.2.1 225 28 = nI 95232 := fc_F hf118 hFc27 (by unfold M_MS_next; omega)
                have hf127 : q22.2.1 225 29 = nI 78 := fc_F hf119 hFc27 (by unfold M_MS_next; omega)
                have hf128 : q22.2.1 225 30 = nI 32 := fc_F hf120 hFc27 (by unfold M_MS_next; omega)
                obtain ⟨z26, ez26, hz31, hz32⟩ := cl_of (b := 2147483648) hx_41 (by omega) (by decide)
                replace hR := bnd_step hR ez26
                first | rw [bnd_eq, ← ez26] at hE | replace hE := bndP_step hE ez26
                refine mi_as hz31 ?_
                refine W.widen (k := 0) (n := 0) (by omega) (by omega) ?_
                refine lv_bipush (v := nI 8) hx hb dMH_expand_95 (by decide) ?_
                refine lv_ishl hx hb dMH_expand_97 ?_
                refine lv_iadd hx hb dMH_expand_98 ?_
                refine mi_eqv (fun z27 ez27 => ?_)
                replace hR := bnd_step hR ez27
                first | rw [bnd_eq, ← ez27] at hE | replace hE := bndP_step hE ez27
                refine lv_istore (lv' := [(5, .int z27), (4, .int (nI nn21)), (3, .int (nI i22)), (2, .int (nI i21)), (0, .ref h0), (1, .ref b)]) hx hb dMH_expand_99 hl (by decide) rfl (fun ls hl => ?_)
                refine lv_iload hx hb dMH_expand_101 (lv_at hl 0 rfl) ?_
                refine lv_aload_n hx hb dMH_expand_103 rfl (lv_at hl 4 rfl) ?_
                refine nw_get (C := "LatticeKeysModel$Hands") (TT := T_MH) (N := 31) hx hb hts (wg_ft i_MH) hown hK hO k_h0 (kn := 225) (ci := 12) (fl := [(3, 172), (3, 181), (3, 226), (3, 291), (3, 299), (3, 308), (3, 317), (3, 326), (3, 334), (3, 342), (3, 350), (3, 359), (3, 368), (3, 369), (3, 370), (3, 371), (3, 372), (3, 373), (3, 374), (3, 375), (3, 376), (3, 377), (3, 378), (0, 0), (0, 0), (0, 0), (0, 0), (0, 0), (0, 0), (0, 0), (0, 0)]) rfl hP rfl 0 (by decide) (hts _ (wg_t kw_1432)) (fun _ h9 => h9) (cd := (3, 172)) rfl dMH_expand_104 (fun v32 hv32 => ?_)
                obtain ⟨r30, rfl, kr28⟩ := (show ∃ r : Nat, v32 = .ref r ∧ T r = some 172 from hv32)
                refine mp_i (cx := []) (wr := []) hP hD hS hA [] [] rfl rfl rfl (by decide) (va_runV (As := []) (rest := [.int z27]) F (N_MS_next l g _ T q22.2 pl hO hU r30 x39 x40 kr28 hx_39 hx_40 (by omega) (by omega)) (cwV 0 hts (wg_app (wg_c kw_1728 (wg_c kw_1642 (wg_c kw_1643 (wg_c kw_10 wg_n)))) kw_1644) rfl rfl rfl (by decide +kernel) ⟨by decide, by decide⟩) (pn_W "LatticeKeysModel$Sponge" (en_ok g) (ci := 9) (kn := 172) (fl := [(3, 173), (3, 174), (3, 175), (3, 176), (3, 177), (0, 0), (0, 0), (0, 0)]) hK hO kr28 rfl hP hD hS hA hEn [] rfl rfl rfl) rfl rfl hl.1 rfl (lv_room (Nat.le_of_ble_eq_true rfl)) dMH_expand_107 ⟨by omega, by omega⟩) (fun r31 u28 H locs hu28 hP hD hS => ?_)
                obtain ⟨q23, pl⟩ := u28
                obtain ⟨⟨eq28, rfl, hFc28, ⟨x44, hx_44, hb_44⟩, ⟨x42, hx_42, hb_42⟩, ⟨x43, hx_43, hb_43⟩, -⟩, hO⟩ := hu28
                have hO : okn g T q23.2 pl := hO
                have hP : va_P g.1 vcl ([] ++ pl) _ := hP
                have hD : va_D _ ([] ++ pl) := hD
                have hFc28 : frm (M_MS_next) q22.2 q23.2 := hFc28
                have hb_42 : x42 ≤ x40 := hb_42
                have hb_43 : x43 = x40 := hb_43
                have hb_44 : x44 < 256 := hb_44
                replace hR := bnd_step hR eq28
                first | rw [bnd_eq, ← eq28] at hE | replace hE := bndP_step hE eq28
                have hF := frm_tr hF hFc28 (fun k hk => by unfold M_MS_next at hk; unfold M_MH_expand_0; omega)
                have hf129 : q23.2.1 225 23 = nI 0 := fc_F hf121 hFc28 (by unfold M_MS_next; omega)
                have hf130 : q23.2.1 225 24 = nI 4 := fc_F hf122 hFc28 (by unfold M_MS_next; omega)
                have hf131 : q23.2.1 225 25 = nI 4 := fc_F hf123 hFc28 (by unfold M_MS_next; omega)
                have hf132 : q23.2.1 225 26 = nI 2 := fc_F hf124 hFc28 (by unfold M_MS_next; omega)
                have hf133 : q23.2.1 225 27 = nI 131072 := fc_F hf125 hFc28 (by unfold M_MS_next; omega)
                have hf134 : q23.2.1 225 28 = nI 95232 := fc_F hf126 hFc28 (by unfold M_MS_next; omega)
                have hf135 : q23.2.1 225 29 = nI 78 := fc_F hf127 hFc28 (by unfold M_MS_next; omega)
                have hf136 : q23.2.1 225 30 = nI 32 := fc_F hf128 hFc28 (by unfold M_MS_next; omega)
                obtain ⟨z28, ez28, hz33, hz34⟩ := cl_of (b := 2147483648) hx_44 (by omega) (by decide)
                replace hR := bnd_step hR ez28
                first | rw [bnd_eq, ← ez28] at hE | replace hE := bndP_step hE ez28
                refine mi_as hz33 ?_
                refine W.widen (k := 0) (n := 0) (by omega) (by omega) ?_
                refine lv_bipush (v := nI 127) hx hb dMH_expand_110 (by decide) ?_
                refine lv_iand hx hb dMH_expand_112 ?_
                refine lv_bipush (v := nI 16) hx hb dMH_expand_113 (by decide) ?_
                refine lv_ishl hx hb dMH_expand_115 ?_
                refine lv_iadd hx hb dMH_expand_116 ?_
                refine mi_eqv (fun z29 ez29 => ?_)
                replace hR := bnd_step hR ez29
                first | rw [bnd_eq, ← ez29] at hE | replace hE := bndP_step hE ez29
                refine lv_istore (lv' := [(5, .int z29), (4, .int (nI nn21)), (3, .int (nI i22)), (2, .int (nI i21)), (0, .ref h0), (1, .ref b)]) hx hb dMH_expand_117 hl (by decide) rfl (fun ls hl => ?_)
                refine lv_iload hx hb dMH_expand_119 (lv_at hl 0 rfl) ?_
                refine lv_ldc (v := 8380417) hx hb hown (hts _ (wg_t kw_1429)) dMH_expand_121 ?_
                refine mi_as (show (8380417 : Int32) = nI 8380417 by decide) ?_
                refine lv_icmp_lt (tgt := 129) hx hb dMH_expand_123 (by decide) (fun h27 => ?_) (fun h27 => ?_)
                · replace hR := hR.trans (if_pos h27)
                  first | rw [if_pos h27] at hE | rw [E_MH_expand_0_L0, if_pos h27] at hE | rw [E_MH_expand_0_L1, if_pos h27] at hE | rw [E_MH_expand_0_L2, if_pos h27] at hE | rw [E_MH_expand_0_L3, if_pos h27] at hE | rw [E_MH_expand_0_L4, if_pos h27] at hE | rw [E_MH_expand_0_L5, if_pos h27] at hE | rw [E_MH_expand_0_L6, if_pos h27] at hE | rw [E_MH_expand_0_L7, if_pos h27] at hE | rw [E_MH_expand_0_L8, if_pos h27] at hE | replace hE := iteP_pos h27 hE
                  refine lv_aload_n hx hb dMH_expand_129 rfl (lv_at hl 4 rfl) ?_
                  refine nw_get (C := "LatticeKeysModel$Hands") (TT := T_MH) (N := 31) hx hb hts (wg_ft i_MH) hown hK hO k_h0 (kn := 225) (ci := 12) (fl := [(3, 172), (3, 181), (3, 226), (3, 291), (3, 299), (3, 308), (3, 317), (3, 326), (3, 334), (3, 342), (3, 350), (3, 359), (3, 368), (3, 369), (3, 370), (3, 371), (3, 372), (3, 373), (3, 374), (3, 375), (3, 376), (3, 377), (3, 378), (0, 0), (0, 0), (0, 0), (0, 0), (0, 0), (0, 0), (0, 0), (0, 0)]) rfl hP rfl 2 (by decide) (hts _ (wg_t kw_1434)) (fun _ h9 => h9) (cd := (3, 226)) rfl dMH_expand_130 (fun v33 hv33 => ?_)
                  obtain ⟨r32, rfl, kr29⟩ := (show ∃ r : Nat, v33 = .ref r ∧ T r = some 226 from hv33)
                  refine lv_bipush (v := nI 8) hx hb dMH_expand_133 (by decide) ?_
                  refine lv_iload_n hx hb dMH_expand_135 rfl (lv_at hl 3 rfl) ?_
                  refine mi_imul hx hb dMH_expand_136 ?_
                  refine lv_iload_n hx hb dMH_expand_137 rfl (lv_at hl 2 rfl) ?_
                  refine mi_iadd hx hb dMH_expand_138 ?_
                  refine nw_aald3 hx hb hK hO kr29 (k := 226) (b := 227) rfl hP (by omega) (by omega) dMH_expand_139 (fun r33 kr30 => ?_)
                  have hn21 : nsp (227 + ((8 * i21) + i22)) = (0, 256, []) := rows_ok 227 64 (by decide) _ (by omega)
                  refine lv_iload hx hb dMH_expand_140 (lv_at hl 1 rfl) ?_
                  refine lv_iload hx hb dMH_expand_142 (lv_at hl 0 rfl) ?_
                  refine nw_iast hx hb hK hO hU kr30 (k := (227 + ((8 * i21) + i22))) hn21 hP hD hS (by omega) (by omega) dMH_expand_144 (fun s29 pl H locs es21 hO hP hD hS => ?_)
                  replace hR := bnd_step hR es21
                  first | rw [bnd_eq, ← es21] at hE | replace hE := bndP_step hE es21
                  have hF := frm_sI hF es21 (by unfold M_MH_expand_0; omega)
                  have hf137 : s29.1 225 23 = nI 0 := fc_ne hf129 es21 (by omega)
                  have hf138 : s29.1 225 24 = nI 4 := fc_ne hf130 es21 (by omega)
                  have hf139 : s29.1 225 25 = nI 4 := fc_ne hf131 es21 (by omega)
                  have hf140 : s29.1 225 26 = nI 2 := fc_ne hf132 es21 (by omega)
                  have hf141 : s29.1 225 27 = nI 131072 := fc_ne hf133 es21 (by omega)
                  have hf142 : s29.1 225 28 = nI 95232 := fc_ne hf134 es21 (by omega)
                  have hf143 : s29.1 225 29 = nI 78 := fc_ne hf135 es21 (by omega)
                  have hf144 : s29.1 225 30 = nI 32 := fc_ne hf136 es21 (by omega)
                  have hf145 : s29.1 172 6 = nI x42 := fc_ne hx_42 es21 (by omega)
                  have hf146 : s29.1 172 5 = nI x43 := fc_ne hx_43 es21 (by omega)
                  refine mi_iinc (k := 1) (x := nn21) (d := 1) (y := nn21 + 1) (lv' := [(4, .int (nI (nn21 + 1))), (5, .int z29), (3, .int (nI i22)), (2, .int (nI i21)), (0, .ref h0), (1, .ref b)]) hx hb dMH_expand_145 hl rfl (by decide) rfl (by decide) rfl (fun ls hl => ?_)
                  refine lv_goto (tgt := 69) hx hb dMH_expand_148 (by decide) ?_
                  exact ih23 (nn21 + 1) s29 x42 pl ls H locs (by omega) (by omega) (by omega) hF hf137 hf138 hf139 hf140 hf141 hf142 hf143 hf144 hf145 (by have h9 := hf146; rw [show x43 = x34 by omega] at h9; exact h9) hE hR (lv_sub hl [0, 2, 3, 4, 5] rfl) hO hP hD hS
                · replace hR := hR.trans (if_neg h27)
                  first | rw [if_neg h27] at hE | rw [E_MH_expand_0_L0, if_neg h27] at hE | rw [E_MH_expand_0_L1, if_neg h27] at hE | rw [E_MH_expand_0_L2, if_neg h27] at hE | rw [E_MH_expand_0_L3, if_neg h27] at hE | rw [E_MH_expand_0_L4, if_neg h27] at hE | rw [E_MH_expand_0_L5, if_neg h27] at hE | rw [E_MH_expand_0_L6, if_neg h27] at hE | rw [E_MH_expand_0_L7, if_neg h27] at hE | rw [E_MH_expand_0_L8, if_neg h27] at hE | replace hE := iteP_neg h27 hE
                  refine lv_goto (tgt := 69) hx hb dMH_expand_126 (by decide) ?_
                  exact ih23 nn21 q23.2 x42 pl ls H locs (by omega) (by omega) (by omega) hF hf129 hf130 hf131 hf132 hf133 hf134 hf135 hf136 hx_42 (by have h9 := hx_43; rw [show x43 = x34 by omega] at h9; exact h9) hE hR (lv_sub hl [1, 2, 3, 4, 5] rfl) hO hP hD hS
          exact lp23 fuelM 0 s27 x33 pl ls _ _ (by omega) (by omega) (by omega) hF hf85 hf86 hf87 hf88 hf89 hf90 hf91 hf92 hx_33 hx_34 hE hR (lv_sub hl [0, 1, 2, 3, 4] rfl) hO hP hD hS
      exact lp22 4 0 s21 pl ls _ _ (by omega) hF hf29 hf30 hf31 hf32 hf33 hf34 hf35 hf36 hE hR (lv_sub hl [0, 1, 2, 3] rfl) hO hP hD hS
  exact lp21 4 0 s pl ls _ _ (by omega) hF e_c0 e_c1 e_c2 e_c3 e_c4 e_c5 e_c6 e_c7 hE hR (lv_sub hl [0, 1, 2] rfl) hO hP hD hS
def M_MH_expand_1 (k : Nat) : Prop := (227 ≤ k ∧ k < 291) ∨ k = 172 ∨ (0 : Nat) = 1
noncomputable def F_MH_expand_1_L2 (i21 : Nat) (i22 : Nat) (kk : Nat → Sto → Sto) : Nat → Nat → Sto → Sto
  | 0, nn21, s28 => kk (i22 + 1) s28
  | n23 + 1, nn21, s28 => if 256 ≤ nn21 then kk (i22 + 1) s28 else bnd (F_MS_next  s28) fun q21 => bnd (q21.1.toNatClampNeg) fun z25 => bnd (F_MS_next  q21.2) fun q22 => bnd (q22.1.toNatClampNeg) fun z26 => bnd (((nI z25) + ((nI z26) <<< ((nI 8) &&& 31)))) fun z27 => bnd (F_MS_next  q22.2) fun q23 => bnd (q23.1.toNatClampNeg) fun z28 => bnd ((z27 + (((nI z28) &&& (nI 127)) <<< ((nI 16) &&& 31)))) fun z29 => if z29 < (nI 8380417) then bnd (sI q23.2 ((227 + ((8 * i21) + i22))) nn21 z29) fun s29 => F_MH_expand_1_L2 i21 i22 kk n23 (nn21 + 1) s29 else F_MH_expand_1_L2 i21 i22 kk n23 nn21 q23.2
noncomputable def E_MH_expand_1_L2 (i21 : Nat) (i22 : Nat) (ke : Nat → Sto → Prop) : Nat → Nat → Sto → Prop
  | 0, nn21, s28 => (256 ≤ nn21) ∧ (ke (i22 + 1) s28)
  | n23 + 1, nn21, s28 => if 256 ≤ nn21 then ke (i22 + 1) s28 else bnd (F_MS_next  s28) fun q21 => bnd (q21.1.toNatClampNeg) fun z25 => bnd (F_MS_next  q21.2) fun q22 => bnd (q22.1.toNatClampNeg) fun z26 => bnd (((nI z25) + ((nI z26) <<< ((nI 8) &&& 31)))) fun z27 => bnd (F_MS_next  q22.2) fun q23 => bnd (q23.1.toNatClampNeg) fun z28 => bnd ((z27 + (((nI z28) &&& (nI 127)) <<< ((nI 16) &&& 31)))) fun z29 => if z29 < (nI 8380417) then bnd (sI q23.2 ((227 + ((8 * i21) + i22))) nn21 z29) fun s29 => E_MH_expand_1_L2 i21 i22 ke n23 (nn21 + 1) s29 else E_MH_expand_1_L2 i21 i22 ke n23 nn21 q23.2
noncomputable def F_MH_expand_1_L1 (pb : Nat) (n : Nat) (i21 : Nat) (kk : Nat → Sto → Sto) : Nat → Nat → Sto → Sto
  | 0, i22, s22 => bnd ((s22.1 225 25).toNatClampNeg) fun z23 => kk (i21 + 1) s22
  | n22 + 1, i22, s22 => bnd ((s22.1 225 25).toNatClampNeg) fun z24 => bnd (F_MS_begin 168 (nI 31) s22) fun s23 => bnd (F_MS_puts pb n 0 32 s23) fun s24 => bnd (F_MS_put (nI i22) s24) fun s25 => bnd (F_MS_put (nI i21) s25) fun s26 => bnd (F_MS_end  s26) fun s27 => F_MH_expand_1_L2 i21 i22 (F_MH_expand_1_L1 pb n i21 kk n22) fuelM 0 s27
noncomputable def E_MH_expand_1_L1 (pb : Nat) (n : Nat) (i21 : Nat) (ke : Nat → Sto → Prop) : Nat → Nat → Sto → Prop
  | 0, i22, s22 => bnd ((s22.1 225 25).toNatClampNeg) fun z23 => ke (i21 + 1) s22
  | n22 + 1, i22, s22 => bnd ((s22.1 225 25).toNatClampNeg) fun z24 => bnd (F_MS_begin 168 (nI 31) s22) fun s23 => bnd (F_MS_puts pb n 0 32 s23) fun s24 => bnd (F_MS_put (nI i22) s24) fun s25 => bnd (F_MS_put (nI i21) s25) fun s26 => bnd (F_MS_end  s26) fun s27 => E_MH_expand_1_L2 i21 i22 (E_MH_expand_1_L1 pb n i21 ke n22) fuelM 0 s27
noncomputable def F_MH_expand_1_L0 (pb : Nat) (n : Nat) : Nat → Nat → Sto → Sto
  | 0, i21, s21 => bnd ((s21.1 225 24).toNatClampNeg) fun z21 => s21
  | n21 + 1, i21, s21 => bnd ((s21.1 225 24).toNatClampNeg) fun z22 => F_MH_expand_1_L1 pb n i21 (F_MH_expand_1_L0 pb n n21) 5 0 s21
noncomputable def E_MH_expand_1_L0 (pb : Nat) (n : Nat) : Nat → Nat → Sto → Prop
  | 0, i21, s21 => bnd ((s21.1 225 24).toNatClampNeg) fun z21 => True
  | n21 + 1, i21, s21 => bnd ((s21.1 225 24).toNatClampNeg) fun z22 => E_MH_expand_1_L1 pb n i21 (E_MH_expand_1_L0 pb n n21) 5 0 s21
noncomputable def F_MH_expand_1 (pb : Nat) (n : Nat) (s : Sto) : Sto := F_MH_expand_1_L0 pb n 6 0 s
noncomputable def E_MH_expand_1 (pb : Nat) (n : Nat) (s : Sto) : Prop := E_MH_expand_1_L0 pb n 6 0 s
set_option maxHeartbeats 8000000 in
set_option maxRecDepth 100000 in
theorem N_MH_expand_1 (l : Launch) (g : Gd) (sz : Nat) (T : TyN) (s : Sto) (pl : va_W) (hO : okn g T s pl) (hU : inj T) (h0 b : Nat) (pb : Nat) (n : Nat) (k_h0 : T h0 = some 225) (k_b : T b = some pb) (n_b : nsp pb = (1, n, [])) (e_c0 : s.1 225 23 = nI 1) (e_c1 : s.1 225 24 = nI 6) (e_c2 : s.1 225 25 = nI 5) (e_c3 : s.1 225 26 = nI 4) (e_c4 : s.1 225 27 = nI 524288) (e_c5 : s.1 225 28 = nI 261888) (e_c6 : s.1 225 29 = nI 196) (e_c7 : s.1 225 30 = nI 48) (h1 : 32 ≤ n) (h2 : n < 65536) (hE : E_MH_expand_1 pb n s)  : Met l y_MH_expand w_MH_expand ({ frames := 4, cells := 0, slots := 0, locals := 90 } : Room) (va_Pc [.ref h0, .ref b] (pr (en g) g.1 vcl sz ([] ++ pl))) (va_Qv (fun (u : (Sto) × va_W) => (u.1 = F_MH_expand_1 pb n s ∧ frm (M_MH_expand_1) s u.1 ∧ True) ∧ okn g T u.1 u.2) (po g.1 vcl (va_A ([] ++ pl) sz) (fun (u : (Sto) × va_W) => [] ++ u.2)) (va_A ([] ++ pl) sz)) 0 0 (va_A ([] ++ pl) sz) := by
  refine mc_entry (cc := c_MH_expand) (maxL := 6) (ret := none) (by decide) rfl (Nat.le_of_ble_eq_true rfl) ?_
  intro p e s0 m args below meth c ls F hr hlk hnm hsz hP hD hEn hA hl
  obtain ⟨hx, hb, hml, hown, hts⟩ := id F
  have hK := hEn.1
  generalize va_A ([] ++ pl) sz = A at hD hEn hA ⊢
  have hS : va_S A s0.heap s0.heap [] := va_S.rf
  have hl : lv_has ls 6 [(0, .ref h0), (1, .ref b)] := hl
  have hR : F_MH_expand_1 pb n s = F_MH_expand_1 pb n s := rfl
  have hF : frm (M_MH_expand_1) s s := frm_rf
  have ne_172_pb : 172 ≠ pb := nsp_ne (p := 172) rfl n_b (show (5 : Nat) ≠ 1 by decide)
  have ne_225_pb : 225 ≠ pb := nsp_ne (p := 225) rfl n_b (show (5 : Nat) ≠ 1 by decide)
  refine lv_iconst (v := nI 0) hx hb dMH_expand_0 (by decide) ?_
  refine lv_istore_n (lv' := [(2, .int (nI 0)), (0, .ref h0), (1, .ref b)]) hx hb dMH_expand_1 rfl hl (by decide) rfl (fun ls hl => ?_)
  have lp21 : ∀ (n21 : Nat) (i21 : Nat) (s21 : Sto) (pl : va_W) (ls : Array Slot) (H : Heap) (locs : List Loc), n21 + i21 = 6 → frm (M_MH_expand_1) s s21 → s21.1 225 23 = nI 1 → s21.1 225 24 = nI 6 → s21.1 225 25 = nI 5 → s21.1 225 26 = nI 4 → s21.1 225 27 = nI 524288 → s21.1 225 28 = nI 261888 → s21.1 225 29 = nI 196 → s21.1 225 30 = nI 48 → E_MH_expand_1_L0 pb n n21 i21 s21 → F_MH_expand_1 pb n s = F_MH_expand_1_L0 pb n n21 i21 s21 → lv_has ls 6 [(2, .int (nI i21)), (0, .ref h0), (1, .ref b)] → okn g T s21 pl → va_P g.1 vcl ([] ++ pl) H → va_D A ([] ++ pl) → va_S A s0.heap H locs → W p l e ({ frames := 4, cells := 0, slots := 0, locals := 90 } : Room) s0 m args below meth c H locs 0 0 (MQ below (va_Qv (fun (u : (Sto) × va_W) => (u.1 = F_MH_expand_1 pb n s ∧ frm (M_MH_expand_1) s u.1 ∧ True) ∧ okn g T u.1 u.2) (po g.1 vcl A (fun (u : (Sto) × va_W) => [] ++ u.2)) A) args s0 0 0 A) (F0 m 2 ls []) := by
    intro n21
    induction n21 with
    | zero =>
      intro i21 s21 pl ls H locs hm21 hF hf21 hf22 hf23 hf24 hf25 hf26 hf27 hf28 hE hR hl hO hP hD hS
      refine lv_iload_n hx hb dMH_expand_2 rfl (lv_at hl 0 rfl) ?_
      refine lv_aload_n hx hb dMH_expand_3 rfl (lv_at hl 1 rfl) ?_
      refine nw_get (C := "LatticeKeysModel$Hands") (TT := T_MH) (N := 31) hx hb hts (wg_ft i_MH) hown hK hO k_h0 (kn := 225) (ci := 12) (fl := [(3, 172), (3, 181), (3, 226), (3, 291), (3, 299), (3, 308), (3, 317), (3, 326), (3, 334), (3, 342), (3, 350), (3, 359), (3, 368), (3, 369), (3, 370), (3, 371), (3, 372), (3, 373), (3, 374), (3, 375), (3, 376), (3, 377), (3, 378), (0, 0), (0, 0), (0, 0), (0, 0), (0, 0), (0, 0), (0, 0), (0, 0)]) rfl hP rfl 24 (by decide) (hts _ (wg_t kw_1456)) (fun _ h9 => h9) (cd := (0, 0)) rfl dMH_expand_4 (fun v21 hv21 => ?_)
      obtain rfl := (show v21 = .int (s21.1 225 24) from hv21)
      obtain ⟨z21, ez21, hz21, hz22⟩ := cl_of (b := 2147483648) hf22 (by omega) (by decide)
      replace hR := bnd_step hR ez21
      first | rw [bnd_eq, ← ez21] at hE | replace hE := bndP_step hE ez21
      refine mi_as hz21 ?_
      subst hz22
      refine mi_ge (tgt := 163) hx hb dMH_expand_7 (by decide) (by omega) (by omega) (fun h21 => ?_) (fun h21 => absurd h21 (by omega))
      exact mp_vret hx hb hr hlk hP hD hS (s21, pl) ⟨⟨hR.symm, hF, trivial⟩, hO⟩ [] rfl rfl rfl (by omega) (by omega) dMH_expand_163
    | succ n21 ih21 =>
      intro i21 s21 pl ls H locs hm21 hF hf29 hf30 hf31 hf32 hf33 hf34 hf35 hf36 hE hR hl hO hP hD hS
      refine lv_iload_n hx hb dMH_expand_2 rfl (lv_at hl 0 rfl) ?_
      refine lv_aload_n hx hb dMH_expand_3 rfl (lv_at hl 1 rfl) ?_
      refine nw_get (C := "LatticeKeysModel$Hands") (TT := T_MH) (N := 31) hx hb hts (wg_ft i_MH) hown hK hO k_h0 (kn := 225) (ci := 12) (fl := [(3, 172), (3, 181), (3, 226), (3, 291), (3, 299), (3, 308), (3, 317), (3, 326), (3, 334), (3, 342), (3, 350), (3, 359), (3, 368), (3, 369), (3, 370), (3, 371), (3, 372), (3, 373), (3, 374), (3, 375), (3, 376), (3, 377), (3, 378), (0, 0), (0, 0), (0, 0), (0, 0), (0, 0), (0, 0), (0, 0), (0, 0)]) rfl hP rfl 24 (by decide) (hts _ (wg_t kw_1456)) (fun _ h9 => h9) (cd := (0, 0)) rfl dMH_expand_4 (fun v22 hv22 => ?_)
      obtain rfl := (show v22 = .int (s21.1 225 24) from hv22)
      obtain ⟨z22, ez22, hz23, hz24⟩ := cl_of (b := 2147483648) hf30 (by omega) (by decide)
      replace hR := bnd_step hR ez22
      first | rw [bnd_eq, ← ez22] at hE | replace hE := bndP_step hE ez22
      refine mi_as hz23 ?_
      subst hz24
      refine mi_ge (tgt := 163) hx hb dMH_expand_7 (by decide) (by omega) (by omega) (fun h22 => absurd h22 (by omega)) (fun h22 => ?_)
      refine lv_iconst (v := nI 0) hx hb dMH_expand_10 (by decide) ?_
      refine lv_istore_n (lv' := [(3, .int (nI 0)), (2, .int (nI i21)), (0, .ref h0), (1, .ref b)]) hx hb dMH_expand_11 rfl hl (by decide) rfl (fun ls hl => ?_)
      have lp22 : ∀ (n22 : Nat) (i22 : Nat) (s22 : Sto) (pl : va_W) (ls : Array Slot) (H : Heap) (locs : List Loc), n22 + i22 = 5 → frm (M_MH_expand_1) s s22 → s22.1 225 23 = nI 1 → s22.1 225 24 = nI 6 → s22.1 225 25 = nI 5 → s22.1 225 26 = nI 4 → s22.1 225 27 = nI 524288 → s22.1 225 28 = nI 261888 → s22.1 225 29 = nI 196 → s22.1 225 30 = nI 48 → E_MH_expand_1_L1 pb n i21 (E_MH_expand_1_L0 pb n n21) n22 i22 s22 → F_MH_expand_1 pb n s = F_MH_expand_1_L1 pb n i21 (F_MH_expand_1_L0 pb n n21) n22 i22 s22 → lv_has ls 6 [(3, .int (nI i22)), (2, .int (nI i21)), (0, .ref h0), (1, .ref b)] → okn g T s22 pl → va_P g.1 vcl ([] ++ pl) H → va_D A ([] ++ pl) → va_S A s0.heap H locs → W p l e ({ frames := 4, cells := 0, slots := 0, locals := 90 } : Room) s0 m args below meth c H locs 0 0 (MQ below (va_Qv (fun (u : (Sto) × va_W) => (u.1 = F_MH_expand_1 pb n s ∧ frm (M_MH_expand_1) s u.1 ∧ True) ∧ okn g T u.1 u.2) (po g.1 vcl A (fun (u : (Sto) × va_W) => [] ++ u.2)) A) args s0 0 0 A) (F0 m 12 ls []) := by
        intro n22
        induction n22 with
        | zero =>
          intro i22 s22 pl ls H locs hm22 hF hf37 hf38 hf39 hf40 hf41 hf42 hf43 hf44 hE hR hl hO hP hD hS
          refine lv_iload_n hx hb dMH_expand_12 rfl (lv_at hl 0 rfl) ?_
          refine lv_aload_n hx hb dMH_expand_13 rfl (lv_at hl 2 rfl) ?_
          refine nw_get (C := "LatticeKeysModel$Hands") (TT := T_MH) (N := 31) hx hb hts (wg_ft i_MH) hown hK hO k_h0 (kn := 225) (ci := 12) (fl := [(3, 172), (3, 181), (3, 226), (3, 291), (3, 299), (3, 308), (3, 317), (3, 326), (3, 334), (3, 342), (3, 350), (3, 359), (3, 368), (3, 369), (3, 370), (3, 371), (3, 372), (3, 373), (3, 374), (3, 375), (3, 376), (3, 377), (3, 378), (0, 0), (0, 0), (0, 0), (0, 0), (0, 0), (0, 0), (0, 0), (0, 0)]) rfl hP rfl 25 (by decide) (hts _ (wg_t kw_1457)) (fun _ h9 => h9) (cd := (0, 0)) rfl dMH_expand_14 (fun v23 hv23 => ?_)
          obtain rfl := (show v23 = .int (s22.1 225 25) from hv23)
          obtain ⟨z23, ez23, hz25, hz26⟩ := cl_of (b := 2147483648) hf39 (by omega) (by decide)
          replace hR := bnd_step hR ez23
          first | rw [bnd_eq, ← ez23] at hE | replace hE := bndP_step hE ez23
          refine mi_as hz25 ?_
          subst hz26
          refine mi_ge (tgt := 157) hx hb dMH_expand_17 (by decide) (by omega) (by omega) (fun h23 => ?_) (fun h23 => absurd h23 (by omega))
          refine mi_iinc (k := 1) (x := i21) (d := 1) (y := i21 + 1) (lv' := [(2, .int (nI (i21 + 1))), (3, .int (nI i22)), (0, .ref h0), (1, .ref b)]) hx hb dMH_expand_157 hl rfl (by decide) rfl (by decide) rfl (fun ls hl => ?_)
          refine lv_goto (tgt := 2) hx hb dMH_expand_160 (by decide) ?_
          exact ih21 (i21 + 1) s22 pl ls H locs (by omega) hF hf37 hf38 hf39 hf40 hf41 hf42 hf43 hf44 hE hR (lv_sub hl [0, 2, 3] rfl) hO hP hD hS
        | succ n22 ih22 =>
          intro i22 s22 pl ls H locs hm22 hF hf45 hf46 hf47 hf48 hf49 hf50 hf51 hf52 hE hR hl hO hP hD hS
          refine lv_iload_n hx hb dMH_expand_12 rfl (lv_at hl 0 rfl) ?_
          refine lv_aload_n hx hb dMH_expand_13 rfl (lv_at hl 2 rfl) ?_
          refine nw_get (C := "LatticeKeysModel$Hands") (TT := T_MH) (N := 31) hx hb hts (wg_ft i_MH) hown hK hO k_h0 (kn := 225) (ci := 12) (fl := [(3, 172), (3, 181), (3, 226), (3, 291), (3, 299), (3, 308), (3, 317), (3, 326), (3, 334), (3, 342), (3, 350), (3, 359), (3, 368), (3, 369), (3, 370), (3, 371), (3, 372), (3, 373), (3, 374), (3, 375), (3, 376), (3, 377), (3, 378), (0, 0), (0, 0), (0, 0), (0, 0), (0, 0), (0, 0), (0, 0), (0, 0)]) rfl hP rfl 25 (by decide) (hts _ (wg_t kw_1457)) (fun _ h9 => h9) (cd := (0, 0)) rfl dMH_expand_14 (fun v24 hv24 => ?_)
          obtain rfl := (show v24 = .int (s22.1 225 25) from hv24)
          obtain ⟨z24, ez24, hz27, hz28⟩ := cl_of (b := 2147483648) hf47 (by omega) (by decide)
          replace hR := bnd_step hR ez24
          first | rw [bnd_eq, ← ez24] at hE | replace hE := bndP_step hE ez24
          refine mi_as hz27 ?_
          subst hz28
          refine mi_ge (tgt := 157) hx hb dMH_expand_17 (by decide) (by omega) (by omega) (fun h24 => absurd h24 (by omega)) (fun h24 => ?_)
          refine lv_aload_n hx hb dMH_expand_20 rfl (lv_at hl 2 rfl) ?_
          refine nw_get (C := "LatticeKeysModel$Hands") (TT := T_MH) (N := 31) hx hb hts (wg_ft i_MH) hown hK hO k_h0 (kn := 225) (ci := 12) (fl := [(3, 172), (3, 181), (3, 226), (3, 291), (3, 299), (3, 308), (3, 317), (3, 326), (3, 334), (3, 342), (3, 350), (3, 359), (3, 368), (3, 369), (3, 370), (3, 371), (3, 372), (3, 373), (3, 374), (3, 375), (3, 376), (3, 377), (3, 378), (0, 0), (0, 0), (0, 0), (0, 0), (0, 0), (0, 0), (0, 0), (0, 0)]) rfl hP rfl 0 (by decide) (hts _ (wg_t kw_1432)) (fun _ h9 => h9) (cd := (3, 172)) rfl dMH_expand_21 (fun v25 hv25 => ?_)
          obtain ⟨r21, rfl, kr21⟩ := (show ∃ r : Nat, v25 = .ref r ∧ T r = some 172 from hv25)
          refine lv_sipush (v := nI 168) hx hb dMH_expand_24 (by decide) ?_
          refine lv_bipush (v := nI 31) hx hb dMH_expand_27 (by decide) ?_
          refine mp_v (cx := []) (wr := []) hP hD hS hA [] [] rfl rfl rfl (by decide) (va_runV (As := [.int (nI 168), .int (nI 31)]) (rest := []) F (N_MS_begin l g _ T s22 pl hO hU r21 168 (nI 31) kr21 (by omega)) (cwV 2 hts (wg_app (wg_c kw_1727 (wg_c kw_1608 (wg_c kw_1609 (wg_c kw_10 wg_n)))) kw_1610) rfl rfl rfl (by decide +kernel) ⟨by decide, by decide⟩) (pn_W "LatticeKeysModel$Sponge" (en_ok g) (ci := 9) (kn := 172) (fl := [(3, 173), (3, 174), (3, 175), (3, 176), (3, 177), (0, 0), (0, 0), (0, 0)]) hK hO kr21 rfl hP hD hS hA hEn [] rfl rfl rfl) rfl rfl hl.1 rfl (lv_room (Nat.le_of_ble_eq_true rfl)) dMH_expand_29 ⟨by omega, by omega⟩) (fun  u21 H locs hu21 hP hD hS => ?_)
          obtain ⟨s23, pl⟩ := u21
          obtain ⟨⟨eq21, hFc21, ⟨x21, hx_21, hb_21⟩, ⟨x22, hx_22, hb_22⟩, -⟩, hO⟩ := hu21
          have hO : okn g T s23 pl := hO
          have hP : va_P g.1 vcl ([] ++ pl) _ := hP
          have hD : va_D _ ([] ++ pl) := hD
          have hFc21 : frm (M_MS_begin) s22 s23 := hFc21
          have hb_21 : x21 = 0 := hb_21
          have hb_22 : x22 = 168 := hb_22
          replace hR := bnd_step hR eq21
          first | rw [bnd_eq, ← eq21] at hE | replace hE := bndP_step hE eq21
          have hF := frm_tr hF hFc21 (fun k hk => by unfold M_MS_begin at hk; unfold M_MH_expand_1; omega)
          have hf53 : s23.1 225 23 = nI 1 := fc_F hf45 hFc21 (by unfold M_MS_begin; omega)
          have hf54 : s23.1 225 24 = nI 6 := fc_F hf46 hFc21 (by unfold M_MS_begin; omega)
          have hf55 : s23.1 225 25 = nI 5 := fc_F hf47 hFc21 (by unfold M_MS_begin; omega)
          have hf56 : s23.1 225 26 = nI 4 := fc_F hf48 hFc21 (by unfold M_MS_begin; omega)
          have hf57 : s23.1 225 27 = nI 524288 := fc_F hf49 hFc21 (by unfold M_MS_begin; omega)
          have hf58 : s23.1 225 28 = nI 261888 := fc_F hf50 hFc21 (by unfold M_MS_begin; omega)
          have hf59 : s23.1 225 29 = nI 196 := fc_F hf51 hFc21 (by unfold M_MS_begin; omega)
          have hf60 : s23.1 225 30 = nI 48 := fc_F hf52 hFc21 (by unfold M_MS_begin; omega)
          refine W.widen (k := 0) (n := 0) (by omega) (by omega) ?_
          refine lv_aload_n hx hb dMH_expand_32 rfl (lv_at hl 2 rfl) ?_
          refine nw_get (C := "LatticeKeysModel$Hands") (TT := T_MH) (N := 31) hx hb hts (wg_ft i_MH) hown hK hO k_h0 (kn := 225) (ci := 12) (fl := [(3, 172), (3, 181), (3, 226), (3, 291), (3, 299), (3, 308), (3, 317), (3, 326), (3, 334), (3, 342), (3, 350), (3, 359), (3, 368), (3, 369), (3, 370), (3, 371), (3, 372), (3, 373), (3, 374), (3, 375), (3, 376), (3, 377), (3, 378), (0, 0), (0, 0), (0, 0), (0, 0), (0, 0), (0, 0), (0, 0), (0, 0)]) rfl hP rfl 0 (by decide) (hts _ (wg_t kw_1432)) (fun _ h9 => h9) (cd := (3, 172)) rfl dMH_expand_33 (fun v26 hv26 => ?_)
          obtain ⟨r22, rfl, kr22⟩ := (show ∃ r : Nat, v26 = .ref r ∧ T r = some 172 from hv26)
          refine lv_aload_n hx hb dMH_expand_36 rfl (lv_at hl 3 rfl) ?_
          refine lv_iconst (v := nI 0) hx hb dMH_expand_37 (by decide) ?_
          refine lv_bipush (v := nI 32) hx hb dMH_expand_38 (by decide) ?_
          refine mp_v (cx := []) (wr := []) hP hD hS hA [] [] rfl rfl rfl (by decide) (va_runV (As := [.ref b, .int (nI 0), .int (nI 32)]) (rest := []) F (N_MS_puts l g _ T s23 pl hO hU r22 b pb n 0 32 x21 x22 kr22 k_b n_b hx_21 hx_22 (by omega) (by omega) (by omega) (by omega)) (cwV 3 hts (wg_app (wg_c kw_1719 (wg_c kw_1612 (wg_c kw_1613 (wg_c kw_10 wg_n)))) kw_1614) rfl rfl rfl (by decide +kernel) ⟨by decide, by decide⟩) (pn_W "LatticeKeysModel$Sponge" (en_ok g) (ci := 9) (kn := 172) (fl := [(3, 173), (3, 174), (3, 175), (3, 176), (3, 177), (0, 0), (0, 0), (0, 0)]) hK hO kr22 rfl hP hD hS hA hEn [] rfl rfl rfl) rfl rfl hl.1 rfl (lv_room (Nat.le_of_ble_eq_true rfl)) dMH_expand_40 ⟨by omega, by omega⟩) (fun  u22 H locs hu22 hP hD hS => ?_)
          obtain ⟨s24, pl⟩ := u22
          obtain ⟨⟨eq22, hFc22, ⟨x24, hx_24, hb_24⟩, ⟨x25, hx_25, hb_25⟩, -⟩, hO⟩ := hu22
          have hO : okn g T s24 pl := hO
          have hP : va_P g.1 vcl ([] ++ pl) _ := hP
          have hD : va_D _ ([] ++ pl) := hD
          have hFc22 : frm (M_MS_puts) s23 s24 := hFc22
          have hb_24 : x24 < x22 := hb_24
          have hb_25 : x25 = x22 := hb_25
          replace hR := bnd_step hR eq22
          first | rw [bnd_eq, ← eq22] at hE | replace hE := bndP_step hE eq22
          have hF := frm_tr hF hFc22 (fun k hk => by unfold M_MS_puts at hk; unfold M_MH_expand_1; omega)
          have hf61 : s24.1 225 23 = nI 1 := fc_F hf53 hFc22 (by unfold M_MS_puts; omega)
          have hf62 : s24.1 225 24 = nI 6 := fc_F hf54 hFc22 (by unfold M_MS_puts; omega)
          have hf63 : s24.1 225 25 = nI 5 := fc_F hf55 hFc22 (by unfold M_MS_puts; omega)
          have hf64 : s24.1 225 26 = nI 4 := fc_F hf56 hFc22 (by unfold M_MS_puts; omega)
          have hf65 : s24.1 225 27 = nI 524288 := fc_F hf57 hFc22 (by unfold M_MS_puts; omega)
          have hf66 : s24.1 225 28 = nI 261888 := fc_F hf58 hFc22 (by unfold M_MS_puts; omega)
          have hf67 : s24.1 225 29 = nI 196 := fc_F hf59 hFc22 (by unfold M_MS_puts; omega)
          have hf68 : s24.1 225 30 = nI 48 := fc_F hf60 hFc22 (by unfold M_MS_puts; omega)
          refine W.widen (k := 0) (n := 0) (by omega) (by omega) ?_
          refine lv_aload_n hx hb dMH_expand_43 rfl (lv_at hl 2 rfl) ?_
          refine nw_get (C := "LatticeKeysModel$Hands") (TT := T_MH) (N := 31) hx hb hts (wg_ft i_MH) hown hK hO k_h0 (kn := 225) (ci := 12) (fl := [(3, 172), (3, 181), (3, 226), (3, 291), (3, 299), (3, 308), (3, 317), (3, 326), (3, 334), (3, 342), (3, 350), (3, 359), (3, 368), (3, 369), (3, 370), (3, 371), (3, 372), (3, 373), (3, 374), (3, 375), (3, 376), (3, 377), (3, 378), (0, 0), (0, 0), (0, 0), (0, 0), (0, 0), (0, 0), (0, 0), (0, 0)]) rfl hP rfl 0 (by decide) (hts _ (wg_t kw_1432)) (fun _ h9 => h9) (cd := (3, 172)) rfl dMH_expand_44 (fun v27 hv27 => ?_)
          obtain ⟨r23, rfl, kr23⟩ := (show ∃ r : Nat, v27 = .ref r ∧ T r = some 172 from hv27)
          refine lv_iload_n hx hb dMH_expand_47 rfl (lv_at hl 0 rfl) ?_
          refine mp_v (cx := []) (wr := []) hP hD hS hA [] [] rfl rfl rfl (by decide) (va_runV (As := [.int (nI i22)]) (rest := []) F (N_MS_put l g _ T s24 pl hO hU r23 (nI i22) x24 x25 kr23 hx_24 hx_25 (by omega) (by omega)) (cwV 1 hts (wg_app (wg_c kw_1720 (wg_c kw_1616 (wg_c kw_1617 (wg_c kw_10 wg_n)))) kw_1618) rfl rfl rfl (by decide +kernel) ⟨by decide, by decide⟩) (pn_W "LatticeKeysModel$Sponge" (en_ok g) (ci := 9) (kn := 172) (fl := [(3, 173), (3, 174), (3, 175), (3, 176), (3, 177), (0, 0), (0, 0), (0, 0)]) hK hO kr23 rfl hP hD hS hA hEn [] rfl rfl rfl) rfl rfl hl.1 rfl (lv_room (Nat.le_of_ble_eq_true rfl)) dMH_expand_48 ⟨by omega, by omega⟩) (fun  u23 H locs hu23 hP hD hS => ?_)
          obtain ⟨s25, pl⟩ := u23
          obtain ⟨⟨eq23, hFc23, ⟨x27, hx_27, hb_27⟩, ⟨x28, hx_28, hb_28⟩, -⟩, hO⟩ := hu23
          have hO : okn g T s25 pl := hO
          have hP : va_P g.1 vcl ([] ++ pl) _ := hP
          have hD : va_D _ ([] ++ pl) := hD
          have hFc23 : frm (M_MS_put) s24 s25 := hFc23
          have hb_27 : x27 < x25 := hb_27
          have hb_28 : x28 = x25 := hb_28
          replace hR := bnd_step hR eq23
          first | rw [bnd_eq, ← eq23] at hE | replace hE := bndP_step hE eq23
          have hF := frm_tr hF hFc23 (fun k hk => by unfold M_MS_put at hk; unfold M_MH_expand_1; omega)
          have hf69 : s25.1 225 23 = nI 1 := fc_F hf61 hFc23 (by unfold M_MS_put; omega)
          have hf70 : s25.1 225 24 = nI 6 := fc_F hf62 hFc23 (by unfold M_MS_put; omega)
          have hf71 : s25.1 225 25 = nI 5 := fc_F hf63 hFc23 (by unfold M_MS_put; omega)
          have hf72 : s25.1 225 26 = nI 4 := fc_F hf64 hFc23 (by unfold M_MS_put; omega)
          have hf73 : s25.1 225 27 = nI 524288 := fc_F hf65 hFc23 (by unfold M_MS_put; omega)
          have hf74 : s25.1 225 28 = nI 261888 := fc_F hf66 hFc23 (by unfold M_MS_put; omega)
          have hf75 : s25.1 225 29 = nI 196 := fc_F hf67 hFc23 (by unfold M_MS_put; omega)
          have hf76 : s25.1 225 30 = nI 48 := fc_F hf68 hFc23 (by unfold M_MS_put; omega)
          refine W.widen (k := 0) (n := 0) (by omega) (by omega) ?_
          refine lv_aload_n hx hb dMH_expand_51 rfl (lv_at hl 2 rfl) ?_
          refine nw_get (C := "LatticeKeysModel$Hands") (TT := T_MH) (N := 31) hx hb hts (wg_ft i_MH) hown hK hO k_h0 (kn := 225) (ci := 12) (fl := [(3, 172), (3, 181), (3, 226), (3, 291), (3, 299), (3, 308), (3, 317), (3, 326), (3, 334), (3, 342), (3, 350), (3, 359), (3, 368), (3, 369), (3, 370), (3, 371), (3, 372), (3, 373), (3, 374), (3, 375), (3, 376), (3, 377), (3, 378), (0, 0), (0, 0), (0, 0), (0, 0), (0, 0), (0, 0), (0, 0), (0, 0)]) rfl hP rfl 0 (by decide) (hts _ (wg_t kw_1432)) (fun _ h9 => h9) (cd := (3, 172)) rfl dMH_expand_52 (fun v28 hv28 => ?_)
          obtain ⟨r24, rfl, kr24⟩ := (show ∃ r : Nat, v28 = .ref r ∧ T r = some 172 from hv28)
          refine lv_iload_n hx hb dMH_expand_55 rfl (lv_at hl 1 rfl) ?_
          refine mp_v (cx := []) (wr := []) hP hD hS hA [] [] rfl rfl rfl (by decide) (va_runV (As := [.int (nI i21)]) (rest := []) F (N_MS_put l g _ T s25 pl hO hU r24 (nI i21) x27 x28 kr24 hx_27 hx_28 (by omega) (by omega)) (cwV 1 hts (wg_app (wg_c kw_1720 (wg_c kw_1616 (wg_c kw_1617 (wg_c kw_10 wg_n)))) kw_1618) rfl rfl rfl (by decide +kernel) ⟨by decide, by decide⟩) (pn_W "LatticeKeysModel$Sponge" (en_ok g) (ci := 9) (kn := 172) (fl := [(3, 173), (3, 174), (3, 175), (3, 176), (3, 177), (0, 0), (0, 0), (0, 0)]) hK hO kr24 rfl hP hD hS hA hEn [] rfl rfl rfl) rfl rfl hl.1 rfl (lv_room (Nat.le_of_ble_eq_true rfl)) dMH_expand_56 ⟨by omega, by omega⟩) (fun  u24 H locs hu24 hP hD hS => ?_)
          obtain ⟨s26, pl⟩ := u24
          obtain ⟨⟨eq24, hFc24, ⟨x30, hx_30, hb_30⟩, ⟨x31, hx_31, hb_31⟩, -⟩, hO⟩ := hu24
          have hO : okn g T s26 pl := hO
          have hP : va_P g.1 vcl ([] ++ pl) _ := hP
          have hD : va_D _ ([] ++ pl) := hD
          have hFc24 : frm (M_MS_put) s25 s26 := hFc24
          have hb_30 : x30 < x28 := hb_30
          have hb_31 : x31 = x28 := hb_31
          replace hR := bnd_step hR eq24
          first | rw [bnd_eq, ← eq24] at hE | replace hE := bndP_step hE eq24
          have hF := frm_tr hF hFc24 (fun k hk => by unfold M_MS_put at hk; unfold M_MH_expand_1; omega)
          have hf77 : s26.1 225 23 = nI 1 := fc_F hf69 hFc24 (by unfold M_MS_put; omega)
          have hf78 : s26.1 225 24 = nI 6 := fc_F hf70 hFc24 (by unfold M_MS_put; omega)
          have hf79 : s26.1 225 25 = nI 5 := fc_F hf71 hFc24 (by unfold M_MS_put; omega)
          have hf80 : s26.1 225 26 = nI 4 := fc_F hf72 hFc24 (by unfold M_MS_put; omega)
          have hf81 : s26.1 225 27 = nI 524288 := fc_F hf73 hFc24 (by unfold M_MS_put; omega)
          have hf82 : s26.1 225 28 = nI 261888 := fc_F hf74 hFc24 (by unfold M_MS_put; omega)
          have hf83 : s26.1 225 29 = nI 196 := fc_F hf75 hFc24 (by unfold M_MS_put; omega)
          have hf84 : s26.1 225 30 = nI 48 := fc_F hf76 hFc24 (by unfold M_MS_put; omega)
          refine W.widen (k := 0) (n := 0) (by omega) (by omega) ?_
          refine lv_aload_n hx hb dMH_expand_59 rfl (lv_at hl 2 rfl) ?_
          refine nw_get (C := "LatticeKeysModel$Hands") (TT := T_MH) (N := 31) hx hb hts (wg_ft i_MH) hown hK hO k_h0 (kn := 225) (ci := 12) (fl := [(3, 172), (3, 181), (3, 226), (3, 291), (3, 299), (3, 308), (3, 317), (3, 326), (3, 334), (3, 342), (3, 350), (3, 359), (3, 368), (3, 369), (3, 370), (3, 371), (3, 372), (3, 373), (3, 374), (3, 375), (3, 376), (3, 377), (3, 378), (0, 0), (0, 0), (0, 0), (0, 0), (0, 0), (0, 0), (0, 0), (0, 0)]) rfl hP rfl 0 (by decide) (hts _ (wg_t kw_1432)) (fun _ h9 => h9) (cd := (3, 172)) rfl dMH_expand_60 (fun v29 hv29 => ?_)
          obtain ⟨r25, rfl, kr25⟩ := (show ∃ r : Nat, v29 = .ref r ∧ T r = some 172 from hv29)
          refine mp_v (cx := []) (wr := []) hP hD hS hA [] [] rfl rfl rfl (by decide) (va_runV (As := []) (rest := []) F (N_MS_end l g _ T s26 pl hO hU r25 x30 x31 kr25 hx_30 hx_31 (by omega) (by omega)) (cwV 0 hts (wg_app (wg_c kw_1721 (wg_c kw_1634 (wg_c kw_1635 (wg_c kw_10 wg_n)))) kw_1636) rfl rfl rfl (by decide +kernel) ⟨by decide, by decide⟩) (pn_W "LatticeKeysModel$Sponge" (en_ok g) (ci := 9) (kn := 172) (fl := [(3, 173), (3, 174), (3, 175), (3, 176), (3, 177), (0, 0), (0, 0), (0, 0)]) hK hO kr25 rfl hP hD hS hA hEn [] rfl rfl rfl) rfl rfl hl.1 rfl (lv_room (Nat.le_of_ble_eq_true rfl)) dMH_expand_63 ⟨by omega, by omega⟩) (fun  u25 H locs hu25 hP hD hS => ?_)
          obtain ⟨s27, pl⟩ := u25
          obtain ⟨⟨eq25, hFc25, ⟨x33, hx_33, hb_33⟩, ⟨x34, hx_34, hb_34⟩, -⟩, hO⟩ := hu25
          have hO : okn g T s27 pl := hO
          have hP : va_P g.1 vcl ([] ++ pl) _ := hP
          have hD : va_D _ ([] ++ pl) := hD
          have hFc25 : frm (M_MS_end) s26 s27 := hFc25
          have hb_33 : x33 = 0 := hb_33
          have hb_34 : x34 = x31 := hb_34
          replace hR := bnd_step hR eq25
          first | rw [bnd_eq, ← eq25] at hE | replace hE := bndP_step hE eq25
          have hF := frm_tr hF hFc25 (fun k hk => by unfold M_MS_end at hk; unfold M_MH_expand_1; omega)
          have hf85 : s27.1 225 23 = nI 1 := fc_F hf77 hFc25 (by unfold M_MS_end; omega)
          have hf86 : s27.1 225 24 = nI 6 := fc_F hf78 hFc25 (by unfold M_MS_end; omega)
          have hf87 : s27.1 225 25 = nI 5 := fc_F hf79 hFc25 (by unfold M_MS_end; omega)
          have hf88 : s27.1 225 26 = nI 4 := fc_F hf80 hFc25 (by unfold M_MS_end; omega)
          have hf89 : s27.1 225 27 = nI 524288 := fc_F hf81 hFc25 (by unfold M_MS_end; omega)
          have hf90 : s27.1 225 28 = nI 261888 := fc_F hf82 hFc25 (by unfold M_MS_end; omega)
          have hf91 : s27.1 225 29 = nI 196 := fc_F hf83 hFc25 (by unfold M_MS_end; omega)
          have hf92 : s27.1 225 30 = nI 48 := fc_F hf84 hFc25 (by unfold M_MS_end; omega)
          refine W.widen (k := 0) (n := 0) (by omega) (by omega) ?_
          refine lv_iconst (v := nI 0) hx hb dMH_expand_66 (by decide) ?_
          refine lv_istore (lv' := [(4, .int (nI 0)), (3, .int (nI i22)), (2, .int (nI i21)), (0, .ref h0), (1, .ref b)]) hx hb dMH_expand_67 hl (by decide) rfl (fun ls hl => ?_)
          have lp23 : ∀ (n23 : Nat) (nn21 : Nat) (s28 : Sto) (ps21 : Nat) (pl : va_W) (ls : Array Slot) (H : Heap) (locs : List Loc), 0 = 0 → (nn21 ≤ 256) → (ps21 ≤ 168) → frm (M_MH_expand_1) s s28 → s28.1 225 23 = nI 1 → s28.1 225 24 = nI 6 → s28.1 225 25 = nI 5 → s28.1 225 26 = nI 4 → s28.1 225 27 = nI 524288 → s28.1 225 28 = nI 261888 → s28.1 225 29 = nI 196 → s28.1 225 30 = nI 48 → s28.1 172 6 = nI ps21 → s28.1 172 5 = nI x34 → E_MH_expand_1_L2 i21 i22 (E_MH_expand_1_L1 pb n i21 (E_MH_expand_1_L0 pb n n21) n22) n23 nn21 s28 → F_MH_expand_1 pb n s = F_MH_expand_1_L2 i21 i22 (F_MH_expand_1_L1 pb n i21 (F_MH_expand_1_L0 pb n n21) n22) n23 nn21 s28 → lv_has ls 6 [(4, .int (nI nn21)), (3, .int (nI i22)), (2, .int (nI i21)), (0, .ref h0), (1, .ref b)] → okn g T s28 pl → va_P g.1 vcl ([] ++ pl) H → va_D A ([] ++ pl) → va_S A s0.heap H locs → W p l e ({ frames := 4, cells := 0, slots := 0, locals := 90 } : Room) s0 m args below meth c H locs 0 0 (MQ below (va_Qv (fun (u : (Sto) × va_W) => (u.1 = F_MH_expand_1 pb n s ∧ frm (M_MH_expand_1) s u.1 ∧ True) ∧ okn g T u.1 u.2) (po g.1 vcl A (fun (u : (Sto) × va_W) => [] ++ u.2)) A) args s0 0 0 A) (F0 m 69 ls []) := by
            intro n23
            induction n23 with
            | zero =>
              intro nn21 s28 ps21 pl ls H locs hm23 hi21 hi22 hF hf93 hf94 hf95 hf96 hf97 hf98 hf99 hf100 hf101 hf102 hE hR hl hO hP hD hS
              refine lv_iload hx hb dMH_expand_69 (lv_at hl 0 rfl) ?_
              refine lv_sipush (v := nI 256) hx hb dMH_expand_71 (by decide) ?_
              refine mi_ge (tgt := 151) hx hb dMH_expand_74 (by decide) (by omega) (by omega) (fun h25 => ?_) (fun h25 => absurd h25 (by have h9 : 256 ≤ nn21 := hE.1; omega))
              replace hE := hE.2
              refine mi_iinc (k := 1) (x := i22) (d := 1) (y := i22 + 1) (lv' := [(3, .int (nI (i22 + 1))), (4, .int (nI nn21)), (2, .int (nI i21)), (0, .ref h0), (1, .ref b)]) hx hb dMH_expand_151 hl rfl (by decide) rfl (by decide) rfl (fun ls hl => ?_)
              refine lv_goto (tgt := 12) hx hb dMH_expand_154 (by decide) ?_
              exact ih22 (i22 + 1) s28 pl ls H locs (by omega) hF hf93 hf94 hf95 hf96 hf97 hf98 hf99 hf100 hE hR (lv_sub hl [0, 2, 3, 4] rfl) hO hP hD hS
            | succ n23 ih23 =>
              intro nn21 s28 ps21 pl ls H locs hm23 hi21 hi22 hF hf103 hf104 hf105 hf106 hf107 hf108 hf109 hf110 hf111 hf112 hE hR hl hO hP hD hS
              refine lv_iload hx hb dMH_expand_69 (lv_at hl 0 rfl) ?_
              refine lv_sipush (v := nI 256) hx hb dMH_expand_71 (by decide) ?_
              refine mi_ge (tgt := 151) hx hb dMH_expand_74 (by decide) (by omega) (by omega) (fun h26 => ?_) (fun h26 => ?_)
              · replace hR := hR.trans (if_pos h26)
                first | rw [if_pos h26] at hE | rw [E_MH_expand_1_L0, if_pos h26] at hE | rw [E_MH_expand_1_L1, if_pos h26] at hE | rw [E_MH_expand_1_L2, if_pos h26] at hE | rw [E_MH_expand_1_L3, if_pos h26] at hE | rw [E_MH_expand_1_L4, if_pos h26] at hE | rw [E_MH_expand_1_L5, if_pos h26] at hE | rw [E_MH_expand_1_L6, if_pos h26] at hE | rw [E_MH_expand_1_L7, if_pos h26] at hE | rw [E_MH_expand_1_L8, if_pos h26] at hE | replace hE := iteP_pos h26 hE
                refine mi_iinc (k := 1) (x := i22) (d := 1) (y := i22 + 1) (lv' := [(3, .int (nI (i22 + 1))), (4, .int (nI nn21)), (2, .int (nI i21)), (0, .ref h0), (1, .ref b)]) hx hb dMH_expand_151 hl rfl (by decide) rfl (by decide) rfl (fun ls hl => ?_)
                refine lv_goto (tgt := 12) hx hb dMH_expand_154 (by decide) ?_
                exact ih22 (i22 + 1) s28 pl ls H locs (by omega) hF hf103 hf104 hf105 hf106 hf107 hf108 hf109 hf110 hE hR (lv_sub hl [0, 2, 3, 4] rfl) hO hP hD hS
              · replace hR := hR.trans (if_neg (Nat.not_le.mpr h26))
                first | rw [if_neg (Nat.not_le.mpr h26)] at hE | rw [E_MH_expand_1_L0, if_neg (Nat.not_le.mpr h26)] at hE | rw [E_MH_expand_1_L1, if_neg (Nat.not_le.mpr h26)] at hE | rw [E_MH_expand_1_L2, if_neg (Nat.not_le.mpr h26)] at hE | rw [E_MH_expand_1_L3, if_neg (Nat.not_le.mpr h26)] at hE | rw [E_MH_expand_1_L4, if_neg (Nat.not_le.mpr h26)] at hE | rw [E_MH_expand_1_L5, if_neg (Nat.not_le.mpr h26)] at hE | rw [E_MH_expand_1_L6, if_neg (Nat.not_le.mpr h26)] at hE | rw [E_MH_expand_1_L7, if_neg (Nat.not_le.mpr h26)] at hE | rw [E_MH_expand_1_L8, if_neg (Nat.not_le.mpr h26)] at hE | replace hE := iteP_neg (Nat.not_le.mpr h26) hE
                refine lv_aload_n hx hb dMH_expand_77 rfl (lv_at hl 3 rfl) ?_
                refine nw_get (C := "LatticeKeysModel$Hands") (TT := T_MH) (N := 31) hx hb hts (wg_ft i_MH) hown hK hO k_h0 (kn := 225) (ci := 12) (fl := [(3, 172), (3, 181), (3, 226), (3, 291), (3, 299), (3, 308), (3, 317), (3, 326), (3, 334), (3, 342), (3, 350), (3, 359), (3, 368), (3, 369), (3, 370), (3, 371), (3, 372), (3, 373), (3, 374), (3, 375), (3, 376), (3, 377), (3, 378), (0, 0), (0, 0), (0, 0), (0, 0), (0, 0), (0, 0), (0, 0), (0, 0)]) rfl hP rfl 0 (by decide) (hts _ (wg_t kw_1432)) (fun _ h9 => h9) (cd := (3, 172)) rfl dMH_expand_78 (fun v30 hv30 => ?_)
                obtain ⟨r26, rfl, kr26⟩ := (show ∃ r : Nat, v30 = .ref r ∧ T r = some 172 from hv30)
                refine mp_i (cx := []) (wr := []) hP hD hS hA [] [] rfl rfl rfl (by decide) (va_runV (As := []) (rest := []) F (N_MS_next l g _ T s28 pl hO hU r26 ps21 x34 kr26 hf111 hf112 (by omega) (by omega)) (cwV 0 hts (wg_app (wg_c kw_1728 (wg_c kw_1642 (wg_c kw_1643 (wg_c kw_10 wg_n)))) kw_1644) rfl rfl rfl (by decide +kernel) ⟨by decide, by decide⟩) (pn_W "LatticeKeysModel$Sponge" (en_ok g) (ci := 9) (kn := 172) (fl := [(3, 173), (3, 174), (3, 175), (3, 176), (3, 177), (0, 0), (0, 0), (0, 0)]) hK hO kr26 rfl hP hD hS hA hEn [] rfl rfl rfl) rfl rfl hl.1 rfl (lv_room (Nat.le_of_ble_eq_true rfl)) dMH_expand_81 ⟨by omega, by omega⟩) (fun r27 u26 H locs hu26 hP hD hS => ?_)
                obtain ⟨q21, pl⟩ := u26
                obtain ⟨⟨eq26, rfl, hFc26, ⟨x38, hx_38, hb_38⟩, ⟨x36, hx_36, hb_36⟩, ⟨x37, hx_37, hb_37⟩, -⟩, hO⟩ := hu26
                have hO : okn g T q21.2 pl := hO
                have hP : va_P g.1 vcl ([] ++ pl) _ := hP
                have hD : va_D _ ([] ++ pl) := hD
                have hFc26 : frm (M_MS_next) s28 q21.2 := hFc26
                have hb_36 : x36 ≤ x34 := hb_36
                have hb_37 : x37 = x34 := hb_37
                have hb_38 : x38 < 256 := hb_38
                replace hR := bnd_step hR eq26
                first | rw [bnd_eq, ← eq26] at hE | replace hE := bndP_step hE eq26
                have hF := frm_tr hF hFc26 (fun k hk => by unfold M_MS_next at hk; unfold M_MH_expand_1; omega)
                have hf113 : q21.2.1 225 23 = nI 1 := fc_F hf103 hFc26 (by unfold M_MS_next; omega)
                have hf114 : q21.2.1 225 24 = nI 6 := fc_F hf104 hFc26 (by unfold M_MS_next; omega)
                have hf115 : q21.2.1 225 25 = nI 5 := fc_F hf105 hFc26 (by unfold M_MS_next; omega)
                have hf116 : q21.2.1 225 26 = nI 4 := fc_F hf106 hFc26 (by unfold M_MS_next; omega)
                have hf117 : q21.2.1 225 27 = nI 524288 := fc_F hf107 hFc26 (by unfold M_MS_next; omega)
                have hf118 : q21.2.1 225 28 = nI 261888 := fc_F hf108 hFc26 (by unfold M_MS_next; omega)
                have hf119 : q21.2.1 225 29 = nI 196 := fc_F hf109 hFc26 (by unfold M_MS_next; omega)
                have hf120 : q21.2.1 225 30 = nI 48 := fc_F hf110 hFc26 (by unfold M_MS_next; omega)
                obtain ⟨z25, ez25, hz29, hz30⟩ := cl_of (b := 2147483648) hx_38 (by omega) (by decide)
                replace hR := bnd_step hR ez25
                first | rw [bnd_eq, ← ez25] at hE | replace hE := bndP_step hE ez25
                refine mi_as hz29 ?_
                refine W.widen (k := 0) (n := 0) (by omega) (by omega) ?_
                refine lv_istore (lv' := [(5, .int (nI z25)), (4, .int (nI nn21)), (3, .int (nI i22)), (2, .int (nI i21)), (0, .ref h0), (1, .ref b)]) hx hb dMH_expand_84 hl (by decide) rfl (fun ls hl => ?_)
                refine lv_iload hx hb dMH_expand_86 (lv_at hl 0 rfl) ?_
                refine lv_aload_n hx hb dMH_expand_88 rfl (lv_at hl 4 rfl) ?_
                refine nw_get (C := "LatticeKeysModel$Hands") (TT := T_MH) (N := 31) hx hb hts (wg_ft i_MH) hown hK hO k_h0 (kn := 225) (ci := 12) (fl := [(3, 172), (3, 181), (3, 226), (3, 291), (3, 299), (3, 308), (3, 317), (3, 326), (3, 334), (3, 342), (3, 350), (3, 359), (3, 368), (3, 369), (3, 370), (3, 371), (3, 372), (3, 373), (3, 374), (3, 375), (3, 376), (3, 377), (3, 378), (0, 0), (0, 0), (0, 0), (0, 0), (0, 0), (0, 0), (0, 0), (0, 0)]) rfl hP rfl 0 (by decide) (hts _ (wg_t kw_1432)) (fun _ h9 => h9) (cd := (3, 172)) rfl dMH_expand_89 (fun v31 hv31 => ?_)
                obtain ⟨r28, rfl, kr27⟩ := (show ∃ r : Nat, v31 = .ref r ∧ T r = some 172 from hv31)
                refine mp_i (cx := []) (wr := []) hP hD hS hA [] [] rfl rfl rfl (by decide) (va_runV (As := []) (rest := [.int (nI z25)]) F (N_MS_next l g _ T q21.2 pl hO hU r28 x36 x37 kr27 hx_36 hx_37 (by omega) (by omega)) (cwV 0 hts (wg_app (wg_c kw_1728 (wg_c kw_1642 (wg_c kw_1643 (wg_c kw_10 wg_n)))) kw_1644) rfl rfl rfl (by decide +kernel) ⟨by decide, by decide⟩) (pn_W "LatticeKeysModel$Sponge" (en_ok g) (ci := 9) (kn := 172) (fl := [(3, 173), (3, 174), (3, 175), (3, 176), (3, 177), (0, 0), (0, 0), (0, 0)]) hK hO kr27 rfl hP hD hS hA hEn [] rfl rfl rfl) rfl rfl hl.1 rfl (lv_room (Nat.le_of_ble_eq_true rfl)) dMH_expand_92 ⟨by omega, by omega⟩) (fun r29 u27 H locs hu27 hP hD hS => ?_)
                obtain ⟨q22, pl⟩ := u27
                obtain ⟨⟨eq27, rfl, hFc27, ⟨x41, hx_41, hb_41⟩, ⟨x39, hx_39, hb_39⟩, ⟨x40, hx_40, hb_40⟩, -⟩, hO⟩ := hu27
                have hO : okn g T q22.2 pl := hO
                have hP : va_P g.1 vcl ([] ++ pl) _ := hP
                have hD : va_D _ ([] ++ pl) := hD
                have hFc27 : frm (M_MS_next) q21.2 q22.2 := hFc27
                have hb_39 : x39 ≤ x37 := hb_39
                have hb_40 : x40 = x37 := hb_40
                have hb_41 : x41 < 256 := hb_41
                replace hR := bnd_step hR eq27
                first | rw [bnd_eq, ← eq27] at hE | replace hE := bndP_step hE eq27
                have hF := frm_tr hF hFc27 (fun k hk => by unfold M_MS_next at hk; unfold M_MH_expand_1; omega)
                have hf121 : q22.2.1 225 23 = nI 1 := fc_F hf113 hFc27 (by unfold M_MS_next; omega)
                have hf122 : q22.2.1 225 24 = nI 6 := fc_F hf114 hFc27 (by unfold M_MS_next; omega)
                have hf123 : q22.2.1 225 25 = nI 5 := fc_F hf115 hFc27 (by unfold M_MS_next; omega)
                have hf124 : q22.2.1 225 26 = nI 4 := fc_F hf116 hFc27 (by unfold M_MS_next; omega)
                have hf125 : q22.2.1 225 27 = nI 524288 := fc_F hf117 hFc27 (by unfold M_MS_next; omega)
                have hf126 : q22.2.1 225 28 = nI 261888 := fc_F hf118 hFc27 (by unfold M_MS_next; omega)
                have hf127 : q22.2.1 225 29 = nI 196 := fc_F hf119 hFc27 (by unfold M_MS_next; omega)
                have hf128 : q22.2.1 225 30 = nI 48 := fc_F hf120 hFc27 (by unfold M_MS_next; omega)
                obtain ⟨z26, ez26, hz31, hz32⟩ := cl_of (b := 2147483648) hx_41 (by omega) (by decide)
                replace hR := bnd_step hR ez26
                first | rw [bnd_eq, ← ez26] at hE | replace hE := bndP_step hE ez26
                refine mi_as hz31 ?_
                refine W.widen (k := 0) (n := 0) (by omega) (by omega) ?_
                refine lv_bipush (v := nI 8) hx hb dMH_expand_95 (by decide) ?_
                refine lv_ishl hx hb dMH_expand_97 ?_
                refine lv_iadd hx hb dMH_expand_98 ?_
                refine mi_eqv (fun z27 ez27 => ?_)
                replace hR := bnd_step hR ez27
                first | rw [bnd_eq, ← ez27] at hE | replace hE := bndP_step hE ez27
                refine lv_istore (lv' := [(5, .int z27), (4, .int (nI nn21)), (3, .int (nI i22)), (2, .int (nI i21)), (0, .ref h0), (1, .ref b)]) hx hb dMH_expand_99 hl (by decide) rfl (fun ls hl => ?_)
                refine lv_iload hx hb dMH_expand_101 (lv_at hl 0 rfl) ?_
                refine lv_aload_n hx hb dMH_expand_103 rfl (lv_at hl 4 rfl) ?_
                refine nw_get (C := "LatticeKeysModel$Hands") (TT := T_MH) (N := 31) hx hb hts (wg_ft i_MH) hown hK hO k_h0 (kn := 225) (ci := 12) (fl := [(3, 172), (3, 181), (3, 226), (3, 291), (3, 299), (3, 308), (3, 317), (3, 326), (3, 334), (3, 342), (3, 350), (3, 359), (3, 368), (3, 369), (3, 370), (3, 371), (3, 372), (3, 373), (3, 374), (3, 375), (3, 376), (3, 377), (3, 378), (0, 0), (0, 0), (0, 0), (0, 0), (0, 0), (0, 0), (0, 0), (0, 0)]) rfl hP rfl 0 (by decide) (hts _ (wg_t kw_1432)) (fun _ h9 => h9) (cd := (3, 172)) rfl dMH_expand_104 (fun v32 hv32 => ?_)
                obtain ⟨r30, rfl, kr28⟩ := (show ∃ r : Nat, v32 = .ref r ∧ T r = some 172 from hv32)
                refine mp_i (cx := []) (wr := []) hP hD hS hA [] [] rfl rfl rfl (by decide) (va_runV (As := []) (rest := [.int z27]) F (N_MS_next l g _ T q22.2 pl hO hU r30 x39 x40 kr28 hx_39 hx_40 (by omega) (by omega)) (cwV 0 hts (wg_app (wg_c kw_1728 (wg_c kw_1642 (wg_c kw_1643 (wg_c kw_10 wg_n)))) kw_1644) rfl rfl rfl (by decide +kernel) ⟨by decide, by decide⟩) (pn_W "LatticeKeysModel$Sponge" (en_ok g) (ci := 9) (kn := 172) (fl := [(3, 173), (3, 174), (3, 175), (3, 176), (3, 177), (0, 0), (0, 0), (0, 0)]) hK hO kr28 rfl hP hD hS hA hEn [] rfl rfl rfl) rfl rfl hl.1 rfl (lv_room (Nat.le_of_ble_eq_true rfl)) dMH_expand_107 ⟨by omega, by omega⟩) (fun r31 u28 H locs hu28 hP hD hS => ?_)
                obtain ⟨q23, pl⟩ := u28
                obtain ⟨⟨eq28, rfl, hFc28, ⟨x44, hx_44, hb_44⟩, ⟨x42, hx_42, hb_42⟩, ⟨x43, hx_43, hb_43⟩, -⟩, hO⟩ := hu28
                have hO : okn g T q23.2 pl := hO
                have hP : va_P g.1 vcl ([] ++ pl) _ := hP
                have hD : va_D _ ([] ++ pl) := hD
                have hFc28 : frm (M_MS_next) q22.2 q23.2 := hFc28
                have hb_42 : x42 ≤ x40 := hb_42
                have hb_43 : x43 = x40 := hb_43
                have hb_44 : x44 < 256 := hb_44
                replace hR := bnd_step hR eq28
                first | rw [bnd_eq, ← eq28] at hE | replace hE := bndP_step hE eq28
                have hF := frm_tr hF hFc28 (fun k hk => by unfold M_MS_next at hk; unfold M_MH_expand_1; omega)
                have hf129 : q23.2.1 225 23 = nI 1 := fc_F hf121 hFc28 (by unfold M_MS_next; omega)
                have hf130 : q23.2.1 225 24 = nI 6 := fc_F hf122 hFc28 (by unfold M_MS_next; omega)
                have hf131 : q23.2.1 225 25 = nI 5 := fc_F hf123 hFc28 (by unfold M_MS_next; omega)
                have hf132 : q23.2.1 225 26 = nI 4 := fc_F hf124 hFc28 (by unfold M_MS_next; omega)
                have hf133 : q23.2.1 225 27 = nI 524288 := fc_F hf125 hFc28 (by unfold M_MS_next; omega)
                have hf134 : q23.2.1 225 28 = nI 261888 := fc_F hf126 hFc28 (by unfold M_MS_next; omega)
                have hf135 : q23.2.1 225 29 = nI 196 := fc_F hf127 hFc28 (by unfold M_MS_next; omega)
                have hf136 : q23.2.1 225 30 = nI 48 := fc_F hf128 hFc28 (by unfold M_MS_next; omega)
                obtain ⟨z28, ez28, hz33, hz34⟩ := cl_of (b := 2147483648) hx_44 (by omega) (by decide)
                replace hR := bnd_step hR ez28
                first | rw [bnd_eq, ← ez28] at hE | replace hE := bndP_step hE ez28
                refine mi_as hz33 ?_
                refine W.widen (k := 0) (n := 0) (by omega) (by omega) ?_
                refine lv_bipush (v := nI 127) hx hb dMH_expand_110 (by decide) ?_
                refine lv_iand hx hb dMH_expand_112 ?_
                refine lv_bipush (v := nI 16) hx hb dMH_expand_113 (by decide) ?_
                refine lv_ishl hx hb dMH_expand_115 ?_
                refine lv_iadd hx hb dMH_expand_116 ?_
                refine mi_eqv (fun z29 ez29 => ?_)
                replace hR := bnd_step hR ez29
                first | rw [bnd_eq, ← ez29] at hE | replace hE := bndP_step hE ez29
                refine lv_istore (lv' := [(5, .int z29), (4, .int (nI nn21)), (3, .int (nI i22)), (2, .int (nI i21)), (0, .ref h0), (1, .ref b)]) hx hb dMH_expand_117 hl (by decide) rfl (fun ls hl => ?_)
                refine lv_iload hx hb dMH_expand_119 (lv_at hl 0 rfl) ?_
                refine lv_ldc (v := 8380417) hx hb hown (hts _ (wg_t kw_1429)) dMH_expand_121 ?_
                refine mi_as (show (8380417 : Int32) = nI 8380417 by decide) ?_
                refine lv_icmp_lt (tgt := 129) hx hb dMH_expand_123 (by decide) (fun h27 => ?_) (fun h27 => ?_)
                · replace hR := hR.trans (if_pos h27)
                  first | rw [if_pos h27] at hE | rw [E_MH_expand_1_L0, if_pos h27] at hE | rw [E_MH_expand_1_L1, if_pos h27] at hE | rw [E_MH_expand_1_L2, if_pos h27] at hE | rw [E_MH_expand_1_L3, if_pos h27] at hE | rw [E_MH_expand_1_L4, if_pos h27] at hE | rw [E_MH_expand_1_L5, if_pos h27] at hE | rw [E_MH_expand_1_L6, if_pos h27] at hE | rw [E_MH_expand_1_L7, if_pos h27] at hE | rw [E_MH_expand_1_L8, if_pos h27] at hE | replace hE := iteP_pos h27 hE
                  refine lv_aload_n hx hb dMH_expand_129 rfl (lv_at hl 4 rfl) ?_
                  refine nw_get (C := "LatticeKeysModel$Hands") (TT := T_MH) (N := 31) hx hb hts (wg_ft i_MH) hown hK hO k_h0 (kn := 225) (ci := 12) (fl := [(3, 172), (3, 181), (3, 226), (3, 291), (3, 299), (3, 308), (3, 317), (3, 326), (3, 334), (3, 342), (3, 350), (3, 359), (3, 368), (3, 369), (3, 370), (3, 371), (3, 372), (3, 373), (3, 374), (3, 375), (3, 376), (3, 377), (3, 378), (0, 0), (0, 0), (0, 0), (0, 0), (0, 0), (0, 0), (0, 0), (0, 0)]) rfl hP rfl 2 (by decide) (hts _ (wg_t kw_1434)) (fun _ h9 => h9) (cd := (3, 226)) rfl dMH_expand_130 (fun v33 hv33 => ?_)
                  obtain ⟨r32, rfl, kr29⟩ := (show ∃ r : Nat, v33 = .ref r ∧ T r = some 226 from hv33)
                  refine lv_bipush (v := nI 8) hx hb dMH_expand_133 (by decide) ?_
                  refine lv_iload_n hx hb dMH_expand_135 rfl (lv_at hl 3 rfl) ?_
                  refine mi_imul hx hb dMH_expand_136 ?_
                  refine lv_iload_n hx hb dMH_expand_137 rfl (lv_at hl 2 rfl) ?_
                  refine mi_iadd hx hb dMH_expand_138 ?_
                  refine nw_aald3 hx hb hK hO kr29 (k := 226) (b := 227) rfl hP (by omega) (by omega) dMH_expand_139 (fun r33 kr30 => ?_)
                  have hn21 : nsp (227 + ((8 * i21) + i22)) = (0, 256, []) := rows_ok 227 64 (by decide) _ (by omega)
                  refine lv_iload hx hb dMH_expand_140 (lv_at hl 1 rfl) ?_
                  refine lv_iload hx hb dMH_expand_142 (lv_at hl 0 rfl) ?_
                  refine nw_iast hx hb hK hO hU kr30 (k := (227 + ((8 * i21) + i22))) hn21 hP hD hS (by omega) (by omega) dMH_expand_144 (fun s29 pl H locs es21 hO hP hD hS => ?_)
                  replace hR := bnd_step hR es21
                  first | rw [bnd_eq, ← es21] at hE | replace hE := bndP_step hE es21
                  have hF := frm_sI hF es21 (by unfold M_MH_expand_1; omega)
                  have hf137 : s29.1 225 23 = nI 1 := fc_ne hf129 es21 (by omega)
                  have hf138 : s29.1 225 24 = nI 6 := fc_ne hf130 es21 (by omega)
                  have hf139 : s29.1 225 25 = nI 5 := fc_ne hf131 es21 (by omega)
                  have hf140 : s29.1 225 26 = nI 4 := fc_ne hf132 es21 (by omega)
                  have hf141 : s29.1 225 27 = nI 524288 := fc_ne hf133 es21 (by omega)
                  have hf142 : s29.1 225 28 = nI 261888 := fc_ne hf134 es21 (by omega)
                  have hf143 : s29.1 225 29 = nI 196 := fc_ne hf135 es21 (by omega)
                  have hf144 : s29.1 225 30 = nI 48 := fc_ne hf136 es21 (by omega)
                  have hf145 : s29.1 172 6 = nI x42 := fc_ne hx_42 es21 (by omega)
                  have hf146 : s29.1 172 5 = nI x43 := fc_ne hx_43 es21 (by omega)
                  refine mi_iinc (k := 1) (x := nn21) (d := 1) (y := nn21 + 1) (lv' := [(4, .int (nI (nn21 + 1))), (5, .int z29), (3, .int (nI i22)), (2, .int (nI i21)), (0, .ref h0), (1, .ref b)]) hx hb dMH_expand_145 hl rfl (by decide) rfl (by decide) rfl (fun ls hl => ?_)
                  refine lv_goto (tgt := 69) hx hb dMH_expand_148 (by decide) ?_
                  exact ih23 (nn21 + 1) s29 x42 pl ls H locs (by omega) (by omega) (by omega) hF hf137 hf138 hf139 hf140 hf141 hf142 hf143 hf144 hf145 (by have h9 := hf146; rw [show x43 = x34 by omega] at h9; exact h9) hE hR (lv_sub hl [0, 2, 3, 4, 5] rfl) hO hP hD hS
                · replace hR := hR.trans (if_neg h27)
                  first | rw [if_neg h27] at hE | rw [E_MH_expand_1_L0, if_neg h27] at hE | rw [E_MH_expand_1_L1, if_neg h27] at hE | rw [E_MH_expand_1_L2, if_neg h27] at hE | rw [E_MH_expand_1_L3, if_neg h27] at hE | rw [E_MH_expand_1_L4, if_neg h27] at hE | rw [E_MH_expand_1_L5, if_neg h27] at hE | rw [E_MH_expand_1_L6, if_neg h27] at hE | rw [E_MH_expand_1_L7, if_neg h27] at hE | rw [E_MH_expand_1_L8, if_neg h27] at hE | replace hE := iteP_neg h27 hE
                  refine lv_goto (tgt := 69) hx hb dMH_expand_126 (by decide) ?_
                  exact ih23 nn21 q23.2 x42 pl ls H locs (by omega) (by omega) (by omega) hF hf129 hf130 hf131 hf132 hf133 hf134 hf135 hf136 hx_42 (by have h9 := hx_43; rw [show x43 = x34 by omega] at h9; exact h9) hE hR (lv_sub hl [1, 2, 3, 4, 5] rfl) hO hP hD hS
          exact lp23 fuelM 0 s27 x33 pl ls _ _ (by omega) (by omega) (by omega) hF hf85 hf86 hf87 hf88 hf89 hf90 hf91 hf92 hx_33 hx_34 hE hR (lv_sub hl [0, 1, 2, 3, 4] rfl) hO hP hD hS
      exact lp22 5 0 s21 pl ls _ _ (by omega) hF hf29 hf30 hf31 hf32 hf33 hf34 hf35 hf36 hE hR (lv_sub hl [0, 1, 2, 3] rfl) hO hP hD hS
  exact lp21 6 0 s pl ls _ _ (by omega) hF e_c0 e_c1 e_c2 e_c3 e_c4 e_c5 e_c6 e_c7 hE hR (lv_sub hl [0, 1, 2] rfl) hO hP hD hS
def M_MH_expand_2 (k : Nat) : Prop := (227 ≤ k ∧ k < 291) ∨ k = 172 ∨ (0 : Nat) = 1
noncomputable def F_MH_expand_2_L2 (i21 : Nat) (i22 : Nat) (kk : Nat → Sto → Sto) : Nat → Nat → Sto → Sto
  | 0, nn21, s28 => kk (i22 + 1) s28
  | n23 + 1, nn21, s28 => if 256 ≤ nn21 then kk (i22 + 1) s28 else bnd (F_MS_next  s28) fun q21 => bnd (q21.1.toNatClampNeg) fun z25 => bnd (F_MS_next  q21.2) fun q22 => bnd (q22.1.toNatClampNeg) fun z26 => bnd (((nI z25) + ((nI z26) <<< ((nI 8) &&& 31)))) fun z27 => bnd (F_MS_next  q22.2) fun q23 => bnd (q23.1.toNatClampNeg) fun z28 => bnd ((z27 + (((nI z28) &&& (nI 127)) <<< ((nI 16) &&& 31)))) fun z29 => if z29 < (nI 8380417) then bnd (sI q23.2 ((227 + ((8 * i21) + i22))) nn21 z29) fun s29 => F_MH_expand_2_L2 i21 i22 kk n23 (nn21 + 1) s29 else F_MH_expand_2_L2 i21 i22 kk n23 nn21 q23.2
noncomputable def E_MH_expand_2_L2 (i21 : Nat) (i22 : Nat) (ke : Nat → Sto → Prop) : Nat → Nat → Sto → Prop
  | 0, nn21, s28 => (256 ≤ nn21) ∧ (ke (i22 + 1) s28)
  | n23 + 1, nn21, s28 => if 256 ≤ nn21 then ke (i22 + 1) s28 else bnd (F_MS_next  s28) fun q21 => bnd (q21.1.toNatClampNeg) fun z25 => bnd (F_MS_next  q21.2) fun q22 => bnd (q22.1.toNatClampNeg) fun z26 => bnd (((nI z25) + ((nI z26) <<< ((nI 8) &&& 31)))) fun z27 => bnd (F_MS_next  q22.2) fun q23 => bnd (q23.1.toNatClampNeg) fun z28 => bnd ((z27 + (((nI z28) &&& (nI 127)) <<< ((nI 16) &&& 31)))) fun z29 => if z29 < (nI 8380417) then bnd (sI q23.2 ((227 + ((8 * i21) + i22))) nn21 z29) fun s29 => E_MH_expand_2_L2 i21 i22 ke n23 (nn21 + 1) s29 else E_MH_expand_2_L2 i21 i22 ke n23 nn21 q23.2
noncomputable def F_MH_expand_2_L1 (pb : Nat) (n : Nat) (i21 : Nat) (kk : Nat → Sto → Sto) : Nat → Nat → Sto → Sto
  | 0, i22, s22 => bnd ((s22.1 225 25).toNatClampNeg) fun z23 => kk (i21 + 1) s22
  | n22 + 1, i22, s22 => bnd ((s22.1 225 25).toNatClampNeg) fun z24 => bnd (F_MS_begin 168 (nI 31) s22) fun s23 => bnd (F_MS_puts pb n 0 32 s23) fun s24 => bnd (F_MS_put (nI i22) s24) fun s25 => bnd (F_MS_put (nI i21) s25) fun s26 => bnd (F_MS_end  s26) fun s27 => F_MH_expand_2_L2 i21 i22 (F_MH_expand_2_L1 pb n i21 kk n22) fuelM 0 s27
noncomputable def E_MH_expand_2_L1 (pb : Nat) (n : Nat) (i21 : Nat) (ke : Nat → Sto → Prop) : Nat → Nat → Sto → Prop
  | 0, i22, s22 => bnd ((s22.1 225 25).toNatClampNeg) fun z23 => ke (i21 + 1) s22
  | n22 + 1, i22, s22 => bnd ((s22.1 225 25).toNatClampNeg) fun z24 => bnd (F_MS_begin 168 (nI 31) s22) fun s23 => bnd (F_MS_puts pb n 0 32 s23) fun s24 => bnd (F_MS_put (nI i22) s24) fun s25 => bnd (F_MS_put (nI i21) s25) fun s26 => bnd (F_MS_end  s26) fun s27 => E_MH_expand_2_L2 i21 i22 (E_MH_expand_2_L1 pb n i21 ke n22) fuelM 0 s27
noncomputable def F_MH_expand_2_L0 (pb : Nat) (n : Nat) : Nat → Nat → Sto → Sto
  | 0, i21, s21 => bnd ((s21.1 225 24).toNatClampNeg) fun z21 => s21
  | n21 + 1, i21, s21 => bnd ((s21.1 225 24).toNatClampNeg) fun z22 => F_MH_expand_2_L1 pb n i21 (F_MH_expand_2_L0 pb n n21) 7 0 s21
noncomputable def E_MH_expand_2_L0 (pb : Nat) (n : Nat) : Nat → Nat → Sto → Prop
  | 0, i21, s21 => bnd ((s21.1 225 24).toNatClampNeg) fun z21 => True
  | n21 + 1, i21, s21 => bnd ((s21.1 225 24).toNatClampNeg) fun z22 => E_MH_expand_2_L1 pb n i21 (E_MH_expand_2_L0 pb n n21) 7 0 s21
noncomputable def F_MH_expand_2 (pb : Nat) (n : Nat) (s : Sto) : Sto := F_MH_expand_2_L0 pb n 8 0 s
noncomputable def E_MH_expand_2 (pb : Nat) (n : Nat) (s : Sto) : Prop := E_MH_expand_2_L0 pb n 8 0 s
set_option maxHeartbeats 8000000 in
set_option maxRecDepth 100000 in
theorem N_MH_expand_2 (l : Launch) (g : Gd) (sz : Nat) (T : TyN) (s : Sto) (pl : va_W) (hO : okn g T s pl) (hU : inj T) (h0 b : Nat) (pb : Nat) (n : Nat) (k_h0 : T h0 = some 225) (k_b : T b = some pb) (n_b : nsp pb = (1, n, [])) (e_c0 : s.1 225 23 = nI 2) (e_c1 : s.1 225 24 = nI 8) (e_c2 : s.1 225 25 = nI 7) (e_c3 : s.1 225 26 = nI 2) (e_c4 : s.1 225 27 = nI 524288) (e_c5 : s.1 225 28 = nI 261888) (e_c6 : s.1 225 29 = nI 120) (e_c7 : s.1 225 30 = nI 64) (h1 : 32 ≤ n) (h2 : n < 65536) (hE : E_MH_expand_2 pb n s)  : Met l y_MH_expand w_MH_expand ({ frames := 4, cells := 0, slots := 0, locals := 90 } : Room) (va_Pc [.ref h0, .ref b] (pr (en g) g.1 vcl sz ([] ++ pl))) (va_Qv (fun (u : (Sto) × va_W) => (u.1 = F_MH_expand_2 pb n s ∧ frm (M_MH_expand_2) s u.1 ∧ True) ∧ okn g T u.1 u.2) (po g.1 vcl (va_A ([] ++ pl) sz) (fun (u : (Sto) × va_W) => [] ++ u.2)) (va_A ([] ++ pl) sz)) 0 0 (va_A ([] ++ pl) sz) := by
  refine mc_entry (cc := c_MH_expand) (maxL := 6) (ret := none) (by decide) rfl (Nat.le_of_ble_eq_true rfl) ?_
  intro p e s0 m args below meth c ls F hr hlk hnm hsz hP hD hEn hA hl
  obtain ⟨hx, hb, hml, hown, hts⟩ := id F
  have hK := hEn.1
  generalize va_A ([] ++ pl) sz = A at hD hEn hA ⊢
  have hS : va_S A s0.heap s0.heap [] := va_S.rf
  have hl : lv_has ls 6 [(0, .ref h0), (1, .ref b)] := hl
  have hR : F_MH_expand_2 pb n s = F_MH_expand_2 pb n s := rfl
  have hF : frm (M_MH_expand_2) s s := frm_rf
  have ne_172_pb : 172 ≠ pb := nsp_ne (p := 172) rfl n_b (show (5 : Nat) ≠ 1 by decide)
  have ne_225_pb : 225 ≠ pb := nsp_ne (p := 225) rfl n_b (show (5 : Nat) ≠ 1 by decide)
  refine lv_iconst (v := nI 0) hx hb dMH_expand_0 (by decide) ?_
  refine lv_istore_n (lv' := [(2, .int (nI 0)), (0, .ref h0), (1, .ref b)]) hx hb dMH_expand_1 rfl hl (by decide) rfl (fun ls hl => ?_)
  have lp21 : ∀ (n21 : Nat) (i21 : Nat) (s21 : Sto) (pl : va_W) (ls : Array Slot) (H : Heap) (locs : List Loc), n21 + i21 = 8 → frm (M_MH_expand_2) s s21 → s21.1 225 23 = nI 2 → s21.1 225 24 = nI 8 → s21.1 225 25 = nI 7 → s21.1 225 26 = nI 2 → s21.1 225 27 = nI 524288 → s21.1 225 28 = nI 261888 → s21.1 225 29 = nI 120 → s21.1 225 30 = nI 64 → E_MH_expand_2_L0 pb n n21 i21 s21 → F_MH_expand_2 pb n s = F_MH_expand_2_L0 pb n n21 i21 s21 → lv_has ls 6 [(2, .int (nI i21)), (0, .ref h0), (1, .ref b)] → okn g T s21 pl → va_P g.1 vcl ([] ++ pl) H → va_D A ([] ++ pl) → va_S A s0.heap H locs → W p l e ({ frames := 4, cells := 0, slots := 0, locals := 90 } : Room) s0 m args below meth c H locs 0 0 (MQ below (va_Qv (fun (u : (Sto) × va_W) => (u.1 = F_MH_expand_2 pb n s ∧ frm (M_MH_expand_2) s u.1 ∧ True) ∧ okn g T u.1 u.2) (po g.1 vcl A (fun (u : (Sto) × va_W) => [] ++ u.2)) A) args s0 0 0 A) (F0 m 2 ls []) := by
    intro n21
    induction n21 with
    | zero =>
      intro i21 s21 pl ls H locs hm21 hF hf21 hf22 hf23 hf24 hf25 hf26 hf27 hf28 hE hR hl hO hP hD hS
      refine lv_iload_n hx hb dMH_expand_2 rfl (lv_at hl 0 rfl) ?_
      refine lv_aload_n hx hb dMH_expand_3 rfl (lv_at hl 1 rfl) ?_
      refine nw_get (C := "LatticeKeysModel$Hands") (TT := T_MH) (N := 31) hx hb hts (wg_ft i_MH) hown hK hO k_h0 (kn := 225) (ci := 12) (fl := [(3, 172), (3, 181), (3, 226), (3, 291), (3, 299), (3, 308), (3, 317), (3, 326), (3, 334), (3, 342), (3, 350), (3, 359), (3, 368), (3, 369), (3, 370), (3, 371), (3, 372), (3, 373), (3, 374), (3, 375), (3, 376), (3, 377), (3, 378), (0, 0), (0, 0), (0, 0), (0, 0), (0, 0), (0, 0), (0, 0), (0, 0)]) rfl hP rfl 24 (by decide) (hts _ (wg_t kw_1456)) (fun _ h9 => h9) (cd := (0, 0)) rfl dMH_expand_4 (fun v21 hv21 => ?_)
      obtain rfl := (show v21 = .int (s21.1 225 24) from hv21)
      obtain ⟨z21, ez21, hz21, hz22⟩ := cl_of (b := 2147483648) hf22 (by omega) (by decide)
      replace hR := bnd_step hR ez21
      first | rw [bnd_eq, ← ez21] at hE | replace hE := bndP_step hE ez21
      refine mi_as hz21 ?_
      subst hz22
      refine mi_ge (tgt := 163) hx hb dMH_expand_7 (by decide) (by omega) (by omega) (fun h21 => ?_) (fun h21 => absurd h21 (by omega))
      exact mp_vret hx hb hr hlk hP hD hS (s21, pl) ⟨⟨hR.symm, hF, trivial⟩, hO⟩ [] rfl rfl rfl (by omega) (by omega) dMH_expand_163
    | succ n21 ih21 =>
      intro i21 s21 pl ls H locs hm21 hF hf29 hf30 hf31 hf32 hf33 hf34 hf35 hf36 hE hR hl hO hP hD hS
      refine lv_iload_n hx hb dMH_expand_2 rfl (lv_at hl 0 rfl) ?_
      refine lv_aload_n hx hb dMH_expand_3 rfl (lv_at hl 1 rfl) ?_
      refine nw_get (C := "LatticeKeysModel$Hands") (TT := T_MH) (N := 31) hx hb hts (wg_ft i_MH) hown hK hO k_h0 (kn := 225) (ci := 12) (fl := [(3, 172), (3, 181), (3, 226), (3, 291), (3, 299), (3, 308), (3, 317), (3, 326), (3, 334), (3, 342), (3, 350), (3, 359), (3, 368), (3, 369), (3, 370), (3, 371), (3, 372), (3, 373), (3, 374), (3, 375), (3, 376), (3, 377), (3, 378), (0, 0), (0, 0), (0, 0), (0, 0), (0, 0), (0, 0), (0, 0), (0, 0)]) rfl hP rfl 24 (by decide) (hts _ (wg_t kw_1456)) (fun _ h9 => h9) (cd := (0, 0)) rfl dMH_expand_4 (fun v22 hv22 => ?_)
      obtain rfl := (show v22 = .int (s21.1 225 24) from hv22)
      obtain ⟨z22, ez22, hz23, hz24⟩ := cl_of (b := 2147483648) hf30 (by omega) (by decide)
      replace hR := bnd_step hR ez22
      first | rw [bnd_eq, ← ez22] at hE | replace hE := bndP_step hE ez22
      refine mi_as hz23 ?_
      subst hz24
      refine mi_ge (tgt := 163) hx hb dMH_expand_7 (by decide) (by omega) (by omega) (fun h22 => absurd h22 (by omega)) (fun h22 => ?_)
      refine lv_iconst (v := nI 0) hx hb dMH_expand_10 (by decide) ?_
      refine lv_istore_n (lv' := [(3, .int (nI 0)), (2, .int (nI i21)), (0, .ref h0), (1, .ref b)]) hx hb dMH_expand_11 rfl hl (by decide) rfl (fun ls hl => ?_)
      have lp22 : ∀ (n22 : Nat) (i22 : Nat) (s22 : Sto) (pl : va_W) (ls : Array Slot) (H : Heap) (locs : List Loc), n22 + i22 = 7 → frm (M_MH_expand_2) s s22 → s22.1 225 23 = nI 2 → s22.1 225 24 = nI 8 → s22.1 225 25 = nI 7 → s22.1 225 26 = nI 2 → s22.1 225 27 = nI 524288 → s22.1 225 28 = nI 261888 → s22.1 225 29 = nI 120 → s22.1 225 30 = nI 64 → E_MH_expand_2_L1 pb n i21 (E_MH_expand_2_L0 pb n n21) n22 i22 s22 → F_MH_expand_2 pb n s = F_MH_expand_2_L1 pb n i21 (F_MH_expand_2_L0 pb n n21) n22 i22 s22 → lv_has ls 6 [(3, .int (nI i22)), (2, .int (nI i21)), (0, .ref h0), (1, .ref b)] → okn g T s22 pl → va_P g.1 vcl ([] ++ pl) H → va_D A ([] ++ pl) → va_S A s0.heap H locs → W p l e ({ frames := 4, cells := 0, slots := 0, locals := 90 } : Room) s0 m args below meth c H locs 0 0 (MQ below (va_Qv (fun (u : (Sto) × va_W) => (u.1 = F_MH_expand_2 pb n s ∧ frm (M_MH_expand_2) s u.1 ∧ True) ∧ okn g T u.1 u.2) (po g.1 vcl A (fun (u : (Sto) × va_W) => [] ++ u.2)) A) args s0 0 0 A) (F0 m 12 ls []) := by
        intro n22
        induction n22 with
        | zero =>
          intro i22 s22 pl ls H locs hm22 hF hf37 hf38 hf39 hf40 hf41 hf42 hf43 hf44 hE hR hl hO hP hD hS
          refine lv_iload_n hx hb dMH_expand_12 rfl (lv_at hl 0 rfl) ?_
          refine lv_aload_n hx hb dMH_expand_13 rfl (lv_at hl 2 rfl) ?_
          refine nw_get (C := "LatticeKeysModel$Hands") (TT := T_MH) (N := 31) hx hb hts (wg_ft i_MH) hown hK hO k_h0 (kn := 225) (ci := 12) (fl := [(3, 172), (3, 181), (3, 226), (3, 291), (3, 299), (3, 308), (3, 317), (3, 326), (3, 334), (3, 342), (3, 350), (3, 359), (3, 368), (3, 369), (3, 370), (3, 371), (3, 372), (3, 373), (3, 374), (3, 375), (3, 376), (3, 377), (3, 378), (0, 0), (0, 0), (0, 0), (0, 0), (0, 0), (0, 0), (0, 0), (0, 0)]) rfl hP rfl 25 (by decide) (hts _ (wg_t kw_1457)) (fun _ h9 => h9) (cd := (0, 0)) rfl dMH_expand_14 (fun v23 hv23 => ?_)
          obtain rfl := (show v23 = .int (s22.1 225 25) from hv23)
          obtain ⟨z23, ez23, hz25, hz26⟩ := cl_of (b := 2147483648) hf39 (by omega) (by decide)
          replace hR := bnd_step hR ez23
          first | rw [bnd_eq, ← ez23] at hE | replace hE := bndP_step hE ez23
          refine mi_as hz25 ?_
          subst hz26
          refine mi_ge (tgt := 157) hx hb dMH_expand_17 (by decide) (by omega) (by omega) (fun h23 => ?_) (fun h23 => absurd h23 (by omega))
          refine mi_iinc (k := 1) (x := i21) (d := 1) (y := i21 + 1) (lv' := [(2, .int (nI (i21 + 1))), (3, .int (nI i22)), (0, .ref h0), (1, .ref b)]) hx hb dMH_expand_157 hl rfl (by decide) rfl (by decide) rfl (fun ls hl => ?_)
          refine lv_goto (tgt := 2) hx hb dMH_expand_160 (by decide) ?_
          exact ih21 (i21 + 1) s22 pl ls H locs (by omega) hF hf37 hf38 hf39 hf40 hf41 hf42 hf43 hf44 hE hR (lv_sub hl [0, 2, 3] rfl) hO hP hD hS
        | succ n22 ih22 =>
          intro i22 s22 pl ls H locs hm22 hF hf45 hf46 hf47 hf48 hf49 hf50 hf51 hf52 hE hR hl hO hP hD hS
          refine lv_iload_n hx hb dMH_expand_12 rfl (lv_at hl 0 rfl) ?_
          refine lv_aload_n hx hb dMH_expand_13 rfl (lv_at hl 2 rfl) ?_
          refine nw_get (C := "LatticeKeysModel$Hands") (TT := T_MH) (N := 31) hx hb hts (wg_ft i_MH) hown hK hO k_h0 (kn := 225) (ci := 12) (fl := [(3, 172), (3, 181), (3, 226), (3, 291), (3, 299), (3, 308), (3, 317), (3, 326), (3, 334), (3, 342), (3, 350), (3, 359), (3, 368), (3, 369), (3, 370), (3, 371), (3, 372), (3, 373), (3, 374), (3, 375), (3, 376), (3, 377), (3, 378), (0, 0), (0, 0), (0, 0), (0, 0), (0, 0), (0, 0), (0, 0), (0, 0)]) rfl hP rfl 25 (by decide) (hts _ (wg_t kw_1457)) (fun _ h9 => h9) (cd := (0, 0)) rfl dMH_expand_14 (fun v24 hv24 => ?_)
          obtain rfl := (show v24 = .int (s22.1 225 25) from hv24)
          obtain ⟨z24, ez24, hz27, hz28⟩ := cl_of (b := 2147483648) hf47 (by omega) (by decide)
          replace hR := bnd_step hR ez24
          first | rw [bnd_eq, ← ez24] at hE | replace hE := bndP_step hE ez24
          refine mi_as hz27 ?_
          subst hz28
          refine mi_ge (tgt := 157) hx hb dMH_expand_17 (by decide) (by omega) (by omega) (fun h24 => absurd h24 (by omega)) (fun h24 => ?_)
          refine lv_aload_n hx hb dMH_expand_20 rfl (lv_at hl 2 rfl) ?_
          refine nw_get (C := "LatticeKeysModel$Hands") (TT := T_MH) (N := 31) hx hb hts (wg_ft i_MH) hown hK hO k_h0 (kn := 225) (ci := 12) (fl := [(3, 172), (3, 181), (3, 226), (3, 291), (3, 299), (3, 308), (3, 317), (3, 326), (3, 334), (3, 342), (3, 350), (3, 359), (3, 368), (3, 369), (3, 370), (3, 371), (3, 372), (3, 373), (3, 374), (3, 375), (3, 376), (3, 377), (3, 378), (0, 0), (0, 0), (0, 0), (0, 0), (0, 0), (0, 0), (0, 0), (0, 0)]) rfl hP rfl 0 (by decide) (hts _ (wg_t kw_1432)) (fun _ h9 => h9) (cd := (3, 172)) rfl dMH_expand_21 (fun v25 hv25 => ?_)
          obtain ⟨r21, rfl, kr21⟩ := (show ∃ r : Nat, v25 = .ref r ∧ T r = some 172 from hv25)
          refine lv_sipush (v := nI 168) hx hb dMH_expand_24 (by decide) ?_
          refine lv_bipush (v := nI 31) hx hb dMH_expand_27 (by decide) ?_
          refine mp_v (cx := []) (wr := []) hP hD hS hA [] [] rfl rfl rfl (by decide) (va_runV (As := [.int (nI 168), .int (nI 31)]) (rest := []) F (N_MS_begin l g _ T s22 pl hO hU r21 168 (nI 31) kr21 (by omega)) (cwV 2 hts (wg_app (wg_c kw_1727 (wg_c kw_1608 (wg_c kw_1609 (wg_c kw_10 wg_n)))) kw_1610) rfl rfl rfl (by decide +kernel) ⟨by decide, by decide⟩) (pn_W "LatticeKeysModel$Sponge" (en_ok g) (ci := 9) (kn := 172) (fl := [(3, 173), (3, 174), (3, 175), (3, 176), (3, 177), (0, 0), (0, 0), (0, 0)]) hK hO kr21 rfl hP hD hS hA hEn [] rfl rfl rfl) rfl rfl hl.1 rfl (lv_room (Nat.le_of_ble_eq_true rfl)) dMH_expand_29 ⟨by omega, by omega⟩) (fun  u21 H locs hu21 hP hD hS => ?_)
          obtain ⟨s23, pl⟩ := u21
          obtain ⟨⟨eq21, hFc21, ⟨x21, hx_21, hb_21⟩, ⟨x22, hx_22, hb_22⟩, -⟩, hO⟩ := hu21
          have hO : okn g T s23 pl := hO
          have hP : va_P g.1 vcl ([] ++ pl) _ := hP
          have hD : va_D _ ([] ++ pl) := hD
          have hFc21 : frm (M_MS_begin) s22 s23 := hFc21
          have hb_21 : x21 = 0 := hb_21
          have hb_22 : x22 = 168 := hb_22
          replace hR := bnd_step hR eq21
          first | rw [bnd_eq, ← eq21] at hE | replace hE := bndP_step hE eq21
          have hF := frm_tr hF hFc21 (fun k hk => by unfold M_MS_begin at hk; unfold M_MH_expand_2; omega)
          have hf53 : s23.1 225 23 = nI 2 := fc_F hf45 hFc21 (by unfold M_MS_begin; omega)
          have hf54 : s23.1 225 24 = nI 8 := fc_F hf46 hFc21 (by unfold M_MS_begin; omega)
          have hf55 : s23.1 225 25 = nI 7 := fc_F hf47 hFc21 (by unfold M_MS_begin; omega)
          have hf56 : s23.1 225 26 = nI 2 := fc_F hf48 hFc21 (by unfold M_MS_begin; omega)
          have hf57 : s23.1 225 27 = nI 524288 := fc_F hf49 hFc21 (by unfold M_MS_begin; omega)
          have hf58 : s23.1 225 28 = nI 261888 := fc_F hf50 hFc21 (by unfold M_MS_begin; omega)
          have hf59 : s23.1 225 29 = nI 120 := fc_F hf51 hFc21 (by unfold M_MS_begin; omega)
          have hf60 : s23.1 225 30 = nI 64 := fc_F hf52 hFc21 (by unfold M_MS_begin; omega)
          refine W.widen (k := 0) (n := 0) (by omega) (by omega) ?_
          refine lv_aload_n hx hb dMH_expand_32 rfl (lv_at hl 2 rfl) ?_
          refine nw_get (C := "LatticeKeysModel$Hands") (TT := T_MH) (N := 31) hx hb hts (wg_ft i_MH) hown hK hO k_h0 (kn := 225) (ci := 12) (fl := [(3, 172), (3, 181), (3, 226), (3, 291), (3, 299), (3, 308), (3, 317), (3, 326), (3, 334), (3, 342), (3, 350), (3, 359), (3, 368), (3, 369), (3, 370), (3, 371), (3, 372), (3, 373), (3, 374), (3, 375), (3, 376), (3, 377), (3, 378), (0, 0), (0, 0), (0, 0), (0, 0), (0, 0), (0, 0), (0, 0), (0, 0)]) rfl hP rfl 0 (by decide) (hts _ (wg_t kw_1432)) (fun _ h9 => h9) (cd := (3, 172)) rfl dMH_expand_33 (fun v26 hv26 => ?_)
          obtain ⟨r22, rfl, kr22⟩ := (show ∃ r : Nat, v26 = .ref r ∧ T r = some 172 from hv26)
          refine lv_aload_n hx hb dMH_expand_36 rfl (lv_at hl 3 rfl) ?_
          refine lv_iconst (v := nI 0) hx hb dMH_expand_37 (by decide) ?_
          refine lv_bipush (v := nI 32) hx hb dMH_expand_38 (by decide) ?_
          refine mp_v (cx := []) (wr := []) hP hD hS hA [] [] rfl rfl rfl (by decide) (va_runV (As := [.ref b, .int (nI 0), .int (nI 32)]) (rest := []) F (N_MS_puts l g _ T s23 pl hO hU r22 b pb n 0 32 x21 x22 kr22 k_b n_b hx_21 hx_22 (by omega) (by omega) (by omega) (by omega)) (cwV 3 hts (wg_app (wg_c kw_1719 (wg_c kw_1612 (wg_c kw_1613 (wg_c kw_10 wg_n)))) kw_1614) rfl rfl rfl (by decide +kernel) ⟨by decide, by decide⟩) (pn_W "LatticeKeysModel$Sponge" (en_ok g) (ci := 9) (kn := 172) (fl := [(3, 173), (3, 174), (3, 175), (3, 176), (3, 177), (0, 0), (0, 0), (0, 0)]) hK hO kr22 rfl hP hD hS hA hEn [] rfl rfl rfl) rfl rfl hl.1 rfl (lv_room (Nat.le_of_ble_eq_true rfl)) dMH_expand_40 ⟨by omega, by omega⟩) (fun  u22 H locs hu22 hP hD hS => ?_)
          obtain ⟨s24, pl⟩ := u22
          obtain ⟨⟨eq22, hFc22, ⟨x24, hx_24, hb_24⟩, ⟨x25, hx_25, hb_25⟩, -⟩, hO⟩ := hu22
          have hO : okn g T s24 pl := hO
          have hP : va_P g.1 vcl ([] ++ pl) _ := hP
          have hD : va_D _ ([] ++ pl) := hD
          have hFc22 : frm (M_MS_puts) s23 s24 := hFc22
          have hb_24 : x24 < x22 := hb_24
          have hb_25 : x25 = x22 := hb_25
          replace hR := bnd_step hR eq22
          first | rw [bnd_eq, ← eq22] at hE | replace hE := bndP_step hE eq22
          have hF := frm_tr hF hFc22 (fun k hk => by unfold M_MS_puts at hk; unfold M_MH_expand_2; omega)
          have hf61 : s24.1 225 23 = nI 2 := fc_F hf53 hFc22 (by unfold M_MS_puts; omega)
          have hf62 : s24.1 225 24 = nI 8 := fc_F hf54 hFc22 (by unfold M_MS_puts; omega)
          have hf63 : s24.1 225 25 = nI 7 := fc_F hf55 hFc22 (by unfold M_MS_puts; omega)
          have hf64 : s24.1 225 26 = nI 2 := fc_F hf56 hFc22 (by unfold M_MS_puts; omega)
          have hf65 : s24.1 225 27 = nI 524288 := fc_F hf57 hFc22 (by unfold M_MS_puts; omega)
          have hf66 : s24.1 225 28 = nI 261888 := fc_F hf58 hFc22 (by unfold M_MS_puts; omega)
          have hf67 : s24.1 225 29 = nI 120 := fc_F hf59 hFc22 (by unfold M_MS_puts; omega)
          have hf68 : s24.1 225 30 = nI 64 := fc_F hf60 hFc22 (by unfold M_MS_puts; omega)
          refine W.widen (k := 0) (n := 0) (by omega) (by omega) ?_
          refine lv_aload_n hx hb dMH_expand_43 rfl (lv_at hl 2 rfl) ?_
          refine nw_get (C := "LatticeKeysModel$Hands") (TT := T_MH) (N := 31) hx hb hts (wg_ft i_MH) hown hK hO k_h0 (kn := 225) (ci := 12) (fl := [(3, 172), (3, 181), (3, 226), (3, 291), (3, 299), (3, 308), (3, 317), (3, 326), (3, 334), (3, 342), (3, 350), (3, 359), (3, 368), (3, 369), (3, 370), (3, 371), (3, 372), (3, 373), (3, 374), (3, 375), (3, 376), (3, 377), (3, 378), (0, 0), (0, 0), (0, 0), (0, 0), (0, 0), (0, 0), (0, 0), (0, 0)]) rfl hP rfl 0 (by decide) (hts _ (wg_t kw_1432)) (fun _ h9 => h9) (cd := (3, 172)) rfl dMH_expand_44 (fun v27 hv27 => ?_)
          obtain ⟨r23, rfl, kr23⟩ := (show ∃ r : Nat, v27 = .ref r ∧ T r = some 172 from hv27)
          refine lv_iload_n hx hb dMH_expand_47 rfl (lv_at hl 0 rfl) ?_
          refine mp_v (cx := []) (wr := []) hP hD hS hA [] [] rfl rfl rfl (by decide) (va_runV (As := [.int (nI i22)]) (rest := []) F (N_MS_put l g _ T s24 pl hO hU r23 (nI i22) x24 x25 kr23 hx_24 hx_25 (by omega) (by omega)) (cwV 1 hts (wg_app (wg_c kw_1720 (wg_c kw_1616 (wg_c kw_1617 (wg_c kw_10 wg_n)))) kw_1618) rfl rfl rfl (by decide +kernel) ⟨by decide, by decide⟩) (pn_W "LatticeKeysModel$Sponge" (en_ok g) (ci := 9) (kn := 172) (fl := [(3, 173), (3, 174), (3, 175), (3, 176), (3, 177), (0, 0), (0, 0), (0, 0)]) hK hO kr23 rfl hP hD hS hA hEn [] rfl rfl rfl) rfl rfl hl.1 rfl (lv_room (Nat.le_of_ble_eq_true rfl)) dMH_expand_48 ⟨by omega, by omega⟩) (fun  u23 H locs hu23 hP hD hS => ?_)
          obtain ⟨s25, pl⟩ := u23
          obtain ⟨⟨eq23, hFc23, ⟨x27, hx_27, hb_27⟩, ⟨x28, hx_28, hb_28⟩, -⟩, hO⟩ := hu23
          have hO : okn g T s25 pl := hO
          have hP : va_P g.1 vcl ([] ++ pl) _ := hP
          have hD : va_D _ ([] ++ pl) := hD
          have hFc23 : frm (M_MS_put) s24 s25 := hFc23
          have hb_27 : x27 < x25 := hb_27
          have hb_28 : x28 = x25 := hb_28
          replace hR := bnd_step hR eq23
          first | rw [bnd_eq, ← eq23] at hE | replace hE := bndP_step hE eq23
          have hF := frm_tr hF hFc23 (fun k hk => by unfold M_MS_put at hk; unfold M_MH_expand_2; omega)
          have hf69 : s25.1 225 23 = nI 2 := fc_F hf61 hFc23 (by unfold M_MS_put; omega)
          have hf70 : s25.1 225 24 = nI 8 := fc_F hf62 hFc23 (by unfold M_MS_put; omega)
          have hf71 : s25.1 225 25 = nI 7 := fc_F hf63 hFc23 (by unfold M_MS_put; omega)
          have hf72 : s25.1 225 26 = nI 2 := fc_F hf64 hFc23 (by unfold M_MS_put; omega)
          have hf73 : s25.1 225 27 = nI 524288 := fc_F hf65 hFc23 (by unfold M_MS_put; omega)
          have hf74 : s25.1 225 28 = nI 261888 := fc_F hf66 hFc23 (by unfold M_MS_put; omega)
          have hf75 : s25.1 225 29 = nI 120 := fc_F hf67 hFc23 (by unfold M_MS_put; omega)
          have hf76 : s25.1 225 30 = nI 64 := fc_F hf68 hFc23 (by unfold M_MS_put; omega)
          refine W.widen (k := 0) (n := 0) (by omega) (by omega) ?_
          refine lv_aload_n hx hb dMH_expand_51 rfl (lv_at hl 2 rfl) ?_
          refine nw_get (C := "LatticeKeysModel$Hands") (TT := T_MH) (N := 31) hx hb hts (wg_ft i_MH) hown hK hO k_h0 (kn := 225) (ci := 12) (fl := [(3, 172), (3, 181), (3, 226), (3, 291), (3, 299), (3, 308), (3, 317), (3, 326), (3, 334), (3, 342), (3, 350), (3, 359), (3, 368), (3, 369), (3, 370), (3, 371), (3, 372), (3, 373), (3, 374), (3, 375), (3, 376), (3, 377), (3, 378), (0, 0), (0, 0), (0, 0), (0, 0), (0, 0), (0, 0), (0, 0), (0, 0)]) rfl hP rfl 0 (by decide) (hts _ (wg_t kw_1432)) (fun _ h9 => h9) (cd := (3, 172)) rfl dMH_expand_52 (fun v28 hv28 => ?_)
          obtain ⟨r24, rfl, kr24⟩ := (show ∃ r : Nat, v28 = .ref r ∧ T r = some 172 from hv28)
          refine lv_iload_n hx hb dMH_expand_55 rfl (lv_at hl 1 rfl) ?_
          refine mp_v (cx := []) (wr := []) hP hD hS hA [] [] rfl rfl rfl (by decide) (va_runV (As := [.int (nI i21)]) (rest := []) F (N_MS_put l g _ T s25 pl hO hU r24 (nI i21) x27 x28 kr24 hx_27 hx_28 (by omega) (by omega)) (cwV 1 hts (wg_app (wg_c kw_1720 (wg_c kw_1616 (wg_c kw_1617 (wg_c kw_10 wg_n)))) kw_1618) rfl rfl rfl (by decide +kernel) ⟨by decide, by decide⟩) (pn_W "LatticeKeysModel$Sponge" (en_ok g) (ci := 9) (kn := 172) (fl := [(3, 173), (3, 174), (3, 175), (3, 176), (3, 177), (0, 0), (0, 0), (0, 0)]) hK hO kr24 rfl hP hD hS hA hEn [] rfl rfl rfl) rfl rfl hl.1 rfl (lv_room (Nat.le_of_ble_eq_true rfl)) dMH_expand_56 ⟨by omega, by omega⟩) (fun  u24 H locs hu24 hP hD hS => ?_)
          obtain ⟨s26, pl⟩ := u24
          obtain ⟨⟨eq24, hFc24, ⟨x30, hx_30, hb_30⟩, ⟨x31, hx_31, hb_31⟩, -⟩, hO⟩ := hu24
          have hO : okn g T s26 pl := hO
          have hP : va_P g.1 vcl ([] ++ pl) _ := hP
          have hD : va_D _ ([] ++ pl) := hD
          have hFc24 : frm (M_MS_put) s25 s26 := hFc24
          have hb_30 : x30 < x28 := hb_30
          have hb_31 : x31 = x28 := hb_31
          replace hR := bnd_step hR eq24
          first | rw [bnd_eq, ← eq24] at hE | replace hE := bndP_step hE eq24
          have hF := frm_tr hF hFc24 (fun k hk => by unfold M_MS_put at hk; unfold M_MH_expand_2; omega)
          have hf77 : s26.1 225 23 = nI 2 := fc_F hf69 hFc24 (by unfold M_MS_put; omega)
          have hf78 : s26.1 225 24 = nI 8 := fc_F hf70 hFc24 (by unfold M_MS_put; omega)
          have hf79 : s26.1 225 25 = nI 7 := fc_F hf71 hFc24 (by unfold M_MS_put; omega)
          have hf80 : s26.1 225 26 = nI 2 := fc_F hf72 hFc24 (by unfold M_MS_put; omega)
          have hf81 : s26.1 225 27 = nI 524288 := fc_F hf73 hFc24 (by unfold M_MS_put; omega)
          have hf82 : s26.1 225 28 = nI 261888 := fc_F hf74 hFc24 (by unfold M_MS_put; omega)
          have hf83 : s26.1 225 29 = nI 120 := fc_F hf75 hFc24 (by unfold M_MS_put; omega)
          have hf84 : s26.1 225 30 = nI 64 := fc_F hf76 hFc24 (by unfold M_MS_put; omega)
          refine W.widen (k := 0) (n := 0) (by omega) (by omega) ?_
          refine lv_aload_n hx hb dMH_expand_59 rfl (lv_at hl 2 rfl) ?_
          refine nw_get (C := "LatticeKeysModel$Hands") (TT := T_MH) (N := 31) hx hb hts (wg_ft i_MH) hown hK hO k_h0 (kn := 225) (ci := 12) (fl := [(3, 172), (3, 181), (3, 226), (3, 291), (3, 299), (3, 308), (3, 317), (3, 326), (3, 334), (3, 342), (3, 350), (3, 359), (3, 368), (3, 369), (3, 370), (3, 371), (3, 372), (3, 373), (3, 374), (3, 375), (3, 376), (3, 377), (3, 378), (0, 0), (0, 0), (0, 0), (0, 0), (0, 0), (0, 0), (0, 0), (0, 0)]) rfl hP rfl 0 (by decide) (hts _ (wg_t kw_1432)) (fun _ h9 => h9) (cd := (3, 172)) rfl dMH_expand_60 (fun v29 hv29 => ?_)
          obtain ⟨r25, rfl, kr25⟩ := (show ∃ r : Nat, v29 = .ref r ∧ T r = some 172 from hv29)
          refine mp_v (cx := []) (wr := []) hP hD hS hA [] [] rfl rfl rfl (by decide) (va_runV (As := []) (rest := []) F (N_MS_end l g _ T s26 pl hO hU r25 x30 x31 kr25 hx_30 hx_31 (by omega) (by omega)) (cwV 0 hts (wg_app (wg_c kw_1721 (wg_c kw_1634 (wg_c kw_1635 (wg_c kw_10 wg_n)))) kw_1636) rfl rfl rfl (by decide +kernel) ⟨by decide, by decide⟩) (pn_W "LatticeKeysModel$Sponge" (en_ok g) (ci := 9) (kn := 172) (fl := [(3, 173), (3, 174), (3, 175), (3, 176), (3, 177), (0, 0), (0, 0), (0, 0)]) hK hO kr25 rfl hP hD hS hA hEn [] rfl rfl rfl) rfl rfl hl.1 rfl (lv_room (Nat.le_of_ble_eq_true rfl)) dMH_expand_63 ⟨by omega, by omega⟩) (fun  u25 H locs hu25 hP hD hS => ?_)
          obtain ⟨s27, pl⟩ := u25
          obtain ⟨⟨eq25, hFc25, ⟨x33, hx_33, hb_33⟩, ⟨x34, hx_34, hb_34⟩, -⟩, hO⟩ := hu25
          have hO : okn g T s27 pl := hO
          have hP : va_P g.1 vcl ([] ++ pl) _ := hP
          have hD : va_D _ ([] ++ pl) := hD
          have hFc25 : frm (M_MS_end) s26 s27 := hFc25
          have hb_33 : x33 = 0 := hb_33
          have hb_34 : x34 = x31 := hb_34
          replace hR := bnd_step hR eq25
          first | rw [bnd_eq, ← eq25] at hE | replace hE := bndP_step hE eq25
          have hF := frm_tr hF hFc25 (fun k hk => by unfold M_MS_end at hk; unfold M_MH_expand_2; omega)
          have hf85 : s27.1 225 23 = nI 2 := fc_F hf77 hFc25 (by unfold M_MS_end; omega)
          have hf86 : s27.1 225 24 = nI 8 := fc_F hf78 hFc25 (by unfold M_MS_end; omega)
          have hf87 : s27.1 225 25 = nI 7 := fc_F hf79 hFc25 (by unfold M_MS_end; omega)
          have hf88 : s27.1 225 26 = nI 2 := fc_F hf80 hFc25 (by unfold M_MS_end; omega)
          have hf89 : s27.1 225 27 = nI 524288 := fc_F hf81 hFc25 (by unfold M_MS_end; omega)
          have hf90 : s27.1 225 28 = nI 261888 := fc_F hf82 hFc25 (by unfold M_MS_end; omega)
          have hf91 : s27.1 225 29 = nI 120 := fc_F hf83 hFc25 (by unfold M_MS_end; omega)
          have hf92 : s27.1 225 30 = nI 64 := fc_F hf84 hFc25 (by unfold M_MS_end; omega)
          refine W.widen (k := 0) (n := 0) (by omega) (by omega) ?_
          refine lv_iconst (v := nI 0) hx hb dMH_expand_66 (by decide) ?_
          refine lv_istore (lv' := [(4, .int (nI 0)), (3, .int (nI i22)), (2, .int (nI i21)), (0, .ref h0), (1, .ref b)]) hx hb dMH_expand_67 hl (by decide) rfl (fun ls hl => ?_)
          have lp23 : ∀ (n23 : Nat) (nn21 : Nat) (s28 : Sto) (ps21 : Nat) (pl : va_W) (ls : Array Slot) (H : Heap) (locs : List Loc), 0 = 0 → (nn21 ≤ 256) → (ps21 ≤ 168) → frm (M_MH_expand_2) s s28 → s28.1 225 23 = nI 2 → s28.1 225 24 = nI 8 → s28.1 225 25 = nI 7 → s28.1 225 26 = nI 2 → s28.1 225 27 = nI 524288 → s28.1 225 28 = nI 261888 → s28.1 225 29 = nI 120 → s28.1 225 30 = nI 64 → s28.1 172 6 = nI ps21 → s28.1 172 5 = nI x34 → E_MH_expand_2_L2 i21 i22 (E_MH_expand_2_L1 pb n i21 (E_MH_expand_2_L0 pb n n21) n22) n23 nn21 s28 → F_MH_expand_2 pb n s = F_MH_expand_2_L2 i21 i22 (F_MH_expand_2_L1 pb n i21 (F_MH_expand_2_L0 pb n n21) n22) n23 nn21 s28 → lv_has ls 6 [(4, .int (nI nn21)), (3, .int (nI i22)), (2, .int (nI i21)), (0, .ref h0), (1, .ref b)] → okn g T s28 pl → va_P g.1 vcl ([] ++ pl) H → va_D A ([] ++ pl) → va_S A s0.heap H locs → W p l e ({ frames := 4, cells := 0, slots := 0, locals := 90 } : Room) s0 m args below meth c H locs 0 0 (MQ below (va_Qv (fun (u : (Sto) × va_W) => (u.1 = F_MH_expand_2 pb n s ∧ frm (M_MH_expand_2) s u.1 ∧ True) ∧ okn g T u.1 u.2) (po g.1 vcl A (fun (u : (Sto) × va_W) => [] ++ u.2)) A) args s0 0 0 A) (F0 m 69 ls []) := by
            intro n23
            induction n23 with
            | zero =>
              intro nn21 s28 ps21 pl ls H locs hm23 hi21 hi22 hF hf93 hf94 hf95 hf96 hf97 hf98 hf99 hf100 hf101 hf102 hE hR hl hO hP hD hS
              refine lv_iload hx hb dMH_expand_69 (lv_at hl 0 rfl) ?_
              refine lv_sipush (v := nI 256) hx hb dMH_expand_71 (by decide) ?_
              refine mi_ge (tgt := 151) hx hb dMH_expand_74 (by decide) (by omega) (by omega) (fun h25 => ?_) (fun h25 => absurd h25 (by have h9 : 256 ≤ nn21 := hE.1; omega))
              replace hE := hE.2
              refine mi_iinc (k := 1) (x := i22) (d := 1) (y := i22 + 1) (lv' := [(3, .int (nI (i22 + 1))), (4, .int (nI nn21)), (2, .int (nI i21)), (0, .ref h0), (1, .ref b)]) hx hb dMH_expand_151 hl rfl (by decide) rfl (by decide) rfl (fun ls hl => ?_)
              refine lv_goto (tgt := 12) hx hb dMH_expand_154 (by decide) ?_
              exact ih22 (i22 + 1) s28 pl ls H locs (by omega) hF hf93 hf94 hf95 hf96 hf97 hf98 hf99 hf100 hE hR (lv_sub hl [0, 2, 3, 4] rfl) hO hP hD hS
            | succ n23 ih23 =>
              intro nn21 s28 ps21 pl ls H locs hm23 hi21 hi22 hF hf103 hf104 hf105 hf106 hf107 hf108 hf109 hf110 hf111 hf112 hE hR hl hO hP hD hS
              refine lv_iload hx hb dMH_expand_69 (lv_at hl 0 rfl) ?_
              refine lv_sipush (v := nI 256) hx hb dMH_expand_71 (by decide) ?_
              refine mi_ge (tgt := 151) hx hb dMH_expand_74 (by decide) (by omega) (by omega) (fun h26 => ?_) (fun h26 => ?_)
              · replace hR := hR.trans (if_pos h26)
                first | rw [if_pos h26] at hE | rw [E_MH_expand_2_L0, if_pos h26] at hE | rw [E_MH_expand_2_L1, if_pos h26] at hE | rw [E_MH_expand_2_L2, if_pos h26] at hE | rw [E_MH_expand_2_L3, if_pos h26] at hE | rw [E_MH_expand_2_L4, if_pos h26] at hE | rw [E_MH_expand_2_L5, if_pos h26] at hE | rw [E_MH_expand_2_L6, if_pos h26] at hE | rw [E_MH_expand_2_L7, if_pos h26] at hE | rw [E_MH_expand_2_L8, if_pos h26] at hE | replace hE := iteP_pos h26 hE
                refine mi_iinc (k := 1) (x := i22) (d := 1) (y := i22 + 1) (lv' := [(3, .int (nI (i22 + 1))), (4, .int (nI nn21)), (2, .int (nI i21)), (0, .ref h0), (1, .ref b)]) hx hb dMH_expand_151 hl rfl (by decide) rfl (by decide) rfl (fun ls hl => ?_)
                refine lv_goto (tgt := 12) hx hb dMH_expand_154 (by decide) ?_
                exact ih22 (i22 + 1) s28 pl ls H locs (by omega) hF hf103 hf104 hf105 hf106 hf107 hf108 hf109 hf110 hE hR (lv_sub hl [0, 2, 3, 4] rfl) hO hP hD hS
              · replace hR := hR.trans (if_neg (Nat.not_le.mpr h26))
                first | rw [if_neg (Nat.not_le.mpr h26)] at hE | rw [E_MH_expand_2_L0, if_neg (Nat.not_le.mpr h26)] at hE | rw [E_MH_expand_2_L1, if_neg (Nat.not_le.mpr h26)] at hE | rw [E_MH_expand_2_L2, if_neg (Nat.not_le.mpr h26)] at hE | rw [E_MH_expand_2_L3, if_neg (Nat.not_le.mpr h26)] at hE | rw [E_MH_expand_2_L4, if_neg (Nat.not_le.mpr h26)] at hE | rw [E_MH_expand_2_L5, if_neg (Nat.not_le.mpr h26)] at hE | rw [E_MH_expand_2_L6, if_neg (Nat.not_le.mpr h26)] at hE | rw [E_MH_expand_2_L7, if_neg (Nat.not_le.mpr h26)] at hE | rw [E_MH_expand_2_L8, if_neg (Nat.not_le.mpr h26)] at hE | replace hE := iteP_neg (Nat.not_le.mpr h26) hE
                refine lv_aload_n hx hb dMH_expand_77 rfl (lv_at hl 3 rfl) ?_
                refine nw_get (C := "LatticeKeysModel$Hands") (TT := T_MH) (N := 31) hx hb hts (wg_ft i_MH) hown hK hO k_h0 (kn := 225) (ci := 12) (fl := [(3, 172), (3, 181), (3, 226), (3, 291), (3, 299), (3, 308), (3, 317), (3, 326), (3, 334), (3, 342), (3, 350), (3, 359), (3, 368), (3, 369), (3, 370), (3, 371), (3, 372), (3, 373), (3, 374), (3, 375), (3, 376), (3, 377), (3, 378), (0, 0), (0, 0), (0, 0), (0, 0), (0, 0), (0, 0), (0, 0), (0, 0)]) rfl hP rfl 0 (by decide) (hts _ (wg_t kw_1432)) (fun _ h9 => h9) (cd := (3, 172)) rfl dMH_expand_78 (fun v30 hv30 => ?_)
                obtain ⟨r26, rfl, kr26⟩ := (show ∃ r : Nat, v30 = .ref r ∧ T r = some 172 from hv30)
                refine mp_i (cx := []) (wr := []) hP hD hS hA [] [] rfl rfl rfl (by decide) (va_runV (As := []) (rest := []) F (N_MS_next l g _ T s28 pl hO hU r26 ps21 x34 kr26 hf111 hf112 (by omega) (by omega)) (cwV 0 hts (wg_app (wg_c kw_1728 (wg_c kw_1642 (wg_c kw_1643 (wg_c kw_10 wg_n)))) kw_1644) rfl rfl rfl (by decide +kernel) ⟨by decide, by decide⟩) (pn_W "LatticeKeysModel$Sponge" (en_ok g) (ci := 9) (kn := 172) (fl := [(3, 173), (3, 174), (3, 175), (3, 176), (3, 177), (0, 0), (0, 0), (0, 0)]) hK hO kr26 rfl hP hD hS hA hEn [] rfl rfl rfl) rfl rfl hl.1 rfl (lv_room (Nat.le_of_ble_eq_true rfl)) dMH_expand_81 ⟨by omega, by omega⟩) (fun r27 u26 H locs hu26 hP hD hS => ?_)
                obtain ⟨q21, pl⟩ := u26
                obtain ⟨⟨eq26, rfl, hFc26, ⟨x38, hx_38, hb_38⟩, ⟨x36, hx_36, hb_36⟩, ⟨x37, hx_37, hb_37⟩, -⟩, hO⟩ := hu26
                have hO : okn g T q21.2 pl := hO
                have hP : va_P g.1 vcl ([] ++ pl) _ := hP
                have hD : va_D _ ([] ++ pl) := hD
                have hFc26 : frm (M_MS_next) s28 q21.2 := hFc26
                have hb_36 : x36 ≤ x34 := hb_36
                have hb_37 : x37 = x34 := hb_37
                have hb_38 : x38 < 256 := hb_38
                replace hR := bnd_step hR eq26
                first | rw [bnd_eq, ← eq26] at hE | replace hE := bndP_step hE eq26
                have hF := frm_tr hF hFc26 (fun k hk => by unfold M_MS_next at hk; unfold M_MH_expand_2; omega)
                have hf113 : q21.2.1 225 23 = nI 2 := fc_F hf103 hFc26 (by unfold M_MS_next; omega)
                have hf114 : q21.2.1 225 24 = nI 8 := fc_F hf104 hFc26 (by unfold M_MS_next; omega)
                have hf115 : q21.2.1 225 25 = nI 7 := fc_F hf105 hFc26 (by unfold M_MS_next; omega)
                have hf116 : q21.2.1 225 26 = nI 2 := fc_F hf106 hFc26 (by unfold M_MS_next; omega)
                have hf117 : q21.2.1 225 27 = nI 524288 := fc_F hf107 hFc26 (by unfold M_MS_next; omega)
                have hf118 : q21.2.1 225 28 = nI 261888 := fc_F hf108 hFc26 (by unfold M_MS_next; omega)
                have hf119 : q21.2.1 225 29 = nI 120 := fc_F hf109 hFc26 (by unfold M_MS_next; omega)
                have hf120 : q21.2.1 225 30 = nI 64 := fc_F hf110 hFc26 (by unfold M_MS_next; omega)
                obtain ⟨z25, ez25, hz29, hz30⟩ := cl_of (b := 2147483648) hx_38 (by omega) (by decide)
                replace hR := bnd_step hR ez25
                first | rw [bnd_eq, ← ez25] at hE | replace hE := bndP_step hE ez25
                refine mi_as hz29 ?_
                refine W.widen (k := 0) (n := 0) (by omega) (by omega) ?_
                refine lv_istore (lv' := [(5, .int (nI z25)), (4, .int (nI nn21)), (3, .int (nI i22)), (2, .int (nI i21)), (0, .ref h0), (1, .ref b)]) hx hb dMH_expand_84 hl (by decide) rfl (fun ls hl => ?_)
                refine lv_iload hx hb dMH_expand_86 (lv_at hl 0 rfl) ?_
                refine lv_aload_n hx hb dMH_expand_88 rfl (lv_at hl 4 rfl) ?_
                refine nw_get (C := "LatticeKeysModel$Hands") (TT := T_MH) (N := 31) hx hb hts (wg_ft i_MH) hown hK hO k_h0 (kn := 225) (ci := 12) (fl := [(3, 172), (3, 181), (3, 226), (3, 291), (3, 299), (3, 308), (3, 317), (3, 326), (3, 334), (3, 342), (3, 350), (3, 359), (3, 368), (3, 369), (3, 370), (3, 371), (3, 372), (3, 373), (3, 374), (3, 375), (3, 376), (3, 377), (3, 378), (0, 0), (0, 0), (0, 0), (0, 0), (0, 0), (0, 0), (0, 0), (0, 0)]) rfl hP rfl 0 (by decide) (hts _ (wg_t kw_1432)) (fun _ h9 => h9) (cd := (3, 172)) rfl dMH_expand_89 (fun v31 hv31 => ?_)
                obtain ⟨r28, rfl, kr27⟩ := (show ∃ r : Nat, v31 = .ref r ∧ T r = some 172 from hv31)
                refine mp_i (cx := []) (wr := []) hP hD hS hA [] [] rfl rfl rfl (by decide) (va_runV (As := []) (rest := [.int (nI z25)]) F (N_MS_next l g _ T q21.2 pl hO hU r28 x36 x37 kr27 hx_36 hx_37 (by omega) (by omega)) (cwV 0 hts (wg_app (wg_c kw_1728 (wg_c kw_1642 (wg_c kw_1643 (wg_c kw_10 wg_n)))) kw_1644) rfl rfl rfl (by decide +kernel) ⟨by decide, by decide⟩) (pn_W "LatticeKeysModel$Sponge" (en_ok g) (ci := 9) (kn := 172) (fl := [(3, 173), (3, 174), (3, 175), (3, 176), (3, 177), (0, 0), (0, 0), (0, 0)]) hK hO kr27 rfl hP hD hS hA hEn [] rfl rfl rfl) rfl rfl hl.1 rfl (lv_room (Nat.le_of_ble_eq_true rfl)) dMH_expand_92 ⟨by omega, by omega⟩) (fun r29 u27 H locs hu27 hP hD hS => ?_)
                obtain ⟨q22, pl⟩ := u27
                obtain ⟨⟨eq27, rfl, hFc27, ⟨x41, hx_41, hb_41⟩, ⟨x39, hx_39, hb_39⟩, ⟨x40, hx_40, hb_40⟩, -⟩, hO⟩ := hu27
                have hO : okn g T q22.2 pl := hO
                have hP : va_P g.1 vcl ([] ++ pl) _ := hP
                have hD : va_D _ ([] ++ pl) := hD
                have hFc27 : frm (M_MS_next) q21.2 q22.2 := hFc27
                have hb_39 : x39 ≤ x37 := hb_39
                have hb_40 : x40 = x37 := hb_40
                have hb_41 : x41 < 256 := hb_41
                replace hR := bnd_step hR eq27
                first | rw [bnd_eq, ← eq27] at hE | replace hE := bndP_step hE eq27
                have hF := frm_tr hF hFc27 (fun k hk => by unfold M_MS_next at hk; unfold M_MH_expand_2; omega)
                have hf121 : q22.2.1 225 23 = nI 2 := fc_F hf113 hFc27 (by unfold M_MS_next; omega)
                have hf122 : q22.2.1 225 24 = nI 8 := fc_F hf114 hFc27 (by unfold M_MS_next; omega)
                have hf123 : q22.2.1 225 25 = nI 7 := fc_F hf115 hFc27 (by unfold M_MS_next; omega)
                have hf124 : q22.2.1 225 26 = nI 2 := fc_F hf116 hFc27 (by unfold M_MS_next; omega)
                have hf125 : q22.2.1 225 27 = nI 524288 := fc_F hf117 hFc27 (by unfold M_MS_next; omega)
                have hf126 : q22.2.1 225 28 = nI 261888 := fc_F hf118 hFc27 (by unfold M_MS_next; omega)
                have hf127 : q22.2.1 225 29 = nI 120 := fc_F hf119 hFc27 (by unfold M_MS_next; omega)
                have hf128 : q22.2.1 225 30 = nI 64 := fc_F hf120 hFc27 (by unfold M_MS_next; omega)
                obtain ⟨z26, ez26, hz31, hz32⟩ := cl_of (b := 2147483648) hx_41 (by omega) (by decide)
                replace hR := bnd_step hR ez26
                first | rw [bnd_eq, ← ez26] at hE | replace hE := bndP_step hE ez26
                refine mi_as hz31 ?_
                refine W.widen (k := 0) (n := 0) (by omega) (by omega) ?_
                refine lv_bipush (v := nI 8) hx hb dMH_expand_95 (by decide) ?_
                refine lv_ishl hx hb dMH_expand_97 ?_
                refine lv_iadd hx hb dMH_expand_98 ?_
                refine mi_eqv (fun z27 ez27 => ?_)
                replace hR := bnd_step hR ez27
                first | rw [bnd_eq, ← ez27] at hE | replace hE := bndP_step hE ez27
                refine lv_istore (lv' := [(5, .int z27), (4, .int (nI nn21)), (3, .int (nI i22)), (2, .int (nI i21)), (0, .ref h0), (1, .ref b)]) hx hb dMH_expand_99 hl (by decide) rfl (fun ls hl => ?_)
                refine lv_iload hx hb dMH_expand_101 (lv_at hl 0 rfl) ?_
                refine lv_aload_n hx hb dMH_expand_103 rfl (lv_at hl 4 rfl) ?_
                refine nw_get (C := "LatticeKeysModel$Hands") (TT := T_MH) (N := 31) hx hb hts (wg_ft i_MH) hown hK hO k_h0 (kn := 225) (ci := 12) (fl := [(3, 172), (3, 181), (3, 226), (3, 291), (3, 299), (3, 308), (3, 317), (3, 326), (3, 334), (3, 342), (3, 350), (3, 359), (3, 368), (3, 369), (3, 370), (3, 371), (3, 372), (3, 373), (3, 374), (3, 375), (3, 376), (3, 377), (3, 378), (0, 0), (0, 0), (0, 0), (0, 0), (0, 0), (0, 0), (0, 0), (0, 0)]) rfl hP rfl 0 (by decide) (hts _ (wg_t kw_1432)) (fun _ h9 => h9) (cd := (3, 172)) rfl dMH_expand_104 (fun v32 hv32 => ?_)
                obtain ⟨r30, rfl, kr28⟩ := (show ∃ r : Nat, v32 = .ref r ∧ T r = some 172 from hv32)
                refine mp_i (cx := []) (wr := []) hP hD hS hA [] [] rfl rfl rfl (by decide) (va_runV (As := []) (rest := [.int z27]) F (N_MS_next l g _ T q22.2 pl hO hU r30 x39 x40 kr28 hx_39 hx_40 (by omega) (by omega)) (cwV 0 hts (wg_app (wg_c kw_1728 (wg_c kw_1642 (wg_c kw_1643 (wg_c kw_10 wg_n)))) kw_1644) rfl rfl rfl (by decide +kernel) ⟨by decide, by decide⟩) (pn_W "LatticeKeysModel$Sponge" (en_ok g) (ci := 9) (kn := 172) (fl := [(3, 173), (3, 174), (3, 175), (3, 176), (3, 177), (0, 0), (0, 0), (0, 0)]) hK hO kr28 rfl hP hD hS hA hEn [] rfl rfl rfl) rfl rfl hl.1 rfl (lv_room (Nat.le_of_ble_eq_true rfl)) dMH_expand_107 ⟨by omega, by omega⟩) (fun r31 u28 H locs hu28 hP hD hS => ?_)
                obtain ⟨q23, pl⟩ := u28
                obtain ⟨⟨eq28, rfl, hFc28, ⟨x44, hx_44, hb_44⟩, ⟨x42, hx_42, hb_42⟩, ⟨x43, hx_43, hb_43⟩, -⟩, hO⟩ := hu28
                have hO : okn g T q23.2 pl := hO
                have hP : va_P g.1 vcl ([] ++ pl) _ := hP
                have hD : va_D _ ([] ++ pl) := hD
                have hFc28 : frm (M_MS_next) q22.2 q23.2 := hFc28
                have hb_42 : x42 ≤ x40 := hb_42
                have hb_43 : x43 = x40 := hb_43
                have hb_44 : x44 < 256 := hb_44
                replace hR := bnd_step hR eq28
                first | rw [bnd_eq, ← eq28] at hE | replace hE := bndP_step hE eq28
                have hF := frm_tr hF hFc28 (fun k hk => by unfold M_MS_next at hk; unfold M_MH_expand_2; omega)
                have hf129 : q23.2.1 225 23 = nI 2 := fc_F hf121 hFc28 (by unfold M_MS_next; omega)
                have hf130 : q23.2.1 225 24 = nI 8 := fc_F hf122 hFc28 (by unfold M_MS_next; omega)
                have hf131 : q23.2.1 225 25 = nI 7 := fc_F hf123 hFc28 (by unfold M_MS_next; omega)
                have hf132 : q23.2.1 225 26 = nI 2 := fc_F hf124 hFc28 (by unfold M_MS_next; omega)
                have hf133 : q23.2.1 225 27 = nI 524288 := fc_F hf125 hFc28 (by unfold M_MS_next; omega)
                have hf134 : q23.2.1 225 28 = nI 261888 := fc_F hf126 hFc28 (by unfold M_MS_next; omega)
                have hf135 : q23.2.1 225 29 = nI 120 := fc_F hf127 hFc28 (by unfold M_MS_next; omega)
                have hf136 : q23.2.1 225 30 = nI 64 := fc_F hf128 hFc28 (by unfold M_MS_next; omega)
                obtain ⟨z28, ez28, hz33, hz34⟩ := cl_of (b := 2147483648) hx_44 (by omega) (by decide)
                replace hR := bnd_step hR ez28
                first | rw [bnd_eq, ← ez28] at hE | replace hE := bndP_step hE ez28
                refine mi_as hz33 ?_
                refine W.widen (k := 0) (n := 0) (by omega) (by omega) ?_
                refine lv_bipush (v := nI 127) hx hb dMH_expand_110 (by decide) ?_
                refine lv_iand hx hb dMH_expand_112 ?_
                refine lv_bipush (v := nI 16) hx hb dMH_expand_113 (by decide) ?_
                refine lv_ishl hx hb dMH_expand_115 ?_
                refine lv_iadd hx hb dMH_expand_116 ?_
                refine mi_eqv (fun z29 ez29 => ?_)
                replace hR := bnd_step hR ez29
                first | rw [bnd_eq, ← ez29] at hE | replace hE := bndP_step hE ez29
                refine lv_istore (lv' := [(5, .int z29), (4, .int (nI nn21)), (3, .int (nI i22)), (2, .int (nI i21)), (0, .ref h0), (1, .ref b)]) hx hb dMH_expand_117 hl (by decide) rfl (fun ls hl => ?_)
                refine lv_iload hx hb dMH_expand_119 (lv_at hl 0 rfl) ?_
                refine lv_ldc (v := 8380417) hx hb hown (hts _ (wg_t kw_1429)) dMH_expand_121 ?_
                refine mi_as (show (8380417 : Int32) = nI 8380417 by decide) ?_
                refine lv_icmp_lt (tgt := 129) hx hb dMH_expand_123 (by decide) (fun h27 => ?_) (fun h27 => ?_)
                · replace hR := hR.trans (if_pos h27)
                  first | rw [if_pos h27] at hE | rw [E_MH_expand_2_L0, if_pos h27] at hE | rw [E_MH_expand_2_L1, if_pos h27] at hE | rw [E_MH_expand_2_L2, if_pos h27] at hE | rw [E_MH_expand_2_L3, if_pos h27] at hE | rw [E_MH_expand_2_L4, if_pos h27] at hE | rw [E_MH_expand_2_L5, if_pos h27] at hE | rw [E_MH_expand_2_L6, if_pos h27] at hE | rw [E_MH_expand_2_L7, if_pos h27] at hE | rw [E_MH_expand_2_L8, if_pos h27] at hE | replace hE := iteP_pos h27 hE
                  refine lv_aload_n hx hb dMH_expand_129 rfl (lv_at hl 4 rfl) ?_
                  refine nw_get (C := "LatticeKeysModel$Hands") (TT := T_MH) (N := 31) hx hb hts (wg_ft i_MH) hown hK hO k_h0 (kn := 225) (ci := 12) (fl := [(3, 172), (3, 181), (3, 226), (3, 291), (3, 299), (3, 308), (3, 317), (3, 326), (3, 334), (3, 342), (3, 350), (3, 359), (3, 368), (3, 369), (3, 370), (3, 371), (3, 372), (3, 373), (3, 374), (3, 375), (3, 376), (3, 377), (3, 378), (0, 0), (0, 0), (0, 0), (0, 0), (0, 0), (0, 0), (0, 0), (0, 0)]) rfl hP rfl 2 (by decide) (hts _ (wg_t kw_1434)) (fun _ h9 => h9) (cd := (3, 226)) rfl dMH_expand_130 (fun v33 hv33 => ?_)
                  obtain ⟨r32, rfl, kr29⟩ := (show ∃ r : Nat, v33 = .ref r ∧ T r = some 226 from hv33)
                  refine lv_bipush (v := nI 8) hx hb dMH_expand_133 (by decide) ?_
                  refine lv_iload_n hx hb dMH_expand_135 rfl (lv_at hl 3 rfl) ?_
                  refine mi_imul hx hb dMH_expand_136 ?_
                  refine lv_iload_n hx hb dMH_expand_137 rfl (lv_at hl 2 rfl) ?_
                  refine mi_iadd hx hb dMH_expand_138 ?_
                  refine nw_aald3 hx hb hK hO kr29 (k := 226) (b := 227) rfl hP (by omega) (by omega) dMH_expand_139 (fun r33 kr30 => ?_)
                  have hn21 : nsp (227 + ((8 * i21) + i22)) = (0, 256, []) := rows_ok 227 64 (by decide) _ (by omega)
                  refine lv_iload hx hb dMH_expand_140 (lv_at hl 1 rfl) ?_
                  refine lv_iload hx hb dMH_expand_142 (lv_at hl 0 rfl) ?_
                  refine nw_iast hx hb hK hO hU kr30 (k := (227 + ((8 * i21) + i22))) hn21 hP hD hS (by omega) (by omega) dMH_expand_144 (fun s29 pl H locs es21 hO hP hD hS => ?_)
                  replace hR := bnd_step hR es21
                  first | rw [bnd_eq, ← es21] at hE | replace hE := bndP_step hE es21
                  have hF := frm_sI hF es21 (by unfold M_MH_expand_2; omega)
                  have hf137 : s29.1 225 23 = nI 2 := fc_ne hf129 es21 (by omega)
                  have hf138 : s29.1 225 24 = nI 8 := fc_ne hf130 es21 (by omega)
                  have hf139 : s29.1 225 25 = nI 7 := fc_ne hf131 es21 (by omega)
                  have hf140 : s29.1 225 26 = nI 2 := fc_ne hf132 es21 (by omega)
                  have hf141 : s29.1 225 27 = nI 524288 := fc_ne hf133 es21 (by omega)
                  have hf142 : s29.1 225 28 = nI 261888 := fc_ne hf134 es21 (by omega)
                  have hf143 : s29.1 225 29 = nI 120 := fc_ne hf135 es21 (by omega)
                  have hf144 : s29.1 225 30 = nI 64 := fc_ne hf136 es21 (by omega)
                  have hf145 : s29.1 172 6 = nI x42 := fc_ne hx_42 es21 (by omega)
                  have hf146 : s29.1 172 5 = nI x43 := fc_ne hx_43 es21 (by omega)
                  refine mi_iinc (k := 1) (x := nn21) (d := 1) (y := nn21 + 1) (lv' := [(4, .int (nI (nn21 + 1))), (5, .int z29), (3, .int (nI i22)), (2, .int (nI i21)), (0, .ref h0), (1, .ref b)]) hx hb dMH_expand_145 hl rfl (by decide) rfl (by decide) rfl (fun ls hl => ?_)
                  refine lv_goto (tgt := 69) hx hb dMH_expand_148 (by decide) ?_
                  exact ih23 (nn21 + 1) s29 x42 pl ls H locs (by omega) (by omega) (by omega) hF hf137 hf138 hf139 hf140 hf141 hf142 hf143 hf144 hf145 (by have h9 := hf146; rw [show x43 = x34 by omega] at h9; exact h9) hE hR (lv_sub hl [0, 2, 3, 4, 5] rfl) hO hP hD hS
                · replace hR := hR.trans (if_neg h27)
                  first | rw [if_neg h27] at hE | rw [E_MH_expand_2_L0, if_neg h27] at hE | rw [E_MH_expand_2_L1, if_neg h27] at hE | rw [E_MH_expand_2_L2, if_neg h27] at hE | rw [E_MH_expand_2_L3, if_neg h27] at hE | rw [E_MH_expand_2_L4, if_neg h27] at hE | rw [E_MH_expand_2_L5, if_neg h27] at hE | rw [E_MH_expand_2_L6, if_neg h27] at hE | rw [E_MH_expand_2_L7, if_neg h27] at hE | rw [E_MH_expand_2_L8, if_neg h27] at hE | replace hE := iteP_neg h27 hE
                  refine lv_goto (tgt := 69) hx hb dMH_expand_126 (by decide) ?_
                  exact ih23 nn21 q23.2 x42 pl ls H locs (by omega) (by omega) (by omega) hF hf129 hf130 hf131 hf132 hf133 hf134 hf135 hf136 hx_42 (by have h9 := hx_43; rw [show x43 = x34 by omega] at h9; exact h9) hE hR (lv_sub hl [1, 2, 3, 4, 5] rfl) hO hP hD hS
          exact lp23 fuelM 0 s27 x33 pl ls _ _ (by omega) (by omega) (by omega) hF hf85 hf86 hf87 hf88 hf89 hf90 hf91 hf92 hx_33 hx_34 hE hR (lv_sub hl [0, 1, 2, 3, 4] rfl) hO hP hD hS
      exact lp22 7 0 s21 pl ls _ _ (by omega) hF hf29 hf30 hf31 hf32 hf33 hf34 hf35 hf36 hE hR (lv_sub hl [0, 1, 2, 3] rfl) hO hP hD hS
  exact lp21 8 0 s pl ls _ _ (by omega) hF e_c0 e_c1 e_c2 e_c3 e_c4 e_c5 e_c6 e_c7 hE hR (lv_sub hl [0, 1, 2] rfl) hO hP hD hS
