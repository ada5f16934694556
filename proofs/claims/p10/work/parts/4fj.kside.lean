set_option linter.all false
abbrev c_SP_init : ByteArray := prog_10_method_1_code
abbrev y_SP_init : MethodName := ⟨"LatticeKeys$Sponge", "<init>", "()V"⟩
abbrev w_SP_init : List Cond := Cond.code y_SP_init c_SP_init 1 none :: WG
theorem dSP_init_0 : decode c_SP_init 0 = .ok (.aload_n 0, 1) := by decide +kernel
theorem dSP_init_1 : decode c_SP_init 1 = .ok (.invokespecial 1, 3) := by decide +kernel
theorem dSP_init_4 : decode c_SP_init 4 = .ok (.aload_n 0, 1) := by decide +kernel
theorem dSP_init_5 : decode c_SP_init 5 = .ok (.bipush 25, 2) := by decide +kernel
theorem dSP_init_7 : decode c_SP_init 7 = .ok (.newarray .long, 2) := by decide +kernel
theorem dSP_init_9 : decode c_SP_init 9 = .ok (.putfield 7, 3) := by decide +kernel
theorem dSP_init_12 : decode c_SP_init 12 = .ok (.aload_n 0, 1) := by decide +kernel
theorem dSP_init_13 : decode c_SP_init 13 = .ok (.getstatic 13, 3) := by decide +kernel
theorem dSP_init_16 : decode c_SP_init 16 = .ok (.iconst 0, 1) := by decide +kernel
theorem dSP_init_17 : decode c_SP_init 17 = .ok (.iaload, 1) := by decide +kernel
theorem dSP_init_18 : decode c_SP_init 18 = .ok (.putfield 17, 3) := by decide +kernel
theorem dSP_init_21 : decode c_SP_init 21 = .ok (.aload_n 0, 1) := by decide +kernel
theorem dSP_init_22 : decode c_SP_init 22 = .ok (.getstatic 21, 3) := by decide +kernel
theorem dSP_init_25 : decode c_SP_init 25 = .ok (.iconst 0, 1) := by decide +kernel
theorem dSP_init_26 : decode c_SP_init 26 = .ok (.iaload, 1) := by decide +kernel
theorem dSP_init_27 : decode c_SP_init 27 = .ok (.putfield 24, 3) := by decide +kernel
theorem dSP_init_30 : decode c_SP_init 30 = .ok (.aload_n 0, 1) := by decide +kernel
theorem dSP_init_31 : decode c_SP_init 31 = .ok (.iconst 0, 1) := by decide +kernel
theorem dSP_init_32 : decode c_SP_init 32 = .ok (.putfield 27, 3) := by decide +kernel
theorem dSP_init_35 : decode c_SP_init 35 = .ok (.return_, 1) := by decide +kernel
abbrev c_KM_init : ByteArray := prog_6_method_1_code
abbrev y_KM_init : MethodName := ⟨"LatticeKeys$Kem", "<init>", "()V"⟩
abbrev w_KM_init : List Cond := Cond.code y_KM_init c_KM_init 1 none :: WG
theorem dKM_init_0 : decode c_KM_init 0 = .ok (.aload_n 0, 1) := by decide +kernel
theorem dKM_init_1 : decode c_KM_init 1 = .ok (.invokespecial 1, 3) := by decide +kernel
theorem dKM_init_4 : decode c_KM_init 4 = .ok (.aload_n 0, 1) := by decide +kernel
theorem dKM_init_5 : decode c_KM_init 5 = .ok (.new 7, 3) := by decide +kernel
theorem dKM_init_8 : decode c_KM_init 8 = .ok (.dup, 1) := by decide +kernel
theorem dKM_init_9 : decode c_KM_init 9 = .ok (.invokespecial 9, 3) := by decide +kernel
theorem dKM_init_12 : decode c_KM_init 12 = .ok (.putfield 10, 3) := by decide +kernel
theorem dKM_init_15 : decode c_KM_init 15 = .ok (.aload_n 0, 1) := by decide +kernel
theorem dKM_init_16 : decode c_KM_init 16 = .ok (.new 16, 3) := by decide +kernel
theorem dKM_init_19 : decode c_KM_init 19 = .ok (.dup, 1) := by decide +kernel
theorem dKM_init_20 : decode c_KM_init 20 = .ok (.sipush 3329, 3) := by decide +kernel
theorem dKM_init_23 : decode c_KM_init 23 = .ok (.bipush 17, 2) := by decide +kernel
theorem dKM_init_25 : decode c_KM_init 25 = .ok (.bipush 7, 2) := by decide +kernel
theorem dKM_init_27 : decode c_KM_init 27 = .ok (.invokespecial 18, 3) := by decide +kernel
theorem dKM_init_30 : decode c_KM_init 30 = .ok (.putfield 21, 3) := by decide +kernel
theorem dKM_init_33 : decode c_KM_init 33 = .ok (.aload_n 0, 1) := by decide +kernel
theorem dKM_init_34 : decode c_KM_init 34 = .ok (.iconst 4, 1) := by decide +kernel
theorem dKM_init_35 : decode c_KM_init 35 = .ok (.sipush 256, 3) := by decide +kernel
theorem dKM_init_38 : decode c_KM_init 38 = .ok (.multianewarray 25 2, 4) := by decide +kernel
theorem dKM_init_42 : decode c_KM_init 42 = .ok (.putfield 27, 3) := by decide +kernel
theorem dKM_init_45 : decode c_KM_init 45 = .ok (.aload_n 0, 1) := by decide +kernel
theorem dKM_init_46 : decode c_KM_init 46 = .ok (.sipush 256, 3) := by decide +kernel
theorem dKM_init_49 : decode c_KM_init 49 = .ok (.newarray .int, 2) := by decide +kernel
theorem dKM_init_51 : decode c_KM_init 51 = .ok (.putfield 30, 3) := by decide +kernel
theorem dKM_init_54 : decode c_KM_init 54 = .ok (.aload_n 0, 1) := by decide +kernel
theorem dKM_init_55 : decode c_KM_init 55 = .ok (.sipush 256, 3) := by decide +kernel
theorem dKM_init_58 : decode c_KM_init 58 = .ok (.newarray .int, 2) := by decide +kernel
theorem dKM_init_60 : decode c_KM_init 60 = .ok (.putfield 34, 3) := by decide +kernel
theorem dKM_init_63 : decode c_KM_init 63 = .ok (.aload_n 0, 1) := by decide +kernel
theorem dKM_init_64 : decode c_KM_init 64 = .ok (.bipush 32, 2) := by decide +kernel
theorem dKM_init_66 : decode c_KM_init 66 = .ok (.newarray .byte, 2) := by decide +kernel
theorem dKM_init_68 : decode c_KM_init 68 = .ok (.putfield 37, 3) := by decide +kernel
theorem dKM_init_71 : decode c_KM_init 71 = .ok (.aload_n 0, 1) := by decide +kernel
theorem dKM_init_72 : decode c_KM_init 72 = .ok (.bipush 32, 2) := by decide +kernel
theorem dKM_init_74 : decode c_KM_init 74 = .ok (.newarray .byte, 2) := by decide +kernel
theorem dKM_init_76 : decode c_KM_init 76 = .ok (.putfield 41, 3) := by decide +kernel
theorem dKM_init_79 : decode c_KM_init 79 = .ok (.aload_n 0, 1) := by decide +kernel
theorem dKM_init_80 : decode c_KM_init 80 = .ok (.bipush 64, 2) := by decide +kernel
theorem dKM_init_82 : decode c_KM_init 82 = .ok (.newarray .byte, 2) := by decide +kernel
theorem dKM_init_84 : decode c_KM_init 84 = .ok (.putfield 44, 3) := by decide +kernel
theorem dKM_init_87 : decode c_KM_init 87 = .ok (.aload_n 0, 1) := by decide +kernel
theorem dKM_init_88 : decode c_KM_init 88 = .ok (.sipush 192, 3) := by decide +kernel
theorem dKM_init_91 : decode c_KM_init 91 = .ok (.newarray .byte, 2) := by decide +kernel
theorem dKM_init_93 : decode c_KM_init 93 = .ok (.putfield 47, 3) := by decide +kernel
theorem dKM_init_96 : decode c_KM_init 96 = .ok (.aload_n 0, 1) := by decide +kernel
theorem dKM_init_97 : decode c_KM_init 97 = .ok (.sipush 1568, 3) := by decide +kernel
theorem dKM_init_100 : decode c_KM_init 100 = .ok (.newarray .byte, 2) := by decide +kernel
theorem dKM_init_102 : decode c_KM_init 102 = .ok (.putfield 50, 3) := by decide +kernel
theorem dKM_init_105 : decode c_KM_init 105 = .ok (.return_, 1) := by decide +kernel
abbrev c_SA_init : ByteArray := prog_4_method_1_code
abbrev y_SA_init : MethodName := ⟨"LatticeKeys$DsaSampler", "<init>", "()V"⟩
abbrev w_SA_init : List Cond := Cond.code y_SA_init c_SA_init 1 none :: WG
theorem dSA_init_0 : decode c_SA_init 0 = .ok (.aload_n 0, 1) := by decide +kernel
theorem dSA_init_1 : decode c_SA_init 1 = .ok (.invokespecial 1, 3) := by decide +kernel
theorem dSA_init_4 : decode c_SA_init 4 = .ok (.aload_n 0, 1) := by decide +kernel
theorem dSA_init_5 : decode c_SA_init 5 = .ok (.new 7, 3) := by decide +kernel
theorem dSA_init_8 : decode c_SA_init 8 = .ok (.dup, 1) := by decide +kernel
theorem dSA_init_9 : decode c_SA_init 9 = .ok (.invokespecial 9, 3) := by decide +kernel
theorem dSA_init_12 : decode c_SA_init 12 = .ok (.putfield 10, 3) := by decide +kernel
theorem dSA_init_15 : decode c_SA_init 15 = .ok (.aload_n 0, 1) := by decide +kernel
theorem dSA_init_16 : decode c_SA_init 16 = .ok (.sipush 640, 3) := by decide +kernel
theorem dSA_init_19 : decode c_SA_init 19 = .ok (.newarray .byte, 2) := by decide +kernel
theorem dSA_init_21 : decode c_SA_init 21 = .ok (.putfield 16, 3) := by decide +kernel
theorem dSA_init_24 : decode c_SA_init 24 = .ok (.return_, 1) := by decide +kernel
abbrev c_DA_init : ByteArray := prog_3_method_1_code
abbrev y_DA_init : MethodName := ⟨"LatticeKeys$Dsa", "<init>", "()V"⟩
abbrev w_DA_init : List Cond := Cond.code y_DA_init c_DA_init 1 none :: WG
theorem dDA_init_0 : decode c_DA_init 0 = .ok (.aload_n 0, 1) := by decide +kernel
theorem dDA_init_1 : decode c_DA_init 1 = .ok (.invokespecial 1, 3) := by decide +kernel
theorem dDA_init_4 : decode c_DA_init 4 = .ok (.aload_n 0, 1) := by decide +kernel
theorem dDA_init_5 : decode c_DA_init 5 = .ok (.new 7, 3) := by decide +kernel
theorem dDA_init_8 : decode c_DA_init 8 = .ok (.dup, 1) := by decide +kernel
theorem dDA_init_9 : decode c_DA_init 9 = .ok (.invokespecial 9, 3) := by decide +kernel
theorem dDA_init_12 : decode c_DA_init 12 = .ok (.putfield 10, 3) := by decide +kernel
theorem dDA_init_15 : decode c_DA_init 15 = .ok (.aload_n 0, 1) := by decide +kernel
theorem dDA_init_16 : decode c_DA_init 16 = .ok (.new 16, 3) := by decide +kernel
theorem dDA_init_19 : decode c_DA_init 19 = .ok (.dup, 1) := by decide +kernel
theorem dDA_init_20 : decode c_DA_init 20 = .ok (.ldc 18, 2) := by decide +kernel
theorem dDA_init_22 : decode c_DA_init 22 = .ok (.sipush 1753, 3) := by decide +kernel
theorem dDA_init_25 : decode c_DA_init 25 = .ok (.bipush 8, 2) := by decide +kernel
theorem dDA_init_27 : decode c_DA_init 27 = .ok (.invokespecial 19, 3) := by decide +kernel
theorem dDA_init_30 : decode c_DA_init 30 = .ok (.putfield 22, 3) := by decide +kernel
theorem dDA_init_33 : decode c_DA_init 33 = .ok (.aload_n 0, 1) := by decide +kernel
theorem dDA_init_34 : decode c_DA_init 34 = .ok (.new 26, 3) := by decide +kernel
theorem dDA_init_37 : decode c_DA_init 37 = .ok (.dup, 1) := by decide +kernel
theorem dDA_init_38 : decode c_DA_init 38 = .ok (.invokespecial 28, 3) := by decide +kernel
theorem dDA_init_41 : decode c_DA_init 41 = .ok (.putfield 29, 3) := by decide +kernel
theorem dDA_init_44 : decode c_DA_init 44 = .ok (.aload_n 0, 1) := by decide +kernel
theorem dDA_init_45 : decode c_DA_init 45 = .ok (.bipush 56, 2) := by decide +kernel
theorem dDA_init_47 : decode c_DA_init 47 = .ok (.sipush 256, 3) := by decide +kernel
theorem dDA_init_50 : decode c_DA_init 50 = .ok (.multianewarray 33 2, 4) := by decide +kernel
theorem dDA_init_54 : decode c_DA_init 54 = .ok (.putfield 35, 3) := by decide +kernel
theorem dDA_init_57 : decode c_DA_init 57 = .ok (.aload_n 0, 1) := by decide +kernel
theorem dDA_init_58 : decode c_DA_init 58 = .ok (.bipush 7, 2) := by decide +kernel
theorem dDA_init_60 : decode c_DA_init 60 = .ok (.sipush 256, 3) := by decide +kernel
theorem dDA_init_63 : decode c_DA_init 63 = .ok (.multianewarray 33 2, 4) := by decide +kernel
theorem dDA_init_67 : decode c_DA_init 67 = .ok (.putfield 38, 3) := by decide +kernel
theorem dDA_init_70 : decode c_DA_init 70 = .ok (.aload_n 0, 1) := by decide +kernel
theorem dDA_init_71 : decode c_DA_init 71 = .ok (.bipush 8, 2) := by decide +kernel
theorem dDA_init_73 : decode c_DA_init 73 = .ok (.sipush 256, 3) := by decide +kernel
theorem dDA_init_76 : decode c_DA_init 76 = .ok (.multianewarray 33 2, 4) := by decide +kernel
theorem dDA_init_80 : decode c_DA_init 80 = .ok (.putfield 41, 3) := by decide +kernel
theorem dDA_init_83 : decode c_DA_init 83 = .ok (.aload_n 0, 1) := by decide +kernel
theorem dDA_init_84 : decode c_DA_init 84 = .ok (.bipush 8, 2) := by decide +kernel
theorem dDA_init_86 : decode c_DA_init 86 = .ok (.sipush 256, 3) := by decide +kernel
theorem dDA_init_89 : decode c_DA_init 89 = .ok (.multianewarray 33 2, 4) := by decide +kernel
theorem dDA_init_93 : decode c_DA_init 93 = .ok (.putfield 44, 3) := by decide +kernel
theorem dDA_init_96 : decode c_DA_init 96 = .ok (.aload_n 0, 1) := by decide +kernel
theorem dDA_init_97 : decode c_DA_init 97 = .ok (.bipush 7, 2) := by decide +kernel
theorem dDA_init_99 : decode c_DA_init 99 = .ok (.sipush 256, 3) := by decide +kernel
theorem dDA_init_102 : decode c_DA_init 102 = .ok (.multianewarray 33 2, 4) := by decide +kernel
theorem dDA_init_106 : decode c_DA_init 106 = .ok (.putfield 47, 3) := by decide +kernel
theorem dDA_init_109 : decode c_DA_init 109 = .ok (.aload_n 0, 1) := by decide +kernel
theorem dDA_init_110 : decode c_DA_init 110 = .ok (.bipush 8, 2) := by decide +kernel
theorem dDA_init_112 : decode c_DA_init 112 = .ok (.sipush 256, 3) := by decide +kernel
theorem dDA_init_115 : decode c_DA_init 115 = .ok (.multianewarray 33 2, 4) := by decide +kernel
theorem dDA_init_119 : decode c_DA_init 119 = .ok (.putfield 50, 3) := by decide +kernel
theorem dDA_init_122 : decode c_DA_init 122 = .ok (.aload_n 0, 1) := by decide +kernel
theorem dDA_init_123 : decode c_DA_init 123 = .ok (.sipush 256, 3) := by decide +kernel
theorem dDA_init_126 : decode c_DA_init 126 = .ok (.newarray .int, 2) := by decide +kernel
theorem dDA_init_128 : decode c_DA_init 128 = .ok (.putfield 53, 3) := by decide +kernel
theorem dDA_init_131 : decode c_DA_init 131 = .ok (.aload_n 0, 1) := by decide +kernel
theorem dDA_init_132 : decode c_DA_init 132 = .ok (.sipush 256, 3) := by decide +kernel
theorem dDA_init_135 : decode c_DA_init 135 = .ok (.newarray .int, 2) := by decide +kernel
theorem dDA_init_137 : decode c_DA_init 137 = .ok (.putfield 57, 3) := by decide +kernel
theorem dDA_init_140 : decode c_DA_init 140 = .ok (.aload_n 0, 1) := by decide +kernel
theorem dDA_init_141 : decode c_DA_init 141 = .ok (.sipush 128, 3) := by decide +kernel
theorem dDA_init_144 : decode c_DA_init 144 = .ok (.newarray .byte, 2) := by decide +kernel
theorem dDA_init_146 : decode c_DA_init 146 = .ok (.putfield 60, 3) := by decide +kernel
theorem dDA_init_149 : decode c_DA_init 149 = .ok (.aload_n 0, 1) := by decide +kernel
theorem dDA_init_150 : decode c_DA_init 150 = .ok (.bipush 64, 2) := by decide +kernel
theorem dDA_init_152 : decode c_DA_init 152 = .ok (.newarray .byte, 2) := by decide +kernel
theorem dDA_init_154 : decode c_DA_init 154 = .ok (.putfield 64, 3) := by decide +kernel
theorem dDA_init_157 : decode c_DA_init 157 = .ok (.aload_n 0, 1) := by decide +kernel
theorem dDA_init_158 : decode c_DA_init 158 = .ok (.bipush 64, 2) := by decide +kernel
theorem dDA_init_160 : decode c_DA_init 160 = .ok (.newarray .byte, 2) := by decide +kernel
theorem dDA_init_162 : decode c_DA_init 162 = .ok (.putfield 67, 3) := by decide +kernel
theorem dDA_init_165 : decode c_DA_init 165 = .ok (.aload_n 0, 1) := by decide +kernel
theorem dDA_init_166 : decode c_DA_init 166 = .ok (.bipush 64, 2) := by decide +kernel
theorem dDA_init_168 : decode c_DA_init 168 = .ok (.newarray .byte, 2) := by decide +kernel
theorem dDA_init_170 : decode c_DA_init 170 = .ok (.putfield 70, 3) := by decide +kernel
theorem dDA_init_173 : decode c_DA_init 173 = .ok (.aload_n 0, 1) := by decide +kernel
theorem dDA_init_174 : decode c_DA_init 174 = .ok (.bipush 84, 2) := by decide +kernel
theorem dDA_init_176 : decode c_DA_init 176 = .ok (.newarray .byte, 2) := by decide +kernel
theorem dDA_init_178 : decode c_DA_init 178 = .ok (.putfield 73, 3) := by decide +kernel
theorem dDA_init_181 : decode c_DA_init 181 = .ok (.aload_n 0, 1) := by decide +kernel
theorem dDA_init_182 : decode c_DA_init 182 = .ok (.sipush 192, 3) := by decide +kernel
theorem dDA_init_185 : decode c_DA_init 185 = .ok (.newarray .byte, 2) := by decide +kernel
theorem dDA_init_187 : decode c_DA_init 187 = .ok (.putfield 76, 3) := by decide +kernel
theorem dDA_init_190 : decode c_DA_init 190 = .ok (.return_, 1) := by decide +kernel
set_option maxHeartbeats 4000000 in
set_option maxRecDepth 100000 in
theorem z_SP_init_0 (l : Launch) (g : Gd) (sz : Nat) (T0 : TyN) (pl : va_W) (hO : okn g T0 Z0 pl) (hU : inj T0) (hL : nmL T0 [(3, 4), (2, 3), (1, 2)]) (h0 : Nat) : Met l y_SP_init w_SP_init ({ frames := 1, cells := 1, slots := 25, locals := 40 } : Room) (va_Pc [.ref h0] (pr (en g) g.1 vcl sz ([(h0, .inr (3, [.null, .int 0, .int 0, .int 0]))] ++ pl))) (va_Qv (fun (u : TyN × va_W) => (extN T0 u.1 ∧ inj u.1 ∧ nmL u.1 [(12, 13), (13, 14), (3, 4), (2, 3), (1, 2)] ∧ u.1 h0 = some 12) ∧ okn g u.1 Z0 u.2) (po g.1 vcl (va_A ([(h0, .inr (3, [.null, .int 0, .int 0, .int 0]))] ++ pl) sz) (fun (u : TyN × va_W) => [] ++ u.2)) (va_A ([(h0, .inr (3, [.null, .int 0, .int 0, .int 0]))] ++ pl) sz)) 1 25 (va_A ([(h0, .inr (3, [.null, .int 0, .int 0, .int 0]))] ++ pl) sz) := by
  refine mc_entry (cc := c_SP_init) (maxL := 1) (ret := none) (by decide) rfl (Nat.le_of_ble_eq_true rfl) ?_
  intro p e s m args below meth c ls F hr hlk hnm hsz hP hD hE hA hl
  obtain ⟨hx, hb, hml, hown, hts⟩ := id F
  have hK := hE.1
  generalize va_A ([(h0, .inr (3, [.null, .int 0, .int 0, .int 0]))] ++ pl) sz = A at hD hE hA ⊢
  obtain ⟨T, hXT, hO, hU, hL⟩ : ∃ T, extN T0 T ∧ okn g T Z0 pl ∧ inj T ∧ nmL T [(3, 4), (2, 3), (1, 2)] := ⟨T0, extN_rf, hO, hU, hL⟩
  have hS : va_S A s.heap s.heap [] := va_S.rf
  have hl : lv_has ls 1 [(0, .ref h0)] := hl
  refine lv_aload_n hx hb dSP_init_0 rfl (lv_at hl 0 rfl) ?_
  refine W.objInit hx hb hown (hts _ (wg_t kw_54)) (hts _ (wg_t kw_41)) (hts _ (wg_t kobj)) rfl (by rw [hml]; exact hl.1) rfl dSP_init_1 (Nat.le_of_ble_eq_true rfl) (Nat.le_of_ble_eq_true rfl) ?_
  refine W.eq (g2 := F0 m 4 ls []) rfl ?_
  refine lv_aload_n hx hb dSP_init_4 rfl (lv_at hl 0 rfl) ?_
  refine lv_bipush (v := nI 25) hx hb dSP_init_5 (by decide) ?_
  refine ma_newa (ws := [(h0, .inr (3, [.null, .int 0, .int 0, .int 0]))] ++ pl) (atype := .long) hx hb (hts _ (wg_t kw_73)) rfl hK hP hD hS hA 2 rfl (N' := 25) (a0 := (25, .inr (.inl (fun _ => 0)))) (fun _ => rfl) (nI_pos (by omega)) (nI_clamp (by omega)) (by show (25) * 8 ≤ 536870912; omega) (Nat.le_of_ble_eq_true rfl) (Nat.le_of_ble_eq_true rfl) dSP_init_7 (fun q21 H hP hD hS => ?_)
  refine W.widen (k := 1) (n := 25) (by omega) (by omega) ?_
  obtain ⟨T, pl, hxt21, hU, kr21, hO, hP, hD, hL⟩ := absorbX (X := [(h0, .inr (3, [.null, .int 0, .int 0, .int 0]))]) 13 hP hD hO hU hL rfl (fun _ _ _ => fit2 (k := 13) rfl)
  have hXT := extN_tr hXT hxt21
  have hL : nmL T [(13, 14), (3, 4), (2, 3), (1, 2)] := hL
  have hP : va_P g.1 vcl ([(h0, .inr (3, [.null, .int 0, .int 0, .int 0]))] ++ pl) _ := hP
  have hD : va_D _ ([(h0, .inr (3, [.null, .int 0, .int 0, .int 0]))] ++ pl) := hD
  refine va_putF (D := g.1) (ci := 3) (v := .ref q21) (ty := .array .long) (C := "LatticeKeys$Sponge") (T := T_SP) (N := 4) hx hb hts (wg_ft i_SP) ty_SP k_SP n_SP hown hK hP hD hS 0 rfl rfl 0 (by decide) (hts _ (wg_t kw_59)) (fun _ h9 => h9) rfl hnm rfl (by decide +kernel) rfl rfl (Nat.le_of_ble_eq_true rfl) dSP_init_9 (fun H locs hP hD hS => ?_)
  have hP : va_P g.1 vcl ([(h0, .inr (3, [.ref q21, .int 0, .int 0, .int 0]))] ++ pl) _ := hP
  have hD : va_D _ ([(h0, .inr (3, [.ref q21, .int 0, .int 0, .int 0]))] ++ pl) := hD
  refine lv_aload_n hx hb dSP_init_12 rfl (lv_at hl 0 rfl) ?_
  refine va_gets hx hb (hE.2.1 0 _ rfl).1 hS hown (hts _ (wg_t kw_55)) (fun _ h9 => h9) dSP_init_13 ?_
  refine lv_iconst (v := nI 0) hx hb dSP_init_16 (by decide) ?_
  refine va_ti (v := .int (nI 136)) hx hb (hE.2.1 0 _ rfl).2 hS (vp_in_nI (by decide) (by decide)) (by decide +kernel) dSP_init_17 ?_
  refine va_put (D := g.1) (ci := 3) (v := .int (nI 136)) (ty := .int) (C := "LatticeKeys$Sponge") (T := T_SP) (N := 4) hx hb hts (wg_ft i_SP) ty_SP k_SP n_SP hown hK hP hD hS 0 rfl rfl 1 (by decide) (hts _ (wg_t kw_60)) (fun _ h9 => h9) rfl (by decide +kernel) rfl rfl (Nat.le_of_ble_eq_true rfl) dSP_init_18 (fun H locs hP hD hS => ?_)
  have hP : va_P g.1 vcl ([(h0, .inr (3, [.ref q21, .int (nI 136), .int 0, .int 0]))] ++ pl) _ := hP
  have hD : va_D _ ([(h0, .inr (3, [.ref q21, .int (nI 136), .int 0, .int 0]))] ++ pl) := hD
  refine lv_aload_n hx hb dSP_init_21 rfl (lv_at hl 0 rfl) ?_
  refine va_gets hx hb (hE.2.1 1 _ rfl).1 hS hown (hts _ (wg_t kw_57)) (fun _ h9 => h9) dSP_init_22 ?_
  refine lv_iconst (v := nI 0) hx hb dSP_init_25 (by decide) ?_
  refine va_ti (v := .int (nI 6)) hx hb (hE.2.1 1 _ rfl).2 hS (vp_in_nI (by decide) (by decide)) (by decide +kernel) dSP_init_26 ?_
  refine va_put (D := g.1) (ci := 3) (v := .int (nI 6)) (ty := .int) (C := "LatticeKeys$Sponge") (T := T_SP) (N := 4) hx hb hts (wg_ft i_SP) ty_SP k_SP n_SP hown hK hP hD hS 0 rfl rfl 2 (by decide) (hts _ (wg_t kw_61)) (fun _ h9 => h9) rfl (by decide +kernel) rfl rfl (Nat.le_of_ble_eq_true rfl) dSP_init_27 (fun H locs hP hD hS => ?_)
  have hP : va_P g.1 vcl ([(h0, .inr (3, [.ref q21, .int (nI 136), .int (nI 6), .int 0]))] ++ pl) _ := hP
  have hD : va_D _ ([(h0, .inr (3, [.ref q21, .int (nI 136), .int (nI 6), .int 0]))] ++ pl) := hD
  refine lv_aload_n hx hb dSP_init_30 rfl (lv_at hl 0 rfl) ?_
  refine lv_iconst (v := nI 0) hx hb dSP_init_31 (by decide) ?_
  refine va_put (D := g.1) (ci := 3) (v := .int (nI 0)) (ty := .int) (C := "LatticeKeys$Sponge") (T := T_SP) (N := 4) hx hb hts (wg_ft i_SP) ty_SP k_SP n_SP hown hK hP hD hS 0 rfl rfl 3 (by decide) (hts _ (wg_t kw_62)) (fun _ h9 => h9) rfl (by decide +kernel) rfl rfl (Nat.le_of_ble_eq_true rfl) dSP_init_32 (fun H locs hP hD hS => ?_)
  have hP : va_P g.1 vcl ([(h0, .inr (3, [.ref q21, .int (nI 136), .int (nI 6), .int (nI 0)]))] ++ pl) _ := hP
  have hD : va_D _ ([(h0, .inr (3, [.ref q21, .int (nI 136), .int (nI 6), .int (nI 0)]))] ++ pl) := hD
  obtain ⟨hP, hD⟩ := mv_last (X := []) (c := (h0, .inr (3, [.ref q21, .int (nI 136), .int (nI 6), .int (nI 0)]))) hP hD
  obtain ⟨T, pl, hxt22, hU, kr22, hO, hP, hD, hL⟩ := absorbX (X := []) 12 hP hD hO hU hL rfl (fun _ h9 _ => fit5 (k := 12) (fl := [(3, 13), (0, 0), (0, 0), (0, 0)]) rfl ⟨⟨_, rfl, h9 _ _ kr21⟩, rfl, rfl, rfl, trivial⟩)
  have kr23 := hxt22 _ _ kr21
  have hXT := extN_tr hXT hxt22
  have hL : nmL T [(12, 13), (13, 14), (3, 4), (2, 3), (1, 2)] := hL
  have hP : va_P g.1 vcl ([] ++ pl) _ := hP
  have hD : va_D _ ([] ++ pl) := hD
  exact mp_vret hx hb hr hlk hP hD hS (T, pl) ⟨⟨hXT, hU, hL, kr22⟩, hO⟩ [] rfl rfl rfl (by omega) (by omega) dSP_init_35
set_option maxHeartbeats 4000000 in
set_option maxRecDepth 100000 in
theorem z_SP_init_1 (l : Launch) (g : Gd) (sz : Nat) (T0 : TyN) (pl : va_W) (hO : okn g T0 Z0 pl) (hU : inj T0) (hL : nmL T0 [(12, 13), (13, 14), (3, 4), (2, 3), (1, 2)]) (h0 : Nat) : Met l y_SP_init w_SP_init ({ frames := 1, cells := 1, slots := 25, locals := 40 } : Room) (va_Pc [.ref h0] (pr (en g) g.1 vcl sz ([(h0, .inr (3, [.null, .int 0, .int 0, .int 0]))] ++ pl))) (va_Qv (fun (u : TyN × va_W) => (extN T0 u.1 ∧ inj u.1 ∧ nmL u.1 [(14, 15), (15, 16), (12, 13), (13, 14), (3, 4), (2, 3), (1, 2)] ∧ u.1 h0 = some 14) ∧ okn g u.1 Z0 u.2) (po g.1 vcl (va_A ([(h0, .inr (3, [.null, .int 0, .int 0, .int 0]))] ++ pl) sz) (fun (u : TyN × va_W) => [] ++ u.2)) (va_A ([(h0, .inr (3, [.null, .int 0, .int 0, .int 0]))] ++ pl) sz)) 1 25 (va_A ([(h0, .inr (3, [.null, .int 0, .int 0, .int 0]))] ++ pl) sz) := by
  refine mc_entry (cc := c_SP_init) (maxL := 1) (ret := none) (by decide) rfl (Nat.le_of_ble_eq_true rfl) ?_
  intro p e s m args below meth c ls F hr hlk hnm hsz hP hD hE hA hl
  obtain ⟨hx, hb, hml, hown, hts⟩ := id F
  have hK := hE.1
  generalize va_A ([(h0, .inr (3, [.null, .int 0, .int 0, .int 0]))] ++ pl) sz = A at hD hE hA ⊢
  obtain ⟨T, hXT, hO, hU, hL⟩ : ∃ T, extN T0 T ∧ okn g T Z0 pl ∧ inj T ∧ nmL T [(12, 13), (13, 14), (3, 4), (2, 3), (1, 2)] := ⟨T0, extN_rf, hO, hU, hL⟩
  have hS : va_S A s.heap s.heap [] := va_S.rf
  have hl : lv_has ls 1 [(0, .ref h0)] := hl
  refine lv_aload_n hx hb dSP_init_0 rfl (lv_at hl 0 rfl) ?_
  refine W.objInit hx hb hown (hts _ (wg_t kw_54)) (hts _ (wg_t kw_41)) (hts _ (wg_t kobj)) rfl (by rw [hml]; exact hl.1) rfl dSP_init_1 (Nat.le_of_ble_eq_true rfl) (Nat.le_of_ble_eq_true rfl) ?_
  refine W.eq (g2 := F0 m 4 ls []) rfl ?_
  refine lv_aload_n hx hb dSP_init_4 rfl (lv_at hl 0 rfl) ?_
  refine lv_bipush (v := nI 25) hx hb dSP_init_5 (by decide) ?_
  refine ma_newa (ws := [(h0, .inr (3, [.null, .int 0, .int 0, .int 0]))] ++ pl) (atype := .long) hx hb (hts _ (wg_t kw_73)) rfl hK hP hD hS hA 2 rfl (N' := 25) (a0 := (25, .inr (.inl (fun _ => 0)))) (fun _ => rfl) (nI_pos (by omega)) (nI_clamp (by omega)) (by show (25) * 8 ≤ 536870912; omega) (Nat.le_of_ble_eq_true rfl) (Nat.le_of_ble_eq_true rfl) dSP_init_7 (fun q21 H hP hD hS => ?_)
  refine W.widen (k := 1) (n := 25) (by omega) (by omega) ?_
  obtain ⟨T, pl, hxt21, hU, kr21, hO, hP, hD, hL⟩ := absorbX (X := [(h0, .inr (3, [.null, .int 0, .int 0, .int 0]))]) 15 hP hD hO hU hL rfl (fun _ _ _ => fit2 (k := 15) rfl)
  have hXT := extN_tr hXT hxt21
  have hL : nmL T [(15, 16), (12, 13), (13, 14), (3, 4), (2, 3), (1, 2)] := hL
  have hP : va_P g.1 vcl ([(h0, .inr (3, [.null, .int 0, .int 0, .int 0]))] ++ pl) _ := hP
  have hD : va_D _ ([(h0, .inr (3, [.null, .int 0, .int 0, .int 0]))] ++ pl) := hD
  refine va_putF (D := g.1) (ci := 3) (v := .ref q21) (ty := .array .long) (C := "LatticeKeys$Sponge") (T := T_SP) (N := 4) hx hb hts (wg_ft i_SP) ty_SP k_SP n_SP hown hK hP hD hS 0 rfl rfl 0 (by decide) (hts _ (wg_t kw_59)) (fun _ h9 => h9) rfl hnm rfl (by decide +kernel) rfl rfl (Nat.le_of_ble_eq_true rfl) dSP_init_9 (fun H locs hP hD hS => ?_)
  have hP : va_P g.1 vcl ([(h0, .inr (3, [.ref q21, .int 0, .int 0, .int 0]))] ++ pl) _ := hP
  have hD : va_D _ ([(h0, .inr (3, [.ref q21, .int 0, .int 0, .int 0]))] ++ pl) := hD
  refine lv_aload_n hx hb dSP_init_12 rfl (lv_at hl 0 rfl) ?_
  refine va_gets hx hb (hE.2.1 0 _ rfl).1 hS hown (hts _ (wg_t kw_55)) (fun _ h9 => h9) dSP_init_13 ?_
  refine lv_iconst (v := nI 0) hx hb dSP_init_16 (by decide) ?_
  refine va_ti (v := .int (nI 136)) hx hb (hE.2.1 0 _ rfl).2 hS (vp_in_nI (by decide) (by decide)) (by decide +kernel) dSP_init_17 ?_
  refine va_put (D := g.1) (ci := 3) (v := .int (nI 136)) (ty := .int) (C := "LatticeKeys$Sponge") (T := T_SP) (N := 4) hx hb hts (wg_ft i_SP) ty_SP k_SP n_SP hown hK hP hD hS 0 rfl rfl 1 (by decide) (hts _ (wg_t kw_60)) (fun _ h9 => h9) rfl (by decide +kernel) rfl rfl (Nat.le_of_ble_eq_true rfl) dSP_init_18 (fun H locs hP hD hS => ?_)
  have hP : va_P g.1 vcl ([(h0, .inr (3, [.ref q21, .int (nI 136), .int 0, .int 0]))] ++ pl) _ := hP
  have hD : va_D _ ([(h0, .inr (3, [.ref q21, .int (nI 136), .int 0, .int 0]))] ++ pl) := hD
  refine lv_aload_n hx hb dSP_init_21 rfl (lv_at hl 0 rfl) ?_
  refine va_gets hx hb (hE.2.1 1 _ rfl).1 hS hown (hts _ (wg_t kw_57)) (fun _ h9 => h9) dSP_init_22 ?_
  refine lv_iconst (v := nI 0) hx hb dSP_init_25 (by decide) ?_
  refine va_ti (v := .int (nI 6)) hx hb (hE.2.1 1 _ rfl).2 hS (vp_in_nI (by decide) (by decide)) (by decide +kernel) dSP_init_26 ?_
  refine va_put (D := g.1) (ci := 3) (v := .int (nI 6)) (ty := .int) (C := "LatticeKeys$Sponge") (T := T_SP) (N := 4) hx hb hts (wg_ft i_SP) ty_SP k_SP n_SP hown hK hP hD hS 0 rfl rfl 2 (by decide) (hts _ (wg_t kw_61)) (fun _ h9 => h9) rfl (by decide +kernel) rfl rfl (Nat.le_of_ble_eq_true rfl) dSP_init_27 (fun H locs hP hD hS => ?_)
  have hP : va_P g.1 vcl ([(h0, .inr (3, [.ref q21, .int (nI 136), .int (nI 6), .int 0]))] ++ pl) _ := hP
  have hD : va_D _ ([(h0, .inr (3, [.ref q21, .int (nI 136), .int (nI 6), .int 0]))] ++ pl) := hD
  refine lv_aload_n hx hb dSP_init_30 rfl (lv_at hl 0 rfl) ?_
  refine lv_iconst (v := nI 0) hx hb dSP_init_31 (by decide) ?_
  refine va_put (D := g.1) (ci := 3) (v := .int (nI 0)) (ty := .int) (C := "LatticeKeys$Sponge") (T := T_SP) (N := 4) hx hb hts (wg_ft i_SP) ty_SP k_SP n_SP hown hK hP hD hS 0 rfl rfl 3 (by decide) (hts _ (wg_t kw_62)) (fun _ h9 => h9) rfl (by decide +kernel) rfl rfl (Nat.le_of_ble_eq_true rfl) dSP_init_32 (fun H locs hP hD hS => ?_)
  have hP : va_P g.1 vcl ([(h0, .inr (3, [.ref q21, .int (nI 136), .int (nI 6), .int (nI 0)]))] ++ pl) _ := hP
  have hD : va_D _ ([(h0, .inr (3, [.ref q21, .int (nI 136), .int (nI 6), .int (nI 0)]))] ++ pl) := hD
  obtain ⟨hP, hD⟩ := mv_last (X := []) (c := (h0, .inr (3, [.ref q21, .int (nI 136), .int (nI 6), .int (nI 0)]))) hP hD
  obtain ⟨T, pl, hxt22, hU, kr22, hO, hP, hD, hL⟩ := absorbX (X := []) 14 hP hD hO hU hL rfl (fun _ h9 _ => fit5 (k := 14) (fl := [(3, 15), (0, 0), (0, 0), (0, 0)]) rfl ⟨⟨_, rfl, h9 _ _ kr21⟩, rfl, rfl, rfl, trivial⟩)
  have kr23 := hxt22 _ _ kr21
  have hXT := extN_tr hXT hxt22
  have hL : nmL T [(14, 15), (15, 16), (12, 13), (13, 14), (3, 4), (2, 3), (1, 2)] := hL
  have hP : va_P g.1 vcl ([] ++ pl) _ := hP
  have hD : va_D _ ([] ++ pl) := hD
  exact mp_vret hx hb hr hlk hP hD hS (T, pl) ⟨⟨hXT, hU, hL, kr22⟩, hO⟩ [] rfl rfl rfl (by omega) (by omega) dSP_init_35
set_option maxHeartbeats 4000000 in
set_option maxRecDepth 100000 in
theorem z_KM_init (l : Launch) (g : Gd) (sz : Nat) (T0 : TyN) (pl : va_W) (hO : okn g T0 Z0 pl) (hU : inj T0) (hL : nmL T0 [(12, 13), (13, 14), (3, 4), (2, 3), (1, 2)]) (h0 : Nat) : Met l y_KM_init w_KM_init ({ frames := 2, cells := 16, slots := 3589, locals := 60 } : Room) (va_Pc [.ref h0] (pr (en g) g.1 vcl sz ([(h0, .inr (5, [.null, .null, .null, .null, .null, .null, .null, .null, .null, .null]))] ++ pl))) (va_Qv (fun (u : TyN × va_W) => (extN T0 u.1 ∧ inj u.1 ∧ nmL u.1 [(24, 25), (36, 37), (35, 36), (34, 35), (33, 34), (32, 33), (31, 32), (30, 31), (25, 30), (20, 21), (21, 22), (14, 15), (15, 16), (12, 13), (13, 14), (3, 4), (2, 3), (1, 2)] ∧ u.1 h0 = some 24) ∧ okn g u.1 Z0 u.2) (po g.1 vcl (va_A ([(h0, .inr (5, [.null, .null, .null, .null, .null, .null, .null, .null, .null, .null]))] ++ pl) sz) (fun (u : TyN × va_W) => [] ++ u.2)) (va_A ([(h0, .inr (5, [.null, .null, .null, .null, .null, .null, .null, .null, .null, .null]))] ++ pl) sz)) 16 3589 (va_A ([(h0, .inr (5, [.null, .null, .null, .null, .null, .null, .null, .null, .null, .null]))] ++ pl) sz) := by
  refine mc_entry (cc := c_KM_init) (maxL := 1) (ret := none) (by decide) rfl (Nat.le_of_ble_eq_true rfl) ?_
  intro p e s m args below meth c ls F hr hlk hnm hsz hP hD hE hA hl
  obtain ⟨hx, hb, hml, hown, hts⟩ := id F
  have hK := hE.1
  generalize va_A ([(h0, .inr (5, [.null, .null, .null, .null, .null, .null, .null, .null, .null, .null]))] ++ pl) sz = A at hD hE hA ⊢
  obtain ⟨T, hXT, hO, hU, hL⟩ : ∃ T, extN T0 T ∧ okn g T Z0 pl ∧ inj T ∧ nmL T [(12, 13), (13, 14), (3, 4), (2, 3), (1, 2)] := ⟨T0, extN_rf, hO, hU, hL⟩
  have hS : va_S A s.heap s.heap [] := va_S.rf
  have hl : lv_has ls 1 [(0, .ref h0)] := hl
  refine lv_aload_n hx hb dKM_init_0 rfl (lv_at hl 0 rfl) ?_
  refine W.objInit hx hb hown (hts _ (wg_t kw_79)) (hts _ (wg_t kw_41)) (hts _ (wg_t kobj)) rfl (by rw [hml]; exact hl.1) rfl dKM_init_1 (Nat.le_of_ble_eq_true rfl) (Nat.le_of_ble_eq_true rfl) ?_
  refine W.eq (g2 := F0 m 4 ls []) rfl ?_
  refine lv_aload_n hx hb dKM_init_4 rfl (lv_at hl 0 rfl) ?_
  refine va_new (ws := [(h0, .inr (5, [.null, .null, .null, .null, .null, .null, .null, .null, .null, .null]))] ++ pl) (ci := 3) (fs := [.null, .int 0, .int 0, .int 0]) (C := "LatticeKeys$Sponge") (T := T_SP) (N := 4) hx hb hts (wg_ft i_SP) ty_SP k_SP hown (hts _ (wg_t kw_80)) (hts _ (wg_t kw_50)) (hts _ (wg_t kw_2)) hK hP hD hS hA rfl z_SP (Nat.le_of_ble_eq_true rfl) (Nat.le_of_ble_eq_true rfl) dKM_init_5 (fun q21 H hP hD hS => ?_)
  obtain ⟨hP, hD⟩ := mv_first hP hD
  have hP : va_P g.1 vcl ([(h0, .inr (5, [.null, .null, .null, .null, .null, .null, .null, .null, .null, .null])), (q21, .inr (3, [.null, .int 0, .int 0, .int 0]))] ++ pl) _ := hP
  have hD : va_D _ ([(h0, .inr (5, [.null, .null, .null, .null, .null, .null, .null, .null, .null, .null])), (q21, .inr (3, [.null, .int 0, .int 0, .int 0]))] ++ pl) := hD
  refine W.widen (k := 1) (n := 4) (by omega) (by omega) ?_
  refine lv_dup hx hb dKM_init_8 rfl ?_
  refine mp_v (cx := [(q21, .inr (3, [.null, .int 0, .int 0, .int 0]))]) (wr := [(h0, .inr (5, [.null, .null, .null, .null, .null, .null, .null, .null, .null, .null]))]) hP hD hS hA [1] [0] rfl rfl rfl (by decide) (va_runI (As := []) (rest := [.ref q21, .ref h0]) F (z_SP_init_1 l g _ T pl hO hU hL q21) (cwI 0 hts (wg_in kw_53) rfl rfl rfl (hts _ (wg_t kw_2)) (hts _ (wg_t kw_81)) (hts _ (wg_t kw_52)) rfl (by decide +kernel) ⟨by decide, by decide⟩) (pp_S (en_ok g) hP hD hS hA hE [1] rfl rfl) rfl rfl hl.1 rfl (lv_room (Nat.le_of_ble_eq_true rfl)) dKM_init_9 ⟨Nat.le_of_ble_eq_true rfl, Nat.le_of_ble_eq_true rfl⟩) (fun u21 H locs hu21 hP hD hS => ?_)
  obtain ⟨T, pl⟩ := u21
  obtain ⟨⟨hxt21, hU, hL, kr21⟩, hO⟩ := hu21
  have hO : okn g T Z0 pl := hO
  have hU : inj T := hU
  have hxt21 : extN _ T := hxt21
  have hXT := extN_tr hXT hxt21
  have hL : nmL T [(14, 15), (15, 16), (12, 13), (13, 14), (3, 4), (2, 3), (1, 2)] := hL
  have kr21 : T q21 = some 14 := kr21
  have hP : va_P g.1 vcl ([(h0, .inr (5, [.null, .null, .null, .null, .null, .null, .null, .null, .null, .null]))] ++ pl) _ := hP
  have hD : va_D _ ([(h0, .inr (5, [.null, .null, .null, .null, .null, .null, .null, .null, .null, .null]))] ++ pl) := hD
  refine W.widen (k := 2) (n := 29) (by omega) (by omega) ?_
  refine va_putF (D := g.1) (ci := 5) (v := .ref q21) (ty := .object "LatticeKeys$Sponge") (C := "LatticeKeys$Kem") (T := T_KM) (N := 10) hx hb hts (wg_ft i_KM) ty_KM k_KM n_KM hown hK hP hD hS 0 rfl rfl 0 (by decide) (hts _ (wg_t kw_107)) (fun _ h9 => h9) rfl hnm rfl (by decide +kernel) rfl rfl (Nat.le_of_ble_eq_true rfl) dKM_init_12 (fun H locs hP hD hS => ?_)
  have hP : va_P g.1 vcl ([(h0, .inr (5, [.ref q21, .null, .null, .null, .null, .null, .null, .null, .null, .null]))] ++ pl) _ := hP
  have hD : va_D _ ([(h0, .inr (5, [.ref q21, .null, .null, .null, .null, .null, .null, .null, .null, .null]))] ++ pl) := hD
  refine lv_aload_n hx hb dKM_init_15 rfl (lv_at hl 0 rfl) ?_
  refine va_new (ws := [(h0, .inr (5, [.ref q21, .null, .null, .null, .null, .null, .null, .null, .null, .null]))] ++ pl) (ci := 4) (fs := [.int 0, .int 0, .int 0, .null]) (C := "LatticeKeys$Ring") (T := T_RG) (N := 4) hx hb hts (wg_ft i_RG) ty_RG k_RG hown (hts _ (wg_t kw_82)) (hts _ (wg_t kw_83)) (hts _ (wg_t kw_4)) hK hP hD hS hA rfl z_RG (Nat.le_of_ble_eq_true rfl) (Nat.le_of_ble_eq_true rfl) dKM_init_16 (fun q22 H hP hD hS => ?_)
  obtain ⟨hP, hD⟩ := mv_first hP hD
  have hP : va_P g.1 vcl ([(h0, .inr (5, [.ref q21, .null, .null, .null, .null, .null, .null, .null, .null, .null])), (q22, .inr (4, [.int 0, .int 0, .int 0, .null]))] ++ pl) _ := hP
  have hD : va_D _ ([(h0, .inr (5, [.ref q21, .null, .null, .null, .null, .null, .null, .null, .null, .null])), (q22, .inr (4, [.int 0, .int 0, .int 0, .null]))] ++ pl) := hD
  refine W.widen (k := 3) (n := 33) (by omega) (by omega) ?_
  refine lv_dup hx hb dKM_init_19 rfl ?_
  refine lv_sipush (v := nI 3329) hx hb dKM_init_20 (by decide) ?_
  refine lv_bipush (v := nI 17) hx hb dKM_init_23 (by decide) ?_
  refine lv_bipush (v := nI 7) hx hb dKM_init_25 (by decide) ?_
  refine mq_v (cx := [(q22, .inr (4, [.int 0, .int 0, .int 0, .null]))]) (wr := [(h0, .inr (5, [.ref q21, .null, .null, .null, .null, .null, .null, .null, .null, .null]))]) hP hD hS hA [1] [0] rfl rfl rfl (by decide) (va_runI (As := [.int (nI 3329), .int (nI 17), .int (nI 7)]) (rest := [.ref q22, .ref h0]) F (m_RG_initX_7 l g _ q22) (cwI 3 hts (wg_in kw_86) rfl rfl rfl (hts _ (wg_t kw_4)) (hts _ (wg_t kw_84)) (hts _ (wg_t kw_85)) rfl (by decide +kernel) ⟨by decide, by decide⟩) (pr_S (en_ok g) (md_P hP) (md_D hD) hS hA hE [1] rfl rfl) rfl rfl hl.1 rfl (lv_room (Nat.le_of_ble_eq_true rfl)) dKM_init_27 ⟨Nat.le_of_ble_eq_true rfl, Nat.le_of_ble_eq_true rfl⟩) (fun u22 H locs hu22 hP hD hS => ?_)
  have hP : va_P g.1 vcl ([(h0, .inr (5, [.ref q21, .null, .null, .null, .null, .null, .null, .null, .null, .null])), (q22, .inr (4, [.int (nI 3329), .int (nI 7), .int (nI 3303), .ref u22])), (u22, .inl (g.2.1 0, 128, .inl ((rgF 17 3329 7 128))))] ++ pl) _ := hP
  have hD : va_D _ ([(h0, .inr (5, [.ref q21, .null, .null, .null, .null, .null, .null, .null, .null, .null])), (q22, .inr (4, [.int (nI 3329), .int (nI 7), .int (nI 3303), .ref u22])), (u22, .inl (g.2.1 0, 128, .inl ((rgF 17 3329 7 128))))] ++ pl) := hD
  refine W.widen (k := 4) (n := 161) (by omega) (by omega) ?_
  obtain ⟨hP, hD⟩ := mv_last (X := [(h0, .inr (5, [.ref q21, .null, .null, .null, .null, .null, .null, .null, .null, .null])), (q22, .inr (4, [.int (nI 3329), .int (nI 7), .int (nI 3303), .ref u22]))]) (c := (u22, .inl (g.2.1 0, 128, .inl ((rgF 17 3329 7 128))))) hP hD
  obtain ⟨T, pl, hxt22, hU, kr22, hO, hP, hD, hL⟩ := absorbX (X := [(h0, .inr (5, [.ref q21, .null, .null, .null, .null, .null, .null, .null, .null, .null])), (q22, .inr (4, [.int (nI 3329), .int (nI 7), .int (nI 3303), .ref u22]))]) 21 hP hD hO hU hL rfl (fun _ _ _ => fit11 (k := 21) rfl rg_tab7)
  have kr23 := hxt22 _ _ kr21
  have hXT := extN_tr hXT hxt22
  have hL : nmL T [(21, 22), (14, 15), (15, 16), (12, 13), (13, 14), (3, 4), (2, 3), (1, 2)] := hL
  have hP : va_P g.1 vcl ([(h0, .inr (5, [.ref q21, .null, .null, .null, .null, .null, .null, .null, .null, .null])), (q22, .inr (4, [.int (nI 3329), .int (nI 7), .int (nI 3303), .ref u22]))] ++ pl) _ := hP
  have hD : va_D _ ([(h0, .inr (5, [.ref q21, .null, .null, .null, .null, .null, .null, .null, .null, .null])), (q22, .inr (4, [.int (nI 3329), .int (nI 7), .int (nI 3303), .ref u22]))] ++ pl) := hD
  obtain ⟨hP, hD⟩ := mv_last (X := [(h0, .inr (5, [.ref q21, .null, .null, .null, .null, .null, .null, .null, .null, .null]))]) (c := (q22, .inr (4, [.int (nI 3329), .int (nI 7), .int (nI 3303), .ref u22]))) hP hD
  obtain ⟨T, pl, hxt23, hU, kr24, hO, hP, hD, hL⟩ := absorbX (X := [(h0, .inr (5, [.ref q21, .null, .null, .null, .null, .null, .null, .null, .null, .null]))]) 20 hP hD hO hU hL rfl (fun _ h9 _ => fit5 (k := 20) (fl := [(1, 3329), (1, 7), (1, 3303), (3, 21)]) rfl ⟨rfl, rfl, rfl, ⟨_, rfl, h9 _ _ kr22⟩, trivial⟩)
  have kr25 := hxt23 _ _ kr23
  have kr26 := hxt23 _ _ kr22
  have hXT := extN_tr hXT hxt23
  have hL : nmL T [(20, 21), (21, 22), (14, 15), (15, 16), (12, 13), (13, 14), (3, 4), (2, 3), (1, 2)] := hL
  have hP : va_P g.1 vcl ([(h0, .inr (5, [.ref q21, .null, .null, .null, .null, .null, .null, .null, .null, .null]))] ++ pl) _ := hP
  have hD : va_D _ ([(h0, .inr (5, [.ref q21, .null, .null, .null, .null, .null, .null, .null, .null, .null]))] ++ pl) := hD
  refine va_putF (D := g.1) (ci := 5) (v := .ref q22) (ty := .object "LatticeKeys$Ring") (C := "LatticeKeys$Kem") (T := T_KM) (N := 10) hx hb hts (wg_ft i_KM) ty_KM k_KM n_KM hown hK hP hD hS 0 rfl rfl 1 (by decide) (hts _ (wg_t kw_108)) (fun _ h9 => h9) rfl hnm rfl (by decide +kernel) rfl rfl (Nat.le_of_ble_eq_true rfl) dKM_init_30 (fun H locs hP hD hS => ?_)
  have hP : va_P g.1 vcl ([(h0, .inr (5, [.ref q21, .ref q22, .null, .null, .null, .null, .null, .null, .null, .null]))] ++ pl) _ := hP
  have hD : va_D _ ([(h0, .inr (5, [.ref q21, .ref q22, .null, .null, .null, .null, .null, .null, .null, .null]))] ++ pl) := hD
  refine lv_aload_n hx hb dKM_init_33 rfl (lv_at hl 0 rfl) ?_
  refine lv_iconst (v := nI 4) hx hb dKM_init_34 (by decide) ?_
  refine lv_sipush (v := nI 256) hx hb dKM_init_35 (by decide) ?_
  refine nm_mnai (X := [(h0, .inr (5, [.ref q21, .ref q22, .null, .null, .null, .null, .null, .null, .null, .null]))]) hx hb hown (hts _ (wg_t kw_105)) hE.2.2.2.2.2.1 (hts _ (wg_t kw_104)) hK hP hD hS hA hO hU hL 25 (by decide +kernel) rfl (by decide +kernel) (by decide) (Nat.le_of_ble_eq_true rfl) (Nat.le_of_ble_eq_true rfl) dKM_init_38 (fun q23 T pl H hxt24 hU kr27 hO hP hD hS hL => ?_)
  have kr28 := hxt24 _ _ kr25
  have kr29 := hxt24 _ _ kr26
  have kr30 := hxt24 _ _ kr24
  have hXT := extN_tr hXT hxt24
  have hL : nmL T [(25, 30), (20, 21), (21, 22), (14, 15), (15, 16), (12, 13), (13, 14), (3, 4), (2, 3), (1, 2)] := hL
  have hP : va_P g.1 vcl ([(h0, .inr (5, [.ref q21, .ref q22, .null, .null, .null, .null, .null, .null, .null, .null]))] ++ pl) _ := hP
  have hD : va_D _ ([(h0, .inr (5, [.ref q21, .ref q22, .null, .null, .null, .null, .null, .null, .null, .null]))] ++ pl) := hD
  refine W.widen (k := 9) (n := 1189) (by omega) (by omega) ?_
  refine va_putF (D := g.1) (ci := 5) (v := .ref q23) (ty := .array (.array .int)) (C := "LatticeKeys$Kem") (T := T_KM) (N := 10) hx hb hts (wg_ft i_KM) ty_KM k_KM n_KM hown hK hP hD hS 0 rfl rfl 2 (by decide) (hts _ (wg_t kw_109)) (fun _ h9 => h9) rfl hnm rfl (by decide +kernel) rfl rfl (Nat.le_of_ble_eq_true rfl) dKM_init_42 (fun H locs hP hD hS => ?_)
  have hP : va_P g.1 vcl ([(h0, .inr (5, [.ref q21, .ref q22, .ref q23, .null, .null, .null, .null, .null, .null, .null]))] ++ pl) _ := hP
  have hD : va_D _ ([(h0, .inr (5, [.ref q21, .ref q22, .ref q23, .null, .null, .null, .null, .null, .null, .null]))] ++ pl) := hD
  refine lv_aload_n hx hb dKM_init_45 rfl (lv_at hl 0 rfl) ?_
  refine lv_sipush (v := nI 256) hx hb dKM_init_46 (by decide) ?_
  refine ma_newa (ws := [(h0, .inr (5, [.ref q21, .ref q22, .ref q23, .null, .null, .null, .null, .null, .null, .null]))] ++ pl) (atype := .int) hx hb (hts _ (wg_t kw_104)) rfl hK hP hD hS hA 0 rfl (N' := 256) (a0 := (256, .inl (fun _ => 0))) (fun _ => rfl) (nI_pos (by omega)) (nI_clamp (by omega)) (by show (256) * 4 ≤ 536870912; omega) (Nat.le_of_ble_eq_true rfl) (Nat.le_of_ble_eq_true rfl) dKM_init_49 (fun q24 H hP hD hS => ?_)
  refine W.widen (k := 10) (n := 1445) (by omega) (by omega) ?_
  obtain ⟨T, pl, hxt25, hU, kr31, hO, hP, hD, hL⟩ := absorbX (X := [(h0, .inr (5, [.ref q21, .ref q22, .ref q23, .null, .null, .null, .null, .null, .null, .null]))]) 30 hP hD hO hU hL rfl (fun _ _ _ => fit0 (k := 30) rfl)
  have kr32 := hxt25 _ _ kr28
  have kr33 := hxt25 _ _ kr29
  have kr34 := hxt25 _ _ kr30
  have kr35 := hxt25 _ _ kr27
  have hXT := extN_tr hXT hxt25
  have hL : nmL T [(30, 31), (25, 30), (20, 21), (21, 22), (14, 15), (15, 16), (12, 13), (13, 14), (3, 4), (2, 3), (1, 2)] := hL
  have hP : va_P g.1 vcl ([(h0, .inr (5, [.ref q21, .ref q22, .ref q23, .null, .null, .null, .null, .null, .null, .null]))] ++ pl) _ := hP
  have hD : va_D _ ([(h0, .inr (5, [.ref q21, .ref q22, .ref q23, .null, .null, .null, .null, .null, .null, .null]))] ++ pl) := hD
  refine va_putF (D := g.1) (ci := 5) (v := .ref q24) (ty := .array .int) (C := "LatticeKeys$Kem") (T := T_KM) (N := 10) hx hb hts (wg_ft i_KM) ty_KM k_KM n_KM hown hK hP hD hS 0 rfl rfl 3 (by decide) (hts _ (wg_t kw_110)) (fun _ h9 => h9) rfl hnm rfl (by decide +kernel) rfl rfl (Nat.le_of_ble_eq_true rfl) dKM_init_51 (fun H locs hP hD hS => ?_)
  have hP : va_P g.1 vcl ([(h0, .inr (5, [.ref q21, .ref q22, .ref q23, .ref q24, .null, .null, .null, .null, .null, .null]))] ++ pl) _ := hP
  have hD : va_D _ ([(h0, .inr (5, [.ref q21, .ref q22, .ref q23, .ref q24, .null, .null, .null, .null, .null, .null]))] ++ pl) := hD
  refine lv_aload_n hx hb dKM_init_54 rfl (lv_at hl 0 rfl) ?_
  refine lv_sipush (v := nI 256) hx hb dKM_init_55 (by decide) ?_
  refine ma_newa (ws := [(h0, .inr (5, [.ref q21, .ref q22, .ref q23, .ref q24, .null, .null, .null, .null, .null, .null]))] ++ pl) (atype := .int) hx hb (hts _ (wg_t kw_104)) rfl hK hP hD hS hA 0 rfl (N' := 256) (a0 := (256, .inl (fun _ => 0))) (fun _ => rfl) (nI_pos (by omega)) (nI_clamp (by omega)) (by show (256) * 4 ≤ 536870912; omega) (Nat.le_of_ble_eq_true rfl) (Nat.le_of_ble_eq_true rfl) dKM_init_58 (fun q25 H hP hD hS => ?_)
  refine W.widen (k := 11) (n := 1701) (by omega) (by omega) ?_
  obtain ⟨T, pl, hxt26, hU, kr36, hO, hP, hD, hL⟩ := absorbX (X := [(h0, .inr (5, [.ref q21, .ref q22, .ref q23, .ref q24, .null, .null, .null, .null, .null, .null]))]) 31 hP hD hO hU hL rfl (fun _ _ _ => fit0 (k := 31) rfl)
  have kr37 := hxt26 _ _ kr32
  have kr38 := hxt26 _ _ kr33
  have kr39 := hxt26 _ _ kr34
  have kr40 := hxt26 _ _ kr35
  have kr41 := hxt26 _ _ kr31
  have hXT := extN_tr hXT hxt26
  have hL : nmL T [(31, 32), (30, 31), (25, 30), (20, 21), (21, 22), (14, 15), (15, 16), (12, 13), (13, 14), (3, 4), (2, 3), (1, 2)] := hL
  have hP : va_P g.1 vcl ([(h0, .inr (5, [.ref q21, .ref q22, .ref q23, .ref q24, .null, .null, .null, .null, .null, .null]))] ++ pl) _ := hP
  have hD : va_D _ ([(h0, .inr (5, [.ref q21, .ref q22, .ref q23, .ref q24, .null, .null, .null, .null, .null, .null]))] ++ pl) := hD
  refine va_putF (D := g.1) (ci := 5) (v := .ref q25) (ty := .array .int) (C := "LatticeKeys$Kem") (T := T_KM) (N := 10) hx hb hts (wg_ft i_KM) ty_KM k_KM n_KM hown hK hP hD hS 0 rfl rfl 4 (by decide) (hts _ (wg_t kw_111)) (fun _ h9 => h9) rfl hnm rfl (by decide +kernel) rfl rfl (Nat.le_of_ble_eq_true rfl) dKM_init_60 (fun H locs hP hD hS => ?_)
  have hP : va_P g.1 vcl ([(h0, .inr (5, [.ref q21, .ref q22, .ref q23, .ref q24, .ref q25, .null, .null, .null, .null, .null]))] ++ pl) _ := hP
  have hD : va_D _ ([(h0, .inr (5, [.ref q21, .ref q22, .ref q23, .ref q24, .ref q25, .null, .null, .null, .null, .null]))] ++ pl) := hD
  refine lv_aload_n hx hb dKM_init_63 rfl (lv_at hl 0 rfl) ?_
  refine lv_bipush (v := nI 32) hx hb dKM_init_64 (by decide) ?_
  refine ma_newa (ws := [(h0, .inr (5, [.ref q21, .ref q22, .ref q23, .ref q24, .ref q25, .null, .null, .null, .null, .null]))] ++ pl) (atype := .byte) hx hb (hts _ (wg_t kw_72)) rfl hK hP hD hS hA 1 rfl (N' := 32) (a0 := (32, .inl (fun _ => 0))) (fun _ => rfl) (nI_pos (by omega)) (nI_clamp (by omega)) (by show (32) * 1 ≤ 536870912; omega) (Nat.le_of_ble_eq_true rfl) (Nat.le_of_ble_eq_true rfl) dKM_init_66 (fun q26 H hP hD hS => ?_)
  refine W.widen (k := 12) (n := 1733) (by omega) (by omega) ?_
  obtain ⟨T, pl, hxt27, hU, kr42, hO, hP, hD, hL⟩ := absorbX (X := [(h0, .inr (5, [.ref q21, .ref q22, .ref q23, .ref q24, .ref q25, .null, .null, .null, .null, .null]))]) 32 hP hD hO hU hL rfl (fun _ _ _ => fit1 (k := 32) rfl)
  have kr43 := hxt27 _ _ kr37
  have kr44 := hxt27 _ _ kr38
  have kr45 := hxt27 _ _ kr39
  have kr46 := hxt27 _ _ kr40
  have kr47 := hxt27 _ _ kr41
  have kr48 := hxt27 _ _ kr36
  have hXT := extN_tr hXT hxt27
  have hL : nmL T [(32, 33), (31, 32), (30, 31), (25, 30), (20, 21), (21, 22), (14, 15), (15, 16), (12, 13), (13, 14), (3, 4), (2, 3), (1, 2)] := hL
  have hP : va_P g.1 vcl ([(h0, .inr (5, [.ref q21, .ref q22, .ref q23, .ref q24, .ref q25, .null, .null, .null, .null, .null]))] ++ pl) _ := hP
  have hD : va_D _ ([(h0, .inr (5, [.ref q21, .ref q22, .ref q23, .ref q24, .ref q25, .null, .null, .null, .null, .null]))] ++ pl) := hD
  refine va_putF (D := g.1) (ci := 5) (v := .ref q26) (ty := .array .byte) (C := "LatticeKeys$Kem") (T := T_KM) (N := 10) hx hb hts (wg_ft i_KM) ty_KM k_KM n_KM hown hK hP hD hS 0 rfl rfl 5 (by decide) (hts _ (wg_t kw_112)) (fun _ h9 => h9) rfl hnm rfl (by decide +kernel) rfl rfl (Nat.le_of_ble_eq_true rfl) dKM_init_68 (fun H locs hP hD hS => ?_)
  have hP : va_P g.1 vcl ([(h0, .inr (5, [.ref q21, .ref q22, .ref q23, .ref q24, .ref q25, .ref q26, .null, .null, .null, .null]))] ++ pl) _ := hP
  have hD : va_D _ ([(h0, .inr (5, [.ref q21, .ref q22, .ref q23, .ref q24, .ref q25, .ref q26, .null, .null, .null, .null]))] ++ pl) := hD
  refine lv_aload_n hx hb dKM_init_71 rfl (lv_at hl 0 rfl) ?_
  refine lv_bipush (v := nI 32) hx hb dKM_init_72 (by decide) ?_
  refine ma_newa (ws := [(h0, .inr (5, [.ref q21, .ref q22, .ref q23, .ref q24, .ref q25, .ref q26, .null, .null, .null, .null]))] ++ pl) (atype := .byte) hx hb (hts _ (wg_t kw_72)) rfl hK hP hD hS hA 1 rfl (N' := 32) (a0 := (32, .inl (fun _ => 0))) (fun _ => rfl) (nI_pos (by omega)) (nI_clamp (by omega)) (by show (32) * 1 ≤ 536870912; omega) (Nat.le_of_ble_eq_true rfl) (Nat.le_of_ble_eq_true rfl) dKM_init_74 (fun q27 H hP hD hS => ?_)
  refine W.widen (k := 13) (n := 1765) (by omega) (by omega) ?_
  obtain ⟨T, pl, hxt28, hU, kr49, hO, hP, hD, hL⟩ := absorbX (X := [(h0, .inr (5, [.ref q21, .ref q22, .ref q23, .ref q24, .ref q25, .ref q26, .null, .null, .null, .null]))]) 33 hP hD hO hU hL rfl (fun _ _ _ => fit1 (k := 33) rfl)
  have kr50 := hxt28 _ _ kr43
  have kr51 := hxt28 _ _ kr44
  have kr52 := hxt28 _ _ kr45
  have kr53 := hxt28 _ _ kr46
  have kr54 := hxt28 _ _ kr47
  have kr55 := hxt28 _ _ kr48
  have kr56 := hxt28 _ _ kr42
  have hXT := extN_tr hXT hxt28
  have hL : nmL T [(33, 34), (32, 33), (31, 32), (30, 31), (25, 30), (20, 21), (21, 22), (14, 15), (15, 16), (12, 13), (13, 14), (3, 4), (2, 3), (1, 2)] := hL
  have hP : va_P g.1 vcl ([(h0, .inr (5, [.ref q21, .ref q22, .ref q23, .ref q24, .ref q25, .ref q26, .null, .null, .null, .null]))] ++ pl) _ := hP
  have hD : va_D _ ([(h0, .inr (5, [.ref q21, .ref q22, .ref q23, .ref q24, .ref q25, .ref q26, .null, .null, .null, .null]))] ++ pl) := hD
  refine va_putF (D := g.1) (ci := 5) (v := .ref q27) (ty := .array .byte) (C := "LatticeKeys$Kem") (T := T_KM) (N := 10) hx hb hts (wg_ft i_KM) ty_KM k_KM n_KM hown hK hP hD hS 0 rfl rfl 6 (by decide) (hts _ (wg_t kw_113)) (fun _ h9 => h9) rfl hnm rfl (by decide +kernel) rfl rfl (Nat.le_of_ble_eq_true rfl) dKM_init_76 (fun H locs hP hD hS => ?_)
  have hP : va_P g.1 vcl ([(h0, .inr (5, [.ref q21, .ref q22, .ref q23, .ref q24, .ref q25, .ref q26, .ref q27, .null, .null, .null]))] ++ pl) _ := hP
  have hD : va_D _ ([(h0, .inr (5, [.ref q21, .ref q22, .ref q23, .ref q24, .ref q25, .ref q26, .ref q27, .null, .null, .null]))] ++ pl) := hD
  refine lv_aload_n hx hb dKM_init_79 rfl (lv_at hl 0 rfl) ?_
  refine lv_bipush (v := nI 64) hx hb dKM_init_80 (by decide) ?_
  refine ma_newa (ws := [(h0, .inr (5, [.ref q21, .ref q22, .ref q23, .ref q24, .ref q25, .ref q26, .ref q27, .null, .null, .null]))] ++ pl) (atype := .byte) hx hb (hts _ (wg_t kw_72)) rfl hK hP hD hS hA 1 rfl (N' := 64) (a0 := (64, .inl (fun _ => 0))) (fun _ => rfl) (nI_pos (by omega)) (nI_clamp (by omega)) (by show (64) * 1 ≤ 536870912; omega) (Nat.le_of_ble_eq_true rfl) (Nat.le_of_ble_eq_true rfl) dKM_init_82 (fun q28 H hP hD hS => ?_)
  refine W.widen (k := 14) (n := 1829) (by omega) (by omega) ?_
  obtain ⟨T, pl, hxt29, hU, kr57, hO, hP, hD, hL⟩ := absorbX (X := [(h0, .inr (5, [.ref q21, .ref q22, .ref q23, .ref q24, .ref q25, .ref q26, .ref q27, .null, .null, .null]))]) 34 hP hD hO hU hL rfl (fun _ _ _ => fit1 (k := 34) rfl)
  have kr58 := hxt29 _ _ kr50
  have kr59 := hxt29 _ _ kr51
  have kr60 := hxt29 _ _ kr52
  have kr61 := hxt29 _ _ kr53
  have kr62 := hxt29 _ _ kr54
  have kr63 := hxt29 _ _ kr55
  have kr64 := hxt29 _ _ kr56
  have kr65 := hxt29 _ _ kr49
  have hXT := extN_tr hXT hxt29
  have hL : nmL T [(34, 35), (33, 34), (32, 33), (31, 32), (30, 31), (25, 30), (20, 21), (21, 22), (14, 15), (15, 16), (12, 13), (13, 14), (3, 4), (2, 3), (1, 2)] := hL
  have hP : va_P g.1 vcl ([(h0, .inr (5, [.ref q21, .ref q22, .ref q23, .ref q24, .ref q25, .ref q26, .ref q27, .null, .null, .null]))] ++ pl) _ := hP
  have hD : va_D _ ([(h0, .inr (5, [.ref q21, .ref q22, .ref q23, .ref q24, .ref q25, .ref q26, .ref q27, .null, .null, .null]))] ++ pl) := hD
  refine va_putF (D := g.1) (ci := 5) (v := .ref q28) (ty := .array .byte) (C := "LatticeKeys$Kem") (T := T_KM) (N := 10) hx hb hts (wg_ft i_KM) ty_KM k_KM n_KM hown hK hP hD hS 0 rfl rfl 7 (by decide) (hts _ (wg_t kw_114)) (fun _ h9 => h9) rfl hnm rfl (by decide +kernel) rfl rfl (Nat.le_of_ble_eq_true rfl) dKM_init_84 (fun H locs hP hD hS => ?_)
  have hP : va_P g.1 vcl ([(h0, .inr (5, [.ref q21, .ref q22, .ref q23, .ref q24, .ref q25, .ref q26, .ref q27, .ref q28, .null, .null]))] ++ pl) _ := hP
  have hD : va_D _ ([(h0, .inr (5, [.ref q21, .ref q22, .ref q23, .ref q24, .ref q25, .ref q26, .ref q27, .ref q28, .null, .null]))] ++ pl) := hD
  refine lv_aload_n hx hb dKM_init_87 rfl (lv_at hl 0 rfl) ?_
  refine lv_sipush (v := nI 192) hx hb dKM_init_88 (by decide) ?_
  refine ma_newa (ws := [(h0, .inr (5, [.ref q21, .ref q22, .ref q23, .ref q24, .ref q25, .ref q26, .ref q27, .ref q28, .null, .null]))] ++ pl) (atype := .byte) hx hb (hts _ (wg_t kw_72)) rfl hK hP hD hS hA 1 rfl (N' := 192) (a0 := (192, .inl (fun _ => 0))) (fun _ => rfl) (nI_pos (by omega)) (nI_clamp (by omega)) (by show (192) * 1 ≤ 536870912; omega) (Nat.le_of_ble_eq_true rfl) (Nat.le_of_ble_eq_true rfl) dKM_init_91 (fun q29 H hP hD hS => ?_)
  refine W.widen (k := 15) (n := 2021) (by omega) (by omega) ?_
  obtain ⟨T, pl, hxt30, hU, kr66, hO, hP, hD, hL⟩ := absorbX (X := [(h0, .inr (5, [.ref q21, .ref q22, .ref q23, .ref q24, .ref q25, .ref q26, .ref q27, .ref q28, .null, .null]))]) 35 hP hD hO hU hL rfl (fun _ _ _ => fit1 (k := 35) rfl)
  have kr67 := hxt30 _ _ kr58
  have kr68 := hxt30 _ _ kr59
  have kr69 := hxt30 _ _ kr60
  have kr70 := hxt30 _ _ kr61
  have kr71 := hxt30 _ _ kr62
  have kr72 := hxt30 _ _ kr63
  have kr73 := hxt30 _ _ kr64
  have kr74 := hxt30 _ _ kr65
  have kr75 := hxt30 _ _ kr57
  have hXT := extN_tr hXT hxt30
  have hL : nmL T [(35, 36), (34, 35), (33, 34), (32, 33), (31, 32), (30, 31), (25, 30), (20, 21), (21, 22), (14, 15), (15, 16), (12, 13), (13, 14), (3, 4), (2, 3), (1, 2)] := hL
  have hP : va_P g.1 vcl ([(h0, .inr (5, [.ref q21, .ref q22, .ref q23, .ref q24, .ref q25, .ref q26, .ref q27, .ref q28, .null, .null]))] ++ pl) _ := hP
  have hD : va_D _ ([(h0, .inr (5, [.ref q21, .ref q22, .ref q23, .ref q24, .ref q25, .ref q26, .ref q27, .ref q28, .null, .null]))] ++ pl) := hD
  refine va_putF (D := g.1) (ci := 5) (v := .ref q29) (ty := .array .byte) (C := "LatticeKeys$Kem") (T := T_KM) (N := 10) hx hb hts (wg_ft i_KM) ty_KM k_KM n_KM hown hK hP hD hS 0 rfl rfl 8 (by decide) (hts _ (wg_t kw_115)) (fun _ h9 => h9) rfl hnm rfl (by decide +kernel) rfl rfl (Nat.le_of_ble_eq_true rfl) dKM_init_93 (fun H locs hP hD hS => ?_)
  have hP : va_P g.1 vcl ([(h0, .inr (5, [.ref q21, .ref q22, .ref q23, .ref q24, .ref q25, .ref q26, .ref q27, .ref q28, .ref q29, .null]))] ++ pl) _ := hP
  have hD : va_D _ ([(h0, .inr (5, [.ref q21, .ref q22, .ref q23, .ref q24, .ref q25, .ref q26, .ref q27, .ref q28, .ref q29, .null]))] ++ pl) := hD
  refine lv_aload_n hx hb dKM_init_96 rfl (lv_at hl 0 rfl) ?_
  refine lv_sipush (v := nI 1568) hx hb dKM_init_97 (by decide) ?_
  refine ma_newa (ws := [(h0, .inr (5, [.ref q21, .ref q22, .ref q23, .ref q24, .ref q25, .ref q26, .ref q27, .ref q28, .ref q29, .null]))] ++ pl) (atype := .byte) hx hb (hts _ (wg_t kw_72)) rfl hK hP hD hS hA 1 rfl (N' := 1568) (a0 := (1568, .inl (fun _ => 0))) (fun _ => rfl) (nI_pos (by omega)) (nI_clamp (by omega)) (by show (1568) * 1 ≤ 536870912; omega) (Nat.le_of_ble_eq_true rfl) (Nat.le_of_ble_eq_true rfl) dKM_init_100 (fun q30 H hP hD hS => ?_)
  refine W.widen (k := 16) (n := 3589) (by omega) (by omega) ?_
  obtain ⟨T, pl, hxt31, hU, kr76, hO, hP, hD, hL⟩ := absorbX (X := [(h0, .inr (5, [.ref q21, .ref q22, .ref q23, .ref q24, .ref q25, .ref q26, .ref q27, .ref q28, .ref q29, .null]))]) 36 hP hD hO hU hL rfl (fun _ _ _ => fit1 (k := 36) rfl)
  have kr77 := hxt31 _ _ kr67
  have kr78 := hxt31 _ _ kr68
  have kr79 := hxt31 _ _ kr69
  have kr80 := hxt31 _ _ kr70
  have kr81 := hxt31 _ _ kr71
  have kr82 := hxt31 _ _ kr72
  have kr83 := hxt31 _ _ kr73
  have kr84 := hxt31 _ _ kr74
  have kr85 := hxt31 _ _ kr75
  have kr86 := hxt31 _ _ kr66
  have hXT := extN_tr hXT hxt31
  have hL : nmL T [(36, 37), (35, 36), (34, 35), (33, 34), (32, 33), (31, 32), (30, 31), (25, 30), (20, 21), (21, 22), (14, 15), (15, 16), (12, 13), (13, 14), (3, 4), (2, 3), (1, 2)] := hL
  have hP : va_P g.1 vcl ([(h0, .inr (5, [.ref q21, .ref q22, .ref q23, .ref q24, .ref q25, .ref q26, .ref q27, .ref q28, .ref q29, .null]))] ++ pl) _ := hP
  have hD : va_D _ ([(h0, .inr (5, [.ref q21, .ref q22, .ref q23, .ref q24, .ref q25, .ref q26, .ref q27, .ref q28, .ref q29, .null]))] ++ pl) := hD
  refine va_putF (D := g.1) (ci := 5) (v := .ref q30) (ty := .array .byte) (C := "LatticeKeys$Kem") (T := T_KM) (N := 10) hx hb hts (wg_ft i_KM) ty_KM k_KM n_KM hown hK hP hD hS 0 rfl rfl 9 (by decide) (hts _ (wg_t kw_116)) (fun _ h9 => h9) rfl hnm rfl (by decide +kernel) rfl rfl (Nat.le_of_ble_eq_true rfl) dKM_init_102 (fun H locs hP hD hS => ?_)
  have hP : va_P g.1 vcl ([(h0, .inr (5, [.ref q21, .ref q22, .ref q23, .ref q24, .ref q25, .ref q26, .ref q27, .ref q28, .ref q29, .ref q30]))] ++ pl) _ := hP
  have hD : va_D _ ([(h0, .inr (5, [.ref q21, .ref q22, .ref q23, .ref q24, .ref q25, .ref q26, .ref q27, .ref q28, .ref q29, .ref q30]))] ++ pl) := hD
  obtain ⟨hP, hD⟩ := mv_last (X := []) (c := (h0, .inr (5, [.ref q21, .ref q22, .ref q23, .ref q24, .ref q25, .ref q26, .ref q27, .ref q28, .ref q29, .ref q30]))) hP hD
  obtain ⟨T, pl, hxt32, hU, kr87, hO, hP, hD, hL⟩ := absorbX (X := []) 24 hP hD hO hU hL rfl (fun _ h9 _ => fit5 (k := 24) (fl := [(3, 14), (3, 20), (3, 25), (3, 30), (3, 31), (3, 32), (3, 33), (3, 34), (3, 35), (3, 36)]) rfl ⟨⟨_, rfl, h9 _ _ kr77⟩, ⟨_, rfl, h9 _ _ kr79⟩, ⟨_, rfl, h9 _ _ kr80⟩, ⟨_, rfl, h9 _ _ kr81⟩, ⟨_, rfl, h9 _ _ kr82⟩, ⟨_, rfl, h9 _ _ kr83⟩, ⟨_, rfl, h9 _ _ kr84⟩, ⟨_, rfl, h9 _ _ kr85⟩, ⟨_, rfl, h9 _ _ kr86⟩, ⟨_, rfl, h9 _ _ kr76⟩, trivial⟩)
  have kr88 := hxt32 _ _ kr77
  have kr89 := hxt32 _ _ kr78
  have kr90 := hxt32 _ _ kr79
  have kr91 := hxt32 _ _ kr80
  have kr92 := hxt32 _ _ kr81
  have kr93 := hxt32 _ _ kr82
  have kr94 := hxt32 _ _ kr83
  have kr95 := hxt32 _ _ kr84
  have kr96 := hxt32 _ _ kr85
  have kr97 := hxt32 _ _ kr86
  have kr98 := hxt32 _ _ kr76
  have hXT := extN_tr hXT hxt32
  have hL : nmL T [(24, 25), (36, 37), (35, 36), (34, 35), (33, 34), (32, 33), (31, 32), (30, 31), (25, 30), (20, 21), (21, 22), (14, 15), (15, 16), (12, 13), (13, 14), (3, 4), (2, 3), (1, 2)] := hL
  have hP : va_P g.1 vcl ([] ++ pl) _ := hP
  have hD : va_D _ ([] ++ pl) := hD
  exact mp_vret hx hb hr hlk hP hD hS (T, pl) ⟨⟨hXT, hU, hL, kr87⟩, hO⟩ [] rfl rfl rfl (by omega) (by omega) dKM_init_105
set_option maxHeartbeats 4000000 in
set_option maxRecDepth 100000 in
theorem z_SP_init_2 (l : Launch) (g : Gd) (sz : Nat) (T0 : TyN) (pl : va_W) (hO : okn g T0 Z0 pl) (hU : inj T0) (hL : nmL T0 [(24, 25), (36, 37), (35, 36), (34, 35), (33, 34), (32, 33), (31, 32), (30, 31), (25, 30), (20, 21), (21, 22), (14, 15), (15, 16), (12, 13), (13, 14), (3, 4), (2, 3), (1, 2)]) (h0 : Nat) : Met l y_SP_init w_SP_init ({ frames := 1, cells := 1, slots := 25, locals := 40 } : Room) (va_Pc [.ref h0] (pr (en g) g.1 vcl sz ([(h0, .inr (3, [.null, .int 0, .int 0, .int 0]))] ++ pl))) (va_Qv (fun (u : TyN × va_W) => (extN T0 u.1 ∧ inj u.1 ∧ nmL u.1 [(16, 17), (17, 18), (24, 25), (36, 37), (35, 36), (34, 35), (33, 34), (32, 33), (31, 32), (30, 31), (25, 30), (20, 21), (21, 22), (14, 15), (15, 16), (12, 13), (13, 14), (3, 4), (2, 3), (1, 2)] ∧ u.1 h0 = some 16) ∧ okn g u.1 Z0 u.2) (po g.1 vcl (va_A ([(h0, .inr (3, [.null, .int 0, .int 0, .int 0]))] ++ pl) sz) (fun (u : TyN × va_W) => [] ++ u.2)) (va_A ([(h0, .inr (3, [.null, .int 0, .int 0, .int 0]))] ++ pl) sz)) 1 25 (va_A ([(h0, .inr (3, [.null, .int 0, .int 0, .int 0]))] ++ pl) sz) := by
  refine mc_entry (cc := c_SP_init) (maxL := 1) (ret := none) (by decide) rfl (Nat.le_of_ble_eq_true rfl) ?_
  intro p e s m args below meth c ls F hr hlk hnm hsz hP hD hE hA hl
  obtain ⟨hx, hb, hml, hown, hts⟩ := id F
  have hK := hE.1
  generalize va_A ([(h0, .inr (3, [.null, .int 0, .int 0, .int 0]))] ++ pl) sz = A at hD hE hA ⊢
  obtain ⟨T, hXT, hO, hU, hL⟩ : ∃ T, extN T0 T ∧ okn g T Z0 pl ∧ inj T ∧ nmL T [(24, 25), (36, 37), (35, 36), (34, 35), (33, 34), (32, 33), (31, 32), (30, 31), (25, 30), (20, 21), (21, 22), (14, 15), (15, 16), (12, 13), (13, 14), (3, 4), (2, 3), (1, 2)] := ⟨T0, extN_rf, hO, hU, hL⟩
  have hS : va_S A s.heap s.heap [] := va_S.rf
  have hl : lv_has ls 1 [(0, .ref h0)] := hl
  refine lv_aload_n hx hb dSP_init_0 rfl (lv_at hl 0 rfl) ?_
  refine W.objInit hx hb hown (hts _ (wg_t kw_54)) (hts _ (wg_t kw_41)) (hts _ (wg_t kobj)) rfl (by rw [hml]; exact hl.1) rfl dSP_init_1 (Nat.le_of_ble_eq_true rfl) (Nat.le_of_ble_eq_true rfl) ?_
  refine W.eq (g2 := F0 m 4 ls []) rfl ?_
  refine lv_aload_n hx hb dSP_init_4 rfl (lv_at hl 0 rfl) ?_
  refine lv_bipush (v := nI 25) hx hb dSP_init_5 (by decide) ?_
  refine ma_newa (ws := [(h0, .inr (3, [.null, .int 0, .int 0, .int 0]))] ++ pl) (atype := .long) hx hb (hts _ (wg_t kw_73)) rfl hK hP hD hS hA 2 rfl (N' := 25) (a0 := (25, .inr (.inl (fun _ => 0)))) (fun _ => rfl) (nI_pos (by omega)) (nI_clamp (by omega)) (by show (25) * 8 ≤ 536870912; omega) (Nat.le_of_ble_eq_true rfl) (Nat.le_of_ble_eq_true rfl) dSP_init_7 (fun q21 H hP hD hS => ?_)
  refine W.widen (k := 1) (n := 25) (by omega) (by omega) ?_
  obtain ⟨T, pl, hxt21, hU, kr21, hO, hP, hD, hL⟩ := absorbX (X := [(h0, .inr (3, [.null, .int 0, .int 0, .int 0]))]) 17 hP hD hO hU hL rfl (fun _ _ _ => fit2 (k := 17) rfl)
  have hXT := extN_tr hXT hxt21
  have hL : nmL T [(17, 18), (24, 25), (36, 37), (35, 36), (34, 35), (33, 34), (32, 33), (31, 32), (30, 31), (25, 30), (20, 21), (21, 22), (14, 15), (15, 16), (12, 13), (13, 14), (3, 4), (2, 3), (1, 2)] := hL
  have hP : va_P g.1 vcl ([(h0, .inr (3, [.null, .int 0, .int 0, .int 0]))] ++ pl) _ := hP
  have hD : va_D _ ([(h0, .inr (3, [.null, .int 0, .int 0, .int 0]))] ++ pl) := hD
  refine va_putF (D := g.1) (ci := 3) (v := .ref q21) (ty := .array .long) (C := "LatticeKeys$Sponge") (T := T_SP) (N := 4) hx hb hts (wg_ft i_SP) ty_SP k_SP n_SP hown hK hP hD hS 0 rfl rfl 0 (by decide) (hts _ (wg_t kw_59)) (fun _ h9 => h9) rfl hnm rfl (by decide +kernel) rfl rfl (Nat.le_of_ble_eq_true rfl) dSP_init_9 (fun H locs hP hD hS => ?_)
  have hP : va_P g.1 vcl ([(h0, .inr (3, [.ref q21, .int 0, .int 0, .int 0]))] ++ pl) _ := hP
  have hD : va_D _ ([(h0, .inr (3, [.ref q21, .int 0, .int 0, .int 0]))] ++ pl) := hD
  refine lv_aload_n hx hb dSP_init_12 rfl (lv_at hl 0 rfl) ?_
  refine va_gets hx hb (hE.2.1 0 _ rfl).1 hS hown (hts _ (wg_t kw_55)) (fun _ h9 => h9) dSP_init_13 ?_
  refine lv_iconst (v := nI 0) hx hb dSP_init_16 (by decide) ?_
  refine va_ti (v := .int (nI 136)) hx hb (hE.2.1 0 _ rfl).2 hS (vp_in_nI (by decide) (by decide)) (by decide +kernel) dSP_init_17 ?_
  refine va_put (D := g.1) (ci := 3) (v := .int (nI 136)) (ty := .int) (C := "LatticeKeys$Sponge") (T := T_SP) (N := 4) hx hb hts (wg_ft i_SP) ty_SP k_SP n_SP hown hK hP hD hS 0 rfl rfl 1 (by decide) (hts _ (wg_t kw_60)) (fun _ h9 => h9) rfl (by decide +kernel) rfl rfl (Nat.le_of_ble_eq_true rfl) dSP_init_18 (fun H locs hP hD hS => ?_)
  have hP : va_P g.1 vcl ([(h0, .inr (3, [.ref q21, .int (nI 136), .int 0, .int 0]))] ++ pl) _ := hP
  have hD : va_D _ ([(h0, .inr (3, [.ref q21, .int (nI 136), .int 0, .int 0]))] ++ pl) := hD
  refine lv_aload_n hx hb dSP_init_21 rfl (lv_at hl 0 rfl) ?_
  refine va_gets hx hb (hE.2.1 1 _ rfl).1 hS hown (hts _ (wg_t kw_57)) (fun _ h9 => h9) dSP_init_22 ?_
  refine lv_iconst (v := nI 0) hx hb dSP_init_25 (by decide) ?_
  refine va_ti (v := .int (nI 6)) hx hb (hE.2.1 1 _ rfl).2 hS (vp_in_nI (by decide) (by decide)) (by decide +kernel) dSP_init_26 ?_
  refine va_put (D := g.1) (ci := 3) (v := .int (nI 6)) (ty := .int) (C := "LatticeKeys$Sponge") (T := T_SP) (N := 4) hx hb hts (wg_ft i_SP) ty_SP k_SP n_SP hown hK hP hD hS 0 rfl rfl 2 (by decide) (hts _ (wg_t kw_61)) (fun _ h9 => h9) rfl (by decide +kernel) rfl rfl (Nat.le_of_ble_eq_true rfl) dSP_init_27 (fun H locs hP hD hS => ?_)
  have hP : va_P g.1 vcl ([(h0, .inr (3, [.ref q21, .int (nI 136), .int (nI 6), .int 0]))] ++ pl) _ := hP
  have hD : va_D _ ([(h0, .inr (3, [.ref q21, .int (nI 136), .int (nI 6), .int 0]))] ++ pl) := hD
  refine lv_aload_n hx hb dSP_init_30 rfl (lv_at hl 0 rfl) ?_
  refine lv_iconst (v := nI 0) hx hb dSP_init_31 (by decide) ?_
  refine va_put (D := g.1) (ci := 3) (v := .int (nI 0)) (ty := .int) (C := "LatticeKeys$Sponge") (T := T_SP) (N := 4) hx hb hts (wg_ft i_SP) ty_SP k_SP n_SP hown hK hP hD hS 0 rfl rfl 3 (by decide) (hts _ (wg_t kw_62)) (fun _ h9 => h9) rfl (by decide +kernel) rfl rfl (Nat.le_of_ble_eq_true rfl) dSP_init_32 (fun H locs hP hD hS => ?_)
  have hP : va_P g.1 vcl ([(h0, .inr (3, [.ref q21, .int (nI 136), .int (nI 6), .int (nI 0)]))] ++ pl) _ := hP
  have hD : va_D _ ([(h0, .inr (3, [.ref q21, .int (nI 136), .int (nI 6), .int (nI 0)]))] ++ pl) := hD
  obtain ⟨hP, hD⟩ := mv_last (X := []) (c := (h0, .inr (3, [.ref q21, .int (nI 136), .int (nI 6), .int (nI 0)]))) hP hD
  obtain ⟨T, pl, hxt22, hU, kr22, hO, hP, hD, hL⟩ := absorbX (X := []) 16 hP hD hO hU hL rfl (fun _ h9 _ => fit5 (k := 16) (fl := [(3, 17), (0, 0), (0, 0), (0, 0)]) rfl ⟨⟨_, rfl, h9 _ _ kr21⟩, rfl, rfl, rfl, trivial⟩)
  have kr23 := hxt22 _ _ kr21
  have hXT := extN_tr hXT hxt22
  have hL : nmL T [(16, 17), (17, 18), (24, 25), (36, 37), (35, 36), (34, 35), (33, 34), (32, 33), (31, 32), (30, 31), (25, 30), (20, 21), (21, 22), (14, 15), (15, 16), (12, 13), (13, 14), (3, 4), (2, 3), (1, 2)] := hL
  have hP : va_P g.1 vcl ([] ++ pl) _ := hP
  have hD : va_D _ ([] ++ pl) := hD
  exact mp_vret hx hb hr hlk hP hD hS (T, pl) ⟨⟨hXT, hU, hL, kr22⟩, hO⟩ [] rfl rfl rfl (by omega) (by omega) dSP_init_35
set_option maxHeartbeats 4000000 in
set_option maxRecDepth 100000 in
theorem z_SP_init_3 (l : Launch) (g : Gd) (sz : Nat) (T0 : TyN) (pl : va_W) (hO : okn g T0 Z0 pl) (hU : inj T0) (hL : nmL T0 [(22, 23), (23, 24), (16, 17), (17, 18), (24, 25), (36, 37), (35, 36), (34, 35), (33, 34), (32, 33), (31, 32), (30, 31), (25, 30), (20, 21), (21, 22), (14, 15), (15, 16), (12, 13), (13, 14), (3, 4), (2, 3), (1, 2)]) (h0 : Nat) : Met l y_SP_init w_SP_init ({ frames := 1, cells := 1, slots := 25, locals := 40 } : Room) (va_Pc [.ref h0] (pr (en g) g.1 vcl sz ([(h0, .inr (3, [.null, .int 0, .int 0, .int 0]))] ++ pl))) (va_Qv (fun (u : TyN × va_W) => (extN T0 u.1 ∧ inj u.1 ∧ nmL u.1 [(18, 19), (19, 20), (22, 23), (23, 24), (16, 17), (17, 18), (24, 25), (36, 37), (35, 36), (34, 35), (33, 34), (32, 33), (31, 32), (30, 31), (25, 30), (20, 21), (21, 22), (14, 15), (15, 16), (12, 13), (13, 14), (3, 4), (2, 3), (1, 2)] ∧ u.1 h0 = some 18) ∧ okn g u.1 Z0 u.2) (po g.1 vcl (va_A ([(h0, .inr (3, [.null, .int 0, .int 0, .int 0]))] ++ pl) sz) (fun (u : TyN × va_W) => [] ++ u.2)) (va_A ([(h0, .inr (3, [.null, .int 0, .int 0, .int 0]))] ++ pl) sz)) 1 25 (va_A ([(h0, .inr (3, [.null, .int 0, .int 0, .int 0]))] ++ pl) sz) := by
  refine mc_entry (cc := c_SP_init) (maxL := 1) (ret := none) (by decide) rfl (Nat.le_of_ble_eq_true rfl) ?_
  intro p e s m args below meth c ls F hr hlk hnm hsz hP hD hE hA hl
  obtain ⟨hx, hb, hml, hown, hts⟩ := id F
  have hK := hE.1
  generalize va_A ([(h0, .inr (3, [.null, .int 0, .int 0, .int 0]))] ++ pl) sz = A at hD hE hA ⊢
  obtain ⟨T, hXT, hO, hU, hL⟩ : ∃ T, extN T0 T ∧ okn g T Z0 pl ∧ inj T ∧ nmL T [(22, 23), (23, 24), (16, 17), (17, 18), (24, 25), (36, 37), (35, 36), (34, 35), (33, 34), (32, 33), (31, 32), (30, 31), (25, 30), (20, 21), (21, 22), (14, 15), (15, 16), (12, 13), (13, 14), (3, 4), (2, 3), (1, 2)] := ⟨T0, extN_rf, hO, hU, hL⟩
  have hS : va_S A s.heap s.heap [] := va_S.rf
  have hl : lv_has ls 1 [(0, .ref h0)] := hl
  refine lv_aload_n hx hb dSP_init_0 rfl (lv_at hl 0 rfl) ?_
  refine W.objInit hx hb hown (hts _ (wg_t kw_54)) (hts _ (wg_t kw_41)) (hts _ (wg_t kobj)) rfl (by rw [hml]; exact hl.1) rfl dSP_init_1 (Nat.le_of_ble_eq_true rfl) (Nat.le_of_ble_eq_true rfl) ?_
  refine W.eq (g2 := F0 m 4 ls []) rfl ?_
  refine lv_aload_n hx hb dSP_init_4 rfl (lv_at hl 0 rfl) ?_
  refine lv_bipush (v := nI 25) hx hb dSP_init_5 (by decide) ?_
  refine ma_newa (ws := [(h0, .inr (3, [.null, .int 0, .int 0, .int 0]))] ++ pl) (atype := .long) hx hb (hts _ (wg_t kw_73)) rfl hK hP hD hS hA 2 rfl (N' := 25) (a0 := (25, .inr (.inl (fun _ => 0)))) (fun _ => rfl) (nI_pos (by omega)) (nI_clamp (by omega)) (by show (25) * 8 ≤ 536870912; omega) (Nat.le_of_ble_eq_true rfl) (Nat.le_of_ble_eq_true rfl) dSP_init_7 (fun q21 H hP hD hS => ?_)
  refine W.widen (k := 1) (n := 25) (by omega) (by omega) ?_
  obtain ⟨T, pl, hxt21, hU, kr21, hO, hP, hD, hL⟩ := absorbX (X := [(h0, .inr (3, [.null, .int 0, .int 0, .int 0]))]) 19 hP hD hO hU hL rfl (fun _ _ _ => fit2 (k := 19) rfl)
  have hXT := extN_tr hXT hxt21
  have hL : nmL T [(19, 20), (22, 23), (23, 24), (16, 17), (17, 18), (24, 25), (36, 37), (35, 36), (34, 35), (33, 34), (32, 33), (31, 32), (30, 31), (25, 30), (20, 21), (21, 22), (14, 15), (15, 16), (12, 13), (13, 14), (3, 4), (2, 3), (1, 2)] := hL
  have hP : va_P g.1 vcl ([(h0, .inr (3, [.null, .int 0, .int 0, .int 0]))] ++ pl) _ := hP
  have hD : va_D _ ([(h0, .inr (3, [.null, .int 0, .int 0, .int 0]))] ++ pl) := hD
  refine va_putF (D := g.1) (ci := 3) (v := .ref q21) (ty := .array .long) (C := "LatticeKeys$Sponge") (T := T_SP) (N := 4) hx hb hts (wg_ft i_SP) ty_SP k_SP n_SP hown hK hP hD hS 0 rfl rfl 0 (by decide) (hts _ (wg_t kw_59)) (fun _ h9 => h9) rfl hnm rfl (by decide +kernel) rfl rfl (Nat.le_of_ble_eq_true rfl) dSP_init_9 (fun H locs hP hD hS => ?_)
  have hP : va_P g.1 vcl ([(h0, .inr (3, [.ref q21, .int 0, .int 0, .int 0]))] ++ pl) _ := hP
  have hD : va_D _ ([(h0, .inr (3, [.ref q21, .int 0, .int 0, .int 0]))] ++ pl) := hD
  refine lv_aload_n hx hb dSP_init_12 rfl (lv_at hl 0 rfl) ?_
  refine va_gets hx hb (hE.2.1 0 _ rfl).1 hS hown (hts _ (wg_t kw_55)) (fun _ h9 => h9) dSP_init_13 ?_
  refine lv_iconst (v := nI 0) hx hb dSP_init_16 (by decide) ?_
  refine va_ti (v := .int (nI 136)) hx hb (hE.2.1 0 _ rfl).2 hS (vp_in_nI (by decide) (by decide)) (by decide +kernel) dSP_init_17 ?_
  refine va_put (D := g.1) (ci := 3) (v := .int (nI 136)) (ty := .int) (C := "LatticeKeys$Sponge") (T := T_SP) (N := 4) hx hb hts (wg_ft i_SP) ty_SP k_SP n_SP hown hK hP hD hS 0 rfl rfl 1 (by decide) (hts _ (wg_t kw_60)) (fun _ h9 => h9) rfl (by decide +kernel) rfl rfl (Nat.le_of_ble_eq_true rfl) dSP_init_18 (fun H locs hP hD hS => ?_)
  have hP : va_P g.1 vcl ([(h0, .inr (3, [.ref q21, .int (nI 136), .int 0, .int 0]))] ++ pl) _ := hP
  have hD : va_D _ ([(h0, .inr (3, [.ref q21, .int (nI 136), .int 0, .int 0]))] ++ pl) := hD
  refine lv_aload_n hx hb dSP_init_21 rfl (lv_at hl 0 rfl) ?_
  refine va_gets hx hb (hE.2.1 1 _ rfl).1 hS hown (hts _ (wg_t kw_57)) (fun _ h9 => h9) dSP_init_22 ?_
  refine lv_iconst (v := nI 0) hx hb dSP_init_25 (by decide) ?_
  refine va_ti (v := .int (nI 6)) hx hb (hE.2.1 1 _ rfl).2 hS (vp_in_nI (by decide) (by decide)) (by decide +kernel) dSP_init_26 ?_
  refine va_put (D := g.1) (ci := 3) (v := .int (nI 6)) (ty := .int) (C := "LatticeKeys$Sponge") (T := T_SP) (N := 4) hx hb hts (wg_ft i_SP) ty_SP k_SP n_SP hown hK hP hD hS 0 rfl rfl 2 (by decide) (hts _ (wg_t kw_61)) (fun _ h9 => h9) rfl (by decide +kernel) rfl rfl (Nat.le_of_ble_eq_true rfl) dSP_init_27 (fun H locs hP hD hS => ?_)
  have hP : va_P g.1 vcl ([(h0, .inr (3, [.ref q21, .int (nI 136), .int (nI 6), .int 0]))] ++ pl) _ := hP
  have hD : va_D _ ([(h0, .inr (3, [.ref q21, .int (nI 136), .int (nI 6), .int 0]))] ++ pl) := hD
  refine lv_aload_n hx hb dSP_init_30 rfl (lv_at hl 0 rfl) ?_
  refine lv_iconst (v := nI 0) hx hb dSP_init_31 (by decide) ?_
  refine va_put (D := g.1) (ci := 3) (v := .int (nI 0)) (ty := .int) (C := "LatticeKeys$Sponge") (T := T_SP) (N := 4) hx hb hts (wg_ft i_SP) ty_SP k_SP n_SP hown hK hP hD hS 0 rfl rfl 3 (by decide) (hts _ (wg_t kw_62)) (fun _ h9 => h9) rfl (by decide +kernel) rfl rfl (Nat.le_of_ble_eq_true rfl) dSP_init_32 (fun H locs hP hD hS => ?_)
  have hP : va_P g.1 vcl ([(h0, .inr (3, [.ref q21, .int (nI 136), .int (nI 6), .int (nI 0)]))] ++ pl) _ := hP
  have hD : va_D _ ([(h0, .inr (3, [.ref q21, .int (nI 136), .int (nI 6), .int (nI 0)]))] ++ pl) := hD
  obtain ⟨hP, hD⟩ := mv_last (X := []) (c := (h0, .inr (3, [.ref q21, .int (nI 136), .int (nI 6), .int (nI 0)]))) hP hD
  obtain ⟨T, pl, hxt22, hU, kr22, hO, hP, hD, hL⟩ := absorbX (X := []) 18 hP hD hO hU hL rfl (fun _ h9 _ => fit5 (k := 18) (fl := [(3, 19), (0, 0), (0, 0), (0, 0)]) rfl ⟨⟨_, rfl, h9 _ _ kr21⟩, rfl, rfl, rfl, trivial⟩)
  have kr23 := hxt22 _ _ kr21
  have hXT := extN_tr hXT hxt22
  have hL : nmL T [(18, 19), (19, 20), (22, 23), (23, 24), (16, 17), (17, 18), (24, 25), (36, 37), (35, 36), (34, 35), (33, 34), (32, 33), (31, 32), (30, 31), (25, 30), (20, 21), (21, 22), (14, 15), (15, 16), (12, 13), (13, 14), (3, 4), (2, 3), (1, 2)] := hL
  have hP : va_P g.1 vcl ([] ++ pl) _ := hP
  have hD : va_D _ ([] ++ pl) := hD
  exact mp_vret hx hb hr hlk hP hD hS (T, pl) ⟨⟨hXT, hU, hL, kr22⟩, hO⟩ [] rfl rfl rfl (by omega) (by omega) dSP_init_35
set_option maxHeartbeats 4000000 in
set_option maxRecDepth 100000 in
theorem z_SA_init (l : Launch) (g : Gd) (sz : Nat) (T0 : TyN) (pl : va_W) (hO : okn g T0 Z0 pl) (hU : inj T0) (hL : nmL T0 [(22, 23), (23, 24), (16, 17), (17, 18), (24, 25), (36, 37), (35, 36), (34, 35), (33, 34), (32, 33), (31, 32), (30, 31), (25, 30), (20, 21), (21, 22), (14, 15), (15, 16), (12, 13), (13, 14), (3, 4), (2, 3), (1, 2)]) (h0 : Nat) : Met l y_SA_init w_SA_init ({ frames := 2, cells := 3, slots := 669, locals := 60 } : Room) (va_Pc [.ref h0] (pr (en g) g.1 vcl sz ([(h0, .inr (7, [.null, .null]))] ++ pl))) (va_Qv (fun (u : TyN × va_W) => (extN T0 u.1 ∧ inj u.1 ∧ nmL u.1 [(37, 38), (38, 39), (18, 19), (19, 20), (22, 23), (23, 24), (16, 17), (17, 18), (24, 25), (36, 37), (35, 36), (34, 35), (33, 34), (32, 33), (31, 32), (30, 31), (25, 30), (20, 21), (21, 22), (14, 15), (15, 16), (12, 13), (13, 14), (3, 4), (2, 3), (1, 2)] ∧ u.1 h0 = some 37) ∧ okn g u.1 Z0 u.2) (po g.1 vcl (va_A ([(h0, .inr (7, [.null, .null]))] ++ pl) sz) (fun (u : TyN × va_W) => [] ++ u.2)) (va_A ([(h0, .inr (7, [.null, .null]))] ++ pl) sz)) 3 669 (va_A ([(h0, .inr (7, [.null, .null]))] ++ pl) sz) := by
  refine mc_entry (cc := c_SA_init) (maxL := 1) (ret := none) (by decide) rfl (Nat.le_of_ble_eq_true rfl) ?_
  intro p e s m args below meth c ls F hr hlk hnm hsz hP hD hE hA hl
  obtain ⟨hx, hb, hml, hown, hts⟩ := id F
  have hK := hE.1
  generalize va_A ([(h0, .inr (7, [.null, .null]))] ++ pl) sz = A at hD hE hA ⊢
  obtain ⟨T, hXT, hO, hU, hL⟩ : ∃ T, extN T0 T ∧ okn g T Z0 pl ∧ inj T ∧ nmL T [(22, 23), (23, 24), (16, 17), (17, 18), (24, 25), (36, 37), (35, 36), (34, 35), (33, 34), (32, 33), (31, 32), (30, 31), (25, 30), (20, 21), (21, 22), (14, 15), (15, 16), (12, 13), (13, 14), (3, 4), (2, 3), (1, 2)] := ⟨T0, extN_rf, hO, hU, hL⟩
  have hS : va_S A s.heap s.heap [] := va_S.rf
  have hl : lv_has ls 1 [(0, .ref h0)] := hl
  refine lv_aload_n hx hb dSA_init_0 rfl (lv_at hl 0 rfl) ?_
  refine W.objInit hx hb hown (hts _ (wg_t kw_154)) (hts _ (wg_t kw_41)) (hts _ (wg_t kobj)) rfl (by rw [hml]; exact hl.1) rfl dSA_init_1 (Nat.le_of_ble_eq_true rfl) (Nat.le_of_ble_eq_true rfl) ?_
  refine W.eq (g2 := F0 m 4 ls []) rfl ?_
  refine lv_aload_n hx hb dSA_init_4 rfl (lv_at hl 0 rfl) ?_
  refine va_new (ws := [(h0, .inr (7, [.null, .null]))] ++ pl) (ci := 3) (fs := [.null, .int 0, .int 0, .int 0]) (C := "LatticeKeys$Sponge") (T := T_SP) (N := 4) hx hb hts (wg_ft i_SP) ty_SP k_SP hown (hts _ (wg_t kw_155)) (hts _ (wg_t kw_50)) (hts _ (wg_t kw_2)) hK hP hD hS hA rfl z_SP (Nat.le_of_ble_eq_true rfl) (Nat.le_of_ble_eq_true rfl) dSA_init_5 (fun q21 H hP hD hS => ?_)
  obtain ⟨hP, hD⟩ := mv_first hP hD
  have hP : va_P g.1 vcl ([(h0, .inr (7, [.null, .null])), (q21, .inr (3, [.null, .int 0, .int 0, .int 0]))] ++ pl) _ := hP
  have hD : va_D _ ([(h0, .inr (7, [.null, .null])), (q21, .inr (3, [.null, .int 0, .int 0, .int 0]))] ++ pl) := hD
  refine W.widen (k := 1) (n := 4) (by omega) (by omega) ?_
  refine lv_dup hx hb dSA_init_8 rfl ?_
  refine mp_v (cx := [(q21, .inr (3, [.null, .int 0, .int 0, .int 0]))]) (wr := [(h0, .inr (7, [.null, .null]))]) hP hD hS hA [1] [0] rfl rfl rfl (by decide) (va_runI (As := []) (rest := [.ref q21, .ref h0]) F (z_SP_init_3 l g _ T pl hO hU hL q21) (cwI 0 hts (wg_in kw_53) rfl rfl rfl (hts _ (wg_t kw_2)) (hts _ (wg_t kw_156)) (hts _ (wg_t kw_52)) rfl (by decide +kernel) ⟨by decide, by decide⟩) (pp_S (en_ok g) hP hD hS hA hE [1] rfl rfl) rfl rfl hl.1 rfl (lv_room (Nat.le_of_ble_eq_true rfl)) dSA_init_9 ⟨Nat.le_of_ble_eq_true rfl, Nat.le_of_ble_eq_true rfl⟩) (fun u21 H locs hu21 hP hD hS => ?_)
  obtain ⟨T, pl⟩ := u21
  obtain ⟨⟨hxt21, hU, hL, kr21⟩, hO⟩ := hu21
  have hO : okn g T Z0 pl := hO
  have hU : inj T := hU
  have hxt21 : extN _ T := hxt21
  have hXT := extN_tr hXT hxt21
  have hL : nmL T [(18, 19), (19, 20), (22, 23), (23, 24), (16, 17), (17, 18), (24, 25), (36, 37), (35, 36), (34, 35), (33, 34), (32, 33), (31, 32), (30, 31), (25, 30), (20, 21), (21, 22), (14, 15), (15, 16), (12, 13), (13, 14), (3, 4), (2, 3), (1, 2)] := hL
  have kr21 : T q21 = some 18 := kr21
  have hP : va_P g.1 vcl ([(h0, .inr (7, [.null, .null]))] ++ pl) _ := hP
  have hD : va_D _ ([(h0, .inr (7, [.null, .null]))] ++ pl) := hD
  refine W.widen (k := 2) (n := 29) (by omega) (by omega) ?_
  refine va_putF (D := g.1) (ci := 7) (v := .ref q21) (ty := .object "LatticeKeys$Sponge") (C := "LatticeKeys$DsaSampler") (T := T_SA) (N := 2) hx hb hts (wg_ft i_SA) ty_SA k_SA n_SA hown hK hP hD hS 0 rfl rfl 0 (by decide) (hts _ (wg_t kw_157)) (fun _ h9 => h9) rfl hnm rfl (by decide +kernel) rfl rfl (Nat.le_of_ble_eq_true rfl) dSA_init_12 (fun H locs hP hD hS => ?_)
  have hP : va_P g.1 vcl ([(h0, .inr (7, [.ref q21, .null]))] ++ pl) _ := hP
  have hD : va_D _ ([(h0, .inr (7, [.ref q21, .null]))] ++ pl) := hD
  refine lv_aload_n hx hb dSA_init_15 rfl (lv_at hl 0 rfl) ?_
  refine lv_sipush (v := nI 640) hx hb dSA_init_16 (by decide) ?_
  refine ma_newa (ws := [(h0, .inr (7, [.ref q21, .null]))] ++ pl) (atype := .byte) hx hb (hts _ (wg_t kw_72)) rfl hK hP hD hS hA 1 rfl (N' := 640) (a0 := (640, .inl (fun _ => 0))) (fun _ => rfl) (nI_pos (by omega)) (nI_clamp (by omega)) (by show (640) * 1 ≤ 536870912; omega) (Nat.le_of_ble_eq_true rfl) (Nat.le_of_ble_eq_true rfl) dSA_init_19 (fun q22 H hP hD hS => ?_)
  refine W.widen (k := 3) (n := 669) (by omega) (by omega) ?_
  obtain ⟨T, pl, hxt22, hU, kr22, hO, hP, hD, hL⟩ := absorbX (X := [(h0, .inr (7, [.ref q21, .null]))]) 38 hP hD hO hU hL rfl (fun _ _ _ => fit1 (k := 38) rfl)
  have kr23 := hxt22 _ _ kr21
  have hXT := extN_tr hXT hxt22
  have hL : nmL T [(38, 39), (18, 19), (19, 20), (22, 23), (23, 24), (16, 17), (17, 18), (24, 25), (36, 37), (35, 36), (34, 35), (33, 34), (32, 33), (31, 32), (30, 31), (25, 30), (20, 21), (21, 22), (14, 15), (15, 16), (12, 13), (13, 14), (3, 4), (2, 3), (1, 2)] := hL
  have hP : va_P g.1 vcl ([(h0, .inr (7, [.ref q21, .null]))] ++ pl) _ := hP
  have hD : va_D _ ([(h0, .inr (7, [.ref q21, .null]))] ++ pl) := hD
  refine va_putF (D := g.1) (ci := 7) (v := .ref q22) (ty := .array .byte) (C := "LatticeKeys$DsaSampler") (T := T_SA) (N := 2) hx hb hts (wg_ft i_SA) ty_SA k_SA n_SA hown hK hP hD hS 0 rfl rfl 1 (by decide) (hts _ (wg_t kw_158)) (fun _ h9 => h9) rfl hnm rfl (by decide +kernel) rfl rfl (Nat.le_of_ble_eq_true rfl) dSA_init_21 (fun H locs hP hD hS => ?_)
  have hP : va_P g.1 vcl ([(h0, .inr (7, [.ref q21, .ref q22]))] ++ pl) _ := hP
  have hD : va_D _ ([(h0, .inr (7, [.ref q21, .ref q22]))] ++ pl) := hD
  obtain ⟨hP, hD⟩ := mv_last (X := []) (c := (h0, .inr (7, [.ref q21, .ref q22]))) hP hD
  obtain ⟨T, pl, hxt23, hU, kr24, hO, hP, hD, hL⟩ := absorbX (X := []) 37 hP hD hO hU hL rfl (fun _ h9 _ => fit5 (k := 37) (fl := [(3, 18), (3, 38)]) rfl ⟨⟨_, rfl, h9 _ _ kr23⟩, ⟨_, rfl, h9 _ _ kr22⟩, trivial⟩)
  have kr25 := hxt23 _ _ kr23
  have kr26 := hxt23 _ _ kr22
  have hXT := extN_tr hXT hxt23
  have hL : nmL T [(37, 38), (38, 39), (18, 19), (19, 20), (22, 23), (23, 24), (16, 17), (17, 18), (24, 25), (36, 37), (35, 36), (34, 35), (33, 34), (32, 33), (31, 32), (30, 31), (25, 30), (20, 21), (21, 22), (14, 15), (15, 16), (12, 13), (13, 14), (3, 4), (2, 3), (1, 2)] := hL
  have hP : va_P g.1 vcl ([] ++ pl) _ := hP
  have hD : va_D _ ([] ++ pl) := hD
  exact mp_vret hx hb hr hlk hP hD hS (T, pl) ⟨⟨hXT, hU, hL, kr24⟩, hO⟩ [] rfl rfl rfl (by omega) (by omega) dSA_init_24
set_option maxHeartbeats 4000000 in
set_option maxRecDepth 100000 in
theorem z_DA_init (l : Launch) (g : Gd) (sz : Nat) (T0 : TyN) (pl : va_W) (hO : okn g T0 Z0 pl) (hU : inj T0) (hL : nmL T0 [(24, 25), (36, 37), (35, 36), (34, 35), (33, 34), (32, 33), (31, 32), (30, 31), (25, 30), (20, 21), (21, 22), (14, 15), (15, 16), (12, 13), (13, 14), (3, 4), (2, 3), (1, 2)]) (h0 : Nat) : Met l y_DA_init w_DA_init ({ frames := 3, cells := 116, slots := 26226, locals := 80 } : Room) (va_Pc [.ref h0] (pr (en g) g.1 vcl sz ([(h0, .inr (6, [.null, .null, .null, .null, .null, .null, .null, .null, .null, .null, .null, .null, .null, .null, .null, .null, .null]))] ++ pl))) (va_Qv (fun (u : TyN × va_W) => (extN T0 u.1 ∧ inj u.1 ∧ nmL u.1 [(39, 40), (147, 148), (146, 147), (145, 146), (144, 145), (143, 144), (142, 143), (141, 142), (140, 141), (131, 140), (123, 131), (114, 123), (105, 114), (97, 105), (40, 97), (37, 38), (38, 39), (18, 19), (19, 20), (22, 23), (23, 24), (16, 17), (17, 18), (24, 25), (36, 37), (35, 36), (34, 35), (33, 34), (32, 33), (31, 32), (30, 31), (25, 30), (20, 21), (21, 22), (14, 15), (15, 16), (12, 13), (13, 14), (3, 4), (2, 3), (1, 2)] ∧ u.1 h0 = some 39) ∧ okn g u.1 Z0 u.2) (po g.1 vcl (va_A ([(h0, .inr (6, [.null, .null, .null, .null, .null, .null, .null, .null, .null, .null, .null, .null, .null, .null, .null, .null, .null]))] ++ pl) sz) (fun (u : TyN × va_W) => [] ++ u.2)) (va_A ([(h0, .inr (6, [.null, .null, .null, .null, .null, .null, .null, .null, .null, .null, .null, .null, .null, .null, .null, .null, .null]))] ++ pl) sz)) 116 26226 (va_A ([(h0, .inr (6, [.null, .null, .null, .null, .null, .null, .null, .null, .null, .null, .null, .null, .null, .null, .null, .null, .null]))] ++ pl) sz) := by
  refine mc_entry (cc := c_DA_init) (maxL := 1) (ret := none) (by decide) rfl (Nat.le_of_ble_eq_true rfl) ?_
  intro p e s m args below meth c ls F hr hlk hnm hsz hP hD hE hA hl
  obtain ⟨hx, hb, hml, hown, hts⟩ := id F
  have hK := hE.1
  generalize va_A ([(h0, .inr (6, [.null, .null, .null, .null, .null, .null, .null, .null, .null, .null, .null, .null, .null, .null, .null, .null, .null]))] ++ pl) sz = A at hD hE hA ⊢
  obtain ⟨T, hXT, hO, hU, hL⟩ : ∃ T, extN T0 T ∧ okn g T Z0 pl ∧ inj T ∧ nmL T [(24, 25), (36, 37), (35, 36), (34, 35), (33, 34), (32, 33), (31, 32), (30, 31), (25, 30), (20, 21), (21, 22), (14, 15), (15, 16), (12, 13), (13, 14), (3, 4), (2, 3), (1, 2)] := ⟨T0, extN_rf, hO, hU, hL⟩
  have hS : va_S A s.heap s.heap [] := va_S.rf
  have hl : lv_has ls 1 [(0, .ref h0)] := hl
  refine lv_aload_n hx hb dDA_init_0 rfl (lv_at hl 0 rfl) ?_
  refine W.objInit hx hb hown (hts _ (wg_t kw_143)) (hts _ (wg_t kw_41)) (hts _ (wg_t kobj)) rfl (by rw [hml]; exact hl.1) rfl dDA_init_1 (Nat.le_of_ble_eq_true rfl) (Nat.le_of_ble_eq_true rfl) ?_
  refine W.eq (g2 := F0 m 4 ls []) rfl ?_
  refine lv_aload_n hx hb dDA_init_4 rfl (lv_at hl 0 rfl) ?_
  refine va_new (ws := [(h0, .inr (6, [.null, .null, .null, .null, .null, .null, .null, .null, .null, .null, .null, .null, .null, .null, .null, .null, .null]))] ++ pl) (ci := 3) (fs := [.null, .int 0, .int 0, .int 0]) (C := "LatticeKeys$Sponge") (T := T_SP) (N := 4) hx hb hts (wg_ft i_SP) ty_SP k_SP hown (hts _ (wg_t kw_144)) (hts _ (wg_t kw_50)) (hts _ (wg_t kw_2)) hK hP hD hS hA rfl z_SP (Nat.le_of_ble_eq_true rfl) (Nat.le_of_ble_eq_true rfl) dDA_init_5 (fun q21 H hP hD hS => ?_)
  obtain ⟨hP, hD⟩ := mv_first hP hD
  have hP : va_P g.1 vcl ([(h0, .inr (6, [.null, .null, .null, .null, .null, .null, .null, .null, .null, .null, .null, .null, .null, .null, .null, .null, .null])), (q21, .inr (3, [.null, .int 0, .int 0, .int 0]))] ++ pl) _ := hP
  have hD : va_D _ ([(h0, .inr (6, [.null, .null, .null, .null, .null, .null, .null, .null, .null, .null, .null, .null, .null, .null, .null, .null, .null])), (q21, .inr (3, [.null, .int 0, .int 0, .int 0]))] ++ pl) := hD
  refine W.widen (k := 1) (n := 4) (by omega) (by omega) ?_
  refine lv_dup hx hb dDA_init_8 rfl ?_
  refine mp_v (cx := [(q21, .inr (3, [.null, .int 0, .int 0, .int 0]))]) (wr := [(h0, .inr (6, [.null, .null, .null, .null, .null, .null, .null, .null, .null, .null, .null, .null, .null, .null, .null, .null, .null]))]) hP hD hS hA [1] [0] rfl rfl rfl (by decide) (va_runI (As := []) (rest := [.ref q21, .ref h0]) F (z_SP_init_2 l g _ T pl hO hU hL q21) (cwI 0 hts (wg_in kw_53) rfl rfl rfl (hts _ (wg_t kw_2)) (hts _ (wg_t kw_145)) (hts _ (wg_t kw_52)) rfl (by decide +kernel) ⟨by decide, by decide⟩) (pp_S (en_ok g) hP hD hS hA hE [1] rfl rfl) rfl rfl hl.1 rfl (lv_room (Nat.le_of_ble_eq_true rfl)) dDA_init_9 ⟨Nat.le_of_ble_eq_true rfl, Nat.le_of_ble_eq_true rfl⟩) (fun u21 H locs hu21 hP hD hS => ?_)
  obtain ⟨T, pl⟩ := u21
  obtain ⟨⟨hxt21, hU, hL, kr21⟩, hO⟩ := hu21
  have hO : okn g T Z0 pl := hO
  have hU : inj T := hU
  have hxt21 : extN _ T := hxt21
  have hXT := extN_tr hXT hxt21
  have hL : nmL T [(16, 17), (17, 18), (24, 25), (36, 37), (35, 36), (34, 35), (33, 34), (32, 33), (31, 32), (30, 31), (25, 30), (20, 21), (21, 22), (14, 15), (15, 16), (12, 13), (13, 14), (3, 4), (2, 3), (1, 2)] := hL
  have kr21 : T q21 = some 16 := kr21
  have hP : va_P g.1 vcl ([(h0, .inr (6, [.null, .null, .null, .null, .null, .null, .null, .null, .null, .null, .null, .null, .null, .null, .null, .null, .null]))] ++ pl) _ := hP
  have hD : va_D _ ([(h0, .inr (6, [.null, .null, .null, .null, .null, .null, .null, .null, .null, .null, .null, .null, .null, .null, .null, .null, .null]))] ++ pl) := hD
  refine W.widen (k := 2) (n := 29) (by omega) (by omega) ?_
  refine va_putF (D := g.1) (ci := 6) (v := .ref q21) (ty := .object "LatticeKeys$Sponge") (C := "LatticeKeys$Dsa") (T := T_DA) (N := 17) hx hb hts (wg_ft i_DA) ty_DA k_DA n_DA hown hK hP hD hS 0 rfl rfl 0 (by decide) (hts _ (wg_t kw_165)) (fun _ h9 => h9) rfl hnm rfl (by decide +kernel) rfl rfl (Nat.le_of_ble_eq_true rfl) dDA_init_12 (fun H locs hP hD hS => ?_)
  have hP : va_P g.1 vcl ([(h0, .inr (6, [.ref q21, .null, .null, .null, .null, .null, .null, .null, .null, .null, .null, .null, .null, .null, .null, .null, .null]))] ++ pl) _ := hP
  have hD : va_D _ ([(h0, .inr (6, [.ref q21, .null, .null, .null, .null, .null, .null, .null, .null, .null, .null, .null, .null, .null, .null, .null, .null]))] ++ pl) := hD
  refine lv_aload_n hx hb dDA_init_15 rfl (lv_at hl 0 rfl) ?_
  refine va_new (ws := [(h0, .inr (6, [.ref q21, .null, .null, .null, .null, .null, .null, .null, .null, .null, .null, .null, .null, .null, .null, .null, .null]))] ++ pl) (ci := 4) (fs := [.int 0, .int 0, .int 0, .null]) (C := "LatticeKeys$Ring") (T := T_RG) (N := 4) hx hb hts (wg_ft i_RG) ty_RG k_RG hown (hts _ (wg_t kw_146)) (hts _ (wg_t kw_83)) (hts _ (wg_t kw_4)) hK hP hD hS hA rfl z_RG (Nat.le_of_ble_eq_true rfl) (Nat.le_of_ble_eq_true rfl) dDA_init_16 (fun q22 H hP hD hS => ?_)
  obtain ⟨hP, hD⟩ := mv_first hP hD
  have hP : va_P g.1 vcl ([(h0, .inr (6, [.ref q21, .null, .null, .null, .null, .null, .null, .null, .null, .null, .null, .null, .null, .null, .null, .null, .null])), (q22, .inr (4, [.int 0, .int 0, .int 0, .null]))] ++ pl) _ := hP
  have hD : va_D _ ([(h0, .inr (6, [.ref q21, .null, .null, .null, .null, .null, .null, .null, .null, .null, .null, .null, .null, .null, .null, .null, .null])), (q22, .inr (4, [.int 0, .int 0, .int 0, .null]))] ++ pl) := hD
  refine W.widen (k := 3) (n := 33) (by omega) (by omega) ?_
  refine lv_dup hx hb dDA_init_19 rfl ?_
  refine lv_ldc (v := 8380417) hx hb hown (hts _ (wg_t kw_147)) dDA_init_20 ?_
  refine mi_as (show (8380417 : Int32) = nI 8380417 by decide) ?_
  refine lv_sipush (v := nI 1753) hx hb dDA_init_22 (by decide) ?_
  refine lv_bipush (v := nI 8) hx hb dDA_init_25 (by decide) ?_
  refine mq_v (cx := [(q22, .inr (4, [.int 0, .int 0, .int 0, .null]))]) (wr := [(h0, .inr (6, [.ref q21, .null, .null, .null, .null, .null, .null, .null, .null, .null, .null, .null, .null, .null, .null, .null, .null]))]) hP hD hS hA [1] [0] rfl rfl rfl (by decide) (va_runI (As := [.int (nI 8380417), .int (nI 1753), .int (nI 8)]) (rest := [.ref q22, .ref h0]) F (m_RG_initX_8 l g _ q22) (cwI 3 hts (wg_in kw_86) rfl rfl rfl (hts _ (wg_t kw_4)) (hts _ (wg_t kw_148)) (hts _ (wg_t kw_85)) rfl (by decide +kernel) ⟨by decide, by decide⟩) (pr_S (en_ok g) (md_P hP) (md_D hD) hS hA hE [1] rfl rfl) rfl rfl hl.1 rfl (lv_room (Nat.le_of_ble_eq_true rfl)) dDA_init_27 ⟨Nat.le_of_ble_eq_true rfl, Nat.le_of_ble_eq_true rfl⟩) (fun u22 H locs hu22 hP hD hS => ?_)
  have hP : va_P g.1 vcl ([(h0, .inr (6, [.ref q21, .null, .null, .null, .null, .null, .null, .null, .null, .null, .null, .null, .null, .null, .null, .null, .null])), (q22, .inr (4, [.int (nI 8380417), .int (nI 8), .int (nI 8347681), .ref u22])), (u22, .inl (g.2.1 0, 256, .inl ((rgF 1753 8380417 8 256))))] ++ pl) _ := hP
  have hD : va_D _ ([(h0, .inr (6, [.ref q21, .null, .null, .null, .null, .null, .null, .null, .null, .null, .null, .null, .null, .null, .null, .null, .null])), (q22, .inr (4, [.int (nI 8380417), .int (nI 8), .int (nI 8347681), .ref u22])), (u22, .inl (g.2.1 0, 256, .inl ((rgF 1753 8380417 8 256))))] ++ pl) := hD
  refine W.widen (k := 4) (n := 289) (by omega) (by omega) ?_
  obtain ⟨hP, hD⟩ := mv_last (X := [(h0, .inr (6, [.ref q21, .null, .null, .null, .null, .null, .null, .null, .null, .null, .null, .null, .null, .null, .null, .null, .null])), (q22, .inr (4, [.int (nI 8380417), .int (nI 8), .int (nI 8347681), .ref u22]))]) (c := (u22, .inl (g.2.1 0, 256, .inl ((rgF 1753 8380417 8 256))))) hP hD
  obtain ⟨T, pl, hxt22, hU, kr22, hO, hP, hD, hL⟩ := absorbX (X := [(h0, .inr (6, [.ref q21, .null, .null, .null, .null, .null, .null, .null, .null, .null, .null, .null, .null, .null, .null, .null, .null])), (q22, .inr (4, [.int (nI 8380417), .int (nI 8), .int (nI 8347681), .ref u22]))]) 23 hP hD hO hU hL rfl (fun _ _ _ => fit11 (k := 23) rfl rg_tab8)
  have kr23 := hxt22 _ _ kr21
  have hXT := extN_tr hXT hxt22
  have hL : nmL T [(23, 24), (16, 17), (17, 18), (24, 25), (36, 37), (35, 36), (34, 35), (33, 34), (32, 33), (31, 32), (30, 31), (25, 30), (20, 21), (21, 22), (14, 15), (15, 16), (12, 13), (13, 14), (3, 4), (2, 3), (1, 2)] := hL
  have hP : va_P g.1 vcl ([(h0, .inr (6, [.ref q21, .null, .null, .null, .null, .null, .null, .null, .null, .null, .null, .null, .null, .null, .null, .null, .null])), (q22, .inr (4, [.int (nI 8380417), .int (nI 8), .int (nI 8347681), .ref u22]))] ++ pl) _ := hP
  have hD : va_D _ ([(h0, .inr (6, [.ref q21, .null, .null, .null, .null, .null, .null, .null, .null, .null, .null, .null, .null, .null, .null, .null, .null])), (q22, .inr (4, [.int (nI 8380417), .int (nI 8), .int (nI 8347681), .ref u22]))] ++ pl) := hD
  obtain ⟨hP, hD⟩ := mv_last (X := [(h0, .inr (6, [.ref q21, .null, .null, .null, .null, .null, .null, .null, .null, .null, .null, .null, .null, .null, .null, .null, .null]))]) (c := (q22, .inr (4, [.int (nI 8380417), .int (nI 8), .int (nI 8347681), .ref u22]))) hP hD
  obtain ⟨T, pl, hxt23, hU, kr24, hO, hP, hD, hL⟩ := absorbX (X := [(h0, .inr (6, [.ref q21, .null, .null, .null, .null, .null, .null, .null, .null, .null, .null, .null, .null, .null, .null, .null, .null]))]) 22 hP hD hO hU hL rfl (fun _ h9 _ => fit5 (k := 22) (fl := [(1, 8380417), (1, 8), (1, 8347681), (3, 23)]) rfl ⟨rfl, rfl, rfl, ⟨_, rfl, h9 _ _ kr22⟩, trivial⟩)
  have kr25 := hxt23 _ _ kr23
  have kr26 := hxt23 _ _ kr22
  have hXT := extN_tr hXT hxt23
  have hL : nmL T [(22, 23), (23, 24), (16, 17), (17, 18), (24, 25), (36, 37), (35, 36), (34, 35), (33, 34), (32, 33), (31, 32), (30, 31), (25, 30), (20, 21), (21, 22), (14, 15), (15, 16), (12, 13), (13, 14), (3, 4), (2, 3), (1, 2)] := hL
  have hP : va_P g.1 vcl ([(h0, .inr (6, [.ref q21, .null, .null, .null, .null, .null, .null, .null, .null, .null, .null, .null, .null, .null, .null, .null, .null]))] ++ pl) _ := hP
  have hD : va_D _ ([(h0, .inr (6, [.ref q21, .null, .null, .null, .null, .null, .null, .null, .null, .null, .null, .null, .null, .null, .null, .null, .null]))] ++ pl) := hD
  refine va_putF (D := g.1) (ci := 6) (v := .ref q22) (ty := .object "LatticeKeys$Ring") (C := "LatticeKeys$Dsa") (T := T_DA) (N := 17) hx hb hts (wg_ft i_DA) ty_DA k_DA n_DA hown hK hP hD hS 0 rfl rfl 1 (by decide) (hts _ (wg_t kw_166)) (fun _ h9 => h9) rfl hnm rfl (by decide +kernel) rfl rfl (Nat.le_of_ble_eq_true rfl) dDA_init_30 (fun H locs hP hD hS => ?_)
  have hP : va_P g.1 vcl ([(h0, .inr (6, [.ref q21, .ref q22, .null, .null, .null, .null, .null, .null, .null, .null, .null, .null, .null, .null, .null, .null, .null]))] ++ pl) _ := hP
  have hD : va_D _ ([(h0, .inr (6, [.ref q21, .ref q22, .null, .null, .null, .null, .null, .null, .null, .null, .null, .null, .null, .null, .null, .null, .null]))] ++ pl) := hD
  refine lv_aload_n hx hb dDA_init_33 rfl (lv_at hl 0 rfl) ?_
  refine va_new (ws := [(h0, .inr (6, [.ref q21, .ref q22, .null, .null, .null, .null, .null, .null, .null, .null, .null, .null, .null, .null, .null, .null, .null]))] ++ pl) (ci := 7) (fs := [.null, .null]) (C := "LatticeKeys$DsaSampler") (T := T_SA) (N := 2) hx hb hts (wg_ft i_SA) ty_SA k_SA hown (hts _ (wg_t kw_149)) (hts _ (wg_t kw_150)) (hts _ (wg_t kw_6)) hK hP hD hS hA rfl z_SA (Nat.le_of_ble_eq_true rfl) (Nat.le_of_ble_eq_true rfl) dDA_init_34 (fun q23 H hP hD hS => ?_)
  obtain ⟨hP, hD⟩ := mv_first hP hD
  have hP : va_P g.1 vcl ([(h0, .inr (6, [.ref q21, .ref q22, .null, .null, .null, .null, .null, .null, .null, .null, .null, .null, .null, .null, .null, .null, .null])), (q23, .inr (7, [.null, .null]))] ++ pl) _ := hP
  have hD : va_D _ ([(h0, .inr (6, [.ref q21, .ref q22, .null, .null, .null, .null, .null, .null, .null, .null, .null, .null, .null, .null, .null, .null, .null])), (q23, .inr (7, [.null, .null]))] ++ pl) := hD
  refine W.widen (k := 5) (n := 291) (by omega) (by omega) ?_
  refine lv_dup hx hb dDA_init_37 rfl ?_
  refine mp_v (cx := [(q23, .inr (7, [.null, .null]))]) (wr := [(h0, .inr (6, [.ref q21, .ref q22, .null, .null, .null, .null, .null, .null, .null, .null, .null, .null, .null, .null, .null, .null, .null]))]) hP hD hS hA [1] [0] rfl rfl rfl (by decide) (va_runI (As := []) (rest := [.ref q23, .ref h0]) F (z_SA_init l g _ T pl hO hU hL q23) (cwI 0 hts (wg_in kw_153) rfl rfl rfl (hts _ (wg_t kw_6)) (hts _ (wg_t kw_151)) (hts _ (wg_t kw_152)) rfl (by decide +kernel) ⟨by decide, by decide⟩) (pp_S (en_ok g) hP hD hS hA hE [1] rfl rfl) rfl rfl hl.1 rfl (lv_room (Nat.le_of_ble_eq_true rfl)) dDA_init_38 ⟨Nat.le_of_ble_eq_true rfl, Nat.le_of_ble_eq_true rfl⟩) (fun u23 H locs hu23 hP hD hS => ?_)
  obtain ⟨T, pl⟩ := u23
  obtain ⟨⟨hxt24, hU, hL, kr27⟩, hO⟩ := hu23
  have hO : okn g T Z0 pl := hO
  have hU : inj T := hU
  have hxt24 : extN _ T := hxt24
  have kr28 := hxt24 _ _ kr25
  have kr29 := hxt24 _ _ kr26
  have kr30 := hxt24 _ _ kr24
  have hXT := extN_tr hXT hxt24
  have hL : nmL T [(37, 38), (38, 39), (18, 19), (19, 20), (22, 23), (23, 24), (16, 17), (17, 18), (24, 25), (36, 37), (35, 36), (34, 35), (33, 34), (32, 33), (31, 32), (30, 31), (25, 30), (20, 21), (21, 22), (14, 15), (15, 16), (12, 13), (13, 14), (3, 4), (2, 3), (1, 2)] := hL
  have kr27 : T q23 = some 37 := kr27
  have hP : va_P g.1 vcl ([(h0, .inr (6, [.ref q21, .ref q22, .null, .null, .null, .null, .null, .null, .null, .null, .null, .null, .null, .null, .null, .null, .null]))] ++ pl) _ := hP
  have hD : va_D _ ([(h0, .inr (6, [.ref q21, .ref q22, .null, .null, .null, .null, .null, .null, .null, .null, .null, .null, .null, .null, .null, .null, .null]))] ++ pl) := hD
  refine W.widen (k := 8) (n := 960) (by omega) (by omega) ?_
  refine va_putF (D := g.1) (ci := 6) (v := .ref q23) (ty := .object "LatticeKeys$DsaSampler") (C := "LatticeKeys$Dsa") (T := T_DA) (N := 17) hx hb hts (wg_ft i_DA) ty_DA k_DA n_DA hown hK hP hD hS 0 rfl rfl 2 (by decide) (hts _ (wg_t kw_167)) (fun _ h9 => h9) rfl hnm rfl (by decide +kernel) rfl rfl (Nat.le_of_ble_eq_true rfl) dDA_init_41 (fun H locs hP hD hS => ?_)
  have hP : va_P g.1 vcl ([(h0, .inr (6, [.ref q21, .ref q22, .ref q23, .null, .null, .null, .null, .null, .null, .null, .null, .null, .null, .null, .null, .null, .null]))] ++ pl) _ := hP
  have hD : va_D _ ([(h0, .inr (6, [.ref q21, .ref q22, .ref q23, .null, .null, .null, .null, .null, .null, .null, .null, .null, .null, .null, .null, .null, .null]))] ++ pl) := hD
  refine lv_aload_n hx hb dDA_init_44 rfl (lv_at hl 0 rfl) ?_
  refine lv_bipush (v := nI 56) hx hb dDA_init_45 (by decide) ?_
  refine lv_sipush (v := nI 256) hx hb dDA_init_47 (by decide) ?_
  refine nm_mnai (X := [(h0, .inr (6, [.ref q21, .ref q22, .ref q23, .null, .null, .null, .null, .null, .null, .null, .null, .null, .null, .null, .null, .null, .null]))]) hx hb hown (hts _ (wg_t kw_164)) hE.2.2.2.2.2.1 (hts _ (wg_t kw_104)) hK hP hD hS hA hO hU hL 40 (by decide +kernel) rfl (by decide +kernel) (by decide) (Nat.le_of_ble_eq_true rfl) (Nat.le_of_ble_eq_true rfl) dDA_init_50 (fun q24 T pl H hxt25 hU kr31 hO hP hD hS hL => ?_)
  have kr32 := hxt25 _ _ kr28
  have kr33 := hxt25 _ _ kr29
  have kr34 := hxt25 _ _ kr30
  have kr35 := hxt25 _ _ kr27
  have hXT := extN_tr hXT hxt25
  have hL : nmL T [(40, 97), (37, 38), (38, 39), (18, 19), (19, 20), (22, 23), (23, 24), (16, 17), (17, 18), (24, 25), (36, 37), (35, 36), (34, 35), (33, 34), (32, 33), (31, 32), (30, 31), (25, 30), (20, 21), (21, 22), (14, 15), (15, 16), (12, 13), (13, 14), (3, 4), (2, 3), (1, 2)] := hL
  have hP : va_P g.1 vcl ([(h0, .inr (6, [.ref q21, .ref q22, .ref q23, .null, .null, .null, .null, .null, .null, .null, .null, .null, .null, .null, .null, .null, .null]))] ++ pl) _ := hP
  have hD : va_D _ ([(h0, .inr (6, [.ref q21, .ref q22, .ref q23, .null, .null, .null, .null, .null, .null, .null, .null, .null, .null, .null, .null, .null, .null]))] ++ pl) := hD
  refine W.widen (k := 65) (n := 15352) (by omega) (by omega) ?_
  refine va_putF (D := g.1) (ci := 6) (v := .ref q24) (ty := .array (.array .int)) (C := "LatticeKeys$Dsa") (T := T_DA) (N := 17) hx hb hts (wg_ft i_DA) ty_DA k_DA n_DA hown hK hP hD hS 0 rfl rfl 3 (by decide) (hts _ (wg_t kw_168)) (fun _ h9 => h9) rfl hnm rfl (by decide +kernel) rfl rfl (Nat.le_of_ble_eq_true rfl) dDA_init_54 (fun H locs hP hD hS => ?_)
  have hP : va_P g.1 vcl ([(h0, .inr (6, [.ref q21, .ref q22, .ref q23, .ref q24, .null, .null, .null, .null, .null, .null, .null, .null, .null, .null, .null, .null, .null]))] ++ pl) _ := hP
  have hD : va_D _ ([(h0, .inr (6, [.ref q21, .ref q22, .ref q23, .ref q24, .null, .null, .null, .null, .null, .null, .null, .null, .null, .null, .null, .null, .null]))] ++ pl) := hD
  refine lv_aload_n hx hb dDA_init_57 rfl (lv_at hl 0 rfl) ?_
  refine lv_bipush (v := nI 7) hx hb dDA_init_58 (by decide) ?_
  refine lv_sipush (v := nI 256) hx hb dDA_init_60 (by decide) ?_
  refine nm_mnai (X := [(h0, .inr (6, [.ref q21, .ref q22, .ref q23, .ref q24, .null, .null, .null, .null, .null, .null, .null, .null, .null, .null, .null, .null, .null]))]) hx hb hown (hts _ (wg_t kw_164)) hE.2.2.2.2.2.1 (hts _ (wg_t kw_104)) hK hP hD hS hA hO hU hL 97 (by decide +kernel) rfl (by decide +kernel) (by decide) (Nat.le_of_ble_eq_true rfl) (Nat.le_of_ble_eq_true rfl) dDA_init_63 (fun q25 T pl H hxt26 hU kr36 hO hP hD hS hL => ?_)
  have kr37 := hxt26 _ _ kr32
  have kr38 := hxt26 _ _ kr33
  have kr39 := hxt26 _ _ kr34
  have kr40 := hxt26 _ _ kr35
  have kr41 := hxt26 _ _ kr31
  have hXT := extN_tr hXT hxt26
  have hL : nmL T [(97, 105), (40, 97), (37, 38), (38, 39), (18, 19), (19, 20), (22, 23), (23, 24), (16, 17), (17, 18), (24, 25), (36, 37), (35, 36), (34, 35), (33, 34), (32, 33), (31, 32), (30, 31), (25, 30), (20, 21), (21, 22), (14, 15), (15, 16), (12, 13), (13, 14), (3, 4), (2, 3), (1, 2)] := hL
  have hP : va_P g.1 vcl ([(h0, .inr (6, [.ref q21, .ref q22, .ref q23, .ref q24, .null, .null, .null, .null, .null, .null, .null, .null, .null, .null, .null, .null, .null]))] ++ pl) _ := hP
  have hD : va_D _ ([(h0, .inr (6, [.ref q21, .ref q22, .ref q23, .ref q24, .null, .null, .null, .null, .null, .null, .null, .null, .null, .null, .null, .null, .null]))] ++ pl) := hD
  refine W.widen (k := 73) (n := 17151) (by omega) (by omega) ?_
  refine va_putF (D := g.1) (ci := 6) (v := .ref q25) (ty := .array (.array .int)) (C := "LatticeKeys$Dsa") (T := T_DA) (N := 17) hx hb hts (wg_ft i_DA) ty_DA k_DA n_DA hown hK hP hD hS 0 rfl rfl 4 (by decide) (hts _ (wg_t kw_169)) (fun _ h9 => h9) rfl hnm rfl (by decide +kernel) rfl rfl (Nat.le_of_ble_eq_true rfl) dDA_init_67 (fun H locs hP hD hS => ?_)
  have hP : va_P g.1 vcl ([(h0, .inr (6, [.ref q21, .ref q22, .ref q23, .ref q24, .ref q25, .null, .null, .null, .null, .null, .null, .null, .null, .null, .null, .null, .null]))] ++ pl) _ := hP
  have hD : va_D _ ([(h0, .inr (6, [.ref q21, .ref q22, .ref q23, .ref q24, .ref q25, .null, .null, .null, .null, .null, .null, .null, .null, .null, .null, .null, .null]))] ++ pl) := hD
  refine lv_aload_n hx hb dDA_init_70 rfl (lv_at hl 0 rfl) ?_
  refine lv_bipush (v := nI 8) hx hb dDA_init_71 (by decide) ?_
  refine lv_sipush (v := nI 256) hx hb dDA_init_73 (by decide) ?_
  refine nm_mnai (X := [(h0, .inr (6, [.ref q21, .ref q22, .ref q23, .ref q24, .ref q25, .null, .null, .null, .null, .null, .null, .null, .null, .null, .null, .null, .null]))]) hx hb hown (hts _ (wg_t kw_164)) hE.2.2.2.2.2.1 (hts _ (wg_t kw_104)) hK hP hD hS hA hO hU hL 105 (by decide +kernel) rfl (by decide +kernel) (by decide) (Nat.le_of_ble_eq_true rfl) (Nat.le_of_ble_eq_true rfl) dDA_init_76 (fun q26 T pl H hxt27 hU kr42 hO hP hD hS hL => ?_)
  have kr43 := hxt27 _ _ kr37
  have kr44 := hxt27 _ _ kr38
  have kr45 := hxt27 _ _ kr39
  have kr46 := hxt27 _ _ kr40
  have kr47 := hxt27 _ _ kr41
  have kr48 := hxt27 _ _ kr36
  have hXT := extN_tr hXT hxt27
  have hL : nmL T [(105, 114), (97, 105), (40, 97), (37, 38), (38, 39), (18, 19), (19, 20), (22, 23), (23, 24), (16, 17), (17, 18), (24, 25), (36, 37), (35, 36), (34, 35), (33, 34), (32, 33), (31, 32), (30, 31), (25, 30), (20, 21), (21, 22), (14, 15), (15, 16), (12, 13), (13, 14), (3, 4), (2, 3), (1, 2)] := hL
  have hP : va_P g.1 vcl ([(h0, .inr (6, [.ref q21, .ref q22, .ref q23, .ref q24, .ref q25, .null, .null, .null, .null, .null, .null, .null, .null, .null, .null, .null, .null]))] ++ pl) _ := hP
  have hD : va_D _ ([(h0, .inr (6, [.ref q21, .ref q22, .ref q23, .ref q24, .ref q25, .null, .null, .null, .null, .null, .null, .null, .null, .null, .null, .null, .null]))] ++ pl) := hD
  refine W.widen (k := 82) (n := 19207) (by omega) (by omega) ?_
  refine va_putF (D := g.1) (ci := 6) (v := .ref q26) (ty := .array (.array .int)) (C := "LatticeKeys$Dsa") (T := T_DA) (N := 17) hx hb hts (wg_ft i_DA) ty_DA k_DA n_DA hown hK hP hD hS 0 rfl rfl 5 (by decide) (hts _ (wg_t kw_170)) (fun _ h9 => h9) rfl hnm rfl (by decide +kernel) rfl rfl (Nat.le_of_ble_eq_true rfl) dDA_init_80 (fun H locs hP hD hS => ?_)
  have hP : va_P g.1 vcl ([(h0, .inr (6, [.ref q21, .ref q22, .ref q23, .ref q24, .ref q25, .ref q26, .null, .null, .null, .null, .null, .null, .null, .null, .null, .null, .null]))] ++ pl) _ := hP
  have hD : va_D _ ([(h0, .inr (6, [.ref q21, .ref q22, .ref q23, .ref q24, .ref q25, .ref q26, .null, .null, .null, .null, .null, .null, .null, .null, .null, .null, .null]))] ++ pl) := hD
  refine lv_aload_n hx hb dDA_init_83 rfl (lv_at hl 0 rfl) ?_
  refine lv_bipush (v := nI 8) hx hb dDA_init_84 (by decide) ?_
  refine lv_sipush (v := nI 256) hx hb dDA_init_86 (by decide) ?_
  refine nm_mnai (X := [(h0, .inr (6, [.ref q21, .ref q22, .ref q23, .ref q24, .ref q25, .ref q26, .null, .null, .null, .null, .null, .null, .null, .null, .null, .null, .null]))]) hx hb hown (hts _ (wg_t kw_164)) hE.2.2.2.2.2.1 (hts _ (wg_t kw_104)) hK hP hD hS hA hO hU hL 114 (by decide +kernel) rfl (by decide +kernel) (by decide) (Nat.le_of_ble_eq_true rfl) (Nat.le_of_ble_eq_true rfl) dDA_init_89 (fun q27 T pl H hxt28 hU kr49 hO hP hD hS hL => ?_)
  have kr50 := hxt28 _ _ kr43
  have kr51 := hxt28 _ _ kr44
  have kr52 := hxt28 _ _ kr45
  have kr53 := hxt28 _ _ kr46
  have kr54 := hxt28 _ _ kr47
  have kr55 := hxt28 _ _ kr48
  have kr56 := hxt28 _ _ kr42
  have hXT := extN_tr hXT hxt28
  have hL : nmL T [(114, 123), (105, 114), (97, 105), (40, 97), (37, 38), (38, 39), (18, 19), (19, 20), (22, 23), (23, 24), (16, 17), (17, 18), (24, 25), (36, 37), (35, 36), (34, 35), (33, 34), (32, 33), (31, 32), (30, 31), (25, 30), (20, 21), (21, 22), (14, 15), (15, 16), (12, 13), (13, 14), (3, 4), (2, 3), (1, 2)] := hL
  have hP : va_P g.1 vcl ([(h0, .inr (6, [.ref q21, .ref q22, .ref q23, .ref q24, .ref q25, .ref q26, .null, .null, .null, .null, .null, .null, .null, .null, .null, .null, .null]))] ++ pl) _ := hP
  have hD : va_D _ ([(h0, .inr (6, [.ref q21, .ref q22, .ref q23, .ref q24, .ref q25, .ref q26, .null, .null, .null, .null, .null, .null, .null, .null, .null, .null, .null]))] ++ pl) := hD
  refine W.widen (k := 91) (n := 21263) (by omega) (by omega) ?_
  refine va_putF (D := g.1) (ci := 6) (v := .ref q27) (ty := .array (.array .int)) (C := "LatticeKeys$Dsa") (T := T_DA) (N := 17) hx hb hts (wg_ft i_DA) ty_DA k_DA n_DA hown hK hP hD hS 0 rfl rfl 6 (by decide) (hts _ (wg_t kw_171)) (fun _ h9 => h9) rfl hnm rfl (by decide +kernel) rfl rfl (Nat.le_of_ble_eq_true rfl) dDA_init_93 (fun H locs hP hD hS => ?_)
  have hP : va_P g.1 vcl ([(h0, .inr (6, [.ref q21, .ref q22, .ref q23, .ref q24, .ref q25, .ref q26, .ref q27, .null, .null, .null, .null, .null, .null, .null, .null, .null, .null]))] ++ pl) _ := hP
  have hD : va_D _ ([(h0, .inr (6, [.ref q21, .ref q22, .ref q23, .ref q24, .ref q25, .ref q26, .ref q27, .null, .null, .null, .null, .null, .null, .null, .null, .null, .null]))] ++ pl) := hD
  refine lv_aload_n hx hb dDA_init_96 rfl (lv_at hl 0 rfl) ?_
  refine lv_bipush (v := nI 7) hx hb dDA_init_97 (by decide) ?_
  refine lv_sipush (v := nI 256) hx hb dDA_init_99 (by decide) ?_
  refine nm_mnai (X := [(h0, .inr (6, [.ref q21, .ref q22, .ref q23, .ref q24, .ref q25, .ref q26, .ref q27, .null, .null, .null, .null, .null, .null, .null, .null, .null, .null]))]) hx hb hown (hts _ (wg_t kw_164)) hE.2.2.2.2.2.1 (hts _ (wg_t kw_104)) hK hP hD hS hA hO hU hL 123 (by decide +kernel) rfl (by decide +kernel) (by decide) (Nat.le_of_ble_eq_true rfl) (Nat.le_of_ble_eq_true rfl) dDA_init_102 (fun q28 T pl H hxt29 hU kr57 hO hP hD hS hL => ?_)
  have kr58 := hxt29 _ _ kr50
  have kr59 := hxt29 _ _ kr51
  have kr60 := hxt29 _ _ kr52
  have kr61 := hxt29 _ _ kr53
  have kr62 := hxt29 _ _ kr54
  have kr63 := hxt29 _ _ kr55
  have kr64 := hxt29 _ _ kr56
  have kr65 := hxt29 _ _ kr49
  have hXT := extN_tr hXT hxt29
  have hL : nmL T [(123, 131), (114, 123), (105, 114), (97, 105), (40, 97), (37, 38), (38, 39), (18, 19), (19, 20), (22, 23), (23, 24), (16, 17), (17, 18), (24, 25), (36, 37), (35, 36), (34, 35), (33, 34), (32, 33), (31, 32), (30, 31), (25, 30), (20, 21), (21, 22), (14, 15), (15, 16), (12, 13), (13, 14), (3, 4), (2, 3), (1, 2)] := hL
  have hP : va_P g.1 vcl ([(h0, .inr (6, [.ref q21, .ref q22, .ref q23, .ref q24, .ref q25, .ref q26, .ref q27, .null, .null, .null, .null, .null, .null, .null, .null, .null, .null]))] ++ pl) _ := hP
  have hD : va_D _ ([(h0, .inr (6, [.ref q21, .ref q22, .ref q23, .ref q24, .ref q25, .ref q26, .ref q27, .null, .null, .null, .null, .null, .null, .null, .null, .null, .null]))] ++ pl) := hD
  refine W.widen (k := 99) (n := 23062) (by omega) (by omega) ?_
  refine va_putF (D := g.1) (ci := 6) (v := .ref q28) (ty := .array (.array .int)) (C := "LatticeKeys$Dsa") (T := T_DA) (N := 17) hx hb hts (wg_ft i_DA) ty_DA k_DA n_DA hown hK hP hD hS 0 rfl rfl 7 (by decide) (hts _ (wg_t kw_172)) (fun _ h9 => h9) rfl hnm rfl (by decide +kernel) rfl rfl (Nat.le_of_ble_eq_true rfl) dDA_init_106 (fun H locs hP hD hS => ?_)
  have hP : va_P g.1 vcl ([(h0, .inr (6, [.ref q21, .ref q22, .ref q23, .ref q24, .ref q25, .ref q26, .ref q27, .ref q28, .null, .null, .null, .null, .null, .null, .null, .null, .null]))] ++ pl) _ := hP
  have hD : va_D _ ([(h0, .inr (6, [.ref q21, .ref q22, .ref q23, .ref q24, .ref q25, .ref q26, .ref q27, .ref q28, .null, .null, .null, .null, .null, .null, .null, .null, .null]))] ++ pl) := hD
  refine lv_aload_n hx hb dDA_init_109 rfl (lv_at hl 0 rfl) ?_
  refine lv_bipush (v := nI 8) hx hb dDA_init_110 (by decide) ?_
  refine lv_sipush (v := nI 256) hx hb dDA_init_112 (by decide) ?_
  refine nm_mnai (X := [(h0, .inr (6, [.ref q21, .ref q22, .ref q23, .ref q24, .ref q25, .ref q26, .ref q27, .ref q28, .null, .null, .null, .null, .null, .null, .null, .null, .null]))]) hx hb hown (hts _ (wg_t kw_164)) hE.2.2.2.2.2.1 (hts _ (wg_t kw_104)) hK hP hD hS hA hO hU hL 131 (by decide +kernel) rfl (by decide +kernel) (by decide) (Nat.le_of_ble_eq_true rfl) (Nat.le_of_ble_eq_true rfl) dDA_init_115 (fun q29 T pl H hxt30 hU kr66 hO hP hD hS hL => ?_)
  have kr67 := hxt30 _ _ kr58
  have kr68 := hxt30 _ _ kr59
  have kr69 := hxt30 _ _ kr60
  have kr70 := hxt30 _ _ kr61
  have kr71 := hxt30 _ _ kr62
  have kr72 := hxt30 _ _ kr63
  have kr73 := hxt30 _ _ kr64
  have kr74 := hxt30 _ _ kr65
  have kr75 := hxt30 _ _ kr57
  have hXT := extN_tr hXT hxt30
  have hL : nmL T [(131, 140), (123, 131), (114, 123), (105, 114), (97, 105), (40, 97), (37, 38), (38, 39), (18, 19), (19, 20), (22, 23), (23, 24), (16, 17), (17, 18), (24, 25), (36, 37), (35, 36), (34, 35), (33, 34), (32, 33), (31, 32), (30, 31), (25, 30), (20, 21), (21, 22), (14, 15), (15, 16), (12, 13), (13, 14), (3, 4), (2, 3), (1, 2)] := hL
  have hP : va_P g.1 vcl ([(h0, .inr (6, [.ref q21, .ref q22, .ref q23, .ref q24, .ref q25, .ref q26, .ref q27, .ref q28, .null, .null, .null, .null, .null, .null, .null, .null, .null]))] ++ pl) _ := hP
  have hD : va_D _ ([(h0, .inr (6, [.ref q21, .ref q22, .ref q23, .ref q24, .ref q25, .ref q26, .ref q27, .ref q28, .null, .null, .null, .null, .null, .null, .null, .null, .null]))] ++ pl) := hD
  refine W.widen (k := 108) (n := 25118) (by omega) (by omega) ?_
  refine va_putF (D := g.1) (ci := 6) (v := .ref q29) (ty := .array (.array .int)) (C := "LatticeKeys$Dsa") (T := T_DA) (N := 17) hx hb hts (wg_ft i_DA) ty_DA k_DA n_DA hown hK hP hD hS 0 rfl rfl 8 (by decide) (hts _ (wg_t kw_173)) (fun _ h9 => h9) rfl hnm rfl (by decide +kernel) rfl rfl (Nat.le_of_ble_eq_true rfl) dDA_init_119 (fun H locs hP hD hS => ?_)
  have hP : va_P g.1 vcl ([(h0, .inr (6, [.ref q21, .ref q22, .ref q23, .ref q24, .ref q25, .ref q26, .ref q27, .ref q28, .ref q29, .null, .null, .null, .null, .null, .null, .null, .null]))] ++ pl) _ := hP
  have hD : va_D _ ([(h0, .inr (6, [.ref q21, .ref q22, .ref q23, .ref q24, .ref q25, .ref q26, .ref q27, .ref q28, .ref q29, .null, .null, .null, .null, .null, .null, .null, .null]))] ++ pl) := hD
  refine lv_aload_n hx hb dDA_init_122 rfl (lv_at hl 0 rfl) ?_
  refine lv_sipush (v := nI 256) hx hb dDA_init_123 (by decide) ?_
  refine ma_newa (ws := [(h0, .inr (6, [.ref q21, .ref q22, .ref q23, .ref q24, .ref q25, .ref q26, .ref q27, .ref q28, .ref q29, .null, .null, .null, .null, .null, .null, .null, .null]))] ++ pl) (atype := .int) hx hb (hts _ (wg_t kw_104)) rfl hK hP hD hS hA 0 rfl (N' := 256) (a0 := (256, .inl (fun _ => 0))) (fun _ => rfl) (nI_pos (by omega)) (nI_clamp (by omega)) (by show (256) * 4 ≤ 536870912; omega) (Nat.le_of_ble_eq_true rfl) (Nat.le_of_ble_eq_true rfl) dDA_init_126 (fun q30 H hP hD hS => ?_)
  refine W.widen (k := 109) (n := 25374) (by omega) (by omega) ?_
  obtain ⟨T, pl, hxt31, hU, kr76, hO, hP, hD, hL⟩ := absorbX (X := [(h0, .inr (6, [.ref q21, .ref q22, .ref q23, .ref q24, .ref q25, .ref q26, .ref q27, .ref q28, .ref q29, .null, .null, .null, .null, .null, .null, .null, .null]))]) 140 hP hD hO hU hL rfl (fun _ _ _ => fit0 (k := 140) rfl)
  have kr77 := hxt31 _ _ kr67
  have kr78 := hxt31 _ _ kr68
  have kr79 := hxt31 _ _ kr69
  have kr80 := hxt31 _ _ kr70
  have kr81 := hxt31 _ _ kr71
  have kr82 := hxt31 _ _ kr72
  have kr83 := hxt31 _ _ kr73
  have kr84 := hxt31 _ _ kr74
  have kr85 := hxt31 _ _ kr75
  have kr86 := hxt31 _ _ kr66
  have hXT := extN_tr hXT hxt31
  have hL : nmL T [(140, 141), (131, 140), (123, 131), (114, 123), (105, 114), (97, 105), (40, 97), (37, 38), (38, 39), (18, 19), (19, 20), (22, 23), (23, 24), (16, 17), (17, 18), (24, 25), (36, 37), (35, 36), (34, 35), (33, 34), (32, 33), (31, 32), (30, 31), (25, 30), (20, 21), (21, 22), (14, 15), (15, 16), (12, 13), (13, 14), (3, 4), (2, 3), (1, 2)] := hL
  have hP : va_P g.1 vcl ([(h0, .inr (6, [.ref q21, .ref q22, .ref q23, .ref q24, .ref q25, .ref q26, .ref q27, .ref q28, .ref q29, .null, .null, .null, .null, .null, .null, .null, .null]))] ++ pl) _ := hP
  have hD : va_D _ ([(h0, .inr (6, [.ref q21, .ref q22, .ref q23, .ref q24, .ref q25, .ref q26, .ref q27, .ref q28, .ref q29, .null, .null, .null, .null, .null, .null, .null, .null]))] ++ pl) := hD
  refine va_putF (D := g.1) (ci := 6) (v := .ref q30) (ty := .array .int) (C := "LatticeKeys$Dsa") (T := T_DA) (N := 17) hx hb hts (wg_ft i_DA) ty_DA k_DA n_DA hown hK hP hD hS 0 rfl rfl 9 (by decide) (hts _ (wg_t kw_174)) (fun _ h9 => h9) rfl hnm rfl (by decide +kernel) rfl rfl (Nat.le_of_ble_eq_true rfl) dDA_init_128 (fun H locs hP hD hS => ?_)
  have hP : va_P g.1 vcl ([(h0, .inr (6, [.ref q21, .ref q22, .ref q23, .ref q24, .ref q25, .ref q26, .ref q27, .ref q28, .ref q29, .ref q30, .null, .null, .null, .null, .null, .null, .null]))] ++ pl) _ := hP
  have hD : va_D _ ([(h0, .inr (6, [.ref q21, .ref q22, .ref q23, .ref q24, .ref q25, .ref q26, .ref q27, .ref q28, .ref q29, .ref q30, .null, .null, .null, .null, .null, .null, .null]))] ++ pl) := hD
  refine lv_aload_n hx hb dDA_init_131 rfl (lv_at hl 0 rfl) ?_
  refine lv_sipush (v := nI 256) hx hb dDA_init_132 (by decide) ?_
  refine ma_newa (ws := [(h0, .inr (6, [.ref q21, .ref q22, .ref q23, .ref q24, .ref q25, .ref q26, .ref q27, .ref q28, .ref q29, .ref q30, .null, .null, .null, .null, .null, .null, .null]))] ++ pl) (atype := .int) hx hb (hts _ (wg_t kw_104)) rfl hK hP hD hS hA 0 rfl (N' := 256) (a0 := (256, .inl (fun _ => 0))) (fun _ => rfl) (nI_pos (by omega)) (nI_clamp (by omega)) (by show (256) * 4 ≤ 536870912; omega) (Nat.le_of_ble_eq_true rfl) (Nat.le_of_ble_eq_true rfl) dDA_init_135 (fun q31 H hP hD hS => ?_)
  refine W.widen (k := 110) (n := 25630) (by omega) (by omega) ?_
  obtain ⟨T, pl, hxt32, hU, kr87, hO, hP, hD, hL⟩ := absorbX (X := [(h0, .inr (6, [.ref q21, .ref q22, .ref q23, .ref q24, .ref q25, .ref q26, .ref q27, .ref q28, .ref q29, .ref q30, .null, .null, .null, .null, .null, .null, .null]))]) 141 hP hD hO hU hL rfl (fun _ _ _ => fit0 (k := 141) rfl)
  have kr88 := hxt32 _ _ kr77
  have kr89 := hxt32 _ _ kr78
  have kr90 := hxt32 _ _ kr79
  have kr91 := hxt32 _ _ kr80
  have kr92 := hxt32 _ _ kr81
  have kr93 := hxt32 _ _ kr82
  have kr94 := hxt32 _ _ kr83
  have kr95 := hxt32 _ _ kr84
  have kr96 := hxt32 _ _ kr85
  have kr97 := hxt32 _ _ kr86
  have kr98 := hxt32 _ _ kr76
  have hXT := extN_tr hXT hxt32
  have hL : nmL T [(141, 142), (140, 141), (131, 140), (123, 131), (114, 123), (105, 114), (97, 105), (40, 97), (37, 38), (38, 39), (18, 19), (19, 20), (22, 23), (23, 24), (16, 17), (17, 18), (24, 25), (36, 37), (35, 36), (34, 35), (33, 34), (32, 33), (31, 32), (30, 31), (25, 30), (20, 21), (21, 22), (14, 15), (15, 16), (12, 13), (13, 14), (3, 4), (2, 3), (1, 2)] := hL
  have hP : va_P g.1 vcl ([(h0, .inr (6, [.ref q21, .ref q22, .ref q23, .ref q24, .ref q25, .ref q26, .ref q27, .ref q28, .ref q29, .ref q30, .null, .null, .null, .null, .null, .null, .null]))] ++ pl) _ := hP
  have hD : va_D _ ([(h0, .inr (6, [.ref q21, .ref q22, .ref q23, .ref q24, .ref q25, .ref q26, .ref q27, .ref q28, .ref q29, .ref q30, .null, .null, .null, .null, .null, .null, .null]))] ++ pl) := hD
  refine va_putF (D := g.1) (ci := 6) (v := .ref q31) (ty := .array .int) (C := "LatticeKeys$Dsa") (T := T_DA) (N := 17) hx hb hts (wg_ft i_DA) ty_DA k_DA n_DA hown hK hP hD hS 0 rfl rfl 10 (by decide) (hts _ (wg_t kw_175)) (fun _ h9 => h9) rfl hnm rfl (by decide +kernel) rfl rfl (Nat.le_of_ble_eq_true rfl) dDA_init_137 (fun H locs hP hD hS => ?_)
  have hP : va_P g.1 vcl ([(h0, .inr (6, [.ref q21, .ref q22, .ref q23, .ref q24, .ref q25, .ref q26, .ref q27, .ref q28, .ref q29, .ref q30, .ref q31, .null, .null, .null, .null, .null, .null]))] ++ pl) _ := hP
  have hD : va_D _ ([(h0, .inr (6, [.ref q21, .ref q22, .ref q23, .ref q24, .ref q25, .ref q26, .ref q27, .ref q28, .ref q29, .ref q30, .ref q31, .null, .null, .null, .null, .null, .null]))] ++ pl) := hD
  refine lv_aload_n hx hb dDA_init_140 rfl (lv_at hl 0 rfl) ?_
  refine lv_sipush (v := nI 128) hx hb dDA_init_141 (by decide) ?_
  refine ma_newa (ws := [(h0, .inr (6, [.ref q21, .ref q22, .ref q23, .ref q24, .ref q25, .ref q26, .ref q27, .ref q28, .ref q29, .ref q30, .ref q31, .null, .null, .null, .null, .null, .null]))] ++ pl) (atype := .byte) hx hb (hts _ (wg_t kw_72)) rfl hK hP hD hS hA 1 rfl (N' := 128) (a0 := (128, .inl (fun _ => 0))) (fun _ => rfl) (nI_pos (by omega)) (nI_clamp (by omega)) (by show (128) * 1 ≤ 536870912; omega) (Nat.le_of_ble_eq_true rfl) (Nat.le_of_ble_eq_true rfl) dDA_init_144 (fun q32 H hP hD hS => ?_)
  refine W.widen (k := 111) (n := 25758) (by omega) (by omega) ?_
  obtain ⟨T, pl, hxt33, hU, kr99, hO, hP, hD, hL⟩ := absorbX (X := [(h0, .inr (6, [.ref q21, .ref q22, .ref q23, .ref q24, .ref q25, .ref q26, .ref q27, .ref q28, .ref q29, .ref q30, .ref q31, .null, .null, .null, .null, .null, .null]))]) 142 hP hD hO hU hL rfl (fun _ _ _ => fit1 (k := 142) rfl)
  have kr100 := hxt33 _ _ kr88
  have kr101 := hxt33 _ _ kr89
  have kr102 := hxt33 _ _ kr90
  have kr103 := hxt33 _ _ kr91
  have kr104 := hxt33 _ _ kr92
  have kr105 := hxt33 _ _ kr93
  have kr106 := hxt33 _ _ kr94
  have kr107 := hxt33 _ _ kr95
  have kr108 := hxt33 _ _ kr96
  have kr109 := hxt33 _ _ kr97
  have kr110 := hxt33 _ _ kr98
  have kr111 := hxt33 _ _ kr87
  have hXT := extN_tr hXT hxt33
  have hL : nmL T [(142, 143), (141, 142), (140, 141), (131, 140), (123, 131), (114, 123), (105, 114), (97, 105), (40, 97), (37, 38), (38, 39), (18, 19), (19, 20), (22, 23), (23, 24), (16, 17), (17, 18), (24, 25), (36, 37), (35, 36), (34, 35), (33, 34), (32, 33), (31, 32), (30, 31), (25, 30), (20, 21), (21, 22), (14, 15), (15, 16), (12, 13), (13, 14), (3, 4), (2, 3), (1, 2)] := hL
  have hP : va_P g.1 vcl ([(h0, .inr (6, [.ref q21, .ref q22, .ref q23, .ref q24, .ref q25, .ref q26, .ref q27, .ref q28, .ref q29, .ref q30, .ref q31, .null, .null, .null, .null, .null, .null]))] ++ pl) _ := hP
  have hD : va_D _ ([(h0, .inr (6, [.ref q21, .ref q22, .ref q23, .ref q24, .ref q25, .ref q26, .ref q27, .ref q28, .ref q29, .ref q30, .ref q31, .null, .null, .null, .null, .null, .null]))] ++ pl) := hD
  refine va_putF (D := g.1) (ci := 6) (v := .ref q32) (ty := .array .byte) (C := "LatticeKeys$Dsa") (T := T_DA) (N := 17) hx hb hts (wg_ft i_DA) ty_DA k_DA n_DA hown hK hP hD hS 0 rfl rfl 11 (by decide) (hts _ (wg_t kw_176)) (fun _ h9 => h9) rfl hnm rfl (by decide +kernel) rfl rfl (Nat.le_of_ble_eq_true rfl) dDA_init_146 (fun H locs hP hD hS => ?_)
  have hP : va_P g.1 vcl ([(h0, .inr (6, [.ref q21, .ref q22, .ref q23, .ref q24, .ref q25, .ref q26, .ref q27, .ref q28, .ref q29, .ref q30, .ref q31, .ref q32, .null, .null, .null, .null, .null]))] ++ pl) _ := hP
  have hD : va_D _ ([(h0, .inr (6, [.ref q21, .ref q22, .ref q23, .ref q24, .ref q25, .ref q26, .ref q27, .ref q28, .ref q29, .ref q30, .ref q31, .ref q32, .null, .null, .null, .null, .null]))] ++ pl) := hD
  refine lv_aload_n hx hb dDA_init_149 rfl (lv_at hl 0 rfl) ?_
  refine lv_bipush (v := nI 64) hx hb dDA_init_150 (by decide) ?_
  refine ma_newa (ws := [(h0, .inr (6, [.ref q21, .ref q22, .ref q23, .ref q24, .ref q25, .ref q26, .ref q27, .ref q28, .ref q29, .ref q30, .ref q31, .ref q32, .null, .null, .null, .null, .null]))] ++ pl) (atype := .byte) hx hb (hts _ (wg_t kw_72)) rfl hK hP hD hS hA 1 rfl (N' := 64) (a0 := (64, .inl (fun _ => 0))) (fun _ => rfl) (nI_pos (by omega)) (nI_clamp (by omega)) (by show (64) * 1 ≤ 536870912; omega) (Nat.le_of_ble_eq_true rfl) (Nat.le_of_ble_eq_true rfl) dDA_init_152 (fun q33 H hP hD hS => ?_)
  refine W.widen (k := 112) (n := 25822) (by omega) (by omega) ?_
  obtain ⟨T, pl, hxt34, hU, kr112, hO, hP, hD, hL⟩ := absorbX (X := [(h0, .inr (6, [.ref q21, .ref q22, .ref q23, .ref q24, .ref q25, .ref q26, .ref q27, .ref q28, .ref q29, .ref q30, .ref q31, .ref q32, .null, .null, .null, .null, .null]))]) 143 hP hD hO hU hL rfl (fun _ _ _ => fit1 (k := 143) rfl)
  have kr113 := hxt34 _ _ kr100
  have kr114 := hxt34 _ _ kr101
  have kr115 := hxt34 _ _ kr102
  have kr116 := hxt34 _ _ kr103
  have kr117 := hxt34 _ _ kr104
  have kr118 := hxt34 _ _ kr105
  have kr119 := hxt34 _ _ kr106
  have kr120 := hxt34 _ _ kr107
  have kr121 := hxt34 _ _ kr108
  have kr122 := hxt34 _ _ kr109
  have kr123 := hxt34 _ _ kr110
  have kr124 := hxt34 _ _ kr111
  have kr125 := hxt34 _ _ kr99
  have hXT := extN_tr hXT hxt34
  have hL : nmL T [(143, 144), (142, 143), (141, 142), (140, 141), (131, 140), (123, 131), (114, 123), (105, 114), (97, 105), (40, 97), (37, 38), (38, 39), (18, 19), (19, 20), (22, 23), (23, 24), (16, 17), (17, 18), (24, 25), (36, 37), (35, 36), (34, 35), (33, 34), (32, 33), (31, 32), (30, 31), (25, 30), (20, 21), (21, 22), (14, 15), (15, 16), (12, 13), (13, 14), (3, 4), (2, 3), (1, 2)] := hL
  have hP : va_P g.1 vcl ([(h0, .inr (6, [.ref q21, .ref q22, .ref q23, .ref q24, .ref q25, .ref q26, .ref q27, .ref q28, .ref q29, .ref q30, .ref q31, .ref q32, .null, .null, .null, .null, .null]))] ++ pl) _ := hP
  have hD : va_D _ ([(h0, .inr (6, [.ref q21, .ref q22, .ref q23, .ref q24, .ref q25, .ref q26, .ref q27, .ref q28, .ref q29, .ref q30, .ref q31, .ref q32, .null, .null, .null, .null, .null]))] ++ pl) := hD
  refine va_putF (D := g.1) (ci := 6) (v := .ref q33) (ty := .array .byte) (C := "LatticeKeys$Dsa") (T := T_DA) (N := 17) hx hb hts (wg_ft i_DA) ty_DA k_DA n_DA hown hK hP hD hS 0 rfl rfl 12 (by decide) (hts _ (wg_t kw_177)) (fun _ h9 => h9) rfl hnm rfl (by decide +kernel) rfl rfl (Nat.le_of_ble_eq_true rfl) dDA_init_154 (fun H locs hP hD hS => ?_)
  have hP : va_P g.1 vcl ([(h0, .inr (6, [.ref q21, .ref q22, .ref q23, .ref q24, .ref q25, .ref q26, .ref q27, .ref q28, .ref q29, .ref q30, .ref q31, .ref q32, .ref q33, .null, .null, .null, .null]))] ++ pl) _ := hP
  have hD : va_D _ ([(h0, .inr (6, [.ref q21, .ref q22, .ref q23, .ref q24, .ref q25, .ref q26, .ref q27, .ref q28, .ref q29, .ref q30, .ref q31, .ref q32, .ref q33, .null, .null, .null, .null]))] ++ pl) := hD
  refine lv_aload_n hx hb dDA_init_157 rfl (lv_at hl 0 rfl) ?_
  refine lv_bipush (v := nI 64) hx hb dDA_init_158 (by decide) ?_
  refine ma_newa (ws := [(h0, .inr (6, [.ref q21, .ref q22, .ref q23, .ref q24, .ref q25, .ref q26, .ref q27, .ref q28, .ref q29, .ref q30, .ref q31, .ref q32, .ref q33, .null, .null, .null, .null]))] ++ pl) (atype := .byte) hx hb (hts _ (wg_t kw_72)) rfl hK hP hD hS hA 1 rfl (N' := 64) (a0 := (64, .inl (fun _ => 0))) (fun _ => rfl) (nI_pos (by omega)) (nI_clamp (by omega)) (by show (64) * 1 ≤ 536870912; omega) (Nat.le_of_ble_eq_true rfl) (Nat.le_of_ble_eq_true rfl) dDA_init_160 (fun q34 H hP hD hS => ?_)
  refine W.widen (k := 113) (n := 25886) (by omega) (by omega) ?_
  obtain ⟨T, pl, hxt35, hU, kr126, hO, hP, hD, hL⟩ := absorbX (X := [(h0, .inr (6, [.ref q21, .ref q22, .ref q23, .ref q24, .ref q25, .ref q26, .ref q27, .ref q28, .ref q29, .ref q30, .ref q31, .ref q32, .ref q33, .null, .null, .null, .null]))]) 144 hP hD hO hU hL rfl (fun _ _ _ => fit1 (k := 144) rfl)
  have kr127 := hxt35 _ _ kr113
  have kr128 := hxt35 _ _ kr114
  have kr129 := hxt35 _ _ kr115
  have kr130 := hxt35 _ _ kr116
  have kr131 := hxt35 _ _ kr117
  have kr132 := hxt35 _ _ kr118
  have kr133 := hxt35 _ _ kr119
  have kr134 := hxt35 _ _ kr120
  have kr135 := hxt35 _ _ kr121
  have kr136 := hxt35 _ _ kr122
  have kr137 := hxt35 _ _ kr123
  have kr138 := hxt35 _ _ kr124
  have kr139 := hxt35 _ _ kr125
  have kr140 := hxt35 _ _ kr112
  have hXT := extN_tr hXT hxt35
  have hL : nmL T [(144, 145), (143, 144), (142, 143), (141, 142), (140, 141), (131, 140), (123, 131), (114, 123), (105, 114), (97, 105), (40, 97), (37, 38), (38, 39), (18, 19), (19, 20), (22, 23), (23, 24), (16, 17), (17, 18), (24, 25), (36, 37), (35, 36), (34, 35), (33, 34), (32, 33), (31, 32), (30, 31), (25, 30), (20, 21), (21, 22), (14, 15), (15, 16), (12, 13), (13, 14), (3, 4), (2, 3), (1, 2)] := hL
  have hP : va_P g.1 vcl ([(h0, .inr (6, [.ref q21, .ref q22, .ref q23, .ref q24, .ref q25, .ref q26, .ref q27, .ref q28, .ref q29, .ref q30, .ref q31, .ref q32, .ref q33, .null, .null, .null, .null]))] ++ pl) _ := hP
  have hD : va_D _ ([(h0, .inr (6, [.ref q21, .ref q22, .ref q23, .ref q24, .ref q25, .ref q26, .ref q27, .ref q28, .ref q29, .ref q30, .ref q31, .ref q32, .ref q33, .null, .null, .null, .null]))] ++ pl) := hD
  refine va_putF (D := g.1) (ci := 6) (v := .ref q34) (ty := .array .byte) (C := "LatticeKeys$Dsa") (T := T_DA) (N := 17) hx hb hts (wg_ft i_DA) ty_DA k_DA n_DA hown hK hP hD hS 0 rfl rfl 13 (by decide) (hts _ (wg_t kw_178)) (fun _ h9 => h9) rfl hnm rfl (by decide +kernel) rfl rfl (Nat.le_of_ble_eq_true rfl) dDA_init_162 (fun H locs hP hD hS => ?_)
  have hP : va_P g.1 vcl ([(h0, .inr (6, [.ref q21, .ref q22, .ref q23, .ref q24, .ref q25, .ref q26, .ref q27, .ref q28, .ref q29, .ref q30, .ref q31, .ref q32, .ref q33, .ref q34, .null, .null, .null]))] ++ pl) _ := hP
  have hD : va_D _ ([(h0, .inr (6, [.ref q21, .ref q22, .ref q23, .ref q24, .ref q25, .ref q26, .ref q27, .ref q28, .ref q29, .ref q30, .ref q31, .ref q32, .ref q33, .ref q34, .null, .null, .null]))] ++ pl) := hD
  refine lv_aload_n hx hb dDA_init_165 rfl (lv_at hl 0 rfl) ?_
  refine lv_bipush (v := nI 64) hx hb dDA_init_166 (by decide) ?_
  refine ma_newa (ws := [(h0, .inr (6, [.ref q21, .ref q22, .ref q23, .ref q24, .ref q25, .ref q26, .ref q27, .ref q28, .ref q29, .ref q30, .ref q31, .ref q32, .ref q33, .ref q34, .null, .null, .null]))] ++ pl) (atype := .byte) hx hb (hts _ (wg_t kw_72)) rfl hK hP hD hS hA 1 rfl (N' := 64) (a0 := (64, .inl (fun _ => 0))) (fun _ => rfl) (nI_pos (by omega)) (nI_clamp (by omega)) (by show (64) * 1 ≤ 536870912; omega) (Nat.le_of_ble_eq_true rfl) (Nat.le_of_ble_eq_true rfl) dDA_init_168 (fun q35 H hP hD hS => ?_)
  refine W.widen (k := 114) (n := 25950) (by omega) (by omega) ?_
  obtain ⟨T, pl, hxt36, hU, kr141, hO, hP, hD, hL⟩ := absorbX (X := [(h0, .inr (6, [.ref q21, .ref q22, .ref q23, .ref q24, .ref q25, .ref q26, .ref q27, .ref q28, .ref q29, .ref q30, .ref q31, .ref q32, .ref q33, .ref q34, .null, .null, .null]))]) 145 hP hD hO hU hL rfl (fun _ _ _ => fit1 (k := 145) rfl)
  have kr142 := hxt36 _ _ kr127
  have kr143 := hxt36 _ _ kr128
  have kr144 := hxt36 _ _ kr129
  have kr145 := hxt36 _ _ kr130
  have kr146 := hxt36 _ _ kr131
  have kr147 := hxt36 _ _ kr132
  have kr148 := hxt36 _ _ kr133
  have kr149 := hxt36 _ _ kr134
  have kr150 := hxt36 _ _ kr135
  have kr151 := hxt36 _ _ kr136
  have kr152 := hxt36 _ _ kr137
  have kr153 := hxt36 _ _ kr138
  have kr154 := hxt36 _ _ kr139
  have kr155 := hxt36 _ _ kr140
  have kr156 := hxt36 _ _ kr126
  have hXT := extN_tr hXT hxt36
  have hL : nmL T [(145, 146), (144, 145), (143, 144), (142, 143), (141, 142), (140, 141), (131, 140), (123, 131), (114, 123), (105, 114), (97, 105), (40, 97), (37, 38), (38, 39), (18, 19), (19, 20), (22, 23), (23, 24), (16, 17), (17, 18), (24, 25), (36, 37), (35, 36), (34, 35), (33, 34), (32, 33), (31, 32), (30, 31), (25, 30), (20, 21), (21, 22), (14, 15), (15, 16), (12, 13), (13, 14), (3, 4), (2, 3), (1, 2)] := hL
  have hP : va_P g.1 vcl ([(h0, .inr (6, [.ref q21, .ref q22, .ref q23, .ref q24, .ref q25, .ref q26, .ref q27, .ref q28, .ref q29, .ref q30, .ref q31, .ref q32, .ref q33, .ref q34, .null, .null, .null]))] ++ pl) _ := hP
  have hD : va_D _ ([(h0, .inr (6, [.ref q21, .ref q22, .ref q23, .ref q24, .ref q25, .ref q26, .ref q27, .ref q28, .ref q29, .ref q30, .ref q31, .ref q32, .ref q33, .ref q34, .null, .null, .null]))] ++ pl) := hD
  refine va_putF (D := g.1) (ci := 6) (v := .ref q35) (ty := .array .byte) (C := "LatticeKeys$Dsa") (T := T_DA) (N := 17) hx hb hts (wg_ft i_DA) ty_DA k_DA n_DA hown hK hP hD hS 0 rfl rfl 14 (by decide) (hts _ (wg_t kw_179)) (fun _ h9 => h9) rfl hnm rfl (by decide +kernel) rfl rfl (Nat.le_of_ble_eq_true rfl) dDA_init_170 (fun H locs hP hD hS => ?_)
  have hP : va_P g.1 vcl ([(h0, .inr (6, [.ref q21, .ref q22, .ref q23, .ref q24, .ref q25, .ref q26, .ref q27, .ref q28, .ref q29, .ref q30, .ref q31, .ref q32, .ref q33, .ref q34, .ref q35, .null, .null]))] ++ pl) _ := hP
  have hD : va_D _ ([(h0, .inr (6, [.ref q21, .ref q22, .ref q23, .ref q24, .ref q25, .ref q26, .ref q27, .ref q28, .ref q29, .ref q30, .ref q31, .ref q32, .ref q33, .ref q34, .ref q35, .null, .null]))] ++ pl) := hD
  refine lv_aload_n hx hb dDA_init_173 rfl (lv_at hl 0 rfl) ?_
  refine lv_bipush (v := nI 84) hx hb dDA_init_174 (by decide) ?_
  refine ma_newa (ws := [(h0, .inr (6, [.ref q21, .ref q22, .ref q23, .ref q24, .ref q25, .ref q26, .ref q27, .ref q28, .ref q29, .ref q30, .ref q31, .ref q32, .ref q33, .ref q34, .ref q35, .null, .null]))] ++ pl) (atype := .byte) hx hb (hts _ (wg_t kw_72)) rfl hK hP hD hS hA 1 rfl (N' := 84) (a0 := (84, .inl (fun _ => 0))) (fun _ => rfl) (nI_pos (by omega)) (nI_clamp (by omega)) (by show (84) * 1 ≤ 536870912; omega) (Nat.le_of_ble_eq_true rfl) (Nat.le_of_ble_eq_true rfl) dDA_init_176 (fun q36 H hP hD hS => ?_)
  refine W.widen (k := 115) (n := 26034) (by omega) (by omega) ?_
  obtain ⟨T, pl, hxt37, hU, kr157, hO, hP, hD, hL⟩ := absorbX (X := [(h0, .inr (6, [.ref q21, .ref q22, .ref q23, .ref q24, .ref q25, .ref q26, .ref q27, .ref q28, .ref q29, .ref q30, .ref q31, .ref q32, .ref q33, .ref q34, .ref q35, .null, .null]))]) 146 hP hD hO hU hL rfl (fun _ _ _ => fit1 (k := 146) rfl)
  have kr158 := hxt37 _ _ kr142
  have kr159 := hxt37 _ _ kr143
  have kr160 := hxt37 _ _ kr144
  have kr161 := hxt37 _ _ kr145
  have kr162 := hxt37 _ _ kr146
  have kr163 := hxt37 _ _ kr147
  have kr164 := hxt37 _ _ kr148
  have kr165 := hxt37 _ _ kr149
  have kr166 := hxt37 _ _ kr150
  have kr167 := hxt37 _ _ kr151
  have kr168 := hxt37 _ _ kr152
  have kr169 := hxt37 _ _ kr153
  have kr170 := hxt37 _ _ kr154
  have kr171 := hxt37 _ _ kr155
  have kr172 := hxt37 _ _ kr156
  have kr173 := hxt37 _ _ kr141
  have hXT := extN_tr hXT hxt37
  have hL : nmL T [(146, 147), (145, 146), (144, 145), (143, 144), (142, 143), (141, 142), (140, 141), (131, 140), (123, 131), (114, 123), (105, 114), (97, 105), (40, 97), (37, 38), (38, 39), (18, 19), (19, 20), (22, 23), (23, 24), (16, 17), (17, 18), (24, 25), (36, 37), (35, 36), (34, 35), (33, 34), (32, 33), (31, 32), (30, 31), (25, 30), (20, 21), (21, 22), (14, 15), (15, 16), (12, 13), (13, 14), (3, 4), (2, 3), (1, 2)] := hL
  have hP : va_P g.1 vcl ([(h0, .inr (6, [.ref q21, .ref q22, .ref q23, .ref q24, .ref q25, .ref q26, .ref q27, .ref q28, .ref q29, .ref q30, .ref q31, .ref q32, .ref q33, .ref q34, .ref q35, .null, .null]))] ++ pl) _ := hP
  have hD : va_D _ ([(h0, .inr (6, [.ref q21, .ref q22, .ref q23, .ref q24, .ref q25, .ref q26, .ref q27, .ref q28, .ref q29, .ref q30, .ref q31, .ref q32, .ref q33, .ref q34, .ref q35, .null, .null]))] ++ pl) := hD
  refine va_putF (D := g.1) (ci := 6) (v := .ref q36) (ty := .array .byte) (C := "LatticeKeys$Dsa") (T := T_DA) (N := 17) hx hb hts (wg_ft i_DA) ty_DA k_DA n_DA hown hK hP hD hS 0 rfl rfl 15 (by decide) (hts _ (wg_t kw_180)) (fun _ h9 => h9) rfl hnm rfl (by decide +kernel) rfl rfl (Nat.le_of_ble_eq_true rfl) dDA_init_178 (fun H locs hP hD hS => ?_)
  have hP : va_P g.1 vcl ([(h0, .inr (6, [.ref q21, .ref q22, .ref q23, .ref q24, .ref q25, .ref q26, .ref q27, .ref q28, .ref q29, .ref q30, .ref q31, .ref q32, .ref q33, .ref q34, .ref q35, .ref q36, .null]))] ++ pl) _ := hP
  have hD : va_D _ ([(h0, .inr (6, [.ref q21, .ref q22, .ref q23, .ref q24, .ref q25, .ref q26, .ref q27, .ref q28, .ref q29, .ref q30, .ref q31, .ref q32, .ref q33, .ref q34, .ref q35, .ref q36, .null]))] ++ pl) := hD
  refine lv_aload_n hx hb dDA_init_181 rfl (lv_at hl 0 rfl) ?_
  refine lv_sipush (v := nI 192) hx hb dDA_init_182 (by decide) ?_
  refine ma_newa (ws := [(h0, .inr (6, [.ref q21, .ref q22, .ref q23, .ref q24, .ref q25, .ref q26, .ref q27, .ref q28, .ref q29, .ref q30, .ref q31, .ref q32, .ref q33, .ref q34, .ref q35, .ref q36, .null]))] ++ pl) (atype := .byte) hx hb (hts _ (wg_t kw_72)) rfl hK hP hD hS hA 1 rfl (N' := 192) (a0 := (192, .inl (fun _ => 0))) (fun _ => rfl) (nI_pos (by omega)) (nI_clamp (by omega)) (by show (192) * 1 ≤ 536870912; omega) (Nat.le_of_ble_eq_true rfl) (Nat.le_of_ble_eq_true rfl) dDA_init_185 (fun q37 H hP hD hS => ?_)
  refine W.widen (k := 116) (n := 26226) (by omega) (by omega) ?_
  obtain ⟨T, pl, hxt38, hU, kr174, hO, hP, hD, hL⟩ := absorbX (X := [(h0, .inr (6, [.ref q21, .ref q22, .ref q23, .ref q24, .ref q25, .ref q26, .ref q27, .ref q28, .ref q29, .ref q30, .ref q31, .ref q32, .ref q33, .ref q34, .ref q35, .ref q36, .null]))]) 147 hP hD hO hU hL rfl (fun _ _ _ => fit1 (k := 147) rfl)
  have kr175 := hxt38 _ _ kr158
  have kr176 := hxt38 _ _ kr159
  have kr177 := hxt38 _ _ kr160
  have kr178 := hxt38 _ _ kr161
  have kr179 := hxt38 _ _ kr162
  have kr180 := hxt38 _ _ kr163
  have kr181 := hxt38 _ _ kr164
  have kr182 := hxt38 _ _ kr165
  have kr183 := hxt38 _ _ kr166
  have kr184 := hxt38 _ _ kr167
  have kr185 := hxt38 _ _ kr168
  have kr186 := hxt38 _ _ kr169
  have kr187 := hxt38 _ _ kr170
  have kr188 := hxt38 _ _ kr171
  have kr189 := hxt38 _ _ kr172
  have kr190 := hxt38 _ _ kr173
  have kr191 := hxt38 _ _ kr157
  have hXT := extN_tr hXT hxt38
  have hL : nmL T [(147, 148), (146, 147), (145, 146), (144, 145), (143, 144), (142, 143), (141, 142), (140, 141), (131, 140), (123, 131), (114, 123), (105, 114), (97, 105), (40, 97), (37, 38), (38, 39), (18, 19), (19, 20), (22, 23), (23, 24), (16, 17), (17, 18), (24, 25), (36, 37), (35, 36), (34, 35), (33, 34), (32, 33), (31, 32), (30, 31), (25, 30), (20, 21), (21, 22), (14, 15), (15, 16), (12, 13), (13, 14), (3, 4), (2, 3), (1, 2)] := hL
  have hP : va_P g.1 vcl ([(h0, .inr (6, [.ref q21, .ref q22, .ref q23, .ref q24, .ref q25, .ref q26, .ref q27, .ref q28, .ref q29, .ref q30, .ref q31, .ref q32, .ref q33, .ref q34, .ref q35, .ref q36, .null]))] ++ pl) _ := hP
  have hD : va_D _ ([(h0, .inr (6, [.ref q21, .ref q22, .ref q23, .ref q24, .ref q25, .ref q26, .ref q27, .ref q28, .ref q29, .ref q30, .ref q31, .ref q32, .ref q33, .ref q34, .ref q35, .ref q36, .null]))] ++ pl) := hD
  refine va_putF (D := g.1) (ci := 6) (v := .ref q37) (ty := .array .byte) (C := "LatticeKeys$Dsa") (T := T_DA) (N := 17) hx hb hts (wg_ft i_DA) ty_DA k_DA n_DA hown hK hP hD hS 0 rfl rfl 16 (by decide) (hts _ (wg_t kw_181)) (fun _ h9 => h9) rfl hnm rfl (by decide +kernel) rfl rfl (Nat.le_of_ble_eq_true rfl) dDA_init_187 (fun H locs hP hD hS => ?_)
  have hP : va_P g.1 vcl ([(h0, .inr (6, [.ref q21, .ref q22, .ref q23, .ref q24, .ref q25, .ref q26, .ref q27, .ref q28, .ref q29, .ref q30, .ref q31, .ref q32, .ref q33, .ref q34, .ref q35, .ref q36, .ref q37]))] ++ pl) _ := hP
  have hD : va_D _ ([(h0, .inr (6, [.ref q21, .ref q22, .ref q23, .ref q24, .ref q25, .ref q26, .ref q27, .ref q28, .ref q29, .ref q30, .ref q31, .ref q32, .ref q33, .ref q34, .ref q35, .ref q36, .ref q37]))] ++ pl) := hD
  obtain ⟨hP, hD⟩ := mv_last (X := []) (c := (h0, .inr (6, [.ref q21, .ref q22, .ref q23, .ref q24, .ref q25, .ref q26, .ref q27, .ref q28, .ref q29, .ref q30, .ref q31, .ref q32, .ref q33, .ref q34, .ref q35, .ref q36, .ref q37]))) hP hD
  obtain ⟨T, pl, hxt39, hU, kr192, hO, hP, hD, hL⟩ := absorbX (X := []) 39 hP hD hO hU hL rfl (fun _ h9 _ => fit5 (k := 39) (fl := [(3, 16), (3, 22), (3, 37), (3, 40), (3, 97), (3, 105), (3, 114), (3, 123), (3, 131), (3, 140), (3, 141), (3, 142), (3, 143), (3, 144), (3, 145), (3, 146), (3, 147)]) rfl ⟨⟨_, rfl, h9 _ _ kr175⟩, ⟨_, rfl, h9 _ _ kr177⟩, ⟨_, rfl, h9 _ _ kr178⟩, ⟨_, rfl, h9 _ _ kr179⟩, ⟨_, rfl, h9 _ _ kr180⟩, ⟨_, rfl, h9 _ _ kr181⟩, ⟨_, rfl, h9 _ _ kr182⟩, ⟨_, rfl, h9 _ _ kr183⟩, ⟨_, rfl, h9 _ _ kr184⟩, ⟨_, rfl, h9 _ _ kr185⟩, ⟨_, rfl, h9 _ _ kr186⟩, ⟨_, rfl, h9 _ _ kr187⟩, ⟨_, rfl, h9 _ _ kr188⟩, ⟨_, rfl, h9 _ _ kr189⟩, ⟨_, rfl, h9 _ _ kr190⟩, ⟨_, rfl, h9 _ _ kr191⟩, ⟨_, rfl, h9 _ _ kr174⟩, trivial⟩)
  have kr193 := hxt39 _ _ kr175
  have kr194 := hxt39 _ _ kr176
  have kr195 := hxt39 _ _ kr177
  have kr196 := hxt39 _ _ kr178
  have kr197 := hxt39 _ _ kr179
  have kr198 := hxt39 _ _ kr180
  have kr199 := hxt39 _ _ kr181
  have kr200 := hxt39 _ _ kr182
  have kr201 := hxt39 _ _ kr183
  have kr202 := hxt39 _ _ kr184
  have kr203 := hxt39 _ _ kr185
  have kr204 := hxt39 _ _ kr186
  have kr205 := hxt39 _ _ kr187
  have kr206 := hxt39 _ _ kr188
  have kr207 := hxt39 _ _ kr189
  have kr208 := hxt39 _ _ kr190
  have kr209 := hxt39 _ _ kr191
  have kr210 := hxt39 _ _ kr174
  have hXT := extN_tr hXT hxt39
  have hL : nmL T [(39, 40), (147, 148), (146, 147), (145, 146), (144, 145), (143, 144), (142, 143), (141, 142), (140, 141), (131, 140), (123, 131), (114, 123), (105, 114), (97, 105), (40, 97), (37, 38), (38, 39), (18, 19), (19, 20), (22, 23), (23, 24), (16, 17), (17, 18), (24, 25), (36, 37), (35, 36), (34, 35), (33, 34), (32, 33), (31, 32), (30, 31), (25, 30), (20, 21), (21, 22), (14, 15), (15, 16), (12, 13), (13, 14), (3, 4), (2, 3), (1, 2)] := hL
  have hP : va_P g.1 vcl ([] ++ pl) _ := hP
  have hD : va_D _ ([] ++ pl) := hD
  exact mp_vret hx hb hr hlk hP hD hS (T, pl) ⟨⟨hXT, hU, hL, kr192⟩, hO⟩ [] rfl rfl rfl (by omega) (by omega) dDA_init_190
