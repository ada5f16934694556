abbrev c_DA_init : ByteArray := prog_3_method_1_code
abbrev y_DA_init : MethodName := ⟨"LatticeKeys$Dsa", "<init>", "()V"⟩
abbrev w_DA_init : List Cond := Cond.code y_DA_init c_DA_init 1 none :: WG
theorem dDA_init_0 : decode c_DA_init 0 = .ok (.aload_n 0, 1) := by decide +kernel
theorem dDA_init_1 : decode c_DA_init 1 = .ok (.invokespecial 1, 3) := by decide +kernel
theorem dDA_init_4 : decode c_DA_init 4 = .ok (.aload_n 0, 1) := by decide +kernel
theorem dDA_init_5 : decode c_DA_init 5 = .ok (.new 7, 3) := by decide +kernel
theorem dDA_init_8 : decode c_DA_init 8 = .ok (.dup, 1) := by decide +kernel
theorem dDA_init_9 : decode c_DA_init 9 = .ok (.invokespecial 9, 3) := by decide +kernel
theorem dDA_init_12 : decode c_DA_init 12 = .ok (.putfield 10, 3) := by decide +kernel
theorem dDA_init_15 : decode c_DA_init 15 = .ok (.aload_n 0, 1) := by decide +kernel
theorem dDA_init_16 : decode c_DA_init 16 = .ok (.new 16, 3) := by decide +kernel
theorem dDA_init_19 : decode c_DA_init 19 = .ok (.dup, 1) := by decide +kernel
theorem dDA_init_20 : decode c_DA_init 20 = .ok (.ldc 18, 2) := by decide +kernel
theorem dDA_init_22 : decode c_DA_init 22 = .ok (.sipush 1753, 3) := by decide +kernel
theorem dDA_init_25 : decode c_DA_init 25 = .ok (.bipush 8, 2) := by decide +kernel
theorem dDA_init_27 : decode c_DA_init 27 = .ok (.invokespecial 19, 3) := by decide +kernel
theorem dDA_init_30 : decode c_DA_init 30 = .ok (.putfield 22, 3) := by decide +kernel
theorem dDA_init_33 : decode c_DA_init 33 = .ok (.aload_n 0, 1) := by decide +kernel
theorem dDA_init_34 : decode c_DA_init 34 = .ok (.new 26, 3) := by decide +kernel
theorem dDA_init_37 : decode c_DA_init 37 = .ok (.dup, 1) := by decide +kernel
theorem dDA_init_38 : decode c_DA_init 38 = .ok (.invokespecial 28, 3) := by decide +kernel
theorem dDA_init_41 : decode c_DA_init 41 = .ok (.putfield 29, 3) := by decide +kernel
theorem dDA_init_44 : decode c_DA_init 44 = .ok (.aload_n 0, 1) := by decide +kernel
theorem dDA_init_45 : decode c_DA_init 45 = .ok (.bipush 56, 2) := by decide +kernel
theorem dDA_init_47 : decode c_DA_init 47 = .ok (.sipush 256, 3) := by decide +kernel
theorem dDA_init_50 : decode c_DA_init 50 = .ok (.multianewarray 33 2, 4) := by decide +kernel
theorem dDA_init_54 : decode c_DA_init 54 = .ok (.putfield 35, 3) := by decide +kernel
theorem dDA_init_57 : decode c_DA_init 57 = .ok (.aload_n 0, 1) := by decide +kernel
theorem dDA_init_58 : decode c_DA_init 58 = .ok (.bipush 7, 2) := by decide +kernel
theorem dDA_init_60 : decode c_DA_init 60 = .ok (.sipush 256, 3) := by decide +kernel
theorem dDA_init_63 : decode c_DA_init 63 = .ok (.multianewarray 33 2, 4) := by decide +kernel
theorem dDA_init_67 : decode c_DA_init 67 = .ok (.putfield 38, 3) := by decide +kernel
theorem dDA_init_70 : decode c_DA_init 70 = .ok (.aload_n 0, 1) := by decide +kernel
theorem dDA_init_71 : decode c_DA_init 71 = .ok (.bipush 8, 2) := by decide +kernel
theorem dDA_init_73 : decode c_DA_init 73 = .ok (.sipush 256, 3) := by decide +kernel
theorem dDA_init_76 : decode c_DA_init 76 = .ok (.multianewarray 33 2, 4) := by decide +kernel
theorem dDA_init_80 : decode c_DA_init 80 = .ok (.putfield 41, 3) := by decide +kernel
theorem dDA_init_83 : decode c_DA_init 83 = .ok (.aload_n 0, 1) := by decide +kernel
theorem dDA_init_84 : decode c_DA_init 84 = .ok (.bipush 8, 2) := by decide +kernel
theorem dDA_init_86 : decode c_DA_init 86 = .ok (.sipush 256, 3) := by decide +kernel
theorem dDA_init_89 : decode c_DA_init 89 = .ok (.multianewarray 33 2, 4) := by decide +kernel
theorem dDA_init_93 : decode c_DA_init 93 = .ok (.putfield 44, 3) := by decide +kernel
theorem dDA_init_96 : decode c_DA_init 96 = .ok (.aload_n 0, 1) := by decide +kernel
theorem dDA_init_97 : decode c_DA_init 97 = .ok (.bipush 7, 2) := by decide +kernel
theorem dDA_init_99 : decode c_DA_init 99 = .ok (.sipush 256, 3) := by decide +kernel
theorem dDA_init_102 : decode c_DA_init 102 = .ok (.multianewarray 33 2, 4) := by decide +kernel
theorem dDA_init_106 : decode c_DA_init 106 = .ok (.putfield 47, 3) := by decide +kernel
theorem dDA_init_109 : decode c_DA_init 109 = .ok (.aload_n 0, 1) := by decide +kernel
theorem dDA_init_110 : decode c_DA_init 110 = .ok (.bipush 8, 2) := by decide +kernel
theorem dDA_init_112 : decode c_DA_init 112 = .ok (.sipush 256, 3) := by decide +kernel
theorem dDA_init_115 : decode c_DA_init 115 = .ok (.multianewarray 33 2, 4) := by decide +kernel
theorem dDA_init_119 : decode c_DA_init 119 = .ok (.putfield 50, 3) := by decide +kernel
theorem dDA_init_122 : decode c_DA_init 122 = .ok (.aload_n 0, 1) := by decide +kernel
theorem dDA_init_123 : decode c_DA_init 123 = .ok (.sipush 256, 3) := by decide +kernel
theorem dDA_init_126 : decode c_DA_init 126 = .ok (.newarray .int, 2) := by decide +kernel
theorem dDA_init_128 : decode c_DA_init 128 = .ok (.putfield 53, 3) := by decide +kernel
theorem dDA_init_131 : decode c_DA_init 131 = .ok (.aload_n 0, 1) := by decide +kernel
theorem dDA_init_132 : decode c_DA_init 132 = .ok (.sipush 256, 3) := by decide +kernel
theorem dDA_init_135 : decode c_DA_init 135 = .ok (.newarray .int, 2) := by decide +kernel
theorem dDA_init_137 : decode c_DA_init 137 = .ok (.putfield 57, 3) := by decide +kernel
theorem dDA_init_140 : decode c_DA_init 140 = .ok (.aload_n 0, 1) := by decide +kernel
theorem dDA_init_141 : decode c_DA_init 141 = .ok (.sipush 128, 3) := by decide +kernel
theorem dDA_init_144 : decode c_DA_init 144 = .ok (.newarray .byte, 2) := by decide +kernel
theorem dDA_init_146 : decode c_DA_init 146 = .ok (.putfield 60, 3) := by decide +kernel
theorem dDA_init_149 : decode c_DA_init 149 = .ok (.aload_n 0, 1) := by decide +kernel
theorem dDA_init_150 : decode c_DA_init 150 = .ok (.bipush 64, 2) := by decide +kernel
theorem dDA_init_152 : decode c_DA_init 152 = .ok (.newarray .byte, 2) := by decide +kernel
theorem dDA_init_154 : decode c_DA_init 154 = .ok (.putfield 64, 3) := by decide +kernel
theorem dDA_init_157 : decode c_DA_init 157 = .ok (.aload_n 0, 1) := by decide +kernel
theorem dDA_init_158 : decode c_DA_init 158 = .ok (.bipush 64, 2) := by decide +kernel
theorem dDA_init_160 : decode c_DA_init 160 = .ok (.newarray .byte, 2) := by decide +kernel
theorem dDA_init_162 : decode c_DA_init 162 = .ok (.putfield 67, 3) := by decide +kernel
theorem dDA_init_165 : decode c_DA_init 165 = .ok (.aload_n 0, 1) := by decide +kernel
theorem dDA_init_166 : decode c_DA_init 166 = .ok (.bipush 64, 2) := by decide +kernel
theorem dDA_init_168 : decode c_DA_init 168 = .ok (.newarray .byte, 2) := by decide +kernel
theorem dDA_init_170 : decode c_DA_init 170 = .ok (.putfield 70, 3) := by decide +kernel
theorem dDA_init_173 : decode c_DA_init 173 = .ok (.aload_n 0, 1) := by decide +kernel
theorem dDA_init_174 : decode c_DA_init 174 = .ok (.bipush 84, 2) := by decide +kernel
theorem dDA_init_176 : decode c_DA_init 176 = .ok (.newarray .byte, 2) := by decide +kernel
theorem dDA_init_178 : decode c_DA_init 178 = .ok (.putfield 73, 3) := by decide +kernel
theorem dDA_init_181 : decode c_DA_init 181 = .ok (.aload_n 0, 1) := by decide +kernel
theorem dDA_init_182 : decode c_DA_init 182 = .ok (.sipush 192, 3) := by decide +kernel
theorem dDA_init_185 : decode c_DA_init 185 = .ok (.newarray .byte, 2) := by decide +kernel
theorem dDA_init_187 : decode c_DA_init 187 = .ok (.putfield 76, 3) := by decide +kernel
theorem dDA_init_190 : decode c_DA_init 190 = .ok (.return_, 1) := by decide +kernel
set_option maxHeartbeats 400000 in
set_option maxRecDepth 100000 in
theorem m_DA_init (l : Launch) (g : Gd) (sz : Nat) (h0 : Nat)  : Met l y_DA_init w_DA_init ({ frames := 3, cells := 116, slots := 26226, locals := 80 } : Room) (va_Pc [.ref h0] (pr (en g) g.1 vcl sz [(h0, .inr (6, [.null, .null, .null, .null, .null, .null, .null, .null, .null, .null, .null, .null, .null, .null, .null, .null, .null]))])) (va_Qv (fun (u : Unit) => True) (po g.1 vcl (va_A [(h0, .inr (6, [.null, .null, .null, .null, .null, .null, .null, .null, .null, .null, .null, .null, .null, .null, .null, .null, .null]))] sz) (fun (u : Unit) => [])) (va_A [(h0, .inr (6, [.null, .null, .null, .null, .null, .null, .null, .null, .null, .null, .null, .null, .null, .null, .null, .null, .null]))] sz)) 116 26226 (va_A [(h0, .inr (6, [.null, .null, .null, .null, .null, .null, .null, .null, .null, .null, .null, .null, .null, .null, .null, .null, .null]))] sz) := by
  refine mc_entry (cc := c_DA_init) (maxL := 1) (ret := none) (by decide) rfl (Nat.le_of_ble_eq_true rfl) ?_
  intro p e s m args below meth c ls F hr hlk hnm hsz hP hD hE hA hl
  obtain ⟨hx, hb, hml, hown, hts⟩ := id F
  have hK := hE.1
  generalize va_A [(h0, .inr (6, [.null, .null, .null, .null, .null, .null, .null, .null, .null, .null, .null, .null, .null, .null, .null, .null, .null]))] sz = A at hD hE hA ⊢
  have hS : va_S A s.heap s.heap [] := va_S.rf
  have hl : lv_has ls 1 [(0, .ref h0)] := hl
  refine lv_aload_n hx hb dDA_init_0 rfl (lv_at hl 0 rfl) ?_
  refine W.objInit hx hb hown (hts _ (wg_t kw_143)) (hts _ (wg_t kw_41)) (hts _ (wg_t kobj)) rfl (by rw [hml]; exact hl.1) rfl dDA_init_1 (Nat.le_of_ble_eq_true rfl) (Nat.le_of_ble_eq_true rfl) ?_
  refine W.eq (g2 := F0 m 4 ls []) rfl ?_
  refine lv_aload_n hx hb dDA_init_4 rfl (lv_at hl 0 rfl) ?_
  refine va_new (ci := 3) (fs := [.null, .int 0, .int 0, .int 0]) (C := "LatticeKeys$Sponge") (T := T_SP) (N := 4) hx hb hts (wg_ft i_SP) ty_SP k_SP hown (hts _ (wg_t kw_144)) (hts _ (wg_t kw_50)) (hts _ (wg_t kw_2)) hK hP hD hS hA rfl z_SP (by decide) (by decide) dDA_init_5 (fun q1 H hP hD hS => ?_)
  have hP : va_P g.1 vcl [(h0, .inr (6, [.null, .null, .null, .null, .null, .null, .null, .null, .null, .null, .null, .null, .null, .null, .null, .null, .null])), (q1, .inr (3, [.null, .int 0, .int 0, .int 0]))] _ := hP
  have hD : va_D _ [(h0, .inr (6, [.null, .null, .null, .null, .null, .null, .null, .null, .null, .null, .null, .null, .null, .null, .null, .null, .null])), (q1, .inr (3, [.null, .int 0, .int 0, .int 0]))] := hD
  refine W.widen (k := 1) (n := 4) (by decide) (by decide) ?_
  refine lv_dup hx hb dDA_init_8 rfl ?_
  refine mc_v (wc := [(q1, .inr (3, [.null, .int 0, .int 0, .int 0]))]) (wr := [(h0, .inr (6, [.null, .null, .null, .null, .null, .null, .null, .null, .null, .null, .null, .null, .null, .null, .null, .null, .null]))]) hP hD hS hA [1] [0] rfl rfl rfl (by decide) (va_runI (As := []) (rest := [.ref q1, .ref h0]) F (m_SP_init l g _ q1) (cwI 0 hts (wg_in kw_53) rfl rfl rfl (hts _ (wg_t kw_2)) (hts _ (wg_t kw_145)) (hts _ (wg_t kw_52)) rfl (by decide +kernel) ⟨by decide, by decide⟩) (pr_S (en_ok g) hP hD hS hA hE [1] rfl rfl) rfl rfl hl.1 rfl (lv_room (Nat.le_of_ble_eq_true rfl)) dDA_init_9 ⟨(by decide), (by decide)⟩) (fun u1 H locs hu1 hP hD hS => ?_)
  have hP : va_P g.1 vcl [(h0, .inr (6, [.null, .null, .null, .null, .null, .null, .null, .null, .null, .null, .null, .null, .null, .null, .null, .null, .null])), (q1, .inr (3, [.ref u1, .int (nI 136), .int (nI 6), .int (nI 0)])), (u1, .inl (g.2.1 2, 25, .inr (.inl ((fun _ => 0)))))] _ := hP
  have hD : va_D _ [(h0, .inr (6, [.null, .null, .null, .null, .null, .null, .null, .null, .null, .null, .null, .null, .null, .null, .null, .null, .null])), (q1, .inr (3, [.ref u1, .int (nI 136), .int (nI 6), .int (nI 0)])), (u1, .inl (g.2.1 2, 25, .inr (.inl ((fun _ => 0)))))] := hD
  refine W.widen (k := 2) (n := 29) (by decide) (by decide) ?_
  refine va_putF (D := g.1) (ci := 6) (v := .ref q1) (ty := .object "LatticeKeys$Sponge") (C := "LatticeKeys$Dsa") (T := T_DA) (N := 17) hx hb hts (wg_ft i_DA) ty_DA k_DA n_DA hown hK hP hD hS 0 rfl rfl 0 (by decide) (hts _ (wg_t kw_165)) (fun _ h9 => h9) rfl hnm rfl (by decide +kernel) rfl rfl (Nat.le_of_ble_eq_true rfl) dDA_init_12 (fun H locs hP hD hS => ?_)
  have hP : va_P g.1 vcl [(h0, .inr (6, [.ref q1, .null, .null, .null, .null, .null, .null, .null, .null, .null, .null, .null, .null, .null, .null, .null, .null])), (q1, .inr (3, [.ref u1, .int (nI 136), .int (nI 6), .int (nI 0)])), (u1, .inl (g.2.1 2, 25, .inr (.inl ((fun _ => 0)))))] _ := hP
  have hD : va_D _ [(h0, .inr (6, [.ref q1, .null, .null, .null, .null, .null, .null, .null, .null, .null, .null, .null, .null, .null, .null, .null, .null])), (q1, .inr (3, [.ref u1, .int (nI 136), .int (nI 6), .int (nI 0)])), (u1, .inl (g.2.1 2, 25, .inr (.inl ((fun _ => 0)))))] := hD
  refine lv_aload_n hx hb dDA_init_15 rfl (lv_at hl 0 rfl) ?_
  refine va_new (ci := 4) (fs := [.int 0, .int 0, .int 0, .null]) (C := "LatticeKeys$Ring") (T := T_RG) (N := 4) hx hb hts (wg_ft i_RG) ty_RG k_RG hown (hts _ (wg_t kw_146)) (hts _ (wg_t kw_83)) (hts _ (wg_t kw_4)) hK hP hD hS hA rfl z_RG (by decide) (by decide) dDA_init_16 (fun q2 H hP hD hS => ?_)
  have hP : va_P g.1 vcl [(h0, .inr (6, [.ref q1, .null, .null, .null, .null, .null, .null, .null, .null, .null, .null, .null, .null, .null, .null, .null, .null])), (q1, .inr (3, [.ref u1, .int (nI 136), .int (nI 6), .int (nI 0)])), (u1, .inl (g.2.1 2, 25, .inr (.inl ((fun _ => 0))))), (q2, .inr (4, [.int 0, .int 0, .int 0, .null]))] _ := hP
  have hD : va_D _ [(h0, .inr (6, [.ref q1, .null, .null, .null, .null, .null, .null, .null, .null, .null, .null, .null, .null, .null, .null, .null, .null])), (q1, .inr (3, [.ref u1, .int (nI 136), .int (nI 6), .int (nI 0)])), (u1, .inl (g.2.1 2, 25, .inr (.inl ((fun _ => 0))))), (q2, .inr (4, [.int 0, .int 0, .int 0, .null]))] := hD
  refine W.widen (k := 3) (n := 33) (by decide) (by decide) ?_
  refine lv_dup hx hb dDA_init_19 rfl ?_
  refine lv_ldc (v := 8380417) hx hb hown (hts _ (wg_t kw_147)) dDA_init_20 ?_
  refine mi_as (show (8380417 : Int32) = nI 8380417 by decide) ?_
  refine lv_sipush (v := nI 1753) hx hb dDA_init_22 (by decide) ?_
  refine lv_bipush (v := nI 8) hx hb dDA_init_25 (by decide) ?_
  refine mc_v (wc := [(q2, .inr (4, [.int 0, .int 0, .int 0, .null]))]) (wr := [(h0, .inr (6, [.ref q1, .null, .null, .null, .null, .null, .null, .null, .null, .null, .null, .null, .null, .null, .null, .null, .null])), (q1, .inr (3, [.ref u1, .int (nI 136), .int (nI 6), .int (nI 0)])), (u1, .inl (g.2.1 2, 25, .inr (.inl ((fun _ => 0)))))]) hP hD hS hA [3] [0, 1, 2] rfl rfl rfl (by decide) (va_runI (As := [.int (nI 8380417), .int (nI 1753), .int (nI 8)]) (rest := [.ref q2, .ref h0]) F (m_RG_init_8 l g _ q2) (cwI 3 hts (wg_in kw_86) rfl rfl rfl (hts _ (wg_t kw_4)) (hts _ (wg_t kw_148)) (hts _ (wg_t kw_85)) rfl (by decide +kernel) ⟨by decide, by decide⟩) (pr_S (en_ok g) hP hD hS hA hE [3] rfl rfl) rfl rfl hl.1 rfl (lv_room (Nat.le_of_ble_eq_true rfl)) dDA_init_27 ⟨(by decide), (by decide)⟩) (fun u2 H locs hu2 hP hD hS => ?_)
  have hP : va_P g.1 vcl [(h0, .inr (6, [.ref q1, .null, .null, .null, .null, .null, .null, .null, .null, .null, .null, .null, .null, .null, .null, .null, .null])), (q1, .inr (3, [.ref u1, .int (nI 136), .int (nI 6), .int (nI 0)])), (u1, .inl (g.2.1 2, 25, .inr (.inl ((fun _ => 0)))))] _ := hP
  have hD : va_D _ [(h0, .inr (6, [.ref q1, .null, .null, .null, .null, .null, .null, .null, .null, .null, .null, .null, .null, .null, .null, .null, .null])), (q1, .inr (3, [.ref u1, .int (nI 136), .int (nI 6), .int (nI 0)])), (u1, .inl (g.2.1 2, 25, .inr (.inl ((fun _ => 0)))))] := hD
  refine W.widen (k := 4) (n := 289) (by decide) (by decide) ?_
  refine va_putF (D := g.1) (ci := 6) (v := .ref q2) (ty := .object "LatticeKeys$Ring") (C := "LatticeKeys$Dsa") (T := T_DA) (N := 17) hx hb hts (wg_ft i_DA) ty_DA k_DA n_DA hown hK hP hD hS 0 rfl rfl 1 (by decide) (hts _ (wg_t kw_166)) (fun _ h9 => h9) rfl hnm rfl (by decide +kernel) rfl rfl (Nat.le_of_ble_eq_true rfl) dDA_init_30 (fun H locs hP hD hS => ?_)
  have hP : va_P g.1 vcl [(h0, .inr (6, [.ref q1, .ref q2, .null, .null, .null, .null, .null, .null, .null, .null, .null, .null, .null, .null, .null, .null, .null])), (q1, .inr (3, [.ref u1, .int (nI 136), .int (nI 6), .int (nI 0)])), (u1, .inl (g.2.1 2, 25, .inr (.inl ((fun _ => 0)))))] _ := hP
  have hD : va_D _ [(h0, .inr (6, [.ref q1, .ref q2, .null, .null, .null, .null, .null, .null, .null, .null, .null, .null, .null, .null, .null, .null, .null])), (q1, .inr (3, [.ref u1, .int (nI 136), .int (nI 6), .int (nI 0)])), (u1, .inl (g.2.1 2, 25, .inr (.inl ((fun _ => 0)))))] := hD
  refine lv_aload_n hx hb dDA_init_33 rfl (lv_at hl 0 rfl) ?_
  refine va_new (ci := 7) (fs := [.null, .null]) (C := "LatticeKeys$DsaSampler") (T := T_SA) (N := 2) hx hb hts (wg_ft i_SA) ty_SA k_SA hown (hts _ (wg_t kw_149)) (hts _ (wg_t kw_150)) (hts _ (wg_t kw_6)) hK hP hD hS hA rfl z_SA (by decide) (by decide) dDA_init_34 (fun q3 H hP hD hS => ?_)
  have hP : va_P g.1 vcl [(h0, .inr (6, [.ref q1, .ref q2, .null, .null, .null, .null, .null, .null, .null, .null, .null, .null, .null, .null, .null, .null, .null])), (q1, .inr (3, [.ref u1, .int (nI 136), .int (nI 6), .int (nI 0)])), (u1, .inl (g.2.1 2, 25, .inr (.inl ((fun _ => 0))))), (q3, .inr (7, [.null, .null]))] _ := hP
  have hD : va_D _ [(h0, .inr (6, [.ref q1, .ref q2, .null, .null, .null, .null, .null, .null, .null, .null, .null, .null, .null, .null, .null, .null, .null])), (q1, .inr (3, [.ref u1, .int (nI 136), .int (nI 6), .int (nI 0)])), (u1, .inl (g.2.1 2, 25, .inr (.inl ((fun _ => 0))))), (q3, .inr (7, [.null, .null]))] := hD
  refine W.widen (k := 5) (n := 291) (by decide) (by decide) ?_
  refine lv_dup hx hb dDA_init_37 rfl ?_
  refine mc_v (wc := [(q3, .inr (7, [.null, .null]))]) (wr := [(h0, .inr (6, [.ref q1, .ref q2, .null, .null, .null, .null, .null, .null, .null, .null, .null, .null, .null, .null, .null, .null, .null])), (q1, .inr (3, [.ref u1, .int (nI 136), .int (nI 6), .int (nI 0)])), (u1, .inl (g.2.1 2, 25, .inr (.inl ((fun _ => 0)))))]) hP hD hS hA [3] [0, 1, 2] rfl rfl rfl (by decide) (va_runI (As := []) (rest := [.ref q3, .ref h0]) F (m_SA_init l g _ q3) (cwI 0 hts (wg_in kw_153) rfl rfl rfl (hts _ (wg_t kw_6)) (hts _ (wg_t kw_151)) (hts _ (wg_t kw_152)) rfl (by decide +kernel) ⟨by decide, by decide⟩) (pr_S (en_ok g) hP hD hS hA hE [3] rfl rfl) rfl rfl hl.1 rfl (lv_room (Nat.le_of_ble_eq_true rfl)) dDA_init_38 ⟨(by decide), (by decide)⟩) (fun u3 H locs hu3 hP hD hS => ?_)
  have hP : va_P g.1 vcl [(h0, .inr (6, [.ref q1, .ref q2, .null, .null, .null, .null, .null, .null, .null, .null, .null, .null, .null, .null, .null, .null, .null])), (q1, .inr (3, [.ref u1, .int (nI 136), .int (nI 6), .int (nI 0)])), (u1, .inl (g.2.1 2, 25, .inr (.inl ((fun _ => 0)))))] _ := hP
  have hD : va_D _ [(h0, .inr (6, [.ref q1, .ref q2, .null, .null, .null, .null, .null, .null, .null, .null, .null, .null, .null, .null, .null, .null, .null])), (q1, .inr (3, [.ref u1, .int (nI 136), .int (nI 6), .int (nI 0)])), (u1, .inl (g.2.1 2, 25, .inr (.inl ((fun _ => 0)))))] := hD
  refine W.widen (k := 8) (n := 960) (by decide) (by decide) ?_
  refine va_putF (D := g.1) (ci := 6) (v := .ref q3) (ty := .object "LatticeKeys$DsaSampler") (C := "LatticeKeys$Dsa") (T := T_DA) (N := 17) hx hb hts (wg_ft i_DA) ty_DA k_DA n_DA hown hK hP hD hS 0 rfl rfl 2 (by decide) (hts _ (wg_t kw_167)) (fun _ h9 => h9) rfl hnm rfl (by decide +kernel) rfl rfl (Nat.le_of_ble_eq_true rfl) dDA_init_41 (fun H locs hP hD hS => ?_)
  have hP : va_P g.1 vcl [(h0, .inr (6, [.ref q1, .ref q2, .ref q3, .null, .null, .null, .null, .null, .null, .null, .null, .null, .null, .null, .null, .null, .null])), (q1, .inr (3, [.ref u1, .int (nI 136), .int (nI 6), .int (nI 0)])), (u1, .inl (g.2.1 2, 25, .inr (.inl ((fun _ => 0)))))] _ := hP
  have hD : va_D _ [(h0, .inr (6, [.ref q1, .ref q2, .ref q3, .null, .null, .null, .null, .null, .null, .null, .null, .null, .null, .null, .null, .null, .null])), (q1, .inr (3, [.ref u1, .int (nI 136), .int (nI 6), .int (nI 0)])), (u1, .inl (g.2.1 2, 25, .inr (.inl ((fun _ => 0)))))] := hD
  refine lv_aload_n hx hb dDA_init_44 rfl (lv_at hl 0 rfl) ?_
  refine lv_bipush (v := nI 56) hx hb dDA_init_45 (by decide) ?_
  refine lv_sipush (v := nI 256) hx hb dDA_init_47 (by decide) ?_
  refine xm_mna (ty := .int) (N' := 56) (K' := 256) hx hb hown (hts _ (wg_t kw_164)) (hE.2.2.2.2.2.1) (hts _ (wg_t kw_104)) hP hD hS (by decide) (by decide) (by decide) (by decide) (by decide) (by decide) (by decide) (by decide) (by decide) (by decide) (by decide) dDA_init_50 (fun q4 H hP hD hS => ?_)
  refine W.widen (k := 65) (n := 15352) (by decide) (by decide) ?_
  refine va_putF (D := g.1) (ci := 6) (v := .ref q4) (ty := .array (.array .int)) (C := "LatticeKeys$Dsa") (T := T_DA) (N := 17) hx hb hts (wg_ft i_DA) ty_DA k_DA n_DA hown hK hP hD hS 0 rfl rfl 3 (by decide) (hts _ (wg_t kw_168)) (fun _ h9 => h9) rfl hnm rfl (by decide +kernel) rfl rfl (Nat.le_of_ble_eq_true rfl) dDA_init_54 (fun H locs hP hD hS => ?_)
  have hP : va_P g.1 vcl [(h0, .inr (6, [.ref q1, .ref q2, .ref q3, .ref q4, .null, .null, .null, .null, .null, .null, .null, .null, .null, .null, .null, .null, .null])), (q1, .inr (3, [.ref u1, .int (nI 136), .int (nI 6), .int (nI 0)])), (u1, .inl (g.2.1 2, 25, .inr (.inl ((fun _ => 0)))))] _ := hP
  have hD : va_D _ [(h0, .inr (6, [.ref q1, .ref q2, .ref q3, .ref q4, .null, .null, .null, .null, .null, .null, .null, .null, .null, .null, .null, .null, .null])), (q1, .inr (3, [.ref u1, .int (nI 136), .int (nI 6), .int (nI 0)])), (u1, .inl (g.2.1 2, 25, .inr (.inl ((fun _ => 0)))))] := hD
  refine lv_aload_n hx hb dDA_init_57 rfl (lv_at hl 0 rfl) ?_
  refine lv_bipush (v := nI 7) hx hb dDA_init_58 (by decide) ?_
  refine lv_sipush (v := nI 256) hx hb dDA_init_60 (by decide) ?_
  refine xm_mna (ty := .int) (N' := 7) (K' := 256) hx hb hown (hts _ (wg_t kw_164)) (hE.2.2.2.2.2.1) (hts _ (wg_t kw_104)) hP hD hS (by decide) (by decide) (by decide) (by decide) (by decide) (by decide) (by decide) (by decide) (by decide) (by decide) (by decide) dDA_init_63 (fun q5 H hP hD hS => ?_)
  refine W.widen (k := 73) (n := 17151) (by decide) (by decide) ?_
  refine va_putF (D := g.1) (ci := 6) (v := .ref q5) (ty := .array (.array .int)) (C := "LatticeKeys$Dsa") (T := T_DA) (N := 17) hx hb hts (wg_ft i_DA) ty_DA k_DA n_DA hown hK hP hD hS 0 rfl rfl 4 (by decide) (hts _ (wg_t kw_169)) (fun _ h9 => h9) rfl hnm rfl (by decide +kernel) rfl rfl (Nat.le_of_ble_eq_true rfl) dDA_init_67 (fun H locs hP hD hS => ?_)
  have hP : va_P g.1 vcl [(h0, .inr (6, [.ref q1, .ref q2, .ref q3, .ref q4, .ref q5, .null, .null, .null, .null, .null, .null, .null, .null, .null, .null, .null, .null])), (q1, .inr (3, [.ref u1, .int (nI 136), .int (nI 6), .int (nI 0)])), (u1, .inl (g.2.1 2, 25, .inr (.inl ((fun _ => 0)))))] _ := hP
  have hD : va_D _ [(h0, .inr (6, [.ref q1, .ref q2, .ref q3, .ref q4, .ref q5, .null, .null, .null, .null, .null, .null, .null, .null, .null, .null, .null, .null])), (q1, .inr (3, [.ref u1, .int (nI 136), .int (nI 6), .int (nI 0)])), (u1, .inl (g.2.1 2, 25, .inr (.inl ((fun _ => 0)))))] := hD
  refine lv_aload_n hx hb dDA_init_70 rfl (lv_at hl 0 rfl) ?_
  refine lv_bipush (v := nI 8) hx hb dDA_init_71 (by decide) ?_
  refine lv_sipush (v := nI 256) hx hb dDA_init_73 (by decide) ?_
  refine xm_mna (ty := .int) (N' := 8) (K' := 256) hx hb hown (hts _ (wg_t kw_164)) (hE.2.2.2.2.2.1) (hts _ (wg_t kw_104)) hP hD hS (by decide) (by decide) (by decide) (by decide) (by decide) (by decide) (by decide) (by decide) (by decide) (by decide) (by decide) dDA_init_76 (fun q6 H hP hD hS => ?_)
  refine W.widen (k := 82) (n := 19207) (by decide) (by decide) ?_
  refine va_putF (D := g.1) (ci := 6) (v := .ref q6) (ty := .array (.array .int)) (C := "LatticeKeys$Dsa") (T := T_DA) (N := 17) hx hb hts (wg_ft i_DA) ty_DA k_DA n_DA hown hK hP hD hS 0 rfl rfl 5 (by decide) (hts _ (wg_t kw_170)) (fun _ h9 => h9) rfl hnm rfl (by decide +kernel) rfl rfl (Nat.le_of_ble_eq_true rfl) dDA_init_80 (fun H locs hP hD hS => ?_)
  have hP : va_P g.1 vcl [(h0, .inr (6, [.ref q1, .ref q2, .ref q3, .ref q4, .ref q5, .ref q6, .null, .null, .null, .null, .null, .null, .null, .null, .null, .null, .null])), (q1, .inr (3, [.ref u1, .int (nI 136), .int (nI 6), .int (nI 0)])), (u1, .inl (g.2.1 2, 25, .inr (.inl ((fun _ => 0)))))] _ := hP
  have hD : va_D _ [(h0, .inr (6, [.ref q1, .ref q2, .ref q3, .ref q4, .ref q5, .ref q6, .null, .null, .null, .null, .null, .null, .null, .null, .null, .null, .null])), (q1, .inr (3, [.ref u1, .int (nI 136), .int (nI 6), .int (nI 0)])), (u1, .inl (g.2.1 2, 25, .inr (.inl ((fun _ => 0)))))] := hD
  refine lv_aload_n hx hb dDA_init_83 rfl (lv_at hl 0 rfl) ?_
  refine lv_bipush (v := nI 8) hx hb dDA_init_84 (by decide) ?_
  refine lv_sipush (v := nI 256) hx hb dDA_init_86 (by decide) ?_
  refine xm_mna (ty := .int) (N' := 8) (K' := 256) hx hb hown (hts _ (wg_t kw_164)) (hE.2.2.2.2.2.1) (hts _ (wg_t kw_104)) hP hD hS (by decide) (by decide) (by decide) (by decide) (by decide) (by decide) (by decide) (by decide) (by decide) (by decide) (by decide) dDA_init_89 (fun q7 H hP hD hS => ?_)
  refine W.widen (k := 91) (n := 21263) (by decide) (by decide) ?_
  refine va_putF (D := g.1) (ci := 6) (v := .ref q7) (ty := .array (.array .int)) (C := "LatticeKeys$Dsa") (T := T_DA) (N := 17) hx hb hts (wg_ft i_DA) ty_DA k_DA n_DA hown hK hP hD hS 0 rfl rfl 6 (by decide) (hts _ (wg_t kw_171)) (fun _ h9 => h9) rfl hnm rfl (by decide +kernel) rfl rfl (Nat.le_of_ble_eq_true rfl) dDA_init_93 (fun H locs hP hD hS => ?_)
  have hP : va_P g.1 vcl [(h0, .inr (6, [.ref q1, .ref q2, .ref q3, .ref q4, .ref q5, .ref q6, .ref q7, .null, .null, .null, .null, .null, .null, .null, .null, .null, .null])), (q1, .inr (3, [.ref u1, .int (nI 136), .int (nI 6), .int (nI 0)])), (u1, .inl (g.2.1 2, 25, .inr (.inl ((fun _ => 0)))))] _ := hP
  have hD : va_D _ [(h0, .inr (6, [.ref q1, .ref q2, .ref q3, .ref q4, .ref q5, .ref q6, .ref q7, .null, .null, .null, .null, .null, .null, .null, .null, .null, .null])), (q1, .inr (3, [.ref u1, .int (nI 136), .int (nI 6), .int (nI 0)])), (u1, .inl (g.2.1 2, 25, .inr (.inl ((fun _ => 0)))))] := hD
  refine lv_aload_n hx hb dDA_init_96 rfl (lv_at hl 0 rfl) ?_
  refine lv_bipush (v := nI 7) hx hb dDA_init_97 (by decide) ?_
  refine lv_sipush (v := nI 256) hx hb dDA_init_99 (by decide) ?_
  refine xm_mna (ty := .int) (N' := 7) (K' := 256) hx hb hown (hts _ (wg_t kw_164)) (hE.2.2.2.2.2.1) (hts _ (wg_t kw_104)) hP hD hS (by decide) (by decide) (by decide) (by decide) (by decide) (by decide) (by decide) (by decide) (by decide) (by decide) (by decide) dDA_init_102 (fun q8 H hP hD hS => ?_)
  refine W.widen (k := 99) (n := 23062) (by decide) (by decide) ?_
  refine va_putF (D := g.1) (ci := 6) (v := .ref q8) (ty := .array (.array .int)) (C := "LatticeKeys$Dsa") (T := T_DA) (N := 17) hx hb hts (wg_ft i_DA) ty_DA k_DA n_DA hown hK hP hD hS 0 rfl rfl 7 (by decide) (hts _ (wg_t kw_172)) (fun _ h9 => h9) rfl hnm rfl (by decide +kernel) rfl rfl (Nat.le_of_ble_eq_true rfl) dDA_init_106 (fun H locs hP hD hS => ?_)
  have hP : va_P g.1 vcl [(h0, .inr (6, [.ref q1, .ref q2, .ref q3, .ref q4, .ref q5, .ref q6, .ref q7, .ref q8, .null, .null, .null, .null, .null, .null, .null, .null, .null])), (q1, .inr (3, [.ref u1, .int (nI 136), .int (nI 6), .int (nI 0)])), (u1, .inl (g.2.1 2, 25, .inr (.inl ((fun _ => 0)))))] _ := hP
  have hD : va_D _ [(h0, .inr (6, [.ref q1, .ref q2, .ref q3, .ref q4, .ref q5, .ref q6, .ref q7, .ref q8, .null, .null, .null, .null, .null, .null, .null, .null, .null])), (q1, .inr (3, [.ref u1, .int (nI 136), .int (nI 6), .int (nI 0)])), (u1, .inl (g.2.1 2, 25, .inr (.inl ((fun _ => 0)))))] := hD
  refine lv_aload_n hx hb dDA_init_109 rfl (lv_at hl 0 rfl) ?_
  refine lv_bipush (v := nI 8) hx hb dDA_init_110 (by decide) ?_
  refine lv_sipush (v := nI 256) hx hb dDA_init_112 (by decide) ?_
  refine xm_mna (ty := .int) (N' := 8) (K' := 256) hx hb hown (hts _ (wg_t kw_164)) (hE.2.2.2.2.2.1) (hts _ (wg_t kw_104)) hP hD hS (by decide) (by decide) (by decide) (by decide) (by decide) (by decide) (by decide) (by decide) (by decide) (by decide) (by decide) dDA_init_115 (fun q9 H hP hD hS => ?_)
  refine W.widen (k := 108) (n := 25118) (by decide) (by decide) ?_
  refine va_putF (D := g.1) (ci := 6) (v := .ref q9) (ty := .array (.array .int)) (C := "LatticeKeys$Dsa") (T := T_DA) (N := 17) hx hb hts (wg_ft i_DA) ty_DA k_DA n_DA hown hK hP hD hS 0 rfl rfl 8 (by decide) (hts _ (wg_t kw_173)) (fun _ h9 => h9) rfl hnm rfl (by decide +kernel) rfl rfl (Nat.le_of_ble_eq_true rfl) dDA_init_119 (fun H locs hP hD hS => ?_)
  have hP : va_P g.1 vcl [(h0, .inr (6, [.ref q1, .ref q2, .ref q3, .ref q4, .ref q5, .ref q6, .ref q7, .ref q8, .ref q9, .null, .null, .null, .null, .null, .null, .null, .null])), (q1, .inr (3, [.ref u1, .int (nI 136), .int (nI 6), .int (nI 0)])), (u1, .inl (g.2.1 2, 25, .inr (.inl ((fun _ => 0)))))] _ := hP
  have hD : va_D _ [(h0, .inr (6, [.ref q1, .ref q2, .ref q3, .ref q4, .ref q5, .ref q6, .ref q7, .ref q8, .ref q9, .null, .null, .null, .null, .null, .null, .null, .null])), (q1, .inr (3, [.ref u1, .int (nI 136), .int (nI 6), .int (nI 0)])), (u1, .inl (g.2.1 2, 25, .inr (.inl ((fun _ => 0)))))] := hD
  refine lv_aload_n hx hb dDA_init_122 rfl (lv_at hl 0 rfl) ?_
  refine lv_sipush (v := nI 256) hx hb dDA_init_123 (by decide) ?_
  refine ma_newa0 (atype := .int) hx hb (hts _ (wg_t kw_104)) rfl hK hP hD hS hA (N' := 256) (a0 := (256, .inl (fun _ => 0))) (fun _ => rfl) (by decide) (by decide) (by decide) (by decide) (by decide) dDA_init_126 (fun q10 H hP hD hS => ?_)
  refine W.widen (k := 109) (n := 25374) (by decide) (by decide) ?_
  refine va_putF (D := g.1) (ci := 6) (v := .ref q10) (ty := .array .int) (C := "LatticeKeys$Dsa") (T := T_DA) (N := 17) hx hb hts (wg_ft i_DA) ty_DA k_DA n_DA hown hK hP hD hS 0 rfl rfl 9 (by decide) (hts _ (wg_t kw_174)) (fun _ h9 => h9) rfl hnm rfl (by decide +kernel) rfl rfl (Nat.le_of_ble_eq_true rfl) dDA_init_128 (fun H locs hP hD hS => ?_)
  have hP : va_P g.1 vcl [(h0, .inr (6, [.ref q1, .ref q2, .ref q3, .ref q4, .ref q5, .ref q6, .ref q7, .ref q8, .ref q9, .ref q10, .null, .null, .null, .null, .null, .null, .null])), (q1, .inr (3, [.ref u1, .int (nI 136), .int (nI 6), .int (nI 0)])), (u1, .inl (g.2.1 2, 25, .inr (.inl ((fun _ => 0)))))] _ := hP
  have hD : va_D _ [(h0, .inr (6, [.ref q1, .ref q2, .ref q3, .ref q4, .ref q5, .ref q6, .ref q7, .ref q8, .ref q9, .ref q10, .null, .null, .null, .null, .null, .null, .null])), (q1, .inr (3, [.ref u1, .int (nI 136), .int (nI 6), .int (nI 0)])), (u1, .inl (g.2.1 2, 25, .inr (.inl ((fun _ => 0)))))] := hD
  refine lv_aload_n hx hb dDA_init_131 rfl (lv_at hl 0 rfl) ?_
  refine lv_sipush (v := nI 256) hx hb dDA_init_132 (by decide) ?_
  refine ma_newa0 (atype := .int) hx hb (hts _ (wg_t kw_104)) rfl hK hP hD hS hA (N' := 256) (a0 := (256, .inl (fun _ => 0))) (fun _ => rfl) (by decide) (by decide) (by decide) (by decide) (by decide) dDA_init_135 (fun q11 H hP hD hS => ?_)
  refine W.widen (k := 110) (n := 25630) (by decide) (by decide) ?_
  refine va_putF (D := g.1) (ci := 6) (v := .ref q11) (ty := .array .int) (C := "LatticeKeys$Dsa") (T := T_DA) (N := 17) hx hb hts (wg_ft i_DA) ty_DA k_DA n_DA hown hK hP hD hS 0 rfl rfl 10 (by decide) (hts _ (wg_t kw_175)) (fun _ h9 => h9) rfl hnm rfl (by decide +kernel) rfl rfl (Nat.le_of_ble_eq_true rfl) dDA_init_137 (fun H locs hP hD hS => ?_)
  have hP : va_P g.1 vcl [(h0, .inr (6, [.ref q1, .ref q2, .ref q3, .ref q4, .ref q5, .ref q6, .ref q7, .ref q8, .ref q9, .ref q10, .ref q11, .null, .null, .null, .null, .null, .null])), (q1, .inr (3, [.ref u1, .int (nI 136), .int (nI 6), .int (nI 0)])), (u1, .inl (g.2.1 2, 25, .inr (.inl ((fun _ => 0)))))] _ := hP
  have hD : va_D _ [(h0, .inr (6, [.ref q1, .ref q2, .ref q3, .ref q4, .ref q5, .ref q6, .ref q7, .ref q8, .ref q9, .ref q10, .ref q11, .null, .null, .null, .null, .null, .null])), (q1, .inr (3, [.ref u1, .int (nI 136), .int (nI 6), .int (nI 0)])), (u1, .inl (g.2.1 2, 25, .inr (.inl ((fun _ => 0)))))] := hD
  refine lv_aload_n hx hb dDA_init_140 rfl (lv_at hl 0 rfl) ?_
  refine lv_sipush (v := nI 128) hx hb dDA_init_141 (by decide) ?_
  refine ma_newa0 (atype := .byte) hx hb (hts _ (wg_t kw_72)) rfl hK hP hD hS hA (N' := 128) (a0 := (128, .inl (fun _ => 0))) (fun _ => rfl) (by decide) (by decide) (by decide) (by decide) (by decide) dDA_init_144 (fun q12 H hP hD hS => ?_)
  refine W.widen (k := 111) (n := 25758) (by decide) (by decide) ?_
  refine va_putF (D := g.1) (ci := 6) (v := .ref q12) (ty := .array .byte) (C := "LatticeKeys$Dsa") (T := T_DA) (N := 17) hx hb hts (wg_ft i_DA) ty_DA k_DA n_DA hown hK hP hD hS 0 rfl rfl 11 (by decide) (hts _ (wg_t kw_176)) (fun _ h9 => h9) rfl hnm rfl (by decide +kernel) rfl rfl (Nat.le_of_ble_eq_true rfl) dDA_init_146 (fun H locs hP hD hS => ?_)
  have hP : va_P g.1 vcl [(h0, .inr (6, [.ref q1, .ref q2, .ref q3, .ref q4, .ref q5, .ref q6, .ref q7, .ref q8, .ref q9, .ref q10, .ref q11, .ref q12, .null, .null, .null, .null, .null])), (q1, .inr (3, [.ref u1, .int (nI 136), .int (nI 6), .int (nI 0)])), (u1, .inl (g.2.1 2, 25, .inr (.inl ((fun _ => 0)))))] _ := hP
  have hD : va_D _ [(h0, .inr (6, [.ref q1, .ref q2, .ref q3, .ref q4, .ref q5, .ref q6, .ref q7, .ref q8, .ref q9, .ref q10, .ref q11, .ref q12, .null, .null, .null, .null, .null])), (q1, .inr (3, [.ref u1, .int (nI 136), .int (nI 6), .int (nI 0)])), (u1, .inl (g.2.1 2, 25, .inr (.inl ((fun _ => 0)))))] := hD
  refine lv_aload_n hx hb dDA_init_149 rfl (lv_at hl 0 rfl) ?_
  refine lv_bipush (v := nI 64) hx hb dDA_init_150 (by decide) ?_
  refine ma_newa0 (atype := .byte) hx hb (hts _ (wg_t kw_72)) rfl hK hP hD hS hA (N' := 64) (a0 := (64, .inl (fun _ => 0))) (fun _ => rfl) (by decide) (by decide) (by decide) (by decide) (by decide) dDA_init_152 (fun q13 H hP hD hS => ?_)
  refine W.widen (k := 112) (n := 25822) (by decide) (by decide) ?_
  refine va_putF (D := g.1) (ci := 6) (v := .ref q13) (ty := .array .byte) (C := "LatticeKeys$Dsa") (T := T_DA) (N := 17) hx hb hts (wg_ft i_DA) ty_DA k_DA n_DA hown hK hP hD hS 0 rfl rfl 12 (by decide) (hts _ (wg_t kw_177)) (fun _ h9 => h9) rfl hnm rfl (by decide +kernel) rfl rfl (Nat.le_of_ble_eq_true rfl) dDA_init_154 (fun H locs hP hD hS => ?_)
  have hP : va_P g.1 vcl [(h0, .inr (6, [.ref q1, .ref q2, .ref q3, .ref q4, .ref q5, .ref q6, .ref q7, .ref q8, .ref q9, .ref q10, .ref q11, .ref q12, .ref q13, .null, .null, .null, .null])), (q1, .inr (3, [.ref u1, .int (nI 136), .int (nI 6), .int (nI 0)])), (u1, .inl (g.2.1 2, 25, .inr (.inl ((fun _ => 0)))))] _ := hP
  have hD : va_D _ [(h0, .inr (6, [.ref q1, .ref q2, .ref q3, .ref q4, .ref q5, .ref q6, .ref q7, .ref q8, .ref q9, .ref q10, .ref q11, .ref q12, .ref q13, .null, .null, .null, .null])), (q1, .inr (3, [.ref u1, .int (nI 136), .int (nI 6), .int (nI 0)])), (u1, .inl (g.2.1 2, 25, .inr (.inl ((fun _ => 0)))))] := hD
  refine lv_aload_n hx hb dDA_init_157 rfl (lv_at hl 0 rfl) ?_
  refine lv_bipush (v := nI 64) hx hb dDA_init_158 (by decide) ?_
  refine ma_newa0 (atype := .byte) hx hb (hts _ (wg_t kw_72)) rfl hK hP hD hS hA (N' := 64) (a0 := (64, .inl (fun _ => 0))) (fun _ => rfl) (by decide) (by decide) (by decide) (by decide) (by decide) dDA_init_160 (fun q14 H hP hD hS => ?_)
  refine W.widen (k := 113) (n := 25886) (by decide) (by decide) ?_
  refine va_putF (D := g.1) (ci := 6) (v := .ref q14) (ty := .array .byte) (C := "LatticeKeys$Dsa") (T := T_DA) (N := 17) hx hb hts (wg_ft i_DA) ty_DA k_DA n_DA hown hK hP hD hS 0 rfl rfl 13 (by decide) (hts _ (wg_t kw_178)) (fun _ h9 => h9) rfl hnm rfl (by decide +kernel) rfl rfl (Nat.le_of_ble_eq_true rfl) dDA_init_162 (fun H locs hP hD hS => ?_)
  have hP : va_P g.1 vcl [(h0, .inr (6, [.ref q1, .ref q2, .ref q3, .ref q4, .ref q5, .ref q6, .ref q7, .ref q8, .ref q9, .ref q10, .ref q11, .ref q12, .ref q13, .ref q14, .null, .null, .null])), (q1, .inr (3, [.ref u1, .int (nI 136), .int (nI 6), .int (nI 0)])), (u1, .inl (g.2.1 2, 25, .inr (.inl ((fun _ => 0)))))] _ := hP
  have hD : va_D _ [(h0, .inr (6, [.ref q1, .ref q2, .ref q3, .ref q4, .ref q5, .ref q6, .ref q7, .ref q8, .ref q9, .ref q10, .ref q11, .ref q12, .ref q13, .ref q14, .null, .null, .null])), (q1, .inr (3, [.ref u1, .int (nI 136), .int (nI 6), .int (nI 0)])), (u1, .inl (g.2.1 2, 25, .inr (.inl ((fun _ => 0)))))] := hD
  refine lv_aload_n hx hb dDA_init_165 rfl (lv_at hl 0 rfl) ?_
  refine lv_bipush (v := nI 64) hx hb dDA_init_166 (by decide) ?_
  refine ma_newa0 (atype := .byte) hx hb (hts _ (wg_t kw_72)) rfl hK hP hD hS hA (N' := 64) (a0 := (64, .inl (fun _ => 0))) (fun _ => rfl) (by decide) (by decide) (by decide) (by decide) (by decide) dDA_init_168 (fun q15 H hP hD hS => ?_)
  refine W.widen (k := 114) (n := 25950) (by decide) (by decide) ?_
  refine va_putF (D := g.1) (ci := 6) (v := .ref q15) (ty := .array .byte) (C := "LatticeKeys$Dsa") (T := T_DA) (N := 17) hx hb hts (wg_ft i_DA) ty_DA k_DA n_DA hown hK hP hD hS 0 rfl rfl 14 (by decide) (hts _ (wg_t kw_179)) (fun _ h9 => h9) rfl hnm rfl (by decide +kernel) rfl rfl (Nat.le_of_ble_eq_true rfl) dDA_init_170 (fun H locs hP hD hS => ?_)
  have hP : va_P g.1 vcl [(h0, .inr (6, [.ref q1, .ref q2, .ref q3, .ref q4, .ref q5, .ref q6, .ref q7, .ref q8, .ref q9, .ref q10, .ref q11, .ref q12, .ref q13, .ref q14, .ref q15, .null, .null])), (q1, .inr (3, [.ref u1, .int (nI 136), .int (nI 6), .int (nI 0)])), (u1, .inl (g.2.1 2, 25, .inr (.inl ((fun _ => 0)))))] _ := hP
  have hD : va_D _ [(h0, .inr (6, [.ref q1, .ref q2, .ref q3, .ref q4, .ref q5, .ref q6, .ref q7, .ref q8, .ref q9, .ref q10, .ref q11, .ref q12, .ref q13, .ref q14, .ref q15, .null, .null])), (q1, .inr (3, [.ref u1, .int (nI 136), .int (nI 6), .int (nI 0)])), (u1, .inl (g.2.1 2, 25, .inr (.inl ((fun _ => 0)))))] := hD
  refine lv_aload_n hx hb dDA_init_173 rfl (lv_at hl 0 rfl) ?_
  refine lv_bipush (v := nI 84) hx hb dDA_init_174 (by decide) ?_
  refine ma_newa0 (atype := .byte) hx hb (hts _ (wg_t kw_72)) rfl hK hP hD hS hA (N' := 84) (a0 := (84, .inl (fun _ => 0))) (fun _ => rfl) (by decide) (by decide) (by decide) (by decide) (by decide) dDA_init_176 (fun q16 H hP hD hS => ?_)
  refine W.widen (k := 115) (n := 26034) (by decide) (by decide) ?_
  refine va_putF (D := g.1) (ci := 6) (v := .ref q16) (ty := .array .byte) (C := "LatticeKeys$Dsa") (T := T_DA) (N := 17) hx hb hts (wg_ft i_DA) ty_DA k_DA n_DA hown hK hP hD hS 0 rfl rfl 15 (by decide) (hts _ (wg_t kw_180)) (fun _ h9 => h9) rfl hnm rfl (by decide +kernel) rfl rfl (Nat.le_of_ble_eq_true rfl) dDA_init_178 (fun H locs hP hD hS => ?_)
  have hP : va_P g.1 vcl [(h0, .inr (6, [.ref q1, .ref q2, .ref q3, .ref q4, .ref q5, .ref q6, .ref q7, .ref q8, .ref q9, .ref q10, .ref q11, .ref q12, .ref q13, .ref q14, .ref q15, .ref q16, .null])), (q1, .inr (3, [.ref u1, .int (nI 136), .int (nI 6), .int (nI 0)])), (u1, .inl (g.2.1 2, 25, .inr (.inl ((fun _ => 0)))))] _ := hP
  have hD : va_D _ [(h0, .inr (6, [.ref q1, .ref q2, .ref q3, .ref q4, .ref q5, .ref q6, .ref q7, .ref q8, .ref q9, .ref q10, .ref q11, .ref q12, .ref q13, .ref q14, .ref q15, .ref q16, .null])), (q1, .inr (3, [.ref u1, .int (nI 136), .int (nI 6), .int (nI 0)])), (u1, .inl (g.2.1 2, 25, .inr (.inl ((fun _ => 0)))))] := hD
  refine lv_aload_n hx hb dDA_init_181 rfl (lv_at hl 0 rfl) ?_
  refine lv_sipush (v := nI 192) hx hb dDA_init_182 (by decide) ?_
  refine ma_newa0 (atype := .byte) hx hb (hts _ (wg_t kw_72)) rfl hK hP hD hS hA (N' := 192) (a0 := (192, .inl (fun _ => 0))) (fun _ => rfl) (by decide) (by decide) (by decide) (by decide) (by decide) dDA_init_185 (fun q17 H hP hD hS => ?_)
  refine W.widen (k := 116) (n := 26226) (by decide) (by decide) ?_
  refine va_putF (D := g.1) (ci := 6) (v := .ref q17) (ty := .array .byte) (C := "LatticeKeys$Dsa") (T := T_DA) (N := 17) hx hb hts (wg_ft i_DA) ty_DA k_DA n_DA hown hK hP hD hS 0 rfl rfl 16 (by decide) (hts _ (wg_t kw_181)) (fun _ h9 => h9) rfl hnm rfl (by decide +kernel) rfl rfl (Nat.le_of_ble_eq_true rfl) dDA_init_187 (fun H locs hP hD hS => ?_)
  have hP : va_P g.1 vcl [(h0, .inr (6, [.ref q1, .ref q2, .ref q3, .ref q4, .ref q5, .ref q6, .ref q7, .ref q8, .ref q9, .ref q10, .ref q11, .ref q12, .ref q13, .ref q14, .ref q15, .ref q16, .ref q17])), (q1, .inr (3, [.ref u1, .int (nI 136), .int (nI 6), .int (nI 0)])), (u1, .inl (g.2.1 2, 25, .inr (.inl ((fun _ => 0)))))] _ := hP
  have hD : va_D _ [(h0, .inr (6, [.ref q1, .ref q2, .ref q3, .ref q4, .ref q5, .ref q6, .ref q7, .ref q8, .ref q9, .ref q10, .ref q11, .ref q12, .ref q13, .ref q14, .ref q15, .ref q16, .ref q17])), (q1, .inr (3, [.ref u1, .int (nI 136), .int (nI 6), .int (nI 0)])), (u1, .inl (g.2.1 2, 25, .inr (.inl ((fun _ => 0)))))] := hD
  exact mc_vret hx hb hr hlk hP hD hS () trivial [] rfl rfl (by omega) (by omega) dDA_init_190
