abbrev c_ME_init : ByteArray := prog_15_method_1_code
abbrev y_ME_init : MethodName := ⟨"LatticeKeysModel$Secrets", "<init>", "(LLatticeKeysModel$Sponge;)V"⟩
abbrev w_ME_init : List Cond := Cond.code y_ME_init c_ME_init 2 none :: WG
theorem dME_init_0 : decode c_ME_init 0 = .ok (.aload_n 0, 1) := by decide +kernel
theorem dME_init_1 : decode c_ME_init 1 = .ok (.invokespecial 1, 3) := by decide +kernel
theorem dME_init_4 : decode c_ME_init 4 = .ok (.aload_n 0, 1) := by decide +kernel
theorem dME_init_5 : decode c_ME_init 5 = .ok (.new 7, 3) := by decide +kernel
theorem dME_init_8 : decode c_ME_init 8 = .ok (.dup, 1) := by decide +kernel
theorem dME_init_9 : decode c_ME_init 9 = .ok (.sipush 3329, 3) := by decide +kernel
theorem dME_init_12 : decode c_ME_init 12 = .ok (.bipush 17, 2) := by decide +kernel
theorem dME_init_14 : decode c_ME_init 14 = .ok (.sipush 128, 3) := by decide +kernel
theorem dME_init_17 : decode c_ME_init 17 = .ok (.invokespecial 11, 3) := by decide +kernel
theorem dME_init_20 : decode c_ME_init 20 = .ok (.putfield 14, 3) := by decide +kernel
theorem dME_init_23 : decode c_ME_init 23 = .ok (.aload_n 0, 1) := by decide +kernel
theorem dME_init_24 : decode c_ME_init 24 = .ok (.bipush 16, 2) := by decide +kernel
theorem dME_init_26 : decode c_ME_init 26 = .ok (.sipush 256, 3) := by decide +kernel
theorem dME_init_29 : decode c_ME_init 29 = .ok (.multianewarray 18 2, 4) := by decide +kernel
theorem dME_init_33 : decode c_ME_init 33 = .ok (.putfield 20, 3) := by decide +kernel
theorem dME_init_36 : decode c_ME_init 36 = .ok (.aload_n 0, 1) := by decide +kernel
theorem dME_init_37 : decode c_ME_init 37 = .ok (.iconst 4, 1) := by decide +kernel
theorem dME_init_38 : decode c_ME_init 38 = .ok (.sipush 256, 3) := by decide +kernel
theorem dME_init_41 : decode c_ME_init 41 = .ok (.multianewarray 18 2, 4) := by decide +kernel
theorem dME_init_45 : decode c_ME_init 45 = .ok (.putfield 23, 3) := by decide +kernel
theorem dME_init_48 : decode c_ME_init 48 = .ok (.aload_n 0, 1) := by decide +kernel
theorem dME_init_49 : decode c_ME_init 49 = .ok (.iconst 4, 1) := by decide +kernel
theorem dME_init_50 : decode c_ME_init 50 = .ok (.sipush 256, 3) := by decide +kernel
theorem dME_init_53 : decode c_ME_init 53 = .ok (.multianewarray 18 2, 4) := by decide +kernel
theorem dME_init_57 : decode c_ME_init 57 = .ok (.putfield 26, 3) := by decide +kernel
theorem dME_init_60 : decode c_ME_init 60 = .ok (.aload_n 0, 1) := by decide +kernel
theorem dME_init_61 : decode c_ME_init 61 = .ok (.iconst 4, 1) := by decide +kernel
theorem dME_init_62 : decode c_ME_init 62 = .ok (.sipush 256, 3) := by decide +kernel
theorem dME_init_65 : decode c_ME_init 65 = .ok (.multianewarray 18 2, 4) := by decide +kernel
theorem dME_init_69 : decode c_ME_init 69 = .ok (.putfield 29, 3) := by decide +kernel
theorem dME_init_72 : decode c_ME_init 72 = .ok (.aload_n 0, 1) := by decide +kernel
theorem dME_init_73 : decode c_ME_init 73 = .ok (.sipush 256, 3) := by decide +kernel
theorem dME_init_76 : decode c_ME_init 76 = .ok (.newarray .int, 2) := by decide +kernel
theorem dME_init_78 : decode c_ME_init 78 = .ok (.putfield 32, 3) := by decide +kernel
theorem dME_init_81 : decode c_ME_init 81 = .ok (.aload_n 0, 1) := by decide +kernel
theorem dME_init_82 : decode c_ME_init 82 = .ok (.sipush 256, 3) := by decide +kernel
theorem dME_init_85 : decode c_ME_init 85 = .ok (.newarray .int, 2) := by decide +kernel
theorem dME_init_87 : decode c_ME_init 87 = .ok (.putfield 36, 3) := by decide +kernel
theorem dME_init_90 : decode c_ME_init 90 = .ok (.aload_n 0, 1) := by decide +kernel
theorem dME_init_91 : decode c_ME_init 91 = .ok (.sipush 256, 3) := by decide +kernel
theorem dME_init_94 : decode c_ME_init 94 = .ok (.newarray .int, 2) := by decide +kernel
theorem dME_init_96 : decode c_ME_init 96 = .ok (.putfield 39, 3) := by decide +kernel
theorem dME_init_99 : decode c_ME_init 99 = .ok (.aload_n 0, 1) := by decide +kernel
theorem dME_init_100 : decode c_ME_init 100 = .ok (.bipush 64, 2) := by decide +kernel
theorem dME_init_102 : decode c_ME_init 102 = .ok (.newarray .byte, 2) := by decide +kernel
theorem dME_init_104 : decode c_ME_init 104 = .ok (.putfield 42, 3) := by decide +kernel
theorem dME_init_107 : decode c_ME_init 107 = .ok (.aload_n 0, 1) := by decide +kernel
theorem dME_init_108 : decode c_ME_init 108 = .ok (.sipush 192, 3) := by decide +kernel
theorem dME_init_111 : decode c_ME_init 111 = .ok (.newarray .byte, 2) := by decide +kernel
theorem dME_init_113 : decode c_ME_init 113 = .ok (.putfield 46, 3) := by decide +kernel
theorem dME_init_116 : decode c_ME_init 116 = .ok (.aload_n 0, 1) := by decide +kernel
theorem dME_init_117 : decode c_ME_init 117 = .ok (.bipush 32, 2) := by decide +kernel
theorem dME_init_119 : decode c_ME_init 119 = .ok (.newarray .byte, 2) := by decide +kernel
theorem dME_init_121 : decode c_ME_init 121 = .ok (.putfield 49, 3) := by decide +kernel
theorem dME_init_124 : decode c_ME_init 124 = .ok (.aload_n 0, 1) := by decide +kernel
theorem dME_init_125 : decode c_ME_init 125 = .ok (.bipush 32, 2) := by decide +kernel
theorem dME_init_127 : decode c_ME_init 127 = .ok (.newarray .byte, 2) := by decide +kernel
theorem dME_init_129 : decode c_ME_init 129 = .ok (.putfield 52, 3) := by decide +kernel
theorem dME_init_132 : decode c_ME_init 132 = .ok (.aload_n 0, 1) := by decide +kernel
theorem dME_init_133 : decode c_ME_init 133 = .ok (.sipush 1568, 3) := by decide +kernel
theorem dME_init_136 : decode c_ME_init 136 = .ok (.newarray .byte, 2) := by decide +kernel
theorem dME_init_138 : decode c_ME_init 138 = .ok (.putfield 55, 3) := by decide +kernel
theorem dME_init_141 : decode c_ME_init 141 = .ok (.aload_n 0, 1) := by decide +kernel
theorem dME_init_142 : decode c_ME_init 142 = .ok (.aload_n 1, 1) := by decide +kernel
theorem dME_init_143 : decode c_ME_init 143 = .ok (.putfield 58, 3) := by decide +kernel
theorem dME_init_146 : decode c_ME_init 146 = .ok (.return_, 1) := by decide +kernel
set_option maxHeartbeats 400000 in
set_option maxRecDepth 100000 in
theorem m_ME_init (l : Launch) (g : Gd) (sz : Nat) (h0 sp : Nat)  : Met l y_ME_init w_ME_init ({ frames := 3, cells := 43, slots := 10241, locals := 80 } : Room) (va_Pc [.ref h0, .ref sp] (pr (en g) g.1 vcl sz [(h0, .inr (11, [.null, .null, .null, .null, .null, .null, .null, .null, .null, .null, .null, .null, .null, .null]))])) (va_Qv (fun (u : Unit) => True) (po g.1 vcl (va_A [(h0, .inr (11, [.null, .null, .null, .null, .null, .null, .null, .null, .null, .null, .null, .null, .null, .null]))] sz) (fun (u : Unit) => [])) (va_A [(h0, .inr (11, [.null, .null, .null, .null, .null, .null, .null, .null, .null, .null, .null, .null, .null, .null]))] sz)) 43 10241 (va_A [(h0, .inr (11, [.null, .null, .null, .null, .null, .null, .null, .null, .null, .null, .null, .null, .null, .null]))] sz) := by
  refine mc_entry (cc := c_ME_init) (maxL := 2) (ret := none) (by decide) rfl (Nat.le_of_ble_eq_true rfl) ?_
  intro p e s m args below meth c ls F hr hlk hnm hsz hP hD hE hA hl
  obtain ⟨hx, hb, hml, hown, hts⟩ := id F
  have hK := hE.1
  generalize va_A [(h0, .inr (11, [.null, .null, .null, .null, .null, .null, .null, .null, .null, .null, .null, .null, .null, .null]))] sz = A at hD hE hA ⊢
  have hS : va_S A s.heap s.heap [] := va_S.rf
  have hl : lv_has ls 2 [(0, .ref h0), (1, .ref sp)] := hl
  refine lv_aload_n hx hb dME_init_0 rfl (lv_at hl 0 rfl) ?_
  refine W.objInit hx hb hown (hts _ (wg_t kw_1355)) (hts _ (wg_t kw_41)) (hts _ (wg_t kobj)) rfl (by rw [hml]; exact hl.1) rfl dME_init_1 (Nat.le_of_ble_eq_true rfl) (Nat.le_of_ble_eq_true rfl) ?_
  refine W.eq (g2 := F0 m 4 ls []) rfl ?_
  refine lv_aload_n hx hb dME_init_4 rfl (lv_at hl 0 rfl) ?_
  refine va_new (ci := 10) (fs := [.int 0, .int 0, .null, .null, .long 0]) (C := "LatticeKeysModel$Ring") (T := T_MR) (N := 5) hx hb hts (wg_ft i_MR) ty_MR k_MR hown (hts _ (wg_t kw_1356)) (hts _ (wg_t kw_1357)) (hts _ (wg_t kw_12)) hK hP hD hS hA rfl z_MR (by decide) (by decide) dME_init_5 (fun q1 H hP hD hS => ?_)
  have hP : va_P g.1 vcl [(h0, .inr (11, [.null, .null, .null, .null, .null, .null, .null, .null, .null, .null, .null, .null, .null, .null])), (q1, .inr (10, [.int 0, .int 0, .null, .null, .long 0]))] _ := hP
  have hD : va_D _ [(h0, .inr (11, [.null, .null, .null, .null, .null, .null, .null, .null, .null, .null, .null, .null, .null, .null])), (q1, .inr (10, [.int 0, .int 0, .null, .null, .long 0]))] := hD
  refine W.widen (k := 1) (n := 5) (by decide) (by decide) ?_
  refine lv_dup hx hb dME_init_8 rfl ?_
  refine lv_sipush (v := nI 3329) hx hb dME_init_9 (by decide) ?_
  refine lv_bipush (v := nI 17) hx hb dME_init_12 (by decide) ?_
  refine lv_sipush (v := nI 128) hx hb dME_init_14 (by decide) ?_
  refine mc_v (wc := [(q1, .inr (10, [.int 0, .int 0, .null, .null, .long 0]))]) (wr := [(h0, .inr (11, [.null, .null, .null, .null, .null, .null, .null, .null, .null, .null, .null, .null, .null, .null]))]) hP hD hS hA [1] [0] rfl rfl rfl (by decide) (va_runI (As := [.int (nI 3329), .int (nI 17), .int (nI 128)]) (rest := [.ref q1, .ref h0]) F (m_MR_init_128 l g _ q1) (cwI 3 hts (wg_in kw_1360) rfl rfl rfl (hts _ (wg_t kw_12)) (hts _ (wg_t kw_1358)) (hts _ (wg_t kw_1359)) rfl (by decide +kernel) ⟨by decide, by decide⟩) (pr_S (en_ok g) hP hD hS hA hE [1] rfl rfl) rfl rfl hl.1 rfl (lv_room (Nat.le_of_ble_eq_true rfl)) dME_init_17 ⟨(by decide), (by decide)⟩) (fun u1 H locs hu1 hP hD hS => ?_)
  have hP : va_P g.1 vcl [(h0, .inr (11, [.null, .null, .null, .null, .null, .null, .null, .null, .null, .null, .null, .null, .null, .null]))] _ := hP
  have hD : va_D _ [(h0, .inr (11, [.null, .null, .null, .null, .null, .null, .null, .null, .null, .null, .null, .null, .null, .null]))] := hD
  refine W.widen (k := 3) (n := 389) (by decide) (by decide) ?_
  refine va_putF (D := g.1) (ci := 11) (v := .ref q1) (ty := .object "LatticeKeysModel$Ring") (C := "LatticeKeysModel$Secrets") (T := T_ME) (N := 14) hx hb hts (wg_ft i_ME) ty_ME k_ME n_ME hown hK hP hD hS 0 rfl rfl 1 (by decide) (hts _ (wg_t kw_1380)) (fun _ h9 => h9) rfl hnm rfl (by decide +kernel) rfl rfl (Nat.le_of_ble_eq_true rfl) dME_init_20 (fun H locs hP hD hS => ?_)
  have hP : va_P g.1 vcl [(h0, .inr (11, [.null, .ref q1, .null, .null, .null, .null, .null, .null, .null, .null, .null, .null, .null, .null]))] _ := hP
  have hD : va_D _ [(h0, .inr (11, [.null, .ref q1, .null, .null, .null, .null, .null, .null, .null, .null, .null, .null, .null, .null]))] := hD
  refine lv_aload_n hx hb dME_init_23 rfl (lv_at hl 0 rfl) ?_
  refine lv_bipush (v := nI 16) hx hb dME_init_24 (by decide) ?_
  refine lv_sipush (v := nI 256) hx hb dME_init_26 (by decide) ?_
  refine xm_mna (ty := .int) (N' := 16) (K' := 256) hx hb hown (hts _ (wg_t kw_1378)) (hE.2.2.2.2.2.1) (hts _ (wg_t kw_104)) hP hD hS (by decide) (by decide) (by decide) (by decide) (by decide) (by decide) (by decide) (by decide) (by decide) (by decide) (by decide) dME_init_29 (fun q2 H hP hD hS => ?_)
  refine W.widen (k := 20) (n := 4501) (by decide) (by decide) ?_
  refine va_putF (D := g.1) (ci := 11) (v := .ref q2) (ty := .array (.array .int)) (C := "LatticeKeysModel$Secrets") (T := T_ME) (N := 14) hx hb hts (wg_ft i_ME) ty_ME k_ME n_ME hown hK hP hD hS 0 rfl rfl 2 (by decide) (hts _ (wg_t kw_1381)) (fun _ h9 => h9) rfl hnm rfl (by decide +kernel) rfl rfl (Nat.le_of_ble_eq_true rfl) dME_init_33 (fun H locs hP hD hS => ?_)
  have hP : va_P g.1 vcl [(h0, .inr (11, [.null, .ref q1, .ref q2, .null, .null, .null, .null, .null, .null, .null, .null, .null, .null, .null]))] _ := hP
  have hD : va_D _ [(h0, .inr (11, [.null, .ref q1, .ref q2, .null, .null, .null, .null, .null, .null, .null, .null, .null, .null, .null]))] := hD
  refine lv_aload_n hx hb dME_init_36 rfl (lv_at hl 0 rfl) ?_
  refine lv_iconst (v := nI 4) hx hb dME_init_37 (by decide) ?_
  refine lv_sipush (v := nI 256) hx hb dME_init_38 (by decide) ?_
  refine xm_mna (ty := .int) (N' := 4) (K' := 256) hx hb hown (hts _ (wg_t kw_1378)) (hE.2.2.2.2.2.1) (hts _ (wg_t kw_104)) hP hD hS (by decide) (by decide) (by decide) (by decide) (by decide) (by decide) (by decide) (by decide) (by decide) (by decide) (by decide) dME_init_41 (fun q3 H hP hD hS => ?_)
  refine W.widen (k := 25) (n := 5529) (by decide) (by decide) ?_
  refine va_putF (D := g.1) (ci := 11) (v := .ref q3) (ty := .array (.array .int)) (C := "LatticeKeysModel$Secrets") (T := T_ME) (N := 14) hx hb hts (wg_ft i_ME) ty_ME k_ME n_ME hown hK hP hD hS 0 rfl rfl 3 (by decide) (hts _ (wg_t kw_1382)) (fun _ h9 => h9) rfl hnm rfl (by decide +kernel) rfl rfl (Nat.le_of_ble_eq_true rfl) dME_init_45 (fun H locs hP hD hS => ?_)
  have hP : va_P g.1 vcl [(h0, .inr (11, [.null, .ref q1, .ref q2, .ref q3, .null, .null, .null, .null, .null, .null, .null, .null, .null, .null]))] _ := hP
  have hD : va_D _ [(h0, .inr (11, [.null, .ref q1, .ref q2, .ref q3, .null, .null, .null, .null, .null, .null, .null, .null, .null, .null]))] := hD
  refine lv_aload_n hx hb dME_init_48 rfl (lv_at hl 0 rfl) ?_
  refine lv_iconst (v := nI 4) hx hb dME_init_49 (by decide) ?_
  refine lv_sipush (v := nI 256) hx hb dME_init_50 (by decide) ?_
  refine xm_mna (ty := .int) (N' := 4) (K' := 256) hx hb hown (hts _ (wg_t kw_1378)) (hE.2.2.2.2.2.1) (hts _ (wg_t kw_104)) hP hD hS (by decide) (by decide) (by decide) (by decide) (by decide) (by decide) (by decide) (by decide) (by decide) (by decide) (by decide) dME_init_53 (fun q4 H hP hD hS => ?_)
  refine W.widen (k := 30) (n := 6557) (by decide) (by decide) ?_
  refine va_putF (D := g.1) (ci := 11) (v := .ref q4) (ty := .array (.array .int)) (C := "LatticeKeysModel$Secrets") (T := T_ME) (N := 14) hx hb hts (wg_ft i_ME) ty_ME k_ME n_ME hown hK hP hD hS 0 rfl rfl 4 (by decide) (hts _ (wg_t kw_1383)) (fun _ h9 => h9) rfl hnm rfl (by decide +kernel) rfl rfl (Nat.le_of_ble_eq_true rfl) dME_init_57 (fun H locs hP hD hS => ?_)
  have hP : va_P g.1 vcl [(h0, .inr (11, [.null, .ref q1, .ref q2, .ref q3, .ref q4, .null, .null, .null, .null, .null, .null, .null, .null, .null]))] _ := hP
  have hD : va_D _ [(h0, .inr (11, [.null, .ref q1, .ref q2, .ref q3, .ref q4, .null, .null, .null, .null, .null, .null, .null, .null, .null]))] := hD
  refine lv_aload_n hx hb dME_init_60 rfl (lv_at hl 0 rfl) ?_
  refine lv_iconst (v := nI 4) hx hb dME_init_61 (by decide) ?_
  refine lv_sipush (v := nI 256) hx hb dME_init_62 (by decide) ?_
  refine xm_mna (ty := .int) (N' := 4) (K' := 256) hx hb hown (hts _ (wg_t kw_1378)) (hE.2.2.2.2.2.1) (hts _ (wg_t kw_104)) hP hD hS (by decide) (by decide) (by decide) (by decide) (by decide) (by decide) (by decide) (by decide) (by decide) (by decide) (by decide) dME_init_65 (fun q5 H hP hD hS => ?_)
  refine W.widen (k := 35) (n := 7585) (by decide) (by decide) ?_
  refine va_putF (D := g.1) (ci := 11) (v := .ref q5) (ty := .array (.array .int)) (C := "LatticeKeysModel$Secrets") (T := T_ME) (N := 14) hx hb hts (wg_ft i_ME) ty_ME k_ME n_ME hown hK hP hD hS 0 rfl rfl 5 (by decide) (hts _ (wg_t kw_1384)) (fun _ h9 => h9) rfl hnm rfl (by decide +kernel) rfl rfl (Nat.le_of_ble_eq_true rfl) dME_init_69 (fun H locs hP hD hS => ?_)
  have hP : va_P g.1 vcl [(h0, .inr (11, [.null, .ref q1, .ref q2, .ref q3, .ref q4, .ref q5, .null, .null, .null, .null, .null, .null, .null, .null]))] _ := hP
  have hD : va_D _ [(h0, .inr (11, [.null, .ref q1, .ref q2, .ref q3, .ref q4, .ref q5, .null, .null, .null, .null, .null, .null, .null, .null]))] := hD
  refine lv_aload_n hx hb dME_init_72 rfl (lv_at hl 0 rfl) ?_
  refine lv_sipush (v := nI 256) hx hb dME_init_73 (by decide) ?_
  refine ma_newa0 (atype := .int) hx hb (hts _ (wg_t kw_104)) rfl hK hP hD hS hA (N' := 256) (a0 := (256, .inl (fun _ => 0))) (fun _ => rfl) (by decide) (by decide) (by decide) (by decide) (by decide) dME_init_76 (fun q6 H hP hD hS => ?_)
  refine W.widen (k := 36) (n := 7841) (by decide) (by decide) ?_
  refine va_putF (D := g.1) (ci := 11) (v := .ref q6) (ty := .array .int) (C := "LatticeKeysModel$Secrets") (T := T_ME) (N := 14) hx hb hts (wg_ft i_ME) ty_ME k_ME n_ME hown hK hP hD hS 0 rfl rfl 6 (by decide) (hts _ (wg_t kw_1385)) (fun _ h9 => h9) rfl hnm rfl (by decide +kernel) rfl rfl (Nat.le_of_ble_eq_true rfl) dME_init_78 (fun H locs hP hD hS => ?_)
  have hP : va_P g.1 vcl [(h0, .inr (11, [.null, .ref q1, .ref q2, .ref q3, .ref q4, .ref q5, .ref q6, .null, .null, .null, .null, .null, .null, .null]))] _ := hP
  have hD : va_D _ [(h0, .inr (11, [.null, .ref q1, .ref q2, .ref q3, .ref q4, .ref q5, .ref q6, .null, .null, .null, .null, .null, .null, .null]))] := hD
  refine lv_aload_n hx hb dME_init_81 rfl (lv_at hl 0 rfl) ?_
  refine lv_sipush (v := nI 256) hx hb dME_init_82 (by decide) ?_
  refine ma_newa0 (atype := .int) hx hb (hts _ (wg_t kw_104)) rfl hK hP hD hS hA (N' := 256) (a0 := (256, .inl (fun _ => 0))) (fun _ => rfl) (by decide) (by decide) (by decide) (by decide) (by decide) dME_init_85 (fun q7 H hP hD hS => ?_)
  refine W.widen (k := 37) (n := 8097) (by decide) (by decide) ?_
  refine va_putF (D := g.1) (ci := 11) (v := .ref q7) (ty := .array .int) (C := "LatticeKeysModel$Secrets") (T := T_ME) (N := 14) hx hb hts (wg_ft i_ME) ty_ME k_ME n_ME hown hK hP hD hS 0 rfl rfl 7 (by decide) (hts _ (wg_t kw_1386)) (fun _ h9 => h9) rfl hnm rfl (by decide +kernel) rfl rfl (Nat.le_of_ble_eq_true rfl) dME_init_87 (fun H locs hP hD hS => ?_)
  have hP : va_P g.1 vcl [(h0, .inr (11, [.null, .ref q1, .ref q2, .ref q3, .ref q4, .ref q5, .ref q6, .ref q7, .null, .null, .null, .null, .null, .null]))] _ := hP
  have hD : va_D _ [(h0, .inr (11, [.null, .ref q1, .ref q2, .ref q3, .ref q4, .ref q5, .ref q6, .ref q7, .null, .null, .null, .null, .null, .null]))] := hD
  refine lv_aload_n hx hb dME_init_90 rfl (lv_at hl 0 rfl) ?_
  refine lv_sipush (v := nI 256) hx hb dME_init_91 (by decide) ?_
  refine ma_newa0 (atype := .int) hx hb (hts _ (wg_t kw_104)) rfl hK hP hD hS hA (N' := 256) (a0 := (256, .inl (fun _ => 0))) (fun _ => rfl) (by decide) (by decide) (by decide) (by decide) (by decide) dME_init_94 (fun q8 H hP hD hS => ?_)
  refine W.widen (k := 38) (n := 8353) (by decide) (by decide) ?_
  refine va_putF (D := g.1) (ci := 11) (v := .ref q8) (ty := .array .int) (C := "LatticeKeysModel$Secrets") (T := T_ME) (N := 14) hx hb hts (wg_ft i_ME) ty_ME k_ME n_ME hown hK hP hD hS 0 rfl rfl 8 (by decide) (hts _ (wg_t kw_1387)) (fun _ h9 => h9) rfl hnm rfl (by decide +kernel) rfl rfl (Nat.le_of_ble_eq_true rfl) dME_init_96 (fun H locs hP hD hS => ?_)
  have hP : va_P g.1 vcl [(h0, .inr (11, [.null, .ref q1, .ref q2, .ref q3, .ref q4, .ref q5, .ref q6, .ref q7, .ref q8, .null, .null, .null, .null, .null]))] _ := hP
  have hD : va_D _ [(h0, .inr (11, [.null, .ref q1, .ref q2, .ref q3, .ref q4, .ref q5, .ref q6, .ref q7, .ref q8, .null, .null, .null, .null, .null]))] := hD
  refine lv_aload_n hx hb dME_init_99 rfl (lv_at hl 0 rfl) ?_
  refine lv_bipush (v := nI 64) hx hb dME_init_100 (by decide) ?_
  refine ma_newa0 (atype := .byte) hx hb (hts _ (wg_t kw_72)) rfl hK hP hD hS hA (N' := 64) (a0 := (64, .inl (fun _ => 0))) (fun _ => rfl) (by decide) (by decide) (by decide) (by decide) (by decide) dME_init_102 (fun q9 H hP hD hS => ?_)
  refine W.widen (k := 39) (n := 8417) (by decide) (by decide) ?_
  refine va_putF (D := g.1) (ci := 11) (v := .ref q9) (ty := .array .byte) (C := "LatticeKeysModel$Secrets") (T := T_ME) (N := 14) hx hb hts (wg_ft i_ME) ty_ME k_ME n_ME hown hK hP hD hS 0 rfl rfl 9 (by decide) (hts _ (wg_t kw_1388)) (fun _ h9 => h9) rfl hnm rfl (by decide +kernel) rfl rfl (Nat.le_of_ble_eq_true rfl) dME_init_104 (fun H locs hP hD hS => ?_)
  have hP : va_P g.1 vcl [(h0, .inr (11, [.null, .ref q1, .ref q2, .ref q3, .ref q4, .ref q5, .ref q6, .ref q7, .ref q8, .ref q9, .null, .null, .null, .null]))] _ := hP
  have hD : va_D _ [(h0, .inr (11, [.null, .ref q1, .ref q2, .ref q3, .ref q4, .ref q5, .ref q6, .ref q7, .ref q8, .ref q9, .null, .null, .null, .null]))] := hD
  refine lv_aload_n hx hb dME_init_107 rfl (lv_at hl 0 rfl) ?_
  refine lv_sipush (v := nI 192) hx hb dME_init_108 (by decide) ?_
  refine ma_newa0 (atype := .byte) hx hb (hts _ (wg_t kw_72)) rfl hK hP hD hS hA (N' := 192) (a0 := (192, .inl (fun _ => 0))) (fun _ => rfl) (by decide) (by decide) (by decide) (by decide) (by decide) dME_init_111 (fun q10 H hP hD hS => ?_)
  refine W.widen (k := 40) (n := 8609) (by decide) (by decide) ?_
  refine va_putF (D := g.1) (ci := 11) (v := .ref q10) (ty := .array .byte) (C := "LatticeKeysModel$Secrets") (T := T_ME) (N := 14) hx hb hts (wg_ft i_ME) ty_ME k_ME n_ME hown hK hP hD hS 0 rfl rfl 10 (by decide) (hts _ (wg_t kw_1389)) (fun _ h9 => h9) rfl hnm rfl (by decide +kernel) rfl rfl (Nat.le_of_ble_eq_true rfl) dME_init_113 (fun H locs hP hD hS => ?_)
  have hP : va_P g.1 vcl [(h0, .inr (11, [.null, .ref q1, .ref q2, .ref q3, .ref q4, .ref q5, .ref q6, .ref q7, .ref q8, .ref q9, .ref q10, .null, .null, .null]))] _ := hP
  have hD : va_D _ [(h0, .inr (11, [.null, .ref q1, .ref q2, .ref q3, .ref q4, .ref q5, .ref q6, .ref q7, .ref q8, .ref q9, .ref q10, .null, .null, .null]))] := hD
  refine lv_aload_n hx hb dME_init_116 rfl (lv_at hl 0 rfl) ?_
  refine lv_bipush (v := nI 32) hx hb dME_init_117 (by decide) ?_
  refine ma_newa0 (atype := .byte) hx hb (hts _ (wg_t kw_72)) rfl hK hP hD hS hA (N' := 32) (a0 := (32, .inl (fun _ => 0))) (fun _ => rfl) (by decide) (by decide) (by decide) (by decide) (by decide) dME_init_119 (fun q11 H hP hD hS => ?_)
  refine W.widen (k := 41) (n := 8641) (by decide) (by decide) ?_
  refine va_putF (D := g.1) (ci := 11) (v := .ref q11) (ty := .array .byte) (C := "LatticeKeysModel$Secrets") (T := T_ME) (N := 14) hx hb hts (wg_ft i_ME) ty_ME k_ME n_ME hown hK hP hD hS 0 rfl rfl 11 (by decide) (hts _ (wg_t kw_1390)) (fun _ h9 => h9) rfl hnm rfl (by decide +kernel) rfl rfl (Nat.le_of_ble_eq_true rfl) dME_init_121 (fun H locs hP hD hS => ?_)
  have hP : va_P g.1 vcl [(h0, .inr (11, [.null, .ref q1, .ref q2, .ref q3, .ref q4, .ref q5, .ref q6, .ref q7, .ref q8, .ref q9, .ref q10, .ref q11, .null, .null]))] _ := hP
  have hD : va_D _ [(h0, .inr (11, [.null, .ref q1, .ref q2, .ref q3, .ref q4, .ref q5, .ref q6, .ref q7, .ref q8, .ref q9, .ref q10, .ref q11, .null, .null]))] := hD
  refine lv_aload_n hx hb dME_init_124 rfl (lv_at hl 0 rfl) ?_
  refine lv_bipush (v := nI 32) hx hb dME_init_125 (by decide) ?_
  refine ma_newa0 (atype := .byte) hx hb (hts _ (wg_t kw_72)) rfl hK hP hD hS hA (N' := 32) (a0 := (32, .inl (fun _ => 0))) (fun _ => rfl) (by decide) (by decide) (by decide) (by decide) (by decide) dME_init_127 (fun q12 H hP hD hS => ?_)
  refine W.widen (k := 42) (n := 8673) (by decide) (by decide) ?_
  refine va_putF (D := g.1) (ci := 11) (v := .ref q12) (ty := .array .byte) (C := "LatticeKeysModel$Secrets") (T := T_ME) (N := 14) hx hb hts (wg_ft i_ME) ty_ME k_ME n_ME hown hK hP hD hS 0 rfl rfl 12 (by decide) (hts _ (wg_t kw_1391)) (fun _ h9 => h9) rfl hnm rfl (by decide +kernel) rfl rfl (Nat.le_of_ble_eq_true rfl) dME_init_129 (fun H locs hP hD hS => ?_)
  have hP : va_P g.1 vcl [(h0, .inr (11, [.null, .ref q1, .ref q2, .ref q3, .ref q4, .ref q5, .ref q6, .ref q7, .ref q8, .ref q9, .ref q10, .ref q11, .ref q12, .null]))] _ := hP
  have hD : va_D _ [(h0, .inr (11, [.null, .ref q1, .ref q2, .ref q3, .ref q4, .ref q5, .ref q6, .ref q7, .ref q8, .ref q9, .ref q10, .ref q11, .ref q12, .null]))] := hD
  refine lv_aload_n hx hb dME_init_132 rfl (lv_at hl 0 rfl) ?_
  refine lv_sipush (v := nI 1568) hx hb dME_init_133 (by decide) ?_
  refine ma_newa0 (atype := .byte) hx hb (hts _ (wg_t kw_72)) rfl hK hP hD hS hA (N' := 1568) (a0 := (1568, .inl (fun _ => 0))) (fun _ => rfl) (by decide) (by decide) (by decide) (by decide) (by decide) dME_init_136 (fun q13 H hP hD hS => ?_)
  refine W.widen (k := 43) (n := 10241) (by decide) (by decide) ?_
  refine va_putF (D := g.1) (ci := 11) (v := .ref q13) (ty := .array .byte) (C := "LatticeKeysModel$Secrets") (T := T_ME) (N := 14) hx hb hts (wg_ft i_ME) ty_ME k_ME n_ME hown hK hP hD hS 0 rfl rfl 13 (by decide) (hts _ (wg_t kw_1392)) (fun _ h9 => h9) rfl hnm rfl (by decide +kernel) rfl rfl (Nat.le_of_ble_eq_true rfl) dME_init_138 (fun H locs hP hD hS => ?_)
  have hP : va_P g.1 vcl [(h0, .inr (11, [.null, .ref q1, .ref q2, .ref q3, .ref q4, .ref q5, .ref q6, .ref q7, .ref q8, .ref q9, .ref q10, .ref q11, .ref q12, .ref q13]))] _ := hP
  have hD : va_D _ [(h0, .inr (11, [.null, .ref q1, .ref q2, .ref q3, .ref q4, .ref q5, .ref q6, .ref q7, .ref q8, .ref q9, .ref q10, .ref q11, .ref q12, .ref q13]))] := hD
  refine lv_aload_n hx hb dME_init_141 rfl (lv_at hl 0 rfl) ?_
  refine lv_aload_n hx hb dME_init_142 rfl (lv_at hl 1 rfl) ?_
  refine va_putF (D := g.1) (ci := 11) (v := .ref sp) (ty := .object "LatticeKeysModel$Sponge") (C := "LatticeKeysModel$Secrets") (T := T_ME) (N := 14) hx hb hts (wg_ft i_ME) ty_ME k_ME n_ME hown hK hP hD hS 0 rfl rfl 0 (by decide) (hts _ (wg_t kw_1379)) (fun _ h9 => h9) rfl hnm rfl (by decide +kernel) rfl rfl (Nat.le_of_ble_eq_true rfl) dME_init_143 (fun H locs hP hD hS => ?_)
  have hP : va_P g.1 vcl [(h0, .inr (11, [.ref sp, .ref q1, .ref q2, .ref q3, .ref q4, .ref q5, .ref q6, .ref q7, .ref q8, .ref q9, .ref q10, .ref q11, .ref q12, .ref q13]))] _ := hP
  have hD : va_D _ [(h0, .inr (11, [.ref sp, .ref q1, .ref q2, .ref q3, .ref q4, .ref q5, .ref q6, .ref q7, .ref q8, .ref q9, .ref q10, .ref q11, .ref q12, .ref q13]))] := hD
  exact mc_vret hx hb hr hlk hP hD hS () trivial [] rfl rfl (by omega) (by omega) dME_init_146
