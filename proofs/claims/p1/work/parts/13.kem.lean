abbrev c_KM_init : ByteArray := prog_6_method_1_code
abbrev y_KM_init : MethodName := ⟨"LatticeKeys$Kem", "<init>", "()V"⟩
abbrev w_KM_init : List Cond := Cond.code y_KM_init c_KM_init 1 none :: WG
theorem dKM_init_0 : decode c_KM_init 0 = .ok (.aload_n 0, 1) := by decide +kernel
theorem dKM_init_1 : decode c_KM_init 1 = .ok (.invokespecial 1, 3) := by decide +kernel
theorem dKM_init_4 : decode c_KM_init 4 = .ok (.aload_n 0, 1) := by decide +kernel
theorem dKM_init_5 : decode c_KM_init 5 = .ok (.new 7, 3) := by decide +kernel
theorem dKM_init_8 : decode c_KM_init 8 = .ok (.dup, 1) := by decide +kernel
theorem dKM_init_9 : decode c_KM_init 9 = .ok (.invokespecial 9, 3) := by decide +kernel
theorem dKM_init_12 : decode c_KM_init 12 = .ok (.putfield 10, 3) := by decide +kernel
theorem dKM_init_15 : decode c_KM_init 15 = .ok (.aload_n 0, 1) := by decide +kernel
theorem dKM_init_16 : decode c_KM_init 16 = .ok (.new 16, 3) := by decide +kernel
theorem dKM_init_19 : decode c_KM_init 19 = .ok (.dup, 1) := by decide +kernel
theorem dKM_init_20 : decode c_KM_init 20 = .ok (.sipush 3329, 3) := by decide +kernel
theorem dKM_init_23 : decode c_KM_init 23 = .ok (.bipush 17, 2) := by decide +kernel
theorem dKM_init_25 : decode c_KM_init 25 = .ok (.bipush 7, 2) := by decide +kernel
theorem dKM_init_27 : decode c_KM_init 27 = .ok (.invokespecial 18, 3) := by decide +kernel
theorem dKM_init_30 : decode c_KM_init 30 = .ok (.putfield 21, 3) := by decide +kernel
theorem dKM_init_33 : decode c_KM_init 33 = .ok (.aload_n 0, 1) := by decide +kernel
theorem dKM_init_34 : decode c_KM_init 34 = .ok (.iconst 4, 1) := by decide +kernel
theorem dKM_init_35 : decode c_KM_init 35 = .ok (.sipush 256, 3) := by decide +kernel
theorem dKM_init_38 : decode c_KM_init 38 = .ok (.multianewarray 25 2, 4) := by decide +kernel
theorem dKM_init_42 : decode c_KM_init 42 = .ok (.putfield 27, 3) := by decide +kernel
theorem dKM_init_45 : decode c_KM_init 45 = .ok (.aload_n 0, 1) := by decide +kernel
theorem dKM_init_46 : decode c_KM_init 46 = .ok (.sipush 256, 3) := by decide +kernel
theorem dKM_init_49 : decode c_KM_init 49 = .ok (.newarray .int, 2) := by decide +kernel
theorem dKM_init_51 : decode c_KM_init 51 = .ok (.putfield 30, 3) := by decide +kernel
theorem dKM_init_54 : decode c_KM_init 54 = .ok (.aload_n 0, 1) := by decide +kernel
theorem dKM_init_55 : decode c_KM_init 55 = .ok (.sipush 256, 3) := by decide +kernel
theorem dKM_init_58 : decode c_KM_init 58 = .ok (.newarray .int, 2) := by decide +kernel
theorem dKM_init_60 : decode c_KM_init 60 = .ok (.putfield 34, 3) := by decide +kernel
theorem dKM_init_63 : decode c_KM_init 63 = .ok (.aload_n 0, 1) := by decide +kernel
theorem dKM_init_64 : decode c_KM_init 64 = .ok (.bipush 32, 2) := by decide +kernel
theorem dKM_init_66 : decode c_KM_init 66 = .ok (.newarray .byte, 2) := by decide +kernel
theorem dKM_init_68 : decode c_KM_init 68 = .ok (.putfield 37, 3) := by decide +kernel
theorem dKM_init_71 : decode c_KM_init 71 = .ok (.aload_n 0, 1) := by decide +kernel
theorem dKM_init_72 : decode c_KM_init 72 = .ok (.bipush 32, 2) := by decide +kernel
theorem dKM_init_74 : decode c_KM_init 74 = .ok (.newarray .byte, 2) := by decide +kernel
theorem dKM_init_76 : decode c_KM_init 76 = .ok (.putfield 41, 3) := by decide +kernel
theorem dKM_init_79 : decode c_KM_init 79 = .ok (.aload_n 0, 1) := by decide +kernel
theorem dKM_init_80 : decode c_KM_init 80 = .ok (.bipush 64, 2) := by decide +kernel
theorem dKM_init_82 : decode c_KM_init 82 = .ok (.newarray .byte, 2) := by decide +kernel
theorem dKM_init_84 : decode c_KM_init 84 = .ok (.putfield 44, 3) := by decide +kernel
theorem dKM_init_87 : decode c_KM_init 87 = .ok (.aload_n 0, 1) := by decide +kernel
theorem dKM_init_88 : decode c_KM_init 88 = .ok (.sipush 192, 3) := by decide +kernel
theorem dKM_init_91 : decode c_KM_init 91 = .ok (.newarray .byte, 2) := by decide +kernel
theorem dKM_init_93 : decode c_KM_init 93 = .ok (.putfield 47, 3) := by decide +kernel
theorem dKM_init_96 : decode c_KM_init 96 = .ok (.aload_n 0, 1) := by decide +kernel
theorem dKM_init_97 : decode c_KM_init 97 = .ok (.sipush 1568, 3) := by decide +kernel
theorem dKM_init_100 : decode c_KM_init 100 = .ok (.newarray .byte, 2) := by decide +kernel
theorem dKM_init_102 : decode c_KM_init 102 = .ok (.putfield 50, 3) := by decide +kernel
theorem dKM_init_105 : decode c_KM_init 105 = .ok (.return_, 1) := by decide +kernel
set_option maxHeartbeats 400000 in
set_option maxRecDepth 100000 in
theorem m_KM_init (l : Launch) (g : Gd) (sz : Nat) (h0 : Nat)  : Met l y_KM_init w_KM_init ({ frames := 3, cells := 16, slots := 3589, locals := 80 } : Room) (va_Pc [.ref h0] (pr (en g) g.1 vcl sz [(h0, .inr (5, [.null, .null, .null, .null, .null, .null, .null, .null, .null, .null]))])) (va_Qv (fun (u : Unit) => True) (po g.1 vcl (va_A [(h0, .inr (5, [.null, .null, .null, .null, .null, .null, .null, .null, .null, .null]))] sz) (fun (u : Unit) => [])) (va_A [(h0, .inr (5, [.null, .null, .null, .null, .null, .null, .null, .null, .null, .null]))] sz)) 16 3589 (va_A [(h0, .inr (5, [.null, .null, .null, .null, .null, .null, .null, .null, .null, .null]))] sz) := by
  refine mc_entry (cc := c_KM_init) (maxL := 1) (ret := none) (by decide) rfl (Nat.le_of_ble_eq_true rfl) ?_
  intro p e s m args below meth c ls F hr hlk hnm hsz hP hD hE hA hl
  obtain ⟨hx, hb, hml, hown, hts⟩ := id F
  have hK := hE.1
  generalize va_A [(h0, .inr (5, [.null, .null, .null, .null, .null, .null, .null, .null, .null, .null]))] sz = A at hD hE hA ⊢
  have hS : va_S A s.heap s.heap [] := va_S.rf
  have hl : lv_has ls 1 [(0, .ref h0)] := hl
  refine lv_aload_n hx hb dKM_init_0 rfl (lv_at hl 0 rfl) ?_
  refine W.objInit hx hb hown (hts _ (wg_t kw_79)) (hts _ (wg_t kw_41)) (hts _ (wg_t kobj)) rfl (by rw [hml]; exact hl.1) rfl dKM_init_1 (Nat.le_of_ble_eq_true rfl) (Nat.le_of_ble_eq_true rfl) ?_
  refine W.eq (g2 := F0 m 4 ls []) rfl ?_
  refine lv_aload_n hx hb dKM_init_4 rfl (lv_at hl 0 rfl) ?_
  refine va_new (ci := 3) (fs := [.null, .int 0, .int 0, .int 0]) (C := "LatticeKeys$Sponge") (T := T_SP) (N := 4) hx hb hts (wg_ft i_SP) ty_SP k_SP hown (hts _ (wg_t kw_80)) (hts _ (wg_t kw_50)) (hts _ (wg_t kw_2)) hK hP hD hS hA rfl z_SP (by decide) (by decide) dKM_init_5 (fun q1 H hP hD hS => ?_)
  have hP : va_P g.1 vcl [(h0, .inr (5, [.null, .null, .null, .null, .null, .null, .null, .null, .null, .null])), (q1, .inr (3, [.null, .int 0, .int 0, .int 0]))] _ := hP
  have hD : va_D _ [(h0, .inr (5, [.null, .null, .null, .null, .null, .null, .null, .null, .null, .null])), (q1, .inr (3, [.null, .int 0, .int 0, .int 0]))] := hD
  refine W.widen (k := 1) (n := 4) (by decide) (by decide) ?_
  refine lv_dup hx hb dKM_init_8 rfl ?_
  refine mc_v (wc := [(q1, .inr (3, [.null, .int 0, .int 0, .int 0]))]) (wr := [(h0, .inr (5, [.null, .null, .null, .null, .null, .null, .null, .null, .null, .null]))]) hP hD hS hA [1] [0] rfl rfl rfl (by decide) (va_runI (As := []) (rest := [.ref q1, .ref h0]) F (m_SP_init l g _ q1) (cwI 0 hts (wg_in kw_53) rfl rfl rfl (hts _ (wg_t kw_2)) (hts _ (wg_t kw_81)) (hts _ (wg_t kw_52)) rfl (by decide +kernel) ⟨by decide, by decide⟩) (pr_S (en_ok g) hP hD hS hA hE [1] rfl rfl) rfl rfl hl.1 rfl (lv_room (Nat.le_of_ble_eq_true rfl)) dKM_init_9 ⟨(by decide), (by decide)⟩) (fun u1 H locs hu1 hP hD hS => ?_)
  have hP : va_P g.1 vcl [(h0, .inr (5, [.null, .null, .null, .null, .null, .null, .null, .null, .null, .null])), (q1, .inr (3, [.ref u1, .int (nI 136), .int (nI 6), .int (nI 0)])), (u1, .inl (g.2.1 2, 25, .inr (.inl ((fun _ => 0)))))] _ := hP
  have hD : va_D _ [(h0, .inr (5, [.null, .null, .null, .null, .null, .null, .null, .null, .null, .null])), (q1, .inr (3, [.ref u1, .int (nI 136), .int (nI 6), .int (nI 0)])), (u1, .inl (g.2.1 2, 25, .inr (.inl ((fun _ => 0)))))] := hD
  refine W.widen (k := 2) (n := 29) (by decide) (by decide) ?_
  refine va_putF (D := g.1) (ci := 5) (v := .ref q1) (ty := .object "LatticeKeys$Sponge") (C := "LatticeKeys$Kem") (T := T_KM) (N := 10) hx hb hts (wg_ft i_KM) ty_KM k_KM n_KM hown hK hP hD hS 0 rfl rfl 0 (by decide) (hts _ (wg_t kw_107)) (fun _ h9 => h9) rfl hnm rfl (by decide +kernel) rfl rfl (Nat.le_of_ble_eq_true rfl) dKM_init_12 (fun H locs hP hD hS => ?_)
  have hP : va_P g.1 vcl [(h0, .inr (5, [.ref q1, .null, .null, .null, .null, .null, .null, .null, .null, .null])), (q1, .inr (3, [.ref u1, .int (nI 136), .int (nI 6), .int (nI 0)])), (u1, .inl (g.2.1 2, 25, .inr (.inl ((fun _ => 0)))))] _ := hP
  have hD : va_D _ [(h0, .inr (5, [.ref q1, .null, .null, .null, .null, .null, .null, .null, .null, .null])), (q1, .inr (3, [.ref u1, .int (nI 136), .int (nI 6), .int (nI 0)])), (u1, .inl (g.2.1 2, 25, .inr (.inl ((fun _ => 0)))))] := hD
  refine lv_aload_n hx hb dKM_init_15 rfl (lv_at hl 0 rfl) ?_
  refine va_new (ci := 4) (fs := [.int 0, .int 0, .int 0, .null]) (C := "LatticeKeys$Ring") (T := T_RG) (N := 4) hx hb hts (wg_ft i_RG) ty_RG k_RG hown (hts _ (wg_t kw_82)) (hts _ (wg_t kw_83)) (hts _ (wg_t kw_4)) hK hP hD hS hA rfl z_RG (by decide) (by decide) dKM_init_16 (fun q2 H hP hD hS => ?_)
  have hP : va_P g.1 vcl [(h0, .inr (5, [.ref q1, .null, .null, .null, .null, .null, .null, .null, .null, .null])), (q1, .inr (3, [.ref u1, .int (nI 136), .int (nI 6), .int (nI 0)])), (u1, .inl (g.2.1 2, 25, .inr (.inl ((fun _ => 0))))), (q2, .inr (4, [.int 0, .int 0, .int 0, .null]))] _ := hP
  have hD : va_D _ [(h0, .inr (5, [.ref q1, .null, .null, .null, .null, .null, .null, .null, .null, .null])), (q1, .inr (3, [.ref u1, .int (nI 136), .int (nI 6), .int (nI 0)])), (u1, .inl (g.2.1 2, 25, .inr (.inl ((fun _ => 0))))), (q2, .inr (4, [.int 0, .int 0, .int 0, .null]))] := hD
  refine W.widen (k := 3) (n := 33) (by decide) (by decide) ?_
  refine lv_dup hx hb dKM_init_19 rfl ?_
  refine lv_sipush (v := nI 3329) hx hb dKM_init_20 (by decide) ?_
  refine lv_bipush (v := nI 17) hx hb dKM_init_23 (by decide) ?_
  refine lv_bipush (v := nI 7) hx hb dKM_init_25 (by decide) ?_
  refine mc_v (wc := [(q2, .inr (4, [.int 0, .int 0, .int 0, .null]))]) (wr := [(h0, .inr (5, [.ref q1, .null, .null, .null, .null, .null, .null, .null, .null, .null])), (q1, .inr (3, [.ref u1, .int (nI 136), .int (nI 6), .int (nI 0)])), (u1, .inl (g.2.1 2, 25, .inr (.inl ((fun _ => 0)))))]) hP hD hS hA [3] [0, 1, 2] rfl rfl rfl (by decide) (va_runI (As := [.int (nI 3329), .int (nI 17), .int (nI 7)]) (rest := [.ref q2, .ref h0]) F (m_RG_init_7 l g _ q2) (cwI 3 hts (wg_in kw_86) rfl rfl rfl (hts _ (wg_t kw_4)) (hts _ (wg_t kw_84)) (hts _ (wg_t kw_85)) rfl (by decide +kernel) ⟨by decide, by decide⟩) (pr_S (en_ok g) hP hD hS hA hE [3] rfl rfl) rfl rfl hl.1 rfl (lv_room (Nat.le_of_ble_eq_true rfl)) dKM_init_27 ⟨(by decide), (by decide)⟩) (fun u2 H locs hu2 hP hD hS => ?_)
  have hP : va_P g.1 vcl [(h0, .inr (5, [.ref q1, .null, .null, .null, .null, .null, .null, .null, .null, .null])), (q1, .inr (3, [.ref u1, .int (nI 136), .int (nI 6), .int (nI 0)])), (u1, .inl (g.2.1 2, 25, .inr (.inl ((fun _ => 0)))))] _ := hP
  have hD : va_D _ [(h0, .inr (5, [.ref q1, .null, .null, .null, .null, .null, .null, .null, .null, .null])), (q1, .inr (3, [.ref u1, .int (nI 136), .int (nI 6), .int (nI 0)])), (u1, .inl (g.2.1 2, 25, .inr (.inl ((fun _ => 0)))))] := hD
  refine W.widen (k := 4) (n := 161) (by decide) (by decide) ?_
  refine va_putF (D := g.1) (ci := 5) (v := .ref q2) (ty := .object "LatticeKeys$Ring") (C := "LatticeKeys$Kem") (T := T_KM) (N := 10) hx hb hts (wg_ft i_KM) ty_KM k_KM n_KM hown hK hP hD hS 0 rfl rfl 1 (by decide) (hts _ (wg_t kw_108)) (fun _ h9 => h9) rfl hnm rfl (by decide +kernel) rfl rfl (Nat.le_of_ble_eq_true rfl) dKM_init_30 (fun H locs hP hD hS => ?_)
  have hP : va_P g.1 vcl [(h0, .inr (5, [.ref q1, .ref q2, .null, .null, .null, .null, .null, .null, .null, .null])), (q1, .inr (3, [.ref u1, .int (nI 136), .int (nI 6), .int (nI 0)])), (u1, .inl (g.2.1 2, 25, .inr (.inl ((fun _ => 0)))))] _ := hP
  have hD : va_D _ [(h0, .inr (5, [.ref q1, .ref q2, .null, .null, .null, .null, .null, .null, .null, .null])), (q1, .inr (3, [.ref u1, .int (nI 136), .int (nI 6), .int (nI 0)])), (u1, .inl (g.2.1 2, 25, .inr (.inl ((fun _ => 0)))))] := hD
  refine lv_aload_n hx hb dKM_init_33 rfl (lv_at hl 0 rfl) ?_
  refine lv_iconst (v := nI 4) hx hb dKM_init_34 (by decide) ?_
  refine lv_sipush (v := nI 256) hx hb dKM_init_35 (by decide) ?_
  refine xm_mna (ty := .int) (N' := 4) (K' := 256) hx hb hown (hts _ (wg_t kw_105)) (hE.2.2.2.2.2.1) (hts _ (wg_t kw_104)) hP hD hS (by decide) (by decide) (by decide) (by decide) (by decide) (by decide) (by decide) (by decide) (by decide) (by decide) (by decide) dKM_init_38 (fun q3 H hP hD hS => ?_)
  refine W.widen (k := 9) (n := 1189) (by decide) (by decide) ?_
  refine va_putF (D := g.1) (ci := 5) (v := .ref q3) (ty := .array (.array .int)) (C := "LatticeKeys$Kem") (T := T_KM) (N := 10) hx hb hts (wg_ft i_KM) ty_KM k_KM n_KM hown hK hP hD hS 0 rfl rfl 2 (by decide) (hts _ (wg_t kw_109)) (fun _ h9 => h9) rfl hnm rfl (by decide +kernel) rfl rfl (Nat.le_of_ble_eq_true rfl) dKM_init_42 (fun H locs hP hD hS => ?_)
  have hP : va_P g.1 vcl [(h0, .inr (5, [.ref q1, .ref q2, .ref q3, .null, .null, .null, .null, .null, .null, .null])), (q1, .inr (3, [.ref u1, .int (nI 136), .int (nI 6), .int (nI 0)])), (u1, .inl (g.2.1 2, 25, .inr (.inl ((fun _ => 0)))))] _ := hP
  have hD : va_D _ [(h0, .inr (5, [.ref q1, .ref q2, .ref q3, .null, .null, .null, .null, .null, .null, .null])), (q1, .inr (3, [.ref u1, .int (nI 136), .int (nI 6), .int (nI 0)])), (u1, .inl (g.2.1 2, 25, .inr (.inl ((fun _ => 0)))))] := hD
  refine lv_aload_n hx hb dKM_init_45 rfl (lv_at hl 0 rfl) ?_
  refine lv_sipush (v := nI 256) hx hb dKM_init_46 (by decide) ?_
  refine ma_newa0 (atype := .int) hx hb (hts _ (wg_t kw_104)) rfl hK hP hD hS hA (N' := 256) (a0 := (256, .inl (fun _ => 0))) (fun _ => rfl) (by decide) (by decide) (by decide) (by decide) (by decide) dKM_init_49 (fun q4 H hP hD hS => ?_)
  refine W.widen (k := 10) (n := 1445) (by decide) (by decide) ?_
  refine va_putF (D := g.1) (ci := 5) (v := .ref q4) (ty := .array .int) (C := "LatticeKeys$Kem") (T := T_KM) (N := 10) hx hb hts (wg_ft i_KM) ty_KM k_KM n_KM hown hK hP hD hS 0 rfl rfl 3 (by decide) (hts _ (wg_t kw_110)) (fun _ h9 => h9) rfl hnm rfl (by decide +kernel) rfl rfl (Nat.le_of_ble_eq_true rfl) dKM_init_51 (fun H locs hP hD hS => ?_)
  have hP : va_P g.1 vcl [(h0, .inr (5, [.ref q1, .ref q2, .ref q3, .ref q4, .null, .null, .null, .null, .null, .null])), (q1, .inr (3, [.ref u1, .int (nI 136), .int (nI 6), .int (nI 0)])), (u1, .inl (g.2.1 2, 25, .inr (.inl ((fun _ => 0)))))] _ := hP
  have hD : va_D _ [(h0, .inr (5, [.ref q1, .ref q2, .ref q3, .ref q4, .null, .null, .null, .null, .null, .null])), (q1, .inr (3, [.ref u1, .int (nI 136), .int (nI 6), .int (nI 0)])), (u1, .inl (g.2.1 2, 25, .inr (.inl ((fun _ => 0)))))] := hD
  refine lv_aload_n hx hb dKM_init_54 rfl (lv_at hl 0 rfl) ?_
  refine lv_sipush (v := nI 256) hx hb dKM_init_55 (by decide) ?_
  refine ma_newa0 (atype := .int) hx hb (hts _ (wg_t kw_104)) rfl hK hP hD hS hA (N' := 256) (a0 := (256, .inl (fun _ => 0))) (fun _ => rfl) (by decide) (by decide) (by decide) (by decide) (by decide) dKM_init_58 (fun q5 H hP hD hS => ?_)
  refine W.widen (k := 11) (n := 1701) (by decide) (by decide) ?_
  refine va_putF (D := g.1) (ci := 5) (v := .ref q5) (ty := .array .int) (C := "LatticeKeys$Kem") (T := T_KM) (N := 10) hx hb hts (wg_ft i_KM) ty_KM k_KM n_KM hown hK hP hD hS 0 rfl rfl 4 (by decide) (hts _ (wg_t kw_111)) (fun _ h9 => h9) rfl hnm rfl (by decide +kernel) rfl rfl (Nat.le_of_ble_eq_true rfl) dKM_init_60 (fun H locs hP hD hS => ?_)
  have hP : va_P g.1 vcl [(h0, .inr (5, [.ref q1, .ref q2, .ref q3, .ref q4, .ref q5, .null, .null, .null, .null, .null])), (q1, .inr (3, [.ref u1, .int (nI 136), .int (nI 6), .int (nI 0)])), (u1, .inl (g.2.1 2, 25, .inr (.inl ((fun _ => 0)))))] _ := hP
  have hD : va_D _ [(h0, .inr (5, [.ref q1, .ref q2, .ref q3, .ref q4, .ref q5, .null, .null, .null, .null, .null])), (q1, .inr (3, [.ref u1, .int (nI 136), .int (nI 6), .int (nI 0)])), (u1, .inl (g.2.1 2, 25, .inr (.inl ((fun _ => 0)))))] := hD
  refine lv_aload_n hx hb dKM_init_63 rfl (lv_at hl 0 rfl) ?_
  refine lv_bipush (v := nI 32) hx hb dKM_init_64 (by decide) ?_
  refine ma_newa0 (atype := .byte) hx hb (hts _ (wg_t kw_72)) rfl hK hP hD hS hA (N' := 32) (a0 := (32, .inl (fun _ => 0))) (fun _ => rfl) (by decide) (by decide) (by decide) (by decide) (by decide) dKM_init_66 (fun q6 H hP hD hS => ?_)
  refine W.widen (k := 12) (n := 1733) (by decide) (by decide) ?_
  refine va_putF (D := g.1) (ci := 5) (v := .ref q6) (ty := .array .byte) (C := "LatticeKeys$Kem") (T := T_KM) (N := 10) hx hb hts (wg_ft i_KM) ty_KM k_KM n_KM hown hK hP hD hS 0 rfl rfl 5 (by decide) (hts _ (wg_t kw_112)) (fun _ h9 => h9) rfl hnm rfl (by decide +kernel) rfl rfl (Nat.le_of_ble_eq_true rfl) dKM_init_68 (fun H locs hP hD hS => ?_)
  have hP : va_P g.1 vcl [(h0, .inr (5, [.ref q1, .ref q2, .ref q3, .ref q4, .ref q5, .ref q6, .null, .null, .null, .null])), (q1, .inr (3, [.ref u1, .int (nI 136), .int (nI 6), .int (nI 0)])), (u1, .inl (g.2.1 2, 25, .inr (.inl ((fun _ => 0)))))] _ := hP
  have hD : va_D _ [(h0, .inr (5, [.ref q1, .ref q2, .ref q3, .ref q4, .ref q5, .ref q6, .null, .null, .null, .null])), (q1, .inr (3, [.ref u1, .int (nI 136), .int (nI 6), .int (nI 0)])), (u1, .inl (g.2.1 2, 25, .inr (.inl ((fun _ => 0)))))] := hD
  refine lv_aload_n hx hb dKM_init_71 rfl (lv_at hl 0 rfl) ?_
  refine lv_bipush (v := nI 32) hx hb dKM_init_72 (by decide) ?_
  refine ma_newa0 (atype := .byte) hx hb (hts _ (wg_t kw_72)) rfl hK hP hD hS hA (N' := 32) (a0 := (32, .inl (fun _ => 0))) (fun _ => rfl) (by decide) (by decide) (by decide) (by decide) (by decide) dKM_init_74 (fun q7 H hP hD hS => ?_)
  refine W.widen (k := 13) (n := 1765) (by decide) (by decide) ?_
  refine va_putF (D := g.1) (ci := 5) (v := .ref q7) (ty := .array .byte) (C := "LatticeKeys$Kem") (T := T_KM) (N := 10) hx hb hts (wg_ft i_KM) ty_KM k_KM n_KM hown hK hP hD hS 0 rfl rfl 6 (by decide) (hts _ (wg_t kw_113)) (fun _ h9 => h9) rfl hnm rfl (by decide +kernel) rfl rfl (Nat.le_of_ble_eq_true rfl) dKM_init_76 (fun H locs hP hD hS => ?_)
  have hP : va_P g.1 vcl [(h0, .inr (5, [.ref q1, .ref q2, .ref q3, .ref q4, .ref q5, .ref q6, .ref q7, .null, .null, .null])), (q1, .inr (3, [.ref u1, .int (nI 136), .int (nI 6), .int (nI 0)])), (u1, .inl (g.2.1 2, 25, .inr (.inl ((fun _ => 0)))))] _ := hP
  have hD : va_D _ [(h0, .inr (5, [.ref q1, .ref q2, .ref q3, .ref q4, .ref q5, .ref q6, .ref q7, .null, .null, .null])), (q1, .inr (3, [.ref u1, .int (nI 136), .int (nI 6), .int (nI 0)])), (u1, .inl (g.2.1 2, 25, .inr (.inl ((fun _ => 0)))))] := hD
  refine lv_aload_n hx hb dKM_init_79 rfl (lv_at hl 0 rfl) ?_
  refine lv_bipush (v := nI 64) hx hb dKM_init_80 (by decide) ?_
  refine ma_newa0 (atype := .byte) hx hb (hts _ (wg_t kw_72)) rfl hK hP hD hS hA (N' := 64) (a0 := (64, .inl (fun _ => 0))) (fun _ => rfl) (by decide) (by decide) (by decide) (by decide) (by decide) dKM_init_82 (fun q8 H hP hD hS => ?_)
  refine W.widen (k := 14) (n := 1829) (by decide) (by decide) ?_
  refine va_putF (D := g.1) (ci := 5) (v := .ref q8) (ty := .array .byte) (C := "LatticeKeys$Kem") (T := T_KM) (N := 10) hx hb hts (wg_ft i_KM) ty_KM k_KM n_KM hown hK hP hD hS 0 rfl rfl 7 (by decide) (hts _ (wg_t kw_114)) (fun _ h9 => h9) rfl hnm rfl (by decide +kernel) rfl rfl (Nat.le_of_ble_eq_true rfl) dKM_init_84 (fun H locs hP hD hS => ?_)
  have hP : va_P g.1 vcl [(h0, .inr (5, [.ref q1, .ref q2, .ref q3, .ref q4, .ref q5, .ref q6, .ref q7, .ref q8, .null, .null])), (q1, .inr (3, [.ref u1, .int (nI 136), .int (nI 6), .int (nI 0)])), (u1, .inl (g.2.1 2, 25, .inr (.inl ((fun _ => 0)))))] _ := hP
  have hD : va_D _ [(h0, .inr (5, [.ref q1, .ref q2, .ref q3, .ref q4, .ref q5, .ref q6, .ref q7, .ref q8, .null, .null])), (q1, .inr (3, [.ref u1, .int (nI 136), .int (nI 6), .int (nI 0)])), (u1, .inl (g.2.1 2, 25, .inr (.inl ((fun _ => 0)))))] := hD
  refine lv_aload_n hx hb dKM_init_87 rfl (lv_at hl 0 rfl) ?_
  refine lv_sipush (v := nI 192) hx hb dKM_init_88 (by decide) ?_
  refine ma_newa0 (atype := .byte) hx hb (hts _ (wg_t kw_72)) rfl hK hP hD hS hA (N' := 192) (a0 := (192, .inl (fun _ => 0))) (fun _ => rfl) (by decide) (by decide) (by decide) (by decide) (by decide) dKM_init_91 (fun q9 H hP hD hS => ?_)
  refine W.widen (k := 15) (n := 2021) (by decide) (by decide) ?_
  refine va_putF (D := g.1) (ci := 5) (v := .ref q9) (ty := .array .byte) (C := "LatticeKeys$Kem") (T := T_KM) (N := 10) hx hb hts (wg_ft i_KM) ty_KM k_KM n_KM hown hK hP hD hS 0 rfl rfl 8 (by decide) (hts _ (wg_t kw_115)) (fun _ h9 => h9) rfl hnm rfl (by decide +kernel) rfl rfl (Nat.le_of_ble_eq_true rfl) dKM_init_93 (fun H locs hP hD hS => ?_)
  have hP : va_P g.1 vcl [(h0, .inr (5, [.ref q1, .ref q2, .ref q3, .ref q4, .ref q5, .ref q6, .ref q7, .ref q8, .ref q9, .null])), (q1, .inr (3, [.ref u1, .int (nI 136), .int (nI 6), .int (nI 0)])), (u1, .inl (g.2.1 2, 25, .inr (.inl ((fun _ => 0)))))] _ := hP
  have hD : va_D _ [(h0, .inr (5, [.ref q1, .ref q2, .ref q3, .ref q4, .ref q5, .ref q6, .ref q7, .ref q8, .ref q9, .null])), (q1, .inr (3, [.ref u1, .int (nI 136), .int (nI 6), .int (nI 0)])), (u1, .inl (g.2.1 2, 25, .inr (.inl ((fun _ => 0)))))] := hD
  refine lv_aload_n hx hb dKM_init_96 rfl (lv_at hl 0 rfl) ?_
  refine lv_sipush (v := nI 1568) hx hb dKM_init_97 (by decide) ?_
  refine ma_newa0 (atype := .byte) hx hb (hts _ (wg_t kw_72)) rfl hK hP hD hS hA (N' := 1568) (a0 := (1568, .inl (fun _ => 0))) (fun _ => rfl) (by decide) (by decide) (by decide) (by decide) (by decide) dKM_init_100 (fun q10 H hP hD hS => ?_)
  refine W.widen (k := 16) (n := 3589) (by decide) (by decide) ?_
  refine va_putF (D := g.1) (ci := 5) (v := .ref q10) (ty := .array .byte) (C := "LatticeKeys$Kem") (T := T_KM) (N := 10) hx hb hts (wg_ft i_KM) ty_KM k_KM n_KM hown hK hP hD hS 0 rfl rfl 9 (by decide) (hts _ (wg_t kw_116)) (fun _ h9 => h9) rfl hnm rfl (by decide +kernel) rfl rfl (Nat.le_of_ble_eq_true rfl) dKM_init_102 (fun H locs hP hD hS => ?_)
  have hP : va_P g.1 vcl [(h0, .inr (5, [.ref q1, .ref q2, .ref q3, .ref q4, .ref q5, .ref q6, .ref q7, .ref q8, .ref q9, .ref q10])), (q1, .inr (3, [.ref u1, .int (nI 136), .int (nI 6), .int (nI 0)])), (u1, .inl (g.2.1 2, 25, .inr (.inl ((fun _ => 0)))))] _ := hP
  have hD : va_D _ [(h0, .inr (5, [.ref q1, .ref q2, .ref q3, .ref q4, .ref q5, .ref q6, .ref q7, .ref q8, .ref q9, .ref q10])), (q1, .inr (3, [.ref u1, .int (nI 136), .int (nI 6), .int (nI 0)])), (u1, .inl (g.2.1 2, 25, .inr (.inl ((fun _ => 0)))))] := hD
  exact mc_vret hx hb hr hlk hP hD hS () trivial [] rfl rfl (by omega) (by omega) dKM_init_105
