abbrev c_KS_init : ByteArray := prog_7_method_1_code
abbrev y_KS_init : MethodName := ⟨"LatticeKeys$KemSet", "<init>", "(I)V"⟩
abbrev w_KS_init : List Cond := Cond.code y_KS_init c_KS_init 2 none :: WG
theorem dKS_init_0 : decode c_KS_init 0 = .ok (.aload_n 0, 1) := by decide +kernel
theorem dKS_init_1 : decode c_KS_init 1 = .ok (.invokespecial 1, 3) := by decide +kernel
theorem dKS_init_4 : decode c_KS_init 4 = .ok (.aload_n 0, 1) := by decide +kernel
theorem dKS_init_5 : decode c_KS_init 5 = .ok (.getstatic 7, 3) := by decide +kernel
theorem dKS_init_8 : decode c_KS_init 8 = .ok (.iload_n 1, 1) := by decide +kernel
theorem dKS_init_9 : decode c_KS_init 9 = .ok (.iaload, 1) := by decide +kernel
theorem dKS_init_10 : decode c_KS_init 10 = .ok (.putfield 13, 3) := by decide +kernel
theorem dKS_init_13 : decode c_KS_init 13 = .ok (.aload_n 0, 1) := by decide +kernel
theorem dKS_init_14 : decode c_KS_init 14 = .ok (.getstatic 17, 3) := by decide +kernel
theorem dKS_init_17 : decode c_KS_init 17 = .ok (.iload_n 1, 1) := by decide +kernel
theorem dKS_init_18 : decode c_KS_init 18 = .ok (.iaload, 1) := by decide +kernel
theorem dKS_init_19 : decode c_KS_init 19 = .ok (.putfield 20, 3) := by decide +kernel
theorem dKS_init_22 : decode c_KS_init 22 = .ok (.aload_n 0, 1) := by decide +kernel
theorem dKS_init_23 : decode c_KS_init 23 = .ok (.getstatic 23, 3) := by decide +kernel
theorem dKS_init_26 : decode c_KS_init 26 = .ok (.iload_n 1, 1) := by decide +kernel
theorem dKS_init_27 : decode c_KS_init 27 = .ok (.iaload, 1) := by decide +kernel
theorem dKS_init_28 : decode c_KS_init 28 = .ok (.putfield 26, 3) := by decide +kernel
theorem dKS_init_31 : decode c_KS_init 31 = .ok (.aload_n 0, 1) := by decide +kernel
theorem dKS_init_32 : decode c_KS_init 32 = .ok (.getstatic 29, 3) := by decide +kernel
theorem dKS_init_35 : decode c_KS_init 35 = .ok (.iload_n 1, 1) := by decide +kernel
theorem dKS_init_36 : decode c_KS_init 36 = .ok (.iaload, 1) := by decide +kernel
theorem dKS_init_37 : decode c_KS_init 37 = .ok (.putfield 32, 3) := by decide +kernel
theorem dKS_init_40 : decode c_KS_init 40 = .ok (.aload_n 0, 1) := by decide +kernel
theorem dKS_init_41 : decode c_KS_init 41 = .ok (.sipush 384, 3) := by decide +kernel
theorem dKS_init_44 : decode c_KS_init 44 = .ok (.aload_n 0, 1) := by decide +kernel
theorem dKS_init_45 : decode c_KS_init 45 = .ok (.getfield 13, 3) := by decide +kernel
theorem dKS_init_48 : decode c_KS_init 48 = .ok (.imul, 1) := by decide +kernel
theorem dKS_init_49 : decode c_KS_init 49 = .ok (.bipush 32, 2) := by decide +kernel
theorem dKS_init_51 : decode c_KS_init 51 = .ok (.iadd, 1) := by decide +kernel
theorem dKS_init_52 : decode c_KS_init 52 = .ok (.putfield 37, 3) := by decide +kernel
theorem dKS_init_55 : decode c_KS_init 55 = .ok (.aload_n 0, 1) := by decide +kernel
theorem dKS_init_56 : decode c_KS_init 56 = .ok (.bipush 32, 2) := by decide +kernel
theorem dKS_init_58 : decode c_KS_init 58 = .ok (.aload_n 0, 1) := by decide +kernel
theorem dKS_init_59 : decode c_KS_init 59 = .ok (.getfield 26, 3) := by decide +kernel
theorem dKS_init_62 : decode c_KS_init 62 = .ok (.aload_n 0, 1) := by decide +kernel
theorem dKS_init_63 : decode c_KS_init 63 = .ok (.getfield 13, 3) := by decide +kernel
theorem dKS_init_66 : decode c_KS_init 66 = .ok (.imul, 1) := by decide +kernel
theorem dKS_init_67 : decode c_KS_init 67 = .ok (.aload_n 0, 1) := by decide +kernel
theorem dKS_init_68 : decode c_KS_init 68 = .ok (.getfield 32, 3) := by decide +kernel
theorem dKS_init_71 : decode c_KS_init 71 = .ok (.iadd, 1) := by decide +kernel
theorem dKS_init_72 : decode c_KS_init 72 = .ok (.imul, 1) := by decide +kernel
theorem dKS_init_73 : decode c_KS_init 73 = .ok (.putfield 40, 3) := by decide +kernel
theorem dKS_init_76 : decode c_KS_init 76 = .ok (.aload_n 0, 1) := by decide +kernel
theorem dKS_init_77 : decode c_KS_init 77 = .ok (.sipush 384, 3) := by decide +kernel
theorem dKS_init_80 : decode c_KS_init 80 = .ok (.aload_n 0, 1) := by decide +kernel
theorem dKS_init_81 : decode c_KS_init 81 = .ok (.getfield 13, 3) := by decide +kernel
theorem dKS_init_84 : decode c_KS_init 84 = .ok (.imul, 1) := by decide +kernel
theorem dKS_init_85 : decode c_KS_init 85 = .ok (.putfield 43, 3) := by decide +kernel
theorem dKS_init_88 : decode c_KS_init 88 = .ok (.aload_n 0, 1) := by decide +kernel
theorem dKS_init_89 : decode c_KS_init 89 = .ok (.aload_n 0, 1) := by decide +kernel
theorem dKS_init_90 : decode c_KS_init 90 = .ok (.getfield 43, 3) := by decide +kernel
theorem dKS_init_93 : decode c_KS_init 93 = .ok (.aload_n 0, 1) := by decide +kernel
theorem dKS_init_94 : decode c_KS_init 94 = .ok (.getfield 37, 3) := by decide +kernel
theorem dKS_init_97 : decode c_KS_init 97 = .ok (.iadd, 1) := by decide +kernel
theorem dKS_init_98 : decode c_KS_init 98 = .ok (.putfield 46, 3) := by decide +kernel
theorem dKS_init_101 : decode c_KS_init 101 = .ok (.aload_n 0, 1) := by decide +kernel
theorem dKS_init_102 : decode c_KS_init 102 = .ok (.aload_n 0, 1) := by decide +kernel
theorem dKS_init_103 : decode c_KS_init 103 = .ok (.getfield 46, 3) := by decide +kernel
theorem dKS_init_106 : decode c_KS_init 106 = .ok (.bipush 32, 2) := by decide +kernel
theorem dKS_init_108 : decode c_KS_init 108 = .ok (.iadd, 1) := by decide +kernel
theorem dKS_init_109 : decode c_KS_init 109 = .ok (.putfield 49, 3) := by decide +kernel
theorem dKS_init_112 : decode c_KS_init 112 = .ok (.aload_n 0, 1) := by decide +kernel
theorem dKS_init_113 : decode c_KS_init 113 = .ok (.aload_n 0, 1) := by decide +kernel
theorem dKS_init_114 : decode c_KS_init 114 = .ok (.getfield 49, 3) := by decide +kernel
theorem dKS_init_117 : decode c_KS_init 117 = .ok (.bipush 32, 2) := by decide +kernel
theorem dKS_init_119 : decode c_KS_init 119 = .ok (.iadd, 1) := by decide +kernel
theorem dKS_init_120 : decode c_KS_init 120 = .ok (.putfield 52, 3) := by decide +kernel
theorem dKS_init_123 : decode c_KS_init 123 = .ok (.return_, 1) := by decide +kernel
set_option maxHeartbeats 400000 in
set_option maxRecDepth 100000 in
theorem m_KS_init_0 (l : Launch) (g : Gd) (sz : Nat) (h0 : Nat)  : Met l y_KS_init w_KS_init ({ frames := 1, cells := 0, slots := 0, locals := 12 } : Room) (va_Pc [.ref h0, .int (nI 0)] (pr (en g) g.1 vcl sz [(h0, .inr (1, [.int 0, .int 0, .int 0, .int 0, .int 0, .int 0, .int 0, .int 0, .int 0, .int 0]))])) (va_Qv (fun (u : Unit) => True) (po g.1 vcl (va_A [(h0, .inr (1, [.int 0, .int 0, .int 0, .int 0, .int 0, .int 0, .int 0, .int 0, .int 0, .int 0]))] sz) (fun (u : Unit) => [(h0, .inr (1, [.int (nI 2), .int (nI 3), .int (nI 10), .int (nI 4), .int (nI 800), .int (nI 1632), .int (nI 768), .int (nI 768), .int (nI 1568), .int (nI 1600)]))])) (va_A [(h0, .inr (1, [.int 0, .int 0, .int 0, .int 0, .int 0, .int 0, .int 0, .int 0, .int 0, .int 0]))] sz)) 0 0 (va_A [(h0, .inr (1, [.int 0, .int 0, .int 0, .int 0, .int 0, .int 0, .int 0, .int 0, .int 0, .int 0]))] sz) := by
  refine mc_entry (cc := c_KS_init) (maxL := 2) (ret := none) (by decide) rfl (Nat.le_of_ble_eq_true rfl) ?_
  intro p e s m args below meth c ls F hr hlk hnm hsz hP hD hE hA hl
  obtain ⟨hx, hb, hml, hown, hts⟩ := id F
  have hK := hE.1
  generalize va_A [(h0, .inr (1, [.int 0, .int 0, .int 0, .int 0, .int 0, .int 0, .int 0, .int 0, .int 0, .int 0]))] sz = A at hD hE hA ⊢
  have hS : va_S A s.heap s.heap [] := va_S.rf
  have hl : lv_has ls 2 [(0, .ref h0), (1, .int (nI 0))] := hl
  refine lv_aload_n hx hb dKS_init_0 rfl (lv_at hl 0 rfl) ?_
  refine W.objInit hx hb hown (hts _ (wg_t kw_221)) (hts _ (wg_t kw_41)) (hts _ (wg_t kobj)) rfl (by rw [hml]; exact hl.1) rfl dKS_init_1 (Nat.le_of_ble_eq_true rfl) (Nat.le_of_ble_eq_true rfl) ?_
  refine W.eq (g2 := F0 m 4 ls []) rfl ?_
  refine lv_aload_n hx hb dKS_init_4 rfl (lv_at hl 0 rfl) ?_
  refine va_gets hx hb (hE.2.1 5 _ rfl).1 hS hown (hts _ (wg_t kw_222)) (fun _ h9 => h9) dKS_init_5 ?_
  refine lv_iload_n hx hb dKS_init_8 rfl (lv_at hl 1 rfl) ?_
  refine va_ti (v := .int (nI 2)) hx hb (hE.2.1 5 _ rfl).2 hS (vp_in_nI (by decide) (by decide)) (by decide +kernel) dKS_init_9 ?_
  refine va_putF (D := g.1) (ci := 1) (v := .int (nI 2)) (ty := .int) (C := "LatticeKeys$KemSet") (T := T_KS) (N := 10) hx hb hts (wg_ft i_KS) ty_KS k_KS n_KS hown hK hP hD hS 0 rfl rfl 0 (by decide) (hts _ (wg_t kw_230)) (fun _ h9 => h9) rfl hnm rfl (by decide +kernel) rfl rfl (Nat.le_of_ble_eq_true rfl) dKS_init_10 (fun H locs hP hD hS => ?_)
  have hP : va_P g.1 vcl [(h0, .inr (1, [.int (nI 2), .int 0, .int 0, .int 0, .int 0, .int 0, .int 0, .int 0, .int 0, .int 0]))] _ := hP
  have hD : va_D _ [(h0, .inr (1, [.int (nI 2), .int 0, .int 0, .int 0, .int 0, .int 0, .int 0, .int 0, .int 0, .int 0]))] := hD
  refine lv_aload_n hx hb dKS_init_13 rfl (lv_at hl 0 rfl) ?_
  refine va_gets hx hb (hE.2.1 6 _ rfl).1 hS hown (hts _ (wg_t kw_224)) (fun _ h9 => h9) dKS_init_14 ?_
  refine lv_iload_n hx hb dKS_init_17 rfl (lv_at hl 1 rfl) ?_
  refine va_ti (v := .int (nI 3)) hx hb (hE.2.1 6 _ rfl).2 hS (vp_in_nI (by decide) (by decide)) (by decide +kernel) dKS_init_18 ?_
  refine va_putF (D := g.1) (ci := 1) (v := .int (nI 3)) (ty := .int) (C := "LatticeKeys$KemSet") (T := T_KS) (N := 10) hx hb hts (wg_ft i_KS) ty_KS k_KS n_KS hown hK hP hD hS 0 rfl rfl 1 (by decide) (hts _ (wg_t kw_232)) (fun _ h9 => h9) rfl hnm rfl (by decide +kernel) rfl rfl (Nat.le_of_ble_eq_true rfl) dKS_init_19 (fun H locs hP hD hS => ?_)
  have hP : va_P g.1 vcl [(h0, .inr (1, [.int (nI 2), .int (nI 3), .int 0, .int 0, .int 0, .int 0, .int 0, .int 0, .int 0, .int 0]))] _ := hP
  have hD : va_D _ [(h0, .inr (1, [.int (nI 2), .int (nI 3), .int 0, .int 0, .int 0, .int 0, .int 0, .int 0, .int 0, .int 0]))] := hD
  refine lv_aload_n hx hb dKS_init_22 rfl (lv_at hl 0 rfl) ?_
  refine va_gets hx hb (hE.2.1 7 _ rfl).1 hS hown (hts _ (wg_t kw_226)) (fun _ h9 => h9) dKS_init_23 ?_
  refine lv_iload_n hx hb dKS_init_26 rfl (lv_at hl 1 rfl) ?_
  refine va_ti (v := .int (nI 10)) hx hb (hE.2.1 7 _ rfl).2 hS (vp_in_nI (by decide) (by decide)) (by decide +kernel) dKS_init_27 ?_
  refine va_putF (D := g.1) (ci := 1) (v := .int (nI 10)) (ty := .int) (C := "LatticeKeys$KemSet") (T := T_KS) (N := 10) hx hb hts (wg_ft i_KS) ty_KS k_KS n_KS hown hK hP hD hS 0 rfl rfl 2 (by decide) (hts _ (wg_t kw_234)) (fun _ h9 => h9) rfl hnm rfl (by decide +kernel) rfl rfl (Nat.le_of_ble_eq_true rfl) dKS_init_28 (fun H locs hP hD hS => ?_)
  have hP : va_P g.1 vcl [(h0, .inr (1, [.int (nI 2), .int (nI 3), .int (nI 10), .int 0, .int 0, .int 0, .int 0, .int 0, .int 0, .int 0]))] _ := hP
  have hD : va_D _ [(h0, .inr (1, [.int (nI 2), .int (nI 3), .int (nI 10), .int 0, .int 0, .int 0, .int 0, .int 0, .int 0, .int 0]))] := hD
  refine lv_aload_n hx hb dKS_init_31 rfl (lv_at hl 0 rfl) ?_
  refine va_gets hx hb (hE.2.1 8 _ rfl).1 hS hown (hts _ (wg_t kw_228)) (fun _ h9 => h9) dKS_init_32 ?_
  refine lv_iload_n hx hb dKS_init_35 rfl (lv_at hl 1 rfl) ?_
  refine va_ti (v := .int (nI 4)) hx hb (hE.2.1 8 _ rfl).2 hS (vp_in_nI (by decide) (by decide)) (by decide +kernel) dKS_init_36 ?_
  refine va_putF (D := g.1) (ci := 1) (v := .int (nI 4)) (ty := .int) (C := "LatticeKeys$KemSet") (T := T_KS) (N := 10) hx hb hts (wg_ft i_KS) ty_KS k_KS n_KS hown hK hP hD hS 0 rfl rfl 3 (by decide) (hts _ (wg_t kw_236)) (fun _ h9 => h9) rfl hnm rfl (by decide +kernel) rfl rfl (Nat.le_of_ble_eq_true rfl) dKS_init_37 (fun H locs hP hD hS => ?_)
  have hP : va_P g.1 vcl [(h0, .inr (1, [.int (nI 2), .int (nI 3), .int (nI 10), .int (nI 4), .int 0, .int 0, .int 0, .int 0, .int 0, .int 0]))] _ := hP
  have hD : va_D _ [(h0, .inr (1, [.int (nI 2), .int (nI 3), .int (nI 10), .int (nI 4), .int 0, .int 0, .int 0, .int 0, .int 0, .int 0]))] := hD
  refine lv_aload_n hx hb dKS_init_40 rfl (lv_at hl 0 rfl) ?_
  refine lv_sipush (v := nI 384) hx hb dKS_init_41 (by decide) ?_
  refine lv_aload_n hx hb dKS_init_44 rfl (lv_at hl 0 rfl) ?_
  refine va_get (D := g.1) (ci := 1) (C := "LatticeKeys$KemSet") (T := T_KS) (N := 10) hx hb hts (wg_ft i_KS) hown hK hP 0 rfl rfl 0 (by decide) (hts _ (wg_t kw_230)) (fun _ h9 => h9) rfl dKS_init_45 ?_
  refine mi_imul hx hb dKS_init_48 ?_
  refine mi_as (show nI (384 * 2) = nI 768 from rfl) ?_
  refine lv_bipush (v := nI 32) hx hb dKS_init_49 (by decide) ?_
  refine mi_iadd hx hb dKS_init_51 ?_
  refine mi_as (show nI (768 + 32) = nI 800 from rfl) ?_
  refine va_putF (D := g.1) (ci := 1) (v := .int (nI 800)) (ty := .int) (C := "LatticeKeys$KemSet") (T := T_KS) (N := 10) hx hb hts (wg_ft i_KS) ty_KS k_KS n_KS hown hK hP hD hS 0 rfl rfl 4 (by decide) (hts _ (wg_t kw_238)) (fun _ h9 => h9) rfl hnm rfl (by decide +kernel) rfl rfl (Nat.le_of_ble_eq_true rfl) dKS_init_52 (fun H locs hP hD hS => ?_)
  have hP : va_P g.1 vcl [(h0, .inr (1, [.int (nI 2), .int (nI 3), .int (nI 10), .int (nI 4), .int (nI 800), .int 0, .int 0, .int 0, .int 0, .int 0]))] _ := hP
  have hD : va_D _ [(h0, .inr (1, [.int (nI 2), .int (nI 3), .int (nI 10), .int (nI 4), .int (nI 800), .int 0, .int 0, .int 0, .int 0, .int 0]))] := hD
  refine lv_aload_n hx hb dKS_init_55 rfl (lv_at hl 0 rfl) ?_
  refine lv_bipush (v := nI 32) hx hb dKS_init_56 (by decide) ?_
  refine lv_aload_n hx hb dKS_init_58 rfl (lv_at hl 0 rfl) ?_
  refine va_get (D := g.1) (ci := 1) (C := "LatticeKeys$KemSet") (T := T_KS) (N := 10) hx hb hts (wg_ft i_KS) hown hK hP 0 rfl rfl 2 (by decide) (hts _ (wg_t kw_234)) (fun _ h9 => h9) rfl dKS_init_59 ?_
  refine lv_aload_n hx hb dKS_init_62 rfl (lv_at hl 0 rfl) ?_
  refine va_get (D := g.1) (ci := 1) (C := "LatticeKeys$KemSet") (T := T_KS) (N := 10) hx hb hts (wg_ft i_KS) hown hK hP 0 rfl rfl 0 (by decide) (hts _ (wg_t kw_230)) (fun _ h9 => h9) rfl dKS_init_63 ?_
  refine mi_imul hx hb dKS_init_66 ?_
  refine mi_as (show nI (10 * 2) = nI 20 from rfl) ?_
  refine lv_aload_n hx hb dKS_init_67 rfl (lv_at hl 0 rfl) ?_
  refine va_get (D := g.1) (ci := 1) (C := "LatticeKeys$KemSet") (T := T_KS) (N := 10) hx hb hts (wg_ft i_KS) hown hK hP 0 rfl rfl 3 (by decide) (hts _ (wg_t kw_236)) (fun _ h9 => h9) rfl dKS_init_68 ?_
  refine mi_iadd hx hb dKS_init_71 ?_
  refine mi_as (show nI (20 + 4) = nI 24 from rfl) ?_
  refine mi_imul hx hb dKS_init_72 ?_
  refine mi_as (show nI (32 * 24) = nI 768 from rfl) ?_
  refine va_putF (D := g.1) (ci := 1) (v := .int (nI 768)) (ty := .int) (C := "LatticeKeys$KemSet") (T := T_KS) (N := 10) hx hb hts (wg_ft i_KS) ty_KS k_KS n_KS hown hK hP hD hS 0 rfl rfl 6 (by decide) (hts _ (wg_t kw_243)) (fun _ h9 => h9) rfl hnm rfl (by decide +kernel) rfl rfl (Nat.le_of_ble_eq_true rfl) dKS_init_73 (fun H locs hP hD hS => ?_)
  have hP : va_P g.1 vcl [(h0, .inr (1, [.int (nI 2), .int (nI 3), .int (nI 10), .int (nI 4), .int (nI 800), .int 0, .int (nI 768), .int 0, .int 0, .int 0]))] _ := hP
  have hD : va_D _ [(h0, .inr (1, [.int (nI 2), .int (nI 3), .int (nI 10), .int (nI 4), .int (nI 800), .int 0, .int (nI 768), .int 0, .int 0, .int 0]))] := hD
  refine lv_aload_n hx hb dKS_init_76 rfl (lv_at hl 0 rfl) ?_
  refine lv_sipush (v := nI 384) hx hb dKS_init_77 (by decide) ?_
  refine lv_aload_n hx hb dKS_init_80 rfl (lv_at hl 0 rfl) ?_
  refine va_get (D := g.1) (ci := 1) (C := "LatticeKeys$KemSet") (T := T_KS) (N := 10) hx hb hts (wg_ft i_KS) hown hK hP 0 rfl rfl 0 (by decide) (hts _ (wg_t kw_230)) (fun _ h9 => h9) rfl dKS_init_81 ?_
  refine mi_imul hx hb dKS_init_84 ?_
  refine mi_as (show nI (384 * 2) = nI 768 from rfl) ?_
  refine va_putF (D := g.1) (ci := 1) (v := .int (nI 768)) (ty := .int) (C := "LatticeKeys$KemSet") (T := T_KS) (N := 10) hx hb hts (wg_ft i_KS) ty_KS k_KS n_KS hown hK hP hD hS 0 rfl rfl 7 (by decide) (hts _ (wg_t kw_246)) (fun _ h9 => h9) rfl hnm rfl (by decide +kernel) rfl rfl (Nat.le_of_ble_eq_true rfl) dKS_init_85 (fun H locs hP hD hS => ?_)
  have hP : va_P g.1 vcl [(h0, .inr (1, [.int (nI 2), .int (nI 3), .int (nI 10), .int (nI 4), .int (nI 800), .int 0, .int (nI 768), .int (nI 768), .int 0, .int 0]))] _ := hP
  have hD : va_D _ [(h0, .inr (1, [.int (nI 2), .int (nI 3), .int (nI 10), .int (nI 4), .int (nI 800), .int 0, .int (nI 768), .int (nI 768), .int 0, .int 0]))] := hD
  refine lv_aload_n hx hb dKS_init_88 rfl (lv_at hl 0 rfl) ?_
  refine lv_aload_n hx hb dKS_init_89 rfl (lv_at hl 0 rfl) ?_
  refine va_get (D := g.1) (ci := 1) (C := "LatticeKeys$KemSet") (T := T_KS) (N := 10) hx hb hts (wg_ft i_KS) hown hK hP 0 rfl rfl 7 (by decide) (hts _ (wg_t kw_246)) (fun _ h9 => h9) rfl dKS_init_90 ?_
  refine lv_aload_n hx hb dKS_init_93 rfl (lv_at hl 0 rfl) ?_
  refine va_get (D := g.1) (ci := 1) (C := "LatticeKeys$KemSet") (T := T_KS) (N := 10) hx hb hts (wg_ft i_KS) hown hK hP 0 rfl rfl 4 (by decide) (hts _ (wg_t kw_238)) (fun _ h9 => h9) rfl dKS_init_94 ?_
  refine mi_iadd hx hb dKS_init_97 ?_
  refine mi_as (show nI (768 + 800) = nI 1568 from rfl) ?_
  refine va_putF (D := g.1) (ci := 1) (v := .int (nI 1568)) (ty := .int) (C := "LatticeKeys$KemSet") (T := T_KS) (N := 10) hx hb hts (wg_ft i_KS) ty_KS k_KS n_KS hown hK hP hD hS 0 rfl rfl 8 (by decide) (hts _ (wg_t kw_249)) (fun _ h9 => h9) rfl hnm rfl (by decide +kernel) rfl rfl (Nat.le_of_ble_eq_true rfl) dKS_init_98 (fun H locs hP hD hS => ?_)
  have hP : va_P g.1 vcl [(h0, .inr (1, [.int (nI 2), .int (nI 3), .int (nI 10), .int (nI 4), .int (nI 800), .int 0, .int (nI 768), .int (nI 768), .int (nI 1568), .int 0]))] _ := hP
  have hD : va_D _ [(h0, .inr (1, [.int (nI 2), .int (nI 3), .int (nI 10), .int (nI 4), .int (nI 800), .int 0, .int (nI 768), .int (nI 768), .int (nI 1568), .int 0]))] := hD
  refine lv_aload_n hx hb dKS_init_101 rfl (lv_at hl 0 rfl) ?_
  refine lv_aload_n hx hb dKS_init_102 rfl (lv_at hl 0 rfl) ?_
  refine va_get (D := g.1) (ci := 1) (C := "LatticeKeys$KemSet") (T := T_KS) (N := 10) hx hb hts (wg_ft i_KS) hown hK hP 0 rfl rfl 8 (by decide) (hts _ (wg_t kw_249)) (fun _ h9 => h9) rfl dKS_init_103 ?_
  refine lv_bipush (v := nI 32) hx hb dKS_init_106 (by decide) ?_
  refine mi_iadd hx hb dKS_init_108 ?_
  refine mi_as (show nI (1568 + 32) = nI 1600 from rfl) ?_
  refine va_putF (D := g.1) (ci := 1) (v := .int (nI 1600)) (ty := .int) (C := "LatticeKeys$KemSet") (T := T_KS) (N := 10) hx hb hts (wg_ft i_KS) ty_KS k_KS n_KS hown hK hP hD hS 0 rfl rfl 9 (by decide) (hts _ (wg_t kw_251)) (fun _ h9 => h9) rfl hnm rfl (by decide +kernel) rfl rfl (Nat.le_of_ble_eq_true rfl) dKS_init_109 (fun H locs hP hD hS => ?_)
  have hP : va_P g.1 vcl [(h0, .inr (1, [.int (nI 2), .int (nI 3), .int (nI 10), .int (nI 4), .int (nI 800), .int 0, .int (nI 768), .int (nI 768), .int (nI 1568), .int (nI 1600)]))] _ := hP
  have hD : va_D _ [(h0, .inr (1, [.int (nI 2), .int (nI 3), .int (nI 10), .int (nI 4), .int (nI 800), .int 0, .int (nI 768), .int (nI 768), .int (nI 1568), .int (nI 1600)]))] := hD
  refine lv_aload_n hx hb dKS_init_112 rfl (lv_at hl 0 rfl) ?_
  refine lv_aload_n hx hb dKS_init_113 rfl (lv_at hl 0 rfl) ?_
  refine va_get (D := g.1) (ci := 1) (C := "LatticeKeys$KemSet") (T := T_KS) (N := 10) hx hb hts (wg_ft i_KS) hown hK hP 0 rfl rfl 9 (by decide) (hts _ (wg_t kw_251)) (fun _ h9 => h9) rfl dKS_init_114 ?_
  refine lv_bipush (v := nI 32) hx hb dKS_init_117 (by decide) ?_
  refine mi_iadd hx hb dKS_init_119 ?_
  refine mi_as (show nI (1600 + 32) = nI 1632 from rfl) ?_
  refine va_putF (D := g.1) (ci := 1) (v := .int (nI 1632)) (ty := .int) (C := "LatticeKeys$KemSet") (T := T_KS) (N := 10) hx hb hts (wg_ft i_KS) ty_KS k_KS n_KS hown hK hP hD hS 0 rfl rfl 5 (by decide) (hts _ (wg_t kw_241)) (fun _ h9 => h9) rfl hnm rfl (by decide +kernel) rfl rfl (Nat.le_of_ble_eq_true rfl) dKS_init_120 (fun H locs hP hD hS => ?_)
  have hP : va_P g.1 vcl [(h0, .inr (1, [.int (nI 2), .int (nI 3), .int (nI 10), .int (nI 4), .int (nI 800), .int (nI 1632), .int (nI 768), .int (nI 768), .int (nI 1568), .int (nI 1600)]))] _ := hP
  have hD : va_D _ [(h0, .inr (1, [.int (nI 2), .int (nI 3), .int (nI 10), .int (nI 4), .int (nI 800), .int (nI 1632), .int (nI 768), .int (nI 768), .int (nI 1568), .int (nI 1600)]))] := hD
  exact mc_vret hx hb hr hlk hP hD hS () trivial [0] rfl rfl (by omega) (by omega) dKS_init_123
set_option maxHeartbeats 400000 in
set_option maxRecDepth 100000 in
theorem m_KS_init_1 (l : Launch) (g : Gd) (sz : Nat) (h0 : Nat)  : Met l y_KS_init w_KS_init ({ frames := 1, cells := 0, slots := 0, locals := 12 } : Room) (va_Pc [.ref h0, .int (nI 1)] (pr (en g) g.1 vcl sz [(h0, .inr (1, [.int 0, .int 0, .int 0, .int 0, .int 0, .int 0, .int 0, .int 0, .int 0, .int 0]))])) (va_Qv (fun (u : Unit) => True) (po g.1 vcl (va_A [(h0, .inr (1, [.int 0, .int 0, .int 0, .int 0, .int 0, .int 0, .int 0, .int 0, .int 0, .int 0]))] sz) (fun (u : Unit) => [(h0, .inr (1, [.int (nI 3), .int (nI 2), .int (nI 10), .int (nI 4), .int (nI 1184), .int (nI 2400), .int (nI 1088), .int (nI 1152), .int (nI 2336), .int (nI 2368)]))])) (va_A [(h0, .inr (1, [.int 0, .int 0, .int 0, .int 0, .int 0, .int 0, .int 0, .int 0, .int 0, .int 0]))] sz)) 0 0 (va_A [(h0, .inr (1, [.int 0, .int 0, .int 0, .int 0, .int 0, .int 0, .int 0, .int 0, .int 0, .int 0]))] sz) := by
  refine mc_entry (cc := c_KS_init) (maxL := 2) (ret := none) (by decide) rfl (Nat.le_of_ble_eq_true rfl) ?_
  intro p e s m args below meth c ls F hr hlk hnm hsz hP hD hE hA hl
  obtain ⟨hx, hb, hml, hown, hts⟩ := id F
  have hK := hE.1
  generalize va_A [(h0, .inr (1, [.int 0, .int 0, .int 0, .int 0, .int 0, .int 0, .int 0, .int 0, .int 0, .int 0]))] sz = A at hD hE hA ⊢
  have hS : va_S A s.heap s.heap [] := va_S.rf
  have hl : lv_has ls 2 [(0, .ref h0), (1, .int (nI 1))] := hl
  refine lv_aload_n hx hb dKS_init_0 rfl (lv_at hl 0 rfl) ?_
  refine W.objInit hx hb hown (hts _ (wg_t kw_221)) (hts _ (wg_t kw_41)) (hts _ (wg_t kobj)) rfl (by rw [hml]; exact hl.1) rfl dKS_init_1 (Nat.le_of_ble_eq_true rfl) (Nat.le_of_ble_eq_true rfl) ?_
  refine W.eq (g2 := F0 m 4 ls []) rfl ?_
  refine lv_aload_n hx hb dKS_init_4 rfl (lv_at hl 0 rfl) ?_
  refine va_gets hx hb (hE.2.1 5 _ rfl).1 hS hown (hts _ (wg_t kw_222)) (fun _ h9 => h9) dKS_init_5 ?_
  refine lv_iload_n hx hb dKS_init_8 rfl (lv_at hl 1 rfl) ?_
  refine va_ti (v := .int (nI 3)) hx hb (hE.2.1 5 _ rfl).2 hS (vp_in_nI (by decide) (by decide)) (by decide +kernel) dKS_init_9 ?_
  refine va_putF (D := g.1) (ci := 1) (v := .int (nI 3)) (ty := .int) (C := "LatticeKeys$KemSet") (T := T_KS) (N := 10) hx hb hts (wg_ft i_KS) ty_KS k_KS n_KS hown hK hP hD hS 0 rfl rfl 0 (by decide) (hts _ (wg_t kw_230)) (fun _ h9 => h9) rfl hnm rfl (by decide +kernel) rfl rfl (Nat.le_of_ble_eq_true rfl) dKS_init_10 (fun H locs hP hD hS => ?_)
  have hP : va_P g.1 vcl [(h0, .inr (1, [.int (nI 3), .int 0, .int 0, .int 0, .int 0, .int 0, .int 0, .int 0, .int 0, .int 0]))] _ := hP
  have hD : va_D _ [(h0, .inr (1, [.int (nI 3), .int 0, .int 0, .int 0, .int 0, .int 0, .int 0, .int 0, .int 0, .int 0]))] := hD
  refine lv_aload_n hx hb dKS_init_13 rfl (lv_at hl 0 rfl) ?_
  refine va_gets hx hb (hE.2.1 6 _ rfl).1 hS hown (hts _ (wg_t kw_224)) (fun _ h9 => h9) dKS_init_14 ?_
  refine lv_iload_n hx hb dKS_init_17 rfl (lv_at hl 1 rfl) ?_
  refine va_ti (v := .int (nI 2)) hx hb (hE.2.1 6 _ rfl).2 hS (vp_in_nI (by decide) (by decide)) (by decide +kernel) dKS_init_18 ?_
  refine va_putF (D := g.1) (ci := 1) (v := .int (nI 2)) (ty := .int) (C := "LatticeKeys$KemSet") (T := T_KS) (N := 10) hx hb hts (wg_ft i_KS) ty_KS k_KS n_KS hown hK hP hD hS 0 rfl rfl 1 (by decide) (hts _ (wg_t kw_232)) (fun _ h9 => h9) rfl hnm rfl (by decide +kernel) rfl rfl (Nat.le_of_ble_eq_true rfl) dKS_init_19 (fun H locs hP hD hS => ?_)
  have hP : va_P g.1 vcl [(h0, .inr (1, [.int (nI 3), .int (nI 2), .int 0, .int 0, .int 0, .int 0, .int 0, .int 0, .int 0, .int 0]))] _ := hP
  have hD : va_D _ [(h0, .inr (1, [.int (nI 3), .int (nI 2), .int 0, .int 0, .int 0, .int 0, .int 0, .int 0, .int 0, .int 0]))] := hD
  refine lv_aload_n hx hb dKS_init_22 rfl (lv_at hl 0 rfl) ?_
  refine va_gets hx hb (hE.2.1 7 _ rfl).1 hS hown (hts _ (wg_t kw_226)) (fun _ h9 => h9) dKS_init_23 ?_
  refine lv_iload_n hx hb dKS_init_26 rfl (lv_at hl 1 rfl) ?_
  refine va_ti (v := .int (nI 10)) hx hb (hE.2.1 7 _ rfl).2 hS (vp_in_nI (by decide) (by decide)) (by decide +kernel) dKS_init_27 ?_
  refine va_putF (D := g.1) (ci := 1) (v := .int (nI 10)) (ty := .int) (C := "LatticeKeys$KemSet") (T := T_KS) (N := 10) hx hb hts (wg_ft i_KS) ty_KS k_KS n_KS hown hK hP hD hS 0 rfl rfl 2 (by decide) (hts _ (wg_t kw_234)) (fun _ h9 => h9) rfl hnm rfl (by decide +kernel) rfl rfl (Nat.le_of_ble_eq_true rfl) dKS_init_28 (fun H locs hP hD hS => ?_)
  have hP : va_P g.1 vcl [(h0, .inr (1, [.int (nI 3), .int (nI 2), .int (nI 10), .int 0, .int 0, .int 0, .int 0, .int 0, .int 0, .int 0]))] _ := hP
  have hD : va_D _ [(h0, .inr (1, [.int (nI 3), .int (nI 2), .int (nI 10), .int 0, .int 0, .int 0, .int 0, .int 0, .int 0, .int 0]))] := hD
  refine lv_aload_n hx hb dKS_init_31 rfl (lv_at hl 0 rfl) ?_
  refine va_gets hx hb (hE.2.1 8 _ rfl).1 hS hown (hts _ (wg_t kw_228)) (fun _ h9 => h9) dKS_init_32 ?_
  refine lv_iload_n hx hb dKS_init_35 rfl (lv_at hl 1 rfl) ?_
  refine va_ti (v := .int (nI 4)) hx hb (hE.2.1 8 _ rfl).2 hS (vp_in_nI (by decide) (by decide)) (by decide +kernel) dKS_init_36 ?_
  refine va_putF (D := g.1) (ci := 1) (v := .int (nI 4)) (ty := .int) (C := "LatticeKeys$KemSet") (T := T_KS) (N := 10) hx hb hts (wg_ft i_KS) ty_KS k_KS n_KS hown hK hP hD hS 0 rfl rfl 3 (by decide) (hts _ (wg_t kw_236)) (fun _ h9 => h9) rfl hnm rfl (by decide +kernel) rfl rfl (Nat.le_of_ble_eq_true rfl) dKS_init_37 (fun H locs hP hD hS => ?_)
  have hP : va_P g.1 vcl [(h0, .inr (1, [.int (nI 3), .int (nI 2), .int (nI 10), .int (nI 4), .int 0, .int 0, .int 0, .int 0, .int 0, .int 0]))] _ := hP
  have hD : va_D _ [(h0, .inr (1, [.int (nI 3), .int (nI 2), .int (nI 10), .int (nI 4), .int 0, .int 0, .int 0, .int 0, .int 0, .int 0]))] := hD
  refine lv_aload_n hx hb dKS_init_40 rfl (lv_at hl 0 rfl) ?_
  refine lv_sipush (v := nI 384) hx hb dKS_init_41 (by decide) ?_
  refine lv_aload_n hx hb dKS_init_44 rfl (lv_at hl 0 rfl) ?_
  refine va_get (D := g.1) (ci := 1) (C := "LatticeKeys$KemSet") (T := T_KS) (N := 10) hx hb hts (wg_ft i_KS) hown hK hP 0 rfl rfl 0 (by decide) (hts _ (wg_t kw_230)) (fun _ h9 => h9) rfl dKS_init_45 ?_
  refine mi_imul hx hb dKS_init_48 ?_
  refine mi_as (show nI (384 * 3) = nI 1152 from rfl) ?_
  refine lv_bipush (v := nI 32) hx hb dKS_init_49 (by decide) ?_
  refine mi_iadd hx hb dKS_init_51 ?_
  refine mi_as (show nI (1152 + 32) = nI 1184 from rfl) ?_
  refine va_putF (D := g.1) (ci := 1) (v := .int (nI 1184)) (ty := .int) (C := "LatticeKeys$KemSet") (T := T_KS) (N := 10) hx hb hts (wg_ft i_KS) ty_KS k_KS n_KS hown hK hP hD hS 0 rfl rfl 4 (by decide) (hts _ (wg_t kw_238)) (fun _ h9 => h9) rfl hnm rfl (by decide +kernel) rfl rfl (Nat.le_of_ble_eq_true rfl) dKS_init_52 (fun H locs hP hD hS => ?_)
  have hP : va_P g.1 vcl [(h0, .inr (1, [.int (nI 3), .int (nI 2), .int (nI 10), .int (nI 4), .int (nI 1184), .int 0, .int 0, .int 0, .int 0, .int 0]))] _ := hP
  have hD : va_D _ [(h0, .inr (1, [.int (nI 3), .int (nI 2), .int (nI 10), .int (nI 4), .int (nI 1184), .int 0, .int 0, .int 0, .int 0, .int 0]))] := hD
  refine lv_aload_n hx hb dKS_init_55 rfl (lv_at hl 0 rfl) ?_
  refine lv_bipush (v := nI 32) hx hb dKS_init_56 (by decide) ?_
  refine lv_aload_n hx hb dKS_init_58 rfl (lv_at hl 0 rfl) ?_
  refine va_get (D := g.1) (ci := 1) (C := "LatticeKeys$KemSet") (T := T_KS) (N := 10) hx hb hts (wg_ft i_KS) hown hK hP 0 rfl rfl 2 (by decide) (hts _ (wg_t kw_234)) (fun _ h9 => h9) rfl dKS_init_59 ?_
  refine lv_aload_n hx hb dKS_init_62 rfl (lv_at hl 0 rfl) ?_
  refine va_get (D := g.1) (ci := 1) (C := "LatticeKeys$KemSet") (T := T_KS) (N := 10) hx hb hts (wg_ft i_KS) hown hK hP 0 rfl rfl 0 (by decide) (hts _ (wg_t kw_230)) (fun _ h9 => h9) rfl dKS_init_63 ?_
  refine mi_imul hx hb dKS_init_66 ?_
  refine mi_as (show nI (10 * 3) = nI 30 from rfl) ?_
  refine lv_aload_n hx hb dKS_init_67 rfl (lv_at hl 0 rfl) ?_
  refine va_get (D := g.1) (ci := 1) (C := "LatticeKeys$KemSet") (T := T_KS) (N := 10) hx hb hts (wg_ft i_KS) hown hK hP 0 rfl rfl 3 (by decide) (hts _ (wg_t kw_236)) (fun _ h9 => h9) rfl dKS_init_68 ?_
  refine mi_iadd hx hb dKS_init_71 ?_
  refine mi_as (show nI (30 + 4) = nI 34 from rfl) ?_
  refine mi_imul hx hb dKS_init_72 ?_
  refine mi_as (show nI (32 * 34) = nI 1088 from rfl) ?_
  refine va_putF (D := g.1) (ci := 1) (v := .int (nI 1088)) (ty := .int) (C := "LatticeKeys$KemSet") (T := T_KS) (N := 10) hx hb hts (wg_ft i_KS) ty_KS k_KS n_KS hown hK hP hD hS 0 rfl rfl 6 (by decide) (hts _ (wg_t kw_243)) (fun _ h9 => h9) rfl hnm rfl (by decide +kernel) rfl rfl (Nat.le_of_ble_eq_true rfl) dKS_init_73 (fun H locs hP hD hS => ?_)
  have hP : va_P g.1 vcl [(h0, .inr (1, [.int (nI 3), .int (nI 2), .int (nI 10), .int (nI 4), .int (nI 1184), .int 0, .int (nI 1088), .int 0, .int 0, .int 0]))] _ := hP
  have hD : va_D _ [(h0, .inr (1, [.int (nI 3), .int (nI 2), .int (nI 10), .int (nI 4), .int (nI 1184), .int 0, .int (nI 1088), .int 0, .int 0, .int 0]))] := hD
  refine lv_aload_n hx hb dKS_init_76 rfl (lv_at hl 0 rfl) ?_
  refine lv_sipush (v := nI 384) hx hb dKS_init_77 (by decide) ?_
  refine lv_aload_n hx hb dKS_init_80 rfl (lv_at hl 0 rfl) ?_
  refine va_get (D := g.1) (ci := 1) (C := "LatticeKeys$KemSet") (T := T_KS) (N := 10) hx hb hts (wg_ft i_KS) hown hK hP 0 rfl rfl 0 (by decide) (hts _ (wg_t kw_230)) (fun _ h9 => h9) rfl dKS_init_81 ?_
  refine mi_imul hx hb dKS_init_84 ?_
  refine mi_as (show nI (384 * 3) = nI 1152 from rfl) ?_
  refine va_putF (D := g.1) (ci := 1) (v := .int (nI 1152)) (ty := .int) (C := "LatticeKeys$KemSet") (T := T_KS) (N := 10) hx hb hts (wg_ft i_KS) ty_KS k_KS n_KS hown hK hP hD hS 0 rfl rfl 7 (by decide) (hts _ (wg_t kw_246)) (fun _ h9 => h9) rfl hnm rfl (by decide +kernel) rfl rfl (Nat.le_of_ble_eq_true rfl) dKS_init_85 (fun H locs hP hD hS => ?_)
  have hP : va_P g.1 vcl [(h0, .inr (1, [.int (nI 3), .int (nI 2), .int (nI 10), .int (nI 4), .int (nI 1184), .int 0, .int (nI 1088), .int (nI 1152), .int 0, .int 0]))] _ := hP
  have hD : va_D _ [(h0, .inr (1, [.int (nI 3), .int (nI 2), .int (nI 10), .int (nI 4), .int (nI 1184), .int 0, .int (nI 1088), .int (nI 1152), .int 0, .int 0]))] := hD
  refine lv_aload_n hx hb dKS_init_88 rfl (lv_at hl 0 rfl) ?_
  refine lv_aload_n hx hb dKS_init_89 rfl (lv_at hl 0 rfl) ?_
  refine va_get (D := g.1) (ci := 1) (C := "LatticeKeys$KemSet") (T := T_KS) (N := 10) hx hb hts (wg_ft i_KS) hown hK hP 0 rfl rfl 7 (by decide) (hts _ (wg_t kw_246)) (fun _ h9 => h9) rfl dKS_init_90 ?_
  refine lv_aload_n hx hb dKS_init_93 rfl (lv_at hl 0 rfl) ?_
  refine va_get (D := g.1) (ci := 1) (C := "LatticeKeys$KemSet") (T := T_KS) (N := 10) hx hb hts (wg_ft i_KS) hown hK hP 0 rfl rfl 4 (by decide) (hts _ (wg_t kw_238)) (fun _ h9 => h9) rfl dKS_init_94 ?_
  refine mi_iadd hx hb dKS_init_97 ?_
  refine mi_as (show nI (1152 + 1184) = nI 2336 from rfl) ?_
  refine va_putF (D := g.1) (ci := 1) (v := .int (nI 2336)) (ty := .int) (C := "LatticeKeys$KemSet") (T := T_KS) (N := 10) hx hb hts (wg_ft i_KS) ty_KS k_KS n_KS hown hK hP hD hS 0 rfl rfl 8 (by decide) (hts _ (wg_t kw_249)) (fun _ h9 => h9) rfl hnm rfl (by decide +kernel) rfl rfl (Nat.le_of_ble_eq_true rfl) dKS_init_98 (fun H locs hP hD hS => ?_)
  have hP : va_P g.1 vcl [(h0, .inr (1, [.int (nI 3), .int (nI 2), .int (nI 10), .int (nI 4), .int (nI 1184), .int 0, .int (nI 1088), .int (nI 1152), .int (nI 2336), .int 0]))] _ := hP
  have hD : va_D _ [(h0, .inr (1, [.int (nI 3), .int (nI 2), .int (nI 10), .int (nI 4), .int (nI 1184), .int 0, .int (nI 1088), .int (nI 1152), .int (nI 2336), .int 0]))] := hD
  refine lv_aload_n hx hb dKS_init_101 rfl (lv_at hl 0 rfl) ?_
  refine lv_aload_n hx hb dKS_init_102 rfl (lv_at hl 0 rfl) ?_
  refine va_get (D := g.1) (ci := 1) (C := "LatticeKeys$KemSet") (T := T_KS) (N := 10) hx hb hts (wg_ft i_KS) hown hK hP 0 rfl rfl 8 (by decide) (hts _ (wg_t kw_249)) (fun _ h9 => h9) rfl dKS_init_103 ?_
  refine lv_bipush (v := nI 32) hx hb dKS_init_106 (by decide) ?_
  refine mi_iadd hx hb dKS_init_108 ?_
  refine mi_as (show nI (2336 + 32) = nI 2368 from rfl) ?_
  refine va_putF (D := g.1) (ci := 1) (v := .int (nI 2368)) (ty := .int) (C := "LatticeKeys$KemSet") (T := T_KS) (N := 10) hx hb hts (wg_ft i_KS) ty_KS k_KS n_KS hown hK hP hD hS 0 rfl rfl 9 (by decide) (hts _ (wg_t kw_251)) (fun _ h9 => h9) rfl hnm rfl (by decide +kernel) rfl rfl (Nat.le_of_ble_eq_true rfl) dKS_init_109 (fun H locs hP hD hS => ?_)
  have hP : va_P g.1 vcl [(h0, .inr (1, [.int (nI 3), .int (nI 2), .int (nI 10), .int (nI 4), .int (nI 1184), .int 0, .int (nI 1088), .int (nI 1152), .int (nI 2336), .int (nI 2368)]))] _ := hP
  have hD : va_D _ [(h0, .inr (1, [.int (nI 3), .int (nI 2), .int (nI 10), .int (nI 4), .int (nI 1184), .int 0, .int (nI 1088), .int (nI 1152), .int (nI 2336), .int (nI 2368)]))] := hD
  refine lv_aload_n hx hb dKS_init_112 rfl (lv_at hl 0 rfl) ?_
  refine lv_aload_n hx hb dKS_init_113 rfl (lv_at hl 0 rfl) ?_
  refine va_get (D := g.1) (ci := 1) (C := "LatticeKeys$KemSet") (T := T_KS) (N := 10) hx hb hts (wg_ft i_KS) hown hK hP 0 rfl rfl 9 (by decide) (hts _ (wg_t kw_251)) (fun _ h9 => h9) rfl dKS_init_114 ?_
  refine lv_bipush (v := nI 32) hx hb dKS_init_117 (by decide) ?_
  refine mi_iadd hx hb dKS_init_119 ?_
  refine mi_as (show nI (2368 + 32) = nI 2400 from rfl) ?_
  refine va_putF (D := g.1) (ci := 1) (v := .int (nI 2400)) (ty := .int) (C := "LatticeKeys$KemSet") (T := T_KS) (N := 10) hx hb hts (wg_ft i_KS) ty_KS k_KS n_KS hown hK hP hD hS 0 rfl rfl 5 (by decide) (hts _ (wg_t kw_241)) (fun _ h9 => h9) rfl hnm rfl (by decide +kernel) rfl rfl (Nat.le_of_ble_eq_true rfl) dKS_init_120 (fun H locs hP hD hS => ?_)
  have hP : va_P g.1 vcl [(h0, .inr (1, [.int (nI 3), .int (nI 2), .int (nI 10), .int (nI 4), .int (nI 1184), .int (nI 2400), .int (nI 1088), .int (nI 1152), .int (nI 2336), .int (nI 2368)]))] _ := hP
  have hD : va_D _ [(h0, .inr (1, [.int (nI 3), .int (nI 2), .int (nI 10), .int (nI 4), .int (nI 1184), .int (nI 2400), .int (nI 1088), .int (nI 1152), .int (nI 2336), .int (nI 2368)]))] := hD
  exact mc_vret hx hb hr hlk hP hD hS () trivial [0] rfl rfl (by omega) (by omega) dKS_init_123
set_option maxHeartbeats 400000 in
set_option maxRecDepth 100000 in
theorem m_KS_init_2 (l : Launch) (g : Gd) (sz : Nat) (h0 : Nat)  : Met l y_KS_init w_KS_init ({ frames := 1, cells := 0, slots := 0, locals := 12 } : Room) (va_Pc [.ref h0, .int (nI 2)] (pr (en g) g.1 vcl sz [(h0, .inr (1, [.int 0, .int 0, .int 0, .int 0, .int 0, .int 0, .int 0, .int 0, .int 0, .int 0]))])) (va_Qv (fun (u : Unit) => True) (po g.1 vcl (va_A [(h0, .inr (1, [.int 0, .int 0, .int 0, .int 0, .int 0, .int 0, .int 0, .int 0, .int 0, .int 0]))] sz) (fun (u : Unit) => [(h0, .inr (1, [.int (nI 4), .int (nI 2), .int (nI 11), .int (nI 5), .int (nI 1568), .int (nI 3168), .int (nI 1568), .int (nI 1536), .int (nI 3104), .int (nI 3136)]))])) (va_A [(h0, .inr (1, [.int 0, .int 0, .int 0, .int 0, .int 0, .int 0, .int 0, .int 0, .int 0, .int 0]))] sz)) 0 0 (va_A [(h0, .inr (1, [.int 0, .int 0, .int 0, .int 0, .int 0, .int 0, .int 0, .int 0, .int 0, .int 0]))] sz) := by
  refine mc_entry (cc := c_KS_init) (maxL := 2) (ret := none) (by decide) rfl (Nat.le_of_ble_eq_true rfl) ?_
  intro p e s m args below meth c ls F hr hlk hnm hsz hP hD hE hA hl
  obtain ⟨hx, hb, hml, hown, hts⟩ := id F
  have hK := hE.1
  generalize va_A [(h0, .inr (1, [.int 0, .int 0, .int 0, .int 0, .int 0, .int 0, .int 0, .int 0, .int 0, .int 0]))] sz = A at hD hE hA ⊢
  have hS : va_S A s.heap s.heap [] := va_S.rf
  have hl : lv_has ls 2 [(0, .ref h0), (1, .int (nI 2))] := hl
  refine lv_aload_n hx hb dKS_init_0 rfl (lv_at hl 0 rfl) ?_
  refine W.objInit hx hb hown (hts _ (wg_t kw_221)) (hts _ (wg_t kw_41)) (hts _ (wg_t kobj)) rfl (by rw [hml]; exact hl.1) rfl dKS_init_1 (Nat.le_of_ble_eq_true rfl) (Nat.le_of_ble_eq_true rfl) ?_
  refine W.eq (g2 := F0 m 4 ls []) rfl ?_
  refine lv_aload_n hx hb dKS_init_4 rfl (lv_at hl 0 rfl) ?_
  refine va_gets hx hb (hE.2.1 5 _ rfl).1 hS hown (hts _ (wg_t kw_222)) (fun _ h9 => h9) dKS_init_5 ?_
  refine lv_iload_n hx hb dKS_init_8 rfl (lv_at hl 1 rfl) ?_
  refine va_ti (v := .int (nI 4)) hx hb (hE.2.1 5 _ rfl).2 hS (vp_in_nI (by decide) (by decide)) (by decide +kernel) dKS_init_9 ?_
  refine va_putF (D := g.1) (ci := 1) (v := .int (nI 4)) (ty := .int) (C := "LatticeKeys$KemSet") (T := T_KS) (N := 10) hx hb hts (wg_ft i_KS) ty_KS k_KS n_KS hown hK hP hD hS 0 rfl rfl 0 (by decide) (hts _ (wg_t kw_230)) (fun _ h9 => h9) rfl hnm rfl (by decide +kernel) rfl rfl (Nat.le_of_ble_eq_true rfl) dKS_init_10 (fun H locs hP hD hS => ?_)
  have hP : va_P g.1 vcl [(h0, .inr (1, [.int (nI 4), .int 0, .int 0, .int 0, .int 0, .int 0, .int 0, .int 0, .int 0, .int 0]))] _ := hP
  have hD : va_D _ [(h0, .inr (1, [.int (nI 4), .int 0, .int 0, .int 0, .int 0, .int 0, .int 0, .int 0, .int 0, .int 0]))] := hD
  refine lv_aload_n hx hb dKS_init_13 rfl (lv_at hl 0 rfl) ?_
  refine va_gets hx hb (hE.2.1 6 _ rfl).1 hS hown (hts _ (wg_t kw_224)) (fun _ h9 => h9) dKS_init_14 ?_
  refine lv_iload_n hx hb dKS_init_17 rfl (lv_at hl 1 rfl) ?_
  refine va_ti (v := .int (nI 2)) hx hb (hE.2.1 6 _ rfl).2 hS (vp_in_nI (by decide) (by decide)) (by decide +kernel) dKS_init_18 ?_
  refine va_putF (D := g.1) (ci := 1) (v := .int (nI 2)) (ty := .int) (C := "LatticeKeys$KemSet") (T := T_KS) (N := 10) hx hb hts (wg_ft i_KS) ty_KS k_KS n_KS hown hK hP hD hS 0 rfl rfl 1 (by decide) (hts _ (wg_t kw_232)) (fun _ h9 => h9) rfl hnm rfl (by decide +kernel) rfl rfl (Nat.le_of_ble_eq_true rfl) dKS_init_19 (fun H locs hP hD hS => ?_)
  have hP : va_P g.1 vcl [(h0, .inr (1, [.int (nI 4), .int (nI 2), .int 0, .int 0, .int 0, .int 0, .int 0, .int 0, .int 0, .int 0]))] _ := hP
  have hD : va_D _ [(h0, .inr (1, [.int (nI 4), .int (nI 2), .int 0, .int 0, .int 0, .int 0, .int 0, .int 0, .int 0, .int 0]))] := hD
  refine lv_aload_n hx hb dKS_init_22 rfl (lv_at hl 0 rfl) ?_
  refine va_gets hx hb (hE.2.1 7 _ rfl).1 hS hown (hts _ (wg_t kw_226)) (fun _ h9 => h9) dKS_init_23 ?_
  refine lv_iload_n hx hb dKS_init_26 rfl (lv_at hl 1 rfl) ?_
  refine va_ti (v := .int (nI 11)) hx hb (hE.2.1 7 _ rfl).2 hS (vp_in_nI (by decide) (by decide)) (by decide +kernel) dKS_init_27 ?_
  refine va_putF (D := g.1) (ci := 1) (v := .int (nI 11)) (ty := .int) (C := "LatticeKeys$KemSet") (T := T_KS) (N := 10) hx hb hts (wg_ft i_KS) ty_KS k_KS n_KS hown hK hP hD hS 0 rfl rfl 2 (by decide) (hts _ (wg_t kw_234)) (fun _ h9 => h9) rfl hnm rfl (by decide +kernel) rfl rfl (Nat.le_of_ble_eq_true rfl) dKS_init_28 (fun H locs hP hD hS => ?_)
  have hP : va_P g.1 vcl [(h0, .inr (1, [.int (nI 4), .int (nI 2), .int (nI 11), .int 0, .int 0, .int 0, .int 0, .int 0, .int 0, .int 0]))] _ := hP
  have hD : va_D _ [(h0, .inr (1, [.int (nI 4), .int (nI 2), .int (nI 11), .int 0, .int 0, .int 0, .int 0, .int 0, .int 0, .int 0]))] := hD
  refine lv_aload_n hx hb dKS_init_31 rfl (lv_at hl 0 rfl) ?_
  refine va_gets hx hb (hE.2.1 8 _ rfl).1 hS hown (hts _ (wg_t kw_228)) (fun _ h9 => h9) dKS_init_32 ?_
  refine lv_iload_n hx hb dKS_init_35 rfl (lv_at hl 1 rfl) ?_
  refine va_ti (v := .int (nI 5)) hx hb (hE.2.1 8 _ rfl).2 hS (vp_in_nI (by decide) (by decide)) (by decide +kernel) dKS_init_36 ?_
  refine va_putF (D := g.1) (ci := 1) (v := .int (nI 5)) (ty := .int) (C := "LatticeKeys$KemSet") (T := T_KS) (N := 10) hx hb hts (wg_ft i_KS) ty_KS k_KS n_KS hown hK hP hD hS 0 rfl rfl 3 (by decide) (hts _ (wg_t kw_236)) (fun _ h9 => h9) rfl hnm rfl (by decide +kernel) rfl rfl (Nat.le_of_ble_eq_true rfl) dKS_init_37 (fun H locs hP hD hS => ?_)
  have hP : va_P g.1 vcl [(h0, .inr (1, [.int (nI 4), .int (nI 2), .int (nI 11), .int (nI 5), .int 0, .int 0, .int 0, .int 0, .int 0, .int 0]))] _ := hP
  have hD : va_D _ [(h0, .inr (1, [.int (nI 4), .int (nI 2), .int (nI 11), .int (nI 5), .int 0, .int 0, .int 0, .int 0, .int 0, .int 0]))] := hD
  refine lv_aload_n hx hb dKS_init_40 rfl (lv_at hl 0 rfl) ?_
  refine lv_sipush (v := nI 384) hx hb dKS_init_41 (by decide) ?_
  refine lv_aload_n hx hb dKS_init_44 rfl (lv_at hl 0 rfl) ?_
  refine va_get (D := g.1) (ci := 1) (C := "LatticeKeys$KemSet") (T := T_KS) (N := 10) hx hb hts (wg_ft i_KS) hown hK hP 0 rfl rfl 0 (by decide) (hts _ (wg_t kw_230)) (fun _ h9 => h9) rfl dKS_init_45 ?_
  refine mi_imul hx hb dKS_init_48 ?_
  refine mi_as (show nI (384 * 4) = nI 1536 from rfl) ?_
  refine lv_bipush (v := nI 32) hx hb dKS_init_49 (by decide) ?_
  refine mi_iadd hx hb dKS_init_51 ?_
  refine mi_as (show nI (1536 + 32) = nI 1568 from rfl) ?_
  refine va_putF (D := g.1) (ci := 1) (v := .int (nI 1568)) (ty := .int) (C := "LatticeKeys$KemSet") (T := T_KS) (N := 10) hx hb hts (wg_ft i_KS) ty_KS k_KS n_KS hown hK hP hD hS 0 rfl rfl 4 (by decide) (hts _ (wg_t kw_238)) (fun _ h9 => h9) rfl hnm rfl (by decide +kernel) rfl rfl (Nat.le_of_ble_eq_true rfl) dKS_init_52 (fun H locs hP hD hS => ?_)
  have hP : va_P g.1 vcl [(h0, .inr (1, [.int (nI 4), .int (nI 2), .int (nI 11), .int (nI 5), .int (nI 1568), .int 0, .int 0, .int 0, .int 0, .int 0]))] _ := hP
  have hD : va_D _ [(h0, .inr (1, [.int (nI 4), .int (nI 2), .int (nI 11), .int (nI 5), .int (nI 1568), .int 0, .int 0, .int 0, .int 0, .int 0]))] := hD
  refine lv_aload_n hx hb dKS_init_55 rfl (lv_at hl 0 rfl) ?_
  refine lv_bipush (v := nI 32) hx hb dKS_init_56 (by decide) ?_
  refine lv_aload_n hx hb dKS_init_58 rfl (lv_at hl 0 rfl) ?_
  refine va_get (D := g.1) (ci := 1) (C := "LatticeKeys$KemSet") (T := T_KS) (N := 10) hx hb hts (wg_ft i_KS) hown hK hP 0 rfl rfl 2 (by decide) (hts _ (wg_t kw_234)) (fun _ h9 => h9) rfl dKS_init_59 ?_
  refine lv_aload_n hx hb dKS_init_62 rfl (lv_at hl 0 rfl) ?_
  refine va_get (D := g.1) (ci := 1) (C := "LatticeKeys$KemSet") (T := T_KS) (N := 10) hx hb hts (wg_ft i_KS) hown hK hP 0 rfl rfl 0 (by decide) (hts _ (wg_t kw_230)) (fun _ h9 => h9) rfl dKS_init_63 ?_
  refine mi_imul hx hb dKS_init_66 ?_
  refine mi_as (show nI (11 * 4) = nI 44 from rfl) ?_
  refine lv_aload_n hx hb dKS_init_67 rfl (lv_at hl 0 rfl) ?_
  refine va_get (D := g.1) (ci := 1) (C := "LatticeKeys$KemSet") (T := T_KS) (N := 10) hx hb hts (wg_ft i_KS) hown hK hP 0 rfl rfl 3 (by decide) (hts _ (wg_t kw_236)) (fun _ h9 => h9) rfl dKS_init_68 ?_
  refine mi_iadd hx hb dKS_init_71 ?_
  refine mi_as (show nI (44 + 5) = nI 49 from rfl) ?_
  refine mi_imul hx hb dKS_init_72 ?_
  refine mi_as (show nI (32 * 49) = nI 1568 from rfl) ?_
  refine va_putF (D := g.1) (ci := 1) (v := .int (nI 1568)) (ty := .int) (C := "LatticeKeys$KemSet") (T := T_KS) (N := 10) hx hb hts (wg_ft i_KS) ty_KS k_KS n_KS hown hK hP hD hS 0 rfl rfl 6 (by decide) (hts _ (wg_t kw_243)) (fun _ h9 => h9) rfl hnm rfl (by decide +kernel) rfl rfl (Nat.le_of_ble_eq_true rfl) dKS_init_73 (fun H locs hP hD hS => ?_)
  have hP : va_P g.1 vcl [(h0, .inr (1, [.int (nI 4), .int (nI 2), .int (nI 11), .int (nI 5), .int (nI 1568), .int 0, .int (nI 1568), .int 0, .int 0, .int 0]))] _ := hP
  have hD : va_D _ [(h0, .inr (1, [.int (nI 4), .int (nI 2), .int (nI 11), .int (nI 5), .int (nI 1568), .int 0, .int (nI 1568), .int 0, .int 0, .int 0]))] := hD
  refine lv_aload_n hx hb dKS_init_76 rfl (lv_at hl 0 rfl) ?_
  refine lv_sipush (v := nI 384) hx hb dKS_init_77 (by decide) ?_
  refine lv_aload_n hx hb dKS_init_80 rfl (lv_at hl 0 rfl) ?_
  refine va_get (D := g.1) (ci := 1) (C := "LatticeKeys$KemSet") (T := T_KS) (N := 10) hx hb hts (wg_ft i_KS) hown hK hP 0 rfl rfl 0 (by decide) (hts _ (wg_t kw_230)) (fun _ h9 => h9) rfl dKS_init_81 ?_
  refine mi_imul hx hb dKS_init_84 ?_
  refine mi_as (show nI (384 * 4) = nI 1536 from rfl) ?_
  refine va_putF (D := g.1) (ci := 1) (v := .int (nI 1536)) (ty := .int) (C := "LatticeKeys$KemSet") (T := T_KS) (N := 10) hx hb hts (wg_ft i_KS) ty_KS k_KS n_KS hown hK hP hD hS 0 rfl rfl 7 (by decide) (hts _ (wg_t kw_246)) (fun _ h9 => h9) rfl hnm rfl (by decide +kernel) rfl rfl (Nat.le_of_ble_eq_true rfl) dKS_init_85 (fun H locs hP hD hS => ?_)
  have hP : va_P g.1 vcl [(h0, .inr (1, [.int (nI 4), .int (nI 2), .int (nI 11), .int (nI 5), .int (nI 1568), .int 0, .int (nI 1568), .int (nI 1536), .int 0, .int 0]))] _ := hP
  have hD : va_D _ [(h0, .inr (1, [.int (nI 4), .int (nI 2), .int (nI 11), .int (nI 5), .int (nI 1568), .int 0, .int (nI 1568), .int (nI 1536), .int 0, .int 0]))] := hD
  refine lv_aload_n hx hb dKS_init_88 rfl (lv_at hl 0 rfl) ?_
  refine lv_aload_n hx hb dKS_init_89 rfl (lv_at hl 0 rfl) ?_
  refine va_get (D := g.1) (ci := 1) (C := "LatticeKeys$KemSet") (T := T_KS) (N := 10) hx hb hts (wg_ft i_KS) hown hK hP 0 rfl rfl 7 (by decide) (hts _ (wg_t kw_246)) (fun _ h9 => h9) rfl dKS_init_90 ?_
  refine lv_aload_n hx hb dKS_init_93 rfl (lv_at hl 0 rfl) ?_
  refine va_get (D := g.1) (ci := 1) (C := "LatticeKeys$KemSet") (T := T_KS) (N := 10) hx hb hts (wg_ft i_KS) hown hK hP 0 rfl rfl 4 (by decide) (hts _ (wg_t kw_238)) (fun _ h9 => h9) rfl dKS_init_94 ?_
  refine mi_iadd hx hb dKS_init_97 ?_
  refine mi_as (show nI (1536 + 1568) = nI 3104 from rfl) ?_
  refine va_putF (D := g.1) (ci := 1) (v := .int (nI 3104)) (ty := .int) (C := "LatticeKeys$KemSet") (T := T_KS) (N := 10) hx hb hts (wg_ft i_KS) ty_KS k_KS n_KS hown hK hP hD hS 0 rfl rfl 8 (by decide) (hts _ (wg_t kw_249)) (fun _ h9 => h9) rfl hnm rfl (by decide +kernel) rfl rfl (Nat.le_of_ble_eq_true rfl) dKS_init_98 (fun H locs hP hD hS => ?_)
  have hP : va_P g.1 vcl [(h0, .inr (1, [.int (nI 4), .int (nI 2), .int (nI 11), .int (nI 5), .int (nI 1568), .int 0, .int (nI 1568), .int (nI 1536), .int (nI 3104), .int 0]))] _ := hP
  have hD : va_D _ [(h0, .inr (1, [.int (nI 4), .int (nI 2), .int (nI 11), .int (nI 5), .int (nI 1568), .int 0, .int (nI 1568), .int (nI 1536), .int (nI 3104), .int 0]))] := hD
  refine lv_aload_n hx hb dKS_init_101 rfl (lv_at hl 0 rfl) ?_
  refine lv_aload_n hx hb dKS_init_102 rfl (lv_at hl 0 rfl) ?_
  refine va_get (D := g.1) (ci := 1) (C := "LatticeKeys$KemSet") (T := T_KS) (N := 10) hx hb hts (wg_ft i_KS) hown hK hP 0 rfl rfl 8 (by decide) (hts _ (wg_t kw_249)) (fun _ h9 => h9) rfl dKS_init_103 ?_
  refine lv_bipush (v := nI 32) hx hb dKS_init_106 (by decide) ?_
  refine mi_iadd hx hb dKS_init_108 ?_
  refine mi_as (show nI (3104 + 32) = nI 3136 from rfl) ?_
  refine va_putF (D := g.1) (ci := 1) (v := .int (nI 3136)) (ty := .int) (C := "LatticeKeys$KemSet") (T := T_KS) (N := 10) hx hb hts (wg_ft i_KS) ty_KS k_KS n_KS hown hK hP hD hS 0 rfl rfl 9 (by decide) (hts _ (wg_t kw_251)) (fun _ h9 => h9) rfl hnm rfl (by decide +kernel) rfl rfl (Nat.le_of_ble_eq_true rfl) dKS_init_109 (fun H locs hP hD hS => ?_)
  have hP : va_P g.1 vcl [(h0, .inr (1, [.int (nI 4), .int (nI 2), .int (nI 11), .int (nI 5), .int (nI 1568), .int 0, .int (nI 1568), .int (nI 1536), .int (nI 3104), .int (nI 3136)]))] _ := hP
  have hD : va_D _ [(h0, .inr (1, [.int (nI 4), .int (nI 2), .int (nI 11), .int (nI 5), .int (nI 1568), .int 0, .int (nI 1568), .int (nI 1536), .int (nI 3104), .int (nI 3136)]))] := hD
  refine lv_aload_n hx hb dKS_init_112 rfl (lv_at hl 0 rfl) ?_
  refine lv_aload_n hx hb dKS_init_113 rfl (lv_at hl 0 rfl) ?_
  refine va_get (D := g.1) (ci := 1) (C := "LatticeKeys$KemSet") (T := T_KS) (N := 10) hx hb hts (wg_ft i_KS) hown hK hP 0 rfl rfl 9 (by decide) (hts _ (wg_t kw_251)) (fun _ h9 => h9) rfl dKS_init_114 ?_
  refine lv_bipush (v := nI 32) hx hb dKS_init_117 (by decide) ?_
  refine mi_iadd hx hb dKS_init_119 ?_
  refine mi_as (show nI (3136 + 32) = nI 3168 from rfl) ?_
  refine va_putF (D := g.1) (ci := 1) (v := .int (nI 3168)) (ty := .int) (C := "LatticeKeys$KemSet") (T := T_KS) (N := 10) hx hb hts (wg_ft i_KS) ty_KS k_KS n_KS hown hK hP hD hS 0 rfl rfl 5 (by decide) (hts _ (wg_t kw_241)) (fun _ h9 => h9) rfl hnm rfl (by decide +kernel) rfl rfl (Nat.le_of_ble_eq_true rfl) dKS_init_120 (fun H locs hP hD hS => ?_)
  have hP : va_P g.1 vcl [(h0, .inr (1, [.int (nI 4), .int (nI 2), .int (nI 11), .int (nI 5), .int (nI 1568), .int (nI 3168), .int (nI 1568), .int (nI 1536), .int (nI 3104), .int (nI 3136)]))] _ := hP
  have hD : va_D _ [(h0, .inr (1, [.int (nI 4), .int (nI 2), .int (nI 11), .int (nI 5), .int (nI 1568), .int (nI 3168), .int (nI 1568), .int (nI 1536), .int (nI 3104), .int (nI 3136)]))] := hD
  exact mc_vret hx hb hr hlk hP hD hS () trivial [0] rfl rfl (by omega) (by omega) dKS_init_123
