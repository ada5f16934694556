abbrev c_SP_init : ByteArray := prog_10_method_1_code
abbrev y_SP_init : MethodName := ⟨"LatticeKeys$Sponge", "<init>", "()V"⟩
abbrev w_SP_init : List Cond := Cond.code y_SP_init c_SP_init 1 none :: WG
theorem dSP_init_0 : decode c_SP_init 0 = .ok (.aload_n 0, 1) := by decide +kernel
theorem dSP_init_1 : decode c_SP_init 1 = .ok (.invokespecial 1, 3) := by decide +kernel
theorem dSP_init_4 : decode c_SP_init 4 = .ok (.aload_n 0, 1) := by decide +kernel
theorem dSP_init_5 : decode c_SP_init 5 = .ok (.bipush 25, 2) := by decide +kernel
theorem dSP_init_7 : decode c_SP_init 7 = .ok (.newarray .long, 2) := by decide +kernel
theorem dSP_init_9 : decode c_SP_init 9 = .ok (.putfield 7, 3) := by decide +kernel
theorem dSP_init_12 : decode c_SP_init 12 = .ok (.aload_n 0, 1) := by decide +kernel
theorem dSP_init_13 : decode c_SP_init 13 = .ok (.getstatic 13, 3) := by decide +kernel
theorem dSP_init_16 : decode c_SP_init 16 = .ok (.iconst 0, 1) := by decide +kernel
theorem dSP_init_17 : decode c_SP_init 17 = .ok (.iaload, 1) := by decide +kernel
theorem dSP_init_18 : decode c_SP_init 18 = .ok (.putfield 17, 3) := by decide +kernel
theorem dSP_init_21 : decode c_SP_init 21 = .ok (.aload_n 0, 1) := by decide +kernel
theorem dSP_init_22 : decode c_SP_init 22 = .ok (.getstatic 21, 3) := by decide +kernel
theorem dSP_init_25 : decode c_SP_init 25 = .ok (.iconst 0, 1) := by decide +kernel
theorem dSP_init_26 : decode c_SP_init 26 = .ok (.iaload, 1) := by decide +kernel
theorem dSP_init_27 : decode c_SP_init 27 = .ok (.putfield 24, 3) := by decide +kernel
theorem dSP_init_30 : decode c_SP_init 30 = .ok (.aload_n 0, 1) := by decide +kernel
theorem dSP_init_31 : decode c_SP_init 31 = .ok (.iconst 0, 1) := by decide +kernel
theorem dSP_init_32 : decode c_SP_init 32 = .ok (.putfield 27, 3) := by decide +kernel
theorem dSP_init_35 : decode c_SP_init 35 = .ok (.return_, 1) := by decide +kernel
set_option maxHeartbeats 400000 in
set_option maxRecDepth 100000 in
theorem m_SP_init (l : Launch) (g : Gd) (sz : Nat) (h0 : Nat)  : Met l y_SP_init w_SP_init ({ frames := 1, cells := 1, slots := 25, locals := 12 } : Room) (va_Pc [.ref h0] (pr (en g) g.1 vcl sz [(h0, .inr (3, [.null, .int 0, .int 0, .int 0]))])) (va_Qv (fun (u : Nat) => True) (po g.1 vcl (va_A [(h0, .inr (3, [.null, .int 0, .int 0, .int 0]))] sz) (fun (u : Nat) => [(h0, .inr (3, [.ref u, .int (nI 136), .int (nI 6), .int (nI 0)])), (u, .inl (g.2.1 2, 25, .inr (.inl ((fun _ => 0)))))])) (va_A [(h0, .inr (3, [.null, .int 0, .int 0, .int 0]))] sz)) 1 25 (va_A [(h0, .inr (3, [.null, .int 0, .int 0, .int 0]))] sz) := by
  refine mc_entry (cc := c_SP_init) (maxL := 1) (ret := none) (by decide) rfl (Nat.le_of_ble_eq_true rfl) ?_
  intro p e s m args below meth c ls F hr hlk hnm hsz hP hD hE hA hl
  obtain ⟨hx, hb, hml, hown, hts⟩ := id F
  have hK := hE.1
  generalize va_A [(h0, .inr (3, [.null, .int 0, .int 0, .int 0]))] sz = A at hD hE hA ⊢
  have hS : va_S A s.heap s.heap [] := va_S.rf
  have hl : lv_has ls 1 [(0, .ref h0)] := hl
  refine lv_aload_n hx hb dSP_init_0 rfl (lv_at hl 0 rfl) ?_
  refine W.objInit hx hb hown (hts _ (wg_t kw_54)) (hts _ (wg_t kw_41)) (hts _ (wg_t kobj)) rfl (by rw [hml]; exact hl.1) rfl dSP_init_1 (Nat.le_of_ble_eq_true rfl) (Nat.le_of_ble_eq_true rfl) ?_
  refine W.eq (g2 := F0 m 4 ls []) rfl ?_
  refine lv_aload_n hx hb dSP_init_4 rfl (lv_at hl 0 rfl) ?_
  refine lv_bipush (v := nI 25) hx hb dSP_init_5 (by decide) ?_
  refine ma_newa (atype := .long) hx hb (hts _ (wg_t kw_73)) rfl hK hP hD hS hA 2 rfl (N' := 25) (a0 := (25, .inr (.inl (fun _ => 0)))) (fun _ => rfl) (by decide) (by decide) (by decide) (by decide) (by decide) dSP_init_7 (fun q1 H hP hD hS => ?_)
  have hP : va_P g.1 vcl [(h0, .inr (3, [.null, .int 0, .int 0, .int 0])), (q1, .inl (g.2.1 2, 25, .inr (.inl ((fun _ => 0)))))] _ := hP
  have hD : va_D _ [(h0, .inr (3, [.null, .int 0, .int 0, .int 0])), (q1, .inl (g.2.1 2, 25, .inr (.inl ((fun _ => 0)))))] := hD
  refine W.widen (k := 1) (n := 25) (by decide) (by decide) ?_
  refine va_putF (D := g.1) (ci := 3) (v := .ref q1) (ty := .array .long) (C := "LatticeKeys$Sponge") (T := T_SP) (N := 4) hx hb hts (wg_ft i_SP) ty_SP k_SP n_SP hown hK hP hD hS 0 rfl rfl 0 (by decide) (hts _ (wg_t kw_59)) (fun _ h9 => h9) rfl hnm rfl (by decide +kernel) rfl rfl (Nat.le_of_ble_eq_true rfl) dSP_init_9 (fun H locs hP hD hS => ?_)
  have hP : va_P g.1 vcl [(h0, .inr (3, [.ref q1, .int 0, .int 0, .int 0])), (q1, .inl (g.2.1 2, 25, .inr (.inl ((fun _ => 0)))))] _ := hP
  have hD : va_D _ [(h0, .inr (3, [.ref q1, .int 0, .int 0, .int 0])), (q1, .inl (g.2.1 2, 25, .inr (.inl ((fun _ => 0)))))] := hD
  refine lv_aload_n hx hb dSP_init_12 rfl (lv_at hl 0 rfl) ?_
  refine va_gets hx hb (hE.2.1 0 _ rfl).1 hS hown (hts _ (wg_t kw_55)) (fun _ h9 => h9) dSP_init_13 ?_
  refine lv_iconst (v := nI 0) hx hb dSP_init_16 (by decide) ?_
  refine va_ti (v := .int (nI 136)) hx hb (hE.2.1 0 _ rfl).2 hS (vp_in_nI (by decide) (by decide)) (by decide +kernel) dSP_init_17 ?_
  refine va_put (D := g.1) (ci := 3) (v := .int (nI 136)) (ty := .int) (C := "LatticeKeys$Sponge") (T := T_SP) (N := 4) hx hb hts (wg_ft i_SP) ty_SP k_SP n_SP hown hK hP hD hS 0 rfl rfl 1 (by decide) (hts _ (wg_t kw_60)) (fun _ h9 => h9) rfl (by decide +kernel) rfl rfl (Nat.le_of_ble_eq_true rfl) dSP_init_18 (fun H locs hP hD hS => ?_)
  have hP : va_P g.1 vcl [(h0, .inr (3, [.ref q1, .int (nI 136), .int 0, .int 0])), (q1, .inl (g.2.1 2, 25, .inr (.inl ((fun _ => 0)))))] _ := hP
  have hD : va_D _ [(h0, .inr (3, [.ref q1, .int (nI 136), .int 0, .int 0])), (q1, .inl (g.2.1 2, 25, .inr (.inl ((fun _ => 0)))))] := hD
  refine lv_aload_n hx hb dSP_init_21 rfl (lv_at hl 0 rfl) ?_
  refine va_gets hx hb (hE.2.1 1 _ rfl).1 hS hown (hts _ (wg_t kw_57)) (fun _ h9 => h9) dSP_init_22 ?_
  refine lv_iconst (v := nI 0) hx hb dSP_init_25 (by decide) ?_
  refine va_ti (v := .int (nI 6)) hx hb (hE.2.1 1 _ rfl).2 hS (vp_in_nI (by decide) (by decide)) (by decide +kernel) dSP_init_26 ?_
  refine va_put (D := g.1) (ci := 3) (v := .int (nI 6)) (ty := .int) (C := "LatticeKeys$Sponge") (T := T_SP) (N := 4) hx hb hts (wg_ft i_SP) ty_SP k_SP n_SP hown hK hP hD hS 0 rfl rfl 2 (by decide) (hts _ (wg_t kw_61)) (fun _ h9 => h9) rfl (by decide +kernel) rfl rfl (Nat.le_of_ble_eq_true rfl) dSP_init_27 (fun H locs hP hD hS => ?_)
  have hP : va_P g.1 vcl [(h0, .inr (3, [.ref q1, .int (nI 136), .int (nI 6), .int 0])), (q1, .inl (g.2.1 2, 25, .inr (.inl ((fun _ => 0)))))] _ := hP
  have hD : va_D _ [(h0, .inr (3, [.ref q1, .int (nI 136), .int (nI 6), .int 0])), (q1, .inl (g.2.1 2, 25, .inr (.inl ((fun _ => 0)))))] := hD
  refine lv_aload_n hx hb dSP_init_30 rfl (lv_at hl 0 rfl) ?_
  refine lv_iconst (v := nI 0) hx hb dSP_init_31 (by decide) ?_
  refine va_put (D := g.1) (ci := 3) (v := .int (nI 0)) (ty := .int) (C := "LatticeKeys$Sponge") (T := T_SP) (N := 4) hx hb hts (wg_ft i_SP) ty_SP k_SP n_SP hown hK hP hD hS 0 rfl rfl 3 (by decide) (hts _ (wg_t kw_62)) (fun _ h9 => h9) rfl (by decide +kernel) rfl rfl (Nat.le_of_ble_eq_true rfl) dSP_init_32 (fun H locs hP hD hS => ?_)
  have hP : va_P g.1 vcl [(h0, .inr (3, [.ref q1, .int (nI 136), .int (nI 6), .int (nI 0)])), (q1, .inl (g.2.1 2, 25, .inr (.inl ((fun _ => 0)))))] _ := hP
  have hD : va_D _ [(h0, .inr (3, [.ref q1, .int (nI 136), .int (nI 6), .int (nI 0)])), (q1, .inl (g.2.1 2, 25, .inr (.inl ((fun _ => 0)))))] := hD
  exact mc_vret hx hb hr hlk hP hD hS q1 trivial [0, 1] rfl rfl (by omega) (by omega) dSP_init_35
