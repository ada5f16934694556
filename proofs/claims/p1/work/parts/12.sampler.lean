abbrev c_SA_init : ByteArray := prog_4_method_1_code
abbrev y_SA_init : MethodName := ⟨"LatticeKeys$DsaSampler", "<init>", "()V"⟩
abbrev w_SA_init : List Cond := Cond.code y_SA_init c_SA_init 1 none :: WG
theorem dSA_init_0 : decode c_SA_init 0 = .ok (.aload_n 0, 1) := by decide +kernel
theorem dSA_init_1 : decode c_SA_init 1 = .ok (.invokespecial 1, 3) := by decide +kernel
theorem dSA_init_4 : decode c_SA_init 4 = .ok (.aload_n 0, 1) := by decide +kernel
theorem dSA_init_5 : decode c_SA_init 5 = .ok (.new 7, 3) := by decide +kernel
theorem dSA_init_8 : decode c_SA_init 8 = .ok (.dup, 1) := by decide +kernel
theorem dSA_init_9 : decode c_SA_init 9 = .ok (.invokespecial 9, 3) := by decide +kernel
theorem dSA_init_12 : decode c_SA_init 12 = .ok (.putfield 10, 3) := by decide +kernel
theorem dSA_init_15 : decode c_SA_init 15 = .ok (.aload_n 0, 1) := by decide +kernel
theorem dSA_init_16 : decode c_SA_init 16 = .ok (.sipush 640, 3) := by decide +kernel
theorem dSA_init_19 : decode c_SA_init 19 = .ok (.newarray .byte, 2) := by decide +kernel
theorem dSA_init_21 : decode c_SA_init 21 = .ok (.putfield 16, 3) := by decide +kernel
theorem dSA_init_24 : decode c_SA_init 24 = .ok (.return_, 1) := by decide +kernel
set_option maxHeartbeats 400000 in
set_option maxRecDepth 100000 in
theorem m_SA_init (l : Launch) (g : Gd) (sz : Nat) (h0 : Nat)  : Met l y_SA_init w_SA_init ({ frames := 2, cells := 3, slots := 669, locals := 40 } : Room) (va_Pc [.ref h0] (pr (en g) g.1 vcl sz [(h0, .inr (7, [.null, .null]))])) (va_Qv (fun (u : Unit) => True) (po g.1 vcl (va_A [(h0, .inr (7, [.null, .null]))] sz) (fun (u : Unit) => [])) (va_A [(h0, .inr (7, [.null, .null]))] sz)) 3 669 (va_A [(h0, .inr (7, [.null, .null]))] sz) := by
  refine mc_entry (cc := c_SA_init) (maxL := 1) (ret := none) (by decide) rfl (Nat.le_of_ble_eq_true rfl) ?_
  intro p e s m args below meth c ls F hr hlk hnm hsz hP hD hE hA hl
  obtain ⟨hx, hb, hml, hown, hts⟩ := id F
  have hK := hE.1
  generalize va_A [(h0, .inr (7, [.null, .null]))] sz = A at hD hE hA ⊢
  have hS : va_S A s.heap s.heap [] := va_S.rf
  have hl : lv_has ls 1 [(0, .ref h0)] := hl
  refine lv_aload_n hx hb dSA_init_0 rfl (lv_at hl 0 rfl) ?_
  refine W.objInit hx hb hown (hts _ (wg_t kw_154)) (hts _ (wg_t kw_41)) (hts _ (wg_t kobj)) rfl (by rw [hml]; exact hl.1) rfl dSA_init_1 (Nat.le_of_ble_eq_true rfl) (Nat.le_of_ble_eq_true rfl) ?_
  refine W.eq (g2 := F0 m 4 ls []) rfl ?_
  refine lv_aload_n hx hb dSA_init_4 rfl (lv_at hl 0 rfl) ?_
  refine va_new (ci := 3) (fs := [.null, .int 0, .int 0, .int 0]) (C := "LatticeKeys$Sponge") (T := T_SP) (N := 4) hx hb hts (wg_ft i_SP) ty_SP k_SP hown (hts _ (wg_t kw_155)) (hts _ (wg_t kw_50)) (hts _ (wg_t kw_2)) hK hP hD hS hA rfl z_SP (by decide) (by decide) dSA_init_5 (fun q1 H hP hD hS => ?_)
  have hP : va_P g.1 vcl [(h0, .inr (7, [.null, .null])), (q1, .inr (3, [.null, .int 0, .int 0, .int 0]))] _ := hP
  have hD : va_D _ [(h0, .inr (7, [.null, .null])), (q1, .inr (3, [.null, .int 0, .int 0, .int 0]))] := hD
  refine W.widen (k := 1) (n := 4) (by decide) (by decide) ?_
  refine lv_dup hx hb dSA_init_8 rfl ?_
  refine mc_v (wc := [(q1, .inr (3, [.null, .int 0, .int 0, .int 0]))]) (wr := [(h0, .inr (7, [.null, .null]))]) hP hD hS hA [1] [0] rfl rfl rfl (by decide) (va_runI (As := []) (rest := [.ref q1, .ref h0]) F (m_SP_init l g _ q1) (cwI 0 hts (wg_in kw_53) rfl rfl rfl (hts _ (wg_t kw_2)) (hts _ (wg_t kw_156)) (hts _ (wg_t kw_52)) rfl (by decide +kernel) ⟨by decide, by decide⟩) (pr_S (en_ok g) hP hD hS hA hE [1] rfl rfl) rfl rfl hl.1 rfl (lv_room (Nat.le_of_ble_eq_true rfl)) dSA_init_9 ⟨(by decide), (by decide)⟩) (fun u1 H locs hu1 hP hD hS => ?_)
  have hP : va_P g.1 vcl [(h0, .inr (7, [.null, .null])), (q1, .inr (3, [.ref u1, .int (nI 136), .int (nI 6), .int (nI 0)])), (u1, .inl (g.2.1 2, 25, .inr (.inl ((fun _ => 0)))))] _ := hP
  have hD : va_D _ [(h0, .inr (7, [.null, .null])), (q1, .inr (3, [.ref u1, .int (nI 136), .int (nI 6), .int (nI 0)])), (u1, .inl (g.2.1 2, 25, .inr (.inl ((fun _ => 0)))))] := hD
  refine W.widen (k := 2) (n := 29) (by decide) (by decide) ?_
  refine va_putF (D := g.1) (ci := 7) (v := .ref q1) (ty := .object "LatticeKeys$Sponge") (C := "LatticeKeys$DsaSampler") (T := T_SA) (N := 2) hx hb hts (wg_ft i_SA) ty_SA k_SA n_SA hown hK hP hD hS 0 rfl rfl 0 (by decide) (hts _ (wg_t kw_157)) (fun _ h9 => h9) rfl hnm rfl (by decide +kernel) rfl rfl (Nat.le_of_ble_eq_true rfl) dSA_init_12 (fun H locs hP hD hS => ?_)
  have hP : va_P g.1 vcl [(h0, .inr (7, [.ref q1, .null])), (q1, .inr (3, [.ref u1, .int (nI 136), .int (nI 6), .int (nI 0)])), (u1, .inl (g.2.1 2, 25, .inr (.inl ((fun _ => 0)))))] _ := hP
  have hD : va_D _ [(h0, .inr (7, [.ref q1, .null])), (q1, .inr (3, [.ref u1, .int (nI 136), .int (nI 6), .int (nI 0)])), (u1, .inl (g.2.1 2, 25, .inr (.inl ((fun _ => 0)))))] := hD
  refine lv_aload_n hx hb dSA_init_15 rfl (lv_at hl 0 rfl) ?_
  refine lv_sipush (v := nI 640) hx hb dSA_init_16 (by decide) ?_
  refine ma_newa0 (atype := .byte) hx hb (hts _ (wg_t kw_72)) rfl hK hP hD hS hA (N' := 640) (a0 := (640, .inl (fun _ => 0))) (fun _ => rfl) (by decide) (by decide) (by decide) (by decide) (by decide) dSA_init_19 (fun q2 H hP hD hS => ?_)
  refine W.widen (k := 3) (n := 669) (by decide) (by decide) ?_
  refine va_putF (D := g.1) (ci := 7) (v := .ref q2) (ty := .array .byte) (C := "LatticeKeys$DsaSampler") (T := T_SA) (N := 2) hx hb hts (wg_ft i_SA) ty_SA k_SA n_SA hown hK hP hD hS 0 rfl rfl 1 (by decide) (hts _ (wg_t kw_158)) (fun _ h9 => h9) rfl hnm rfl (by decide +kernel) rfl rfl (Nat.le_of_ble_eq_true rfl) dSA_init_21 (fun H locs hP hD hS => ?_)
  have hP : va_P g.1 vcl [(h0, .inr (7, [.ref q1, .ref q2])), (q1, .inr (3, [.ref u1, .int (nI 136), .int (nI 6), .int (nI 0)])), (u1, .inl (g.2.1 2, 25, .inr (.inl ((fun _ => 0)))))] _ := hP
  have hD : va_D _ [(h0, .inr (7, [.ref q1, .ref q2])), (q1, .inr (3, [.ref u1, .int (nI 136), .int (nI 6), .int (nI 0)])), (u1, .inl (g.2.1 2, 25, .inr (.inl ((fun _ => 0)))))] := hD
  exact mc_vret hx hb hr hlk hP hD hS () trivial [] rfl rfl (by omega) (by omega) dSA_init_24
