abbrev c_SP_start : ByteArray := prog_10_method_2_code
abbrev y_SP_start : MethodName := ⟨"LatticeKeys$Sponge", "start", "(I)V"⟩
abbrev w_SP_start : List Cond := Cond.code y_SP_start c_SP_start 2 none :: WG
theorem dSP_start_0 : decode c_SP_start 0 = .ok (.aload_n 0, 1) := by decide +kernel
theorem dSP_start_1 : decode c_SP_start 1 = .ok (.getfield 7, 3) := by decide +kernel
theorem dSP_start_4 : decode c_SP_start 4 = .ok (.lconst 0, 1) := by decide +kernel
theorem dSP_start_5 : decode c_SP_start 5 = .ok (.invokestatic 30, 3) := by decide +kernel
theorem dSP_start_8 : decode c_SP_start 8 = .ok (.aload_n 0, 1) := by decide +kernel
theorem dSP_start_9 : decode c_SP_start 9 = .ok (.getstatic 13, 3) := by decide +kernel
theorem dSP_start_12 : decode c_SP_start 12 = .ok (.iload_n 1, 1) := by decide +kernel
theorem dSP_start_13 : decode c_SP_start 13 = .ok (.iaload, 1) := by decide +kernel
theorem dSP_start_14 : decode c_SP_start 14 = .ok (.putfield 17, 3) := by decide +kernel
theorem dSP_start_17 : decode c_SP_start 17 = .ok (.aload_n 0, 1) := by decide +kernel
theorem dSP_start_18 : decode c_SP_start 18 = .ok (.getstatic 21, 3) := by decide +kernel
theorem dSP_start_21 : decode c_SP_start 21 = .ok (.iload_n 1, 1) := by decide +kernel
theorem dSP_start_22 : decode c_SP_start 22 = .ok (.iaload, 1) := by decide +kernel
theorem dSP_start_23 : decode c_SP_start 23 = .ok (.putfield 24, 3) := by decide +kernel
theorem dSP_start_26 : decode c_SP_start 26 = .ok (.aload_n 0, 1) := by decide +kernel
theorem dSP_start_27 : decode c_SP_start 27 = .ok (.iconst 0, 1) := by decide +kernel
theorem dSP_start_28 : decode c_SP_start 28 = .ok (.putfield 27, 3) := by decide +kernel
theorem dSP_start_31 : decode c_SP_start 31 = .ok (.return_, 1) := by decide +kernel
set_option maxHeartbeats 400000 in
set_option maxRecDepth 100000 in
theorem m_SP_start_0 (l : Launch) (g : Gd) (sz : Nat) (h0 ln : Nat) (x1 x2 x3 : Int32) (f : Nat → Int64)  : Met l y_SP_start w_SP_start ({ frames := 1, cells := 0, slots := 0, locals := 24 } : Room) (va_Pc [.ref h0, .int (nI 0)] (pr (en g) g.1 vcl sz [(h0, .inr (3, [.ref ln, .int x1, .int x2, .int x3])), (ln, .inl (g.2.1 2, 25, .inr (.inl f)))])) (va_Qv (fun (u : Nat → Int64) => True) (po g.1 vcl (va_A [(h0, .inr (3, [.ref ln, .int x1, .int x2, .int x3])), (ln, .inl (g.2.1 2, 25, .inr (.inl f)))] sz) (fun (u : Nat → Int64) => [(h0, .inr (3, [.ref ln, .int (nI 136), .int (nI 6), .int (nI 0)])), (ln, .inl (g.2.1 2, 25, .inr (.inl u)))])) (va_A [(h0, .inr (3, [.ref ln, .int x1, .int x2, .int x3])), (ln, .inl (g.2.1 2, 25, .inr (.inl f)))] sz)) 0 0 (va_A [(h0, .inr (3, [.ref ln, .int x1, .int x2, .int x3])), (ln, .inl (g.2.1 2, 25, .inr (.inl f)))] sz) := by
  refine mc_entry (cc := c_SP_start) (maxL := 2) (ret := none) (by decide) rfl (Nat.le_of_ble_eq_true rfl) ?_
  intro p e s m args below meth c ls F hr hlk hnm hsz hP hD hE hA hl
  obtain ⟨hx, hb, hml, hown, hts⟩ := id F
  have hK := hE.1
  generalize va_A [(h0, .inr (3, [.ref ln, .int x1, .int x2, .int x3])), (ln, .inl (g.2.1 2, 25, .inr (.inl f)))] sz = A at hD hE hA ⊢
  have hS : va_S A s.heap s.heap [] := va_S.rf
  have hl : lv_has ls 2 [(0, .ref h0), (1, .int (nI 0))] := hl
  refine lv_aload_n hx hb dSP_start_0 rfl (lv_at hl 0 rfl) ?_
  refine va_get (D := g.1) (ci := 3) (C := "LatticeKeys$Sponge") (T := T_SP) (N := 4) hx hb hts (wg_ft i_SP) hown hK hP 0 rfl rfl 0 (by decide) (hts _ (wg_t kw_59)) (fun _ h9 => h9) rfl dSP_start_1 ?_
  refine lv_lconst (v := 0) hx hb dSP_start_4 (by decide) ?_
  refine mc_v (wc := [(ln, .inl (g.2.1 2, 25, .inr (.inl f)))]) (wr := [(h0, .inr (3, [.ref ln, .int x1, .int x2, .int x3]))]) hP hD hS hA [1] [0] rfl rfl rfl (by decide) (va_runS (As := [.ref ln, .long 0]) (rest := []) F (m_AR_fillJ l g _ ln 0 f) (va_cwS 2 hts (wg_app (wg_c kw_582 (wg_c kw_583 (wg_c kw_21 wg_n))) kw_584) rfl rfl rfl (by decide +kernel) ⟨by decide, by decide⟩) (pr_S (en_ok g) hP hD hS hA hE [1] rfl rfl) rfl rfl hl.1 rfl (lv_room (Nat.le_of_ble_eq_true rfl)) dSP_start_5 ⟨(by decide), (by decide)⟩) (fun u1 H locs hu1 hP hD hS => ?_)
  have hP : va_P g.1 vcl [(h0, .inr (3, [.ref ln, .int x1, .int x2, .int x3])), (ln, .inl (g.2.1 2, 25, .inr (.inl u1)))] _ := hP
  have hD : va_D _ [(h0, .inr (3, [.ref ln, .int x1, .int x2, .int x3])), (ln, .inl (g.2.1 2, 25, .inr (.inl u1)))] := hD
  refine W.widen (k := 0) (n := 0) (by omega) (by omega) ?_
  refine lv_aload_n hx hb dSP_start_8 rfl (lv_at hl 0 rfl) ?_
  refine va_gets hx hb (hE.2.1 0 _ rfl).1 hS hown (hts _ (wg_t kw_55)) (fun _ h9 => h9) dSP_start_9 ?_
  refine lv_iload_n hx hb dSP_start_12 rfl (lv_at hl 1 rfl) ?_
  refine va_ti (v := .int (nI 136)) hx hb (hE.2.1 0 _ rfl).2 hS (vp_in_nI (by decide) (by decide)) (by decide +kernel) dSP_start_13 ?_
  refine va_put (D := g.1) (ci := 3) (v := .int (nI 136)) (ty := .int) (C := "LatticeKeys$Sponge") (T := T_SP) (N := 4) hx hb hts (wg_ft i_SP) ty_SP k_SP n_SP hown hK hP hD hS 0 rfl rfl 1 (by decide) (hts _ (wg_t kw_60)) (fun _ h9 => h9) rfl (by decide +kernel) rfl rfl (Nat.le_of_ble_eq_true rfl) dSP_start_14 (fun H locs hP hD hS => ?_)
  have hP : va_P g.1 vcl [(h0, .inr (3, [.ref ln, .int (nI 136), .int x2, .int x3])), (ln, .inl (g.2.1 2, 25, .inr (.inl u1)))] _ := hP
  have hD : va_D _ [(h0, .inr (3, [.ref ln, .int (nI 136), .int x2, .int x3])), (ln, .inl (g.2.1 2, 25, .inr (.inl u1)))] := hD
  refine lv_aload_n hx hb dSP_start_17 rfl (lv_at hl 0 rfl) ?_
  refine va_gets hx hb (hE.2.1 1 _ rfl).1 hS hown (hts _ (wg_t kw_57)) (fun _ h9 => h9) dSP_start_18 ?_
  refine lv_iload_n hx hb dSP_start_21 rfl (lv_at hl 1 rfl) ?_
  refine va_ti (v := .int (nI 6)) hx hb (hE.2.1 1 _ rfl).2 hS (vp_in_nI (by decide) (by decide)) (by decide +kernel) dSP_start_22 ?_
  refine va_put (D := g.1) (ci := 3) (v := .int (nI 6)) (ty := .int) (C := "LatticeKeys$Sponge") (T := T_SP) (N := 4) hx hb hts (wg_ft i_SP) ty_SP k_SP n_SP hown hK hP hD hS 0 rfl rfl 2 (by decide) (hts _ (wg_t kw_61)) (fun _ h9 => h9) rfl (by decide +kernel) rfl rfl (Nat.le_of_ble_eq_true rfl) dSP_start_23 (fun H locs hP hD hS => ?_)
  have hP : va_P g.1 vcl [(h0, .inr (3, [.ref ln, .int (nI 136), .int (nI 6), .int x3])), (ln, .inl (g.2.1 2, 25, .inr (.inl u1)))] _ := hP
  have hD : va_D _ [(h0, .inr (3, [.ref ln, .int (nI 136), .int (nI 6), .int x3])), (ln, .inl (g.2.1 2, 25, .inr (.inl u1)))] := hD
  refine lv_aload_n hx hb dSP_start_26 rfl (lv_at hl 0 rfl) ?_
  refine lv_iconst (v := nI 0) hx hb dSP_start_27 (by decide) ?_
  refine va_put (D := g.1) (ci := 3) (v := .int (nI 0)) (ty := .int) (C := "LatticeKeys$Sponge") (T := T_SP) (N := 4) hx hb hts (wg_ft i_SP) ty_SP k_SP n_SP hown hK hP hD hS 0 rfl rfl 3 (by decide) (hts _ (wg_t kw_62)) (fun _ h9 => h9) rfl (by decide +kernel) rfl rfl (Nat.le_of_ble_eq_true rfl) dSP_start_28 (fun H locs hP hD hS => ?_)
  have hP : va_P g.1 vcl [(h0, .inr (3, [.ref ln, .int (nI 136), .int (nI 6), .int (nI 0)])), (ln, .inl (g.2.1 2, 25, .inr (.inl u1)))] _ := hP
  have hD : va_D _ [(h0, .inr (3, [.ref ln, .int (nI 136), .int (nI 6), .int (nI 0)])), (ln, .inl (g.2.1 2, 25, .inr (.inl u1)))] := hD
  exact mc_vret hx hb hr hlk hP hD hS u1 trivial [0, 1] rfl rfl (by omega) (by omega) dSP_start_31
set_option maxHeartbeats 400000 in
set_option maxRecDepth 100000 in
theorem m_SP_start_1 (l : Launch) (g : Gd) (sz : Nat) (h0 ln : Nat) (x1 x2 x3 : Int32) (f : Nat → Int64)  : Met l y_SP_start w_SP_start ({ frames := 1, cells := 0, slots := 0, locals := 24 } : Room) (va_Pc [.ref h0, .int (nI 1)] (pr (en g) g.1 vcl sz [(h0, .inr (3, [.ref ln, .int x1, .int x2, .int x3])), (ln, .inl (g.2.1 2, 25, .inr (.inl f)))])) (va_Qv (fun (u : Nat → Int64) => True) (po g.1 vcl (va_A [(h0, .inr (3, [.ref ln, .int x1, .int x2, .int x3])), (ln, .inl (g.2.1 2, 25, .inr (.inl f)))] sz) (fun (u : Nat → Int64) => [(h0, .inr (3, [.ref ln, .int (nI 72), .int (nI 6), .int (nI 0)])), (ln, .inl (g.2.1 2, 25, .inr (.inl u)))])) (va_A [(h0, .inr (3, [.ref ln, .int x1, .int x2, .int x3])), (ln, .inl (g.2.1 2, 25, .inr (.inl f)))] sz)) 0 0 (va_A [(h0, .inr (3, [.ref ln, .int x1, .int x2, .int x3])), (ln, .inl (g.2.1 2, 25, .inr (.inl f)))] sz) := by
  refine mc_entry (cc := c_SP_start) (maxL := 2) (ret := none) (by decide) rfl (Nat.le_of_ble_eq_true rfl) ?_
  intro p e s m args below meth c ls F hr hlk hnm hsz hP hD hE hA hl
  obtain ⟨hx, hb, hml, hown, hts⟩ := id F
  have hK := hE.1
  generalize va_A [(h0, .inr (3, [.ref ln, .int x1, .int x2, .int x3])), (ln, .inl (g.2.1 2, 25, .inr (.inl f)))] sz = A at hD hE hA ⊢
  have hS : va_S A s.heap s.heap [] := va_S.rf
  have hl : lv_has ls 2 [(0, .ref h0), (1, .int (nI 1))] := hl
  refine lv_aload_n hx hb dSP_start_0 rfl (lv_at hl 0 rfl) ?_
  refine va_get (D := g.1) (ci := 3) (C := "LatticeKeys$Sponge") (T := T_SP) (N := 4) hx hb hts (wg_ft i_SP) hown hK hP 0 rfl rfl 0 (by decide) (hts _ (wg_t kw_59)) (fun _ h9 => h9) rfl dSP_start_1 ?_
  refine lv_lconst (v := 0) hx hb dSP_start_4 (by decide) ?_
  refine mc_v (wc := [(ln, .inl (g.2.1 2, 25, .inr (.inl f)))]) (wr := [(h0, .inr (3, [.ref ln, .int x1, .int x2, .int x3]))]) hP hD hS hA [1] [0] rfl rfl rfl (by decide) (va_runS (As := [.ref ln, .long 0]) (rest := []) F (m_AR_fillJ l g _ ln 0 f) (va_cwS 2 hts (wg_app (wg_c kw_582 (wg_c kw_583 (wg_c kw_21 wg_n))) kw_584) rfl rfl rfl (by decide +kernel) ⟨by decide, by decide⟩) (pr_S (en_ok g) hP hD hS hA hE [1] rfl rfl) rfl rfl hl.1 rfl (lv_room (Nat.le_of_ble_eq_true rfl)) dSP_start_5 ⟨(by decide), (by decide)⟩) (fun u1 H locs hu1 hP hD hS => ?_)
  have hP : va_P g.1 vcl [(h0, .inr (3, [.ref ln, .int x1, .int x2, .int x3])), (ln, .inl (g.2.1 2, 25, .inr (.inl u1)))] _ := hP
  have hD : va_D _ [(h0, .inr (3, [.ref ln, .int x1, .int x2, .int x3])), (ln, .inl (g.2.1 2, 25, .inr (.inl u1)))] := hD
  refine W.widen (k := 0) (n := 0) (by omega) (by omega) ?_
  refine lv_aload_n hx hb dSP_start_8 rfl (lv_at hl 0 rfl) ?_
  refine va_gets hx hb (hE.2.1 0 _ rfl).1 hS hown (hts _ (wg_t kw_55)) (fun _ h9 => h9) dSP_start_9 ?_
  refine lv_iload_n hx hb dSP_start_12 rfl (lv_at hl 1 rfl) ?_
  refine va_ti (v := .int (nI 72)) hx hb (hE.2.1 0 _ rfl).2 hS (vp_in_nI (by decide) (by decide)) (by decide +kernel) dSP_start_13 ?_
  refine va_put (D := g.1) (ci := 3) (v := .int (nI 72)) (ty := .int) (C := "LatticeKeys$Sponge") (T := T_SP) (N := 4) hx hb hts (wg_ft i_SP) ty_SP k_SP n_SP hown hK hP hD hS 0 rfl rfl 1 (by decide) (hts _ (wg_t kw_60)) (fun _ h9 => h9) rfl (by decide +kernel) rfl rfl (Nat.le_of_ble_eq_true rfl) dSP_start_14 (fun H locs hP hD hS => ?_)
  have hP : va_P g.1 vcl [(h0, .inr (3, [.ref ln, .int (nI 72), .int x2, .int x3])), (ln, .inl (g.2.1 2, 25, .inr (.inl u1)))] _ := hP
  have hD : va_D _ [(h0, .inr (3, [.ref ln, .int (nI 72), .int x2, .int x3])), (ln, .inl (g.2.1 2, 25, .inr (.inl u1)))] := hD
  refine lv_aload_n hx hb dSP_start_17 rfl (lv_at hl 0 rfl) ?_
  refine va_gets hx hb (hE.2.1 1 _ rfl).1 hS hown (hts _ (wg_t kw_57)) (fun _ h9 => h9) dSP_start_18 ?_
  refine lv_iload_n hx hb dSP_start_21 rfl (lv_at hl 1 rfl) ?_
  refine va_ti (v := .int (nI 6)) hx hb (hE.2.1 1 _ rfl).2 hS (vp_in_nI (by decide) (by decide)) (by decide +kernel) dSP_start_22 ?_
  refine va_put (D := g.1) (ci := 3) (v := .int (nI 6)) (ty := .int) (C := "LatticeKeys$Sponge") (T := T_SP) (N := 4) hx hb hts (wg_ft i_SP) ty_SP k_SP n_SP hown hK hP hD hS 0 rfl rfl 2 (by decide) (hts _ (wg_t kw_61)) (fun _ h9 => h9) rfl (by decide +kernel) rfl rfl (Nat.le_of_ble_eq_true rfl) dSP_start_23 (fun H locs hP hD hS => ?_)
  have hP : va_P g.1 vcl [(h0, .inr (3, [.ref ln, .int (nI 72), .int (nI 6), .int x3])), (ln, .inl (g.2.1 2, 25, .inr (.inl u1)))] _ := hP
  have hD : va_D _ [(h0, .inr (3, [.ref ln, .int (nI 72), .int (nI 6), .int x3])), (ln, .inl (g.2.1 2, 25, .inr (.inl u1)))] := hD
  refine lv_aload_n hx hb dSP_start_26 rfl (lv_at hl 0 rfl) ?_
  refine lv_iconst (v := nI 0) hx hb dSP_start_27 (by decide) ?_
  refine va_put (D := g.1) (ci := 3) (v := .int (nI 0)) (ty := .int) (C := "LatticeKeys$Sponge") (T := T_SP) (N := 4) hx hb hts (wg_ft i_SP) ty_SP k_SP n_SP hown hK hP hD hS 0 rfl rfl 3 (by decide) (hts _ (wg_t kw_62)) (fun _ h9 => h9) rfl (by decide +kernel) rfl rfl (Nat.le_of_ble_eq_true rfl) dSP_start_28 (fun H locs hP hD hS => ?_)
  have hP : va_P g.1 vcl [(h0, .inr (3, [.ref ln, .int (nI 72), .int (nI 6), .int (nI 0)])), (ln, .inl (g.2.1 2, 25, .inr (.inl u1)))] _ := hP
  have hD : va_D _ [(h0, .inr (3, [.ref ln, .int (nI 72), .int (nI 6), .int (nI 0)])), (ln, .inl (g.2.1 2, 25, .inr (.inl u1)))] := hD
  exact mc_vret hx hb hr hlk hP hD hS u1 trivial [0, 1] rfl rfl (by omega) (by omega) dSP_start_31
set_option maxHeartbeats 400000 in
set_option maxRecDepth 100000 in
theorem m_SP_start_2 (l : Launch) (g : Gd) (sz : Nat) (h0 ln : Nat) (x1 x2 x3 : Int32) (f : Nat → Int64)  : Met l y_SP_start w_SP_start ({ frames := 1, cells := 0, slots := 0, locals := 24 } : Room) (va_Pc [.ref h0, .int (nI 2)] (pr (en g) g.1 vcl sz [(h0, .inr (3, [.ref ln, .int x1, .int x2, .int x3])), (ln, .inl (g.2.1 2, 25, .inr (.inl f)))])) (va_Qv (fun (u : Nat → Int64) => True) (po g.1 vcl (va_A [(h0, .inr (3, [.ref ln, .int x1, .int x2, .int x3])), (ln, .inl (g.2.1 2, 25, .inr (.inl f)))] sz) (fun (u : Nat → Int64) => [(h0, .inr (3, [.ref ln, .int (nI 168), .int (nI 31), .int (nI 0)])), (ln, .inl (g.2.1 2, 25, .inr (.inl u)))])) (va_A [(h0, .inr (3, [.ref ln, .int x1, .int x2, .int x3])), (ln, .inl (g.2.1 2, 25, .inr (.inl f)))] sz)) 0 0 (va_A [(h0, .inr (3, [.ref ln, .int x1, .int x2, .int x3])), (ln, .inl (g.2.1 2, 25, .inr (.inl f)))] sz) := by
  refine mc_entry (cc := c_SP_start) (maxL := 2) (ret := none) (by decide) rfl (Nat.le_of_ble_eq_true rfl) ?_
  intro p e s m args below meth c ls F hr hlk hnm hsz hP hD hE hA hl
  obtain ⟨hx, hb, hml, hown, hts⟩ := id F
  have hK := hE.1
  generalize va_A [(h0, .inr (3, [.ref ln, .int x1, .int x2, .int x3])), (ln, .inl (g.2.1 2, 25, .inr (.inl f)))] sz = A at hD hE hA ⊢
  have hS : va_S A s.heap s.heap [] := va_S.rf
  have hl : lv_has ls 2 [(0, .ref h0), (1, .int (nI 2))] := hl
  refine lv_aload_n hx hb dSP_start_0 rfl (lv_at hl 0 rfl) ?_
  refine va_get (D := g.1) (ci := 3) (C := "LatticeKeys$Sponge") (T := T_SP) (N := 4) hx hb hts (wg_ft i_SP) hown hK hP 0 rfl rfl 0 (by decide) (hts _ (wg_t kw_59)) (fun _ h9 => h9) rfl dSP_start_1 ?_
  refine lv_lconst (v := 0) hx hb dSP_start_4 (by decide) ?_
  refine mc_v (wc := [(ln, .inl (g.2.1 2, 25, .inr (.inl f)))]) (wr := [(h0, .inr (3, [.ref ln, .int x1, .int x2, .int x3]))]) hP hD hS hA [1] [0] rfl rfl rfl (by decide) (va_runS (As := [.ref ln, .long 0]) (rest := []) F (m_AR_fillJ l g _ ln 0 f) (va_cwS 2 hts (wg_app (wg_c kw_582 (wg_c kw_583 (wg_c kw_21 wg_n))) kw_584) rfl rfl rfl (by decide +kernel) ⟨by decide, by decide⟩) (pr_S (en_ok g) hP hD hS hA hE [1] rfl rfl) rfl rfl hl.1 rfl (lv_room (Nat.le_of_ble_eq_true rfl)) dSP_start_5 ⟨(by decide), (by decide)⟩) (fun u1 H locs hu1 hP hD hS => ?_)
  have hP : va_P g.1 vcl [(h0, .inr (3, [.ref ln, .int x1, .int x2, .int x3])), (ln, .inl (g.2.1 2, 25, .inr (.inl u1)))] _ := hP
  have hD : va_D _ [(h0, .inr (3, [.ref ln, .int x1, .int x2, .int x3])), (ln, .inl (g.2.1 2, 25, .inr (.inl u1)))] := hD
  refine W.widen (k := 0) (n := 0) (by omega) (by omega) ?_
  refine lv_aload_n hx hb dSP_start_8 rfl (lv_at hl 0 rfl) ?_
  refine va_gets hx hb (hE.2.1 0 _ rfl).1 hS hown (hts _ (wg_t kw_55)) (fun _ h9 => h9) dSP_start_9 ?_
  refine lv_iload_n hx hb dSP_start_12 rfl (lv_at hl 1 rfl) ?_
  refine va_ti (v := .int (nI 168)) hx hb (hE.2.1 0 _ rfl).2 hS (vp_in_nI (by decide) (by decide)) (by decide +kernel) dSP_start_13 ?_
  refine va_put (D := g.1) (ci := 3) (v := .int (nI 168)) (ty := .int) (C := "LatticeKeys$Sponge") (T := T_SP) (N := 4) hx hb hts (wg_ft i_SP) ty_SP k_SP n_SP hown hK hP hD hS 0 rfl rfl 1 (by decide) (hts _ (wg_t kw_60)) (fun _ h9 => h9) rfl (by decide +kernel) rfl rfl (Nat.le_of_ble_eq_true rfl) dSP_start_14 (fun H locs hP hD hS => ?_)
  have hP : va_P g.1 vcl [(h0, .inr (3, [.ref ln, .int (nI 168), .int x2, .int x3])), (ln, .inl (g.2.1 2, 25, .inr (.inl u1)))] _ := hP
  have hD : va_D _ [(h0, .inr (3, [.ref ln, .int (nI 168), .int x2, .int x3])), (ln, .inl (g.2.1 2, 25, .inr (.inl u1)))] := hD
  refine lv_aload_n hx hb dSP_start_17 rfl (lv_at hl 0 rfl) ?_
  refine va_gets hx hb (hE.2.1 1 _ rfl).1 hS hown (hts _ (wg_t kw_57)) (fun _ h9 => h9) dSP_start_18 ?_
  refine lv_iload_n hx hb dSP_start_21 rfl (lv_at hl 1 rfl) ?_
  refine va_ti (v := .int (nI 31)) hx hb (hE.2.1 1 _ rfl).2 hS (vp_in_nI (by decide) (by decide)) (by decide +kernel) dSP_start_22 ?_
  refine va_put (D := g.1) (ci := 3) (v := .int (nI 31)) (ty := .int) (C := "LatticeKeys$Sponge") (T := T_SP) (N := 4) hx hb hts (wg_ft i_SP) ty_SP k_SP n_SP hown hK hP hD hS 0 rfl rfl 2 (by decide) (hts _ (wg_t kw_61)) (fun _ h9 => h9) rfl (by decide +kernel) rfl rfl (Nat.le_of_ble_eq_true rfl) dSP_start_23 (fun H locs hP hD hS => ?_)
  have hP : va_P g.1 vcl [(h0, .inr (3, [.ref ln, .int (nI 168), .int (nI 31), .int x3])), (ln, .inl (g.2.1 2, 25, .inr (.inl u1)))] _ := hP
  have hD : va_D _ [(h0, .inr (3, [.ref ln, .int (nI 168), .int (nI 31), .int x3])), (ln, .inl (g.2.1 2, 25, .inr (.inl u1)))] := hD
  refine lv_aload_n hx hb dSP_start_26 rfl (lv_at hl 0 rfl) ?_
  refine lv_iconst (v := nI 0) hx hb dSP_start_27 (by decide) ?_
  refine va_put (D := g.1) (ci := 3) (v := .int (nI 0)) (ty := .int) (C := "LatticeKeys$Sponge") (T := T_SP) (N := 4) hx hb hts (wg_ft i_SP) ty_SP k_SP n_SP hown hK hP hD hS 0 rfl rfl 3 (by decide) (hts _ (wg_t kw_62)) (fun _ h9 => h9) rfl (by decide +kernel) rfl rfl (Nat.le_of_ble_eq_true rfl) dSP_start_28 (fun H locs hP hD hS => ?_)
  have hP : va_P g.1 vcl [(h0, .inr (3, [.ref ln, .int (nI 168), .int (nI 31), .int (nI 0)])), (ln, .inl (g.2.1 2, 25, .inr (.inl u1)))] _ := hP
  have hD : va_D _ [(h0, .inr (3, [.ref ln, .int (nI 168), .int (nI 31), .int (nI 0)])), (ln, .inl (g.2.1 2, 25, .inr (.inl u1)))] := hD
  exact mc_vret hx hb hr hlk hP hD hS u1 trivial [0, 1] rfl rfl (by omega) (by omega) dSP_start_31
set_option maxHeartbeats 400000 in
set_option maxRecDepth 100000 in
theorem m_SP_start_3 (l : Launch) (g : Gd) (sz : Nat) (h0 ln : Nat) (x1 x2 x3 : Int32) (f : Nat → Int64)  : Met l y_SP_start w_SP_start ({ frames := 1, cells := 0, slots := 0, locals := 24 } : Room) (va_Pc [.ref h0, .int (nI 3)] (pr (en g) g.1 vcl sz [(h0, .inr (3, [.ref ln, .int x1, .int x2, .int x3])), (ln, .inl (g.2.1 2, 25, .inr (.inl f)))])) (va_Qv (fun (u : Nat → Int64) => True) (po g.1 vcl (va_A [(h0, .inr (3, [.ref ln, .int x1, .int x2, .int x3])), (ln, .inl (g.2.1 2, 25, .inr (.inl f)))] sz) (fun (u : Nat → Int64) => [(h0, .inr (3, [.ref ln, .int (nI 136), .int (nI 31), .int (nI 0)])), (ln, .inl (g.2.1 2, 25, .inr (.inl u)))])) (va_A [(h0, .inr (3, [.ref ln, .int x1, .int x2, .int x3])), (ln, .inl (g.2.1 2, 25, .inr (.inl f)))] sz)) 0 0 (va_A [(h0, .inr (3, [.ref ln, .int x1, .int x2, .int x3])), (ln, .inl (g.2.1 2, 25, .inr (.inl f)))] sz) := by
  refine mc_entry (cc := c_SP_start) (maxL := 2) (ret := none) (by decide) rfl (Nat.le_of_ble_eq_true rfl) ?_
  intro p e s m args below meth c ls F hr hlk hnm hsz hP hD hE hA hl
  obtain ⟨hx, hb, hml, hown, hts⟩ := id F
  have hK := hE.1
  generalize va_A [(h0, .inr (3, [.ref ln, .int x1, .int x2, .int x3])), (ln, .inl (g.2.1 2, 25, .inr (.inl f)))] sz = A at hD hE hA ⊢
  have hS : va_S A s.heap s.heap [] := va_S.rf
  have hl : lv_has ls 2 [(0, .ref h0), (1, .int (nI 3))] := hl
  refine lv_aload_n hx hb dSP_start_0 rfl (lv_at hl 0 rfl) ?_
  refine va_get (D := g.1) (ci := 3) (C := "LatticeKeys$Sponge") (T := T_SP) (N := 4) hx hb hts (wg_ft i_SP) hown hK hP 0 rfl rfl 0 (by decide) (hts _ (wg_t kw_59)) (fun _ h9 => h9) rfl dSP_start_1 ?_
  refine lv_lconst (v := 0) hx hb dSP_start_4 (by decide) ?_
  refine mc_v (wc := [(ln, .inl (g.2.1 2, 25, .inr (.inl f)))]) (wr := [(h0, .inr (3, [.ref ln, .int x1, .int x2, .int x3]))]) hP hD hS hA [1] [0] rfl rfl rfl (by decide) (va_runS (As := [.ref ln, .long 0]) (rest := []) F (m_AR_fillJ l g _ ln 0 f) (va_cwS 2 hts (wg_app (wg_c kw_582 (wg_c kw_583 (wg_c kw_21 wg_n))) kw_584) rfl rfl rfl (by decide +kernel) ⟨by decide, by decide⟩) (pr_S (en_ok g) hP hD hS hA hE [1] rfl rfl) rfl rfl hl.1 rfl (lv_room (Nat.le_of_ble_eq_true rfl)) dSP_start_5 ⟨(by decide), (by decide)⟩) (fun u1 H locs hu1 hP hD hS => ?_)
  have hP : va_P g.1 vcl [(h0, .inr (3, [.ref ln, .int x1, .int x2, .int x3])), (ln, .inl (g.2.1 2, 25, .inr (.inl u1)))] _ := hP
  have hD : va_D _ [(h0, .inr (3, [.ref ln, .int x1, .int x2, .int x3])), (ln, .inl (g.2.1 2, 25, .inr (.inl u1)))] := hD
  refine W.widen (k := 0) (n := 0) (by omega) (by omega) ?_
  refine lv_aload_n hx hb dSP_start_8 rfl (lv_at hl 0 rfl) ?_
  refine va_gets hx hb (hE.2.1 0 _ rfl).1 hS hown (hts _ (wg_t kw_55)) (fun _ h9 => h9) dSP_start_9 ?_
  refine lv_iload_n hx hb dSP_start_12 rfl (lv_at hl 1 rfl) ?_
  refine va_ti (v := .int (nI 136)) hx hb (hE.2.1 0 _ rfl).2 hS (vp_in_nI (by decide) (by decide)) (by decide +kernel) dSP_start_13 ?_
  refine va_put (D := g.1) (ci := 3) (v := .int (nI 136)) (ty := .int) (C := "LatticeKeys$Sponge") (T := T_SP) (N := 4) hx hb hts (wg_ft i_SP) ty_SP k_SP n_SP hown hK hP hD hS 0 rfl rfl 1 (by decide) (hts _ (wg_t kw_60)) (fun _ h9 => h9) rfl (by decide +kernel) rfl rfl (Nat.le_of_ble_eq_true rfl) dSP_start_14 (fun H locs hP hD hS => ?_)
  have hP : va_P g.1 vcl [(h0, .inr (3, [.ref ln, .int (nI 136), .int x2, .int x3])), (ln, .inl (g.2.1 2, 25, .inr (.inl u1)))] _ := hP
  have hD : va_D _ [(h0, .inr (3, [.ref ln, .int (nI 136), .int x2, .int x3])), (ln, .inl (g.2.1 2, 25, .inr (.inl u1)))] := hD
  refine lv_aload_n hx hb dSP_start_17 rfl (lv_at hl 0 rfl) ?_
  refine va_gets hx hb (hE.2.1 1 _ rfl).1 hS hown (hts _ (wg_t kw_57)) (fun _ h9 => h9) dSP_start_18 ?_
  refine lv_iload_n hx hb dSP_start_21 rfl (lv_at hl 1 rfl) ?_
  refine va_ti (v := .int (nI 31)) hx hb (hE.2.1 1 _ rfl).2 hS (vp_in_nI (by decide) (by decide)) (by decide +kernel) dSP_start_22 ?_
  refine va_put (D := g.1) (ci := 3) (v := .int (nI 31)) (ty := .int) (C := "LatticeKeys$Sponge") (T := T_SP) (N := 4) hx hb hts (wg_ft i_SP) ty_SP k_SP n_SP hown hK hP hD hS 0 rfl rfl 2 (by decide) (hts _ (wg_t kw_61)) (fun _ h9 => h9) rfl (by decide +kernel) rfl rfl (Nat.le_of_ble_eq_true rfl) dSP_start_23 (fun H locs hP hD hS => ?_)
  have hP : va_P g.1 vcl [(h0, .inr (3, [.ref ln, .int (nI 136), .int (nI 31), .int x3])), (ln, .inl (g.2.1 2, 25, .inr (.inl u1)))] _ := hP
  have hD : va_D _ [(h0, .inr (3, [.ref ln, .int (nI 136), .int (nI 31), .int x3])), (ln, .inl (g.2.1 2, 25, .inr (.inl u1)))] := hD
  refine lv_aload_n hx hb dSP_start_26 rfl (lv_at hl 0 rfl) ?_
  refine lv_iconst (v := nI 0) hx hb dSP_start_27 (by decide) ?_
  refine va_put (D := g.1) (ci := 3) (v := .int (nI 0)) (ty := .int) (C := "LatticeKeys$Sponge") (T := T_SP) (N := 4) hx hb hts (wg_ft i_SP) ty_SP k_SP n_SP hown hK hP hD hS 0 rfl rfl 3 (by decide) (hts _ (wg_t kw_62)) (fun _ h9 => h9) rfl (by decide +kernel) rfl rfl (Nat.le_of_ble_eq_true rfl) dSP_start_28 (fun H locs hP hD hS => ?_)
  have hP : va_P g.1 vcl [(h0, .inr (3, [.ref ln, .int (nI 136), .int (nI 31), .int (nI 0)])), (ln, .inl (g.2.1 2, 25, .inr (.inl u1)))] _ := hP
  have hD : va_D _ [(h0, .inr (3, [.ref ln, .int (nI 136), .int (nI 31), .int (nI 0)])), (ln, .inl (g.2.1 2, 25, .inr (.inl u1)))] := hD
  exact mc_vret hx hb hr hlk hP hD hS u1 trivial [0, 1] rfl rfl (by omega) (by omega) dSP_start_31
