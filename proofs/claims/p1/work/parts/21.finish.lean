abbrev c_SP_finish : ByteArray := prog_10_method_5_code
abbrev y_SP_finish : MethodName := ⟨"LatticeKeys$Sponge", "finish", "()V"⟩
abbrev w_SP_finish : List Cond := Cond.code y_SP_finish c_SP_finish 1 none :: WG
theorem dSP_finish_0 : decode c_SP_finish 0 = .ok (.aload_n 0, 1) := by decide +kernel
theorem dSP_finish_1 : decode c_SP_finish 1 = .ok (.aload_n 0, 1) := by decide +kernel
theorem dSP_finish_2 : decode c_SP_finish 2 = .ok (.getfield 27, 3) := by decide +kernel
theorem dSP_finish_5 : decode c_SP_finish 5 = .ok (.aload_n 0, 1) := by decide +kernel
theorem dSP_finish_6 : decode c_SP_finish 6 = .ok (.getfield 24, 3) := by decide +kernel
theorem dSP_finish_9 : decode c_SP_finish 9 = .ok (.invokevirtual 40, 3) := by decide +kernel
theorem dSP_finish_12 : decode c_SP_finish 12 = .ok (.aload_n 0, 1) := by decide +kernel
theorem dSP_finish_13 : decode c_SP_finish 13 = .ok (.aload_n 0, 1) := by decide +kernel
theorem dSP_finish_14 : decode c_SP_finish 14 = .ok (.getfield 17, 3) := by decide +kernel
theorem dSP_finish_17 : decode c_SP_finish 17 = .ok (.iconst 1, 1) := by decide +kernel
theorem dSP_finish_18 : decode c_SP_finish 18 = .ok (.isub, 1) := by decide +kernel
theorem dSP_finish_19 : decode c_SP_finish 19 = .ok (.sipush 128, 3) := by decide +kernel
theorem dSP_finish_22 : decode c_SP_finish 22 = .ok (.invokevirtual 40, 3) := by decide +kernel
theorem dSP_finish_25 : decode c_SP_finish 25 = .ok (.aload_n 0, 1) := by decide +kernel
theorem dSP_finish_26 : decode c_SP_finish 26 = .ok (.aload_n 0, 1) := by decide +kernel
theorem dSP_finish_27 : decode c_SP_finish 27 = .ok (.getfield 17, 3) := by decide +kernel
theorem dSP_finish_30 : decode c_SP_finish 30 = .ok (.putfield 27, 3) := by decide +kernel
theorem dSP_finish_33 : decode c_SP_finish 33 = .ok (.return_, 1) := by decide +kernel
set_option maxHeartbeats 400000 in
set_option maxRecDepth 100000 in
theorem m_SP_finish (l : Launch) (g : Gd) (sz : Nat) (h0 ln rt ps : Nat) (x2 : Int32) (f : Nat → Int64) (hrt : 0 < rt ∧ rt < 200) (hps : ps < 200)  : Met l y_SP_finish w_SP_finish ({ frames := 1, cells := 0, slots := 0, locals := 22 } : Room) (va_Pc [.ref h0] (pr (en g) g.1 vcl sz [(h0, .inr (3, [.ref ln, .int (nI rt), .int x2, .int (nI ps)])), (ln, .inl (g.2.1 2, 25, .inr (.inl f)))])) (va_Qv (fun (u : Nat → Int64) => True) (po g.1 vcl (va_A [(h0, .inr (3, [.ref ln, .int (nI rt), .int x2, .int (nI ps)])), (ln, .inl (g.2.1 2, 25, .inr (.inl f)))] sz) (fun (u : Nat → Int64) => [(h0, .inr (3, [.ref ln, .int (nI rt), .int x2, .int (nI rt)])), (ln, .inl (g.2.1 2, 25, .inr (.inl u)))])) (va_A [(h0, .inr (3, [.ref ln, .int (nI rt), .int x2, .int (nI ps)])), (ln, .inl (g.2.1 2, 25, .inr (.inl f)))] sz)) 0 0 (va_A [(h0, .inr (3, [.ref ln, .int (nI rt), .int x2, .int (nI ps)])), (ln, .inl (g.2.1 2, 25, .inr (.inl f)))] sz) := by
  refine mc_entry (cc := c_SP_finish) (maxL := 1) (ret := none) (by decide) rfl (Nat.le_of_ble_eq_true rfl) ?_
  intro p e s m args below meth c ls F hr hlk hnm hsz hP hD hE hA hl
  obtain ⟨hx, hb, hml, hown, hts⟩ := id F
  have hK := hE.1
  generalize va_A [(h0, .inr (3, [.ref ln, .int (nI rt), .int x2, .int (nI ps)])), (ln, .inl (g.2.1 2, 25, .inr (.inl f)))] sz = A at hD hE hA ⊢
  have hS : va_S A s.heap s.heap [] := va_S.rf
  have hl : lv_has ls 1 [(0, .ref h0)] := hl
  refine lv_aload_n hx hb dSP_finish_0 rfl (lv_at hl 0 rfl) ?_
  refine lv_aload_n hx hb dSP_finish_1 rfl (lv_at hl 0 rfl) ?_
  refine va_get (D := g.1) (ci := 3) (C := "LatticeKeys$Sponge") (T := T_SP) (N := 4) hx hb hts (wg_ft i_SP) hown hK hP 0 rfl rfl 3 (by decide) (hts _ (wg_t kw_62)) (fun _ h9 => h9) rfl dSP_finish_2 ?_
  refine lv_aload_n hx hb dSP_finish_5 rfl (lv_at hl 0 rfl) ?_
  refine va_get (D := g.1) (ci := 3) (C := "LatticeKeys$Sponge") (T := T_SP) (N := 4) hx hb hts (wg_ft i_SP) hown hK hP 0 rfl rfl 2 (by decide) (hts _ (wg_t kw_61)) (fun _ h9 => h9) rfl dSP_finish_6 ?_
  refine mc_v (wc := [(h0, .inr (3, [.ref ln, .int (nI rt), .int x2, .int (nI ps)])), (ln, .inl (g.2.1 2, 25, .inr (.inl f)))]) (wr := []) hP hD hS hA [0, 1] [] rfl rfl rfl (by decide) (va_runV (As := [.int (nI ps), .int x2]) (rest := []) F (m_SP_mixIn l g _ h0 ln ps (nI rt) x2 (nI ps) x2 f (by omega)) (cwV 2 hts (wg_app (wg_c kw_593 (wg_c kw_595 (wg_c ks_4 (wg_c kw_2 wg_n)))) kw_596) rfl rfl rfl (by decide +kernel) ⟨by decide, by decide⟩) (pr_V (en_ok g) (q0 := 0) hK hP hD hS hA hE [0, 1] rfl rfl rfl rfl) rfl rfl hl.1 rfl (lv_room (Nat.le_of_ble_eq_true rfl)) dSP_finish_9 ⟨(by decide), (by decide)⟩) (fun u1 H locs hu1 hP hD hS => ?_)
  have hP : va_P g.1 vcl [(h0, .inr (3, [.ref ln, .int (nI rt), .int x2, .int (nI ps)])), (ln, .inl (g.2.1 2, 25, .inr (.inl u1)))] _ := hP
  have hD : va_D _ [(h0, .inr (3, [.ref ln, .int (nI rt), .int x2, .int (nI ps)])), (ln, .inl (g.2.1 2, 25, .inr (.inl u1)))] := hD
  refine W.widen (k := 0) (n := 0) (by omega) (by omega) ?_
  refine lv_aload_n hx hb dSP_finish_12 rfl (lv_at hl 0 rfl) ?_
  refine lv_aload_n hx hb dSP_finish_13 rfl (lv_at hl 0 rfl) ?_
  refine va_get (D := g.1) (ci := 3) (C := "LatticeKeys$Sponge") (T := T_SP) (N := 4) hx hb hts (wg_ft i_SP) hown hK hP 0 rfl rfl 1 (by decide) (hts _ (wg_t kw_60)) (fun _ h9 => h9) rfl dSP_finish_14 ?_
  refine lv_iconst (v := nI 1) hx hb dSP_finish_17 (by decide) ?_
  refine mi_isub hx hb dSP_finish_18 (by omega) ?_
  refine lv_sipush (v := nI 128) hx hb dSP_finish_19 (by decide) ?_
  refine mc_v (wc := [(h0, .inr (3, [.ref ln, .int (nI rt), .int x2, .int (nI ps)])), (ln, .inl (g.2.1 2, 25, .inr (.inl u1)))]) (wr := []) hP hD hS hA [0, 1] [] rfl rfl rfl (by decide) (va_runV (As := [.int (nI (rt - 1)), .int (nI 128)]) (rest := []) F (m_SP_mixIn l g _ h0 ln (rt - 1) (nI rt) x2 (nI ps) (nI 128) u1 (by omega)) (cwV 2 hts (wg_app (wg_c kw_593 (wg_c kw_595 (wg_c ks_4 (wg_c kw_2 wg_n)))) kw_596) rfl rfl rfl (by decide +kernel) ⟨by decide, by decide⟩) (pr_V (en_ok g) (q0 := 0) hK hP hD hS hA hE [0, 1] rfl rfl rfl rfl) rfl rfl hl.1 rfl (lv_room (Nat.le_of_ble_eq_true rfl)) dSP_finish_22 ⟨(by decide), (by decide)⟩) (fun u2 H locs hu2 hP hD hS => ?_)
  have hP : va_P g.1 vcl [(h0, .inr (3, [.ref ln, .int (nI rt), .int x2, .int (nI ps)])), (ln, .inl (g.2.1 2, 25, .inr (.inl u2)))] _ := hP
  have hD : va_D _ [(h0, .inr (3, [.ref ln, .int (nI rt), .int x2, .int (nI ps)])), (ln, .inl (g.2.1 2, 25, .inr (.inl u2)))] := hD
  refine W.widen (k := 0) (n := 0) (by omega) (by omega) ?_
  refine lv_aload_n hx hb dSP_finish_25 rfl (lv_at hl 0 rfl) ?_
  refine lv_aload_n hx hb dSP_finish_26 rfl (lv_at hl 0 rfl) ?_
  refine va_get (D := g.1) (ci := 3) (C := "LatticeKeys$Sponge") (T := T_SP) (N := 4) hx hb hts (wg_ft i_SP) hown hK hP 0 rfl rfl 1 (by decide) (hts _ (wg_t kw_60)) (fun _ h9 => h9) rfl dSP_finish_27 ?_
  refine va_put (D := g.1) (ci := 3) (v := .int (nI rt)) (ty := .int) (C := "LatticeKeys$Sponge") (T := T_SP) (N := 4) hx hb hts (wg_ft i_SP) ty_SP k_SP n_SP hown hK hP hD hS 0 rfl rfl 3 (by decide) (hts _ (wg_t kw_62)) (fun _ h9 => h9) rfl (by decide +kernel) rfl rfl (Nat.le_of_ble_eq_true rfl) dSP_finish_30 (fun H locs hP hD hS => ?_)
  have hP : va_P g.1 vcl [(h0, .inr (3, [.ref ln, .int (nI rt), .int x2, .int (nI rt)])), (ln, .inl (g.2.1 2, 25, .inr (.inl u2)))] _ := hP
  have hD : va_D _ [(h0, .inr (3, [.ref ln, .int (nI rt), .int x2, .int (nI rt)])), (ln, .inl (g.2.1 2, 25, .inr (.inl u2)))] := hD
  exact mc_vret hx hb hr hlk hP hD hS u2 trivial [0, 1] rfl rfl (by omega) (by omega) dSP_finish_33
