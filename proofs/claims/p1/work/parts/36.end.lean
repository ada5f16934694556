abbrev c_MS_end : ByteArray := prog_16_method_8_code
abbrev y_MS_end : MethodName := ⟨"LatticeKeysModel$Sponge", "end", "()V"⟩
abbrev w_MS_end : List Cond := Cond.code y_MS_end c_MS_end 1 none :: WG
theorem dMS_end_0 : decode c_MS_end 0 = .ok (.aload_n 0, 1) := by decide +kernel
theorem dMS_end_1 : decode c_MS_end 1 = .ok (.aload_n 0, 1) := by decide +kernel
theorem dMS_end_2 : decode c_MS_end 2 = .ok (.getfield 39, 3) := by decide +kernel
theorem dMS_end_5 : decode c_MS_end 5 = .ok (.aload_n 0, 1) := by decide +kernel
theorem dMS_end_6 : decode c_MS_end 6 = .ok (.getfield 36, 3) := by decide +kernel
theorem dMS_end_9 : decode c_MS_end 9 = .ok (.invokevirtual 44, 3) := by decide +kernel
theorem dMS_end_12 : decode c_MS_end 12 = .ok (.aload_n 0, 1) := by decide +kernel
theorem dMS_end_13 : decode c_MS_end 13 = .ok (.aload_n 0, 1) := by decide +kernel
theorem dMS_end_14 : decode c_MS_end 14 = .ok (.getfield 32, 3) := by decide +kernel
theorem dMS_end_17 : decode c_MS_end 17 = .ok (.iconst 1, 1) := by decide +kernel
theorem dMS_end_18 : decode c_MS_end 18 = .ok (.isub, 1) := by decide +kernel
theorem dMS_end_19 : decode c_MS_end 19 = .ok (.sipush 128, 3) := by decide +kernel
theorem dMS_end_22 : decode c_MS_end 22 = .ok (.invokevirtual 44, 3) := by decide +kernel
theorem dMS_end_25 : decode c_MS_end 25 = .ok (.aload_n 0, 1) := by decide +kernel
theorem dMS_end_26 : decode c_MS_end 26 = .ok (.invokevirtual 48, 3) := by decide +kernel
theorem dMS_end_29 : decode c_MS_end 29 = .ok (.aload_n 0, 1) := by decide +kernel
theorem dMS_end_30 : decode c_MS_end 30 = .ok (.iconst 0, 1) := by decide +kernel
theorem dMS_end_31 : decode c_MS_end 31 = .ok (.putfield 39, 3) := by decide +kernel
theorem dMS_end_34 : decode c_MS_end 34 = .ok (.return_, 1) := by decide +kernel
set_option maxHeartbeats 400000 in
set_option maxRecDepth 100000 in
theorem m_MS_end (l : Launch) (g : Gd) (sz : Nat) (h0 sa ta ca ra ua : Nat) (x3 : Int32) (rt ps : Nat) (fs ft fc fr : Nat → Int64) (fu : Nat → Int32) (hrt : 0 < rt ∧ rt < 200) (hps : ps < 200)  : Met l y_MS_end w_MS_end ({ frames := 2, cells := 0, slots := 0, locals := 60 } : Room) (va_Pc [.ref h0] (pr (en g) g.1 vcl sz [(h0, .inr (9, [.ref sa, .ref ta, .ref ca, .ref ra, .ref ua, .int (nI rt), .int (nI ps), .int x3])), (sa, .inl (g.2.1 2, 25, .inr (.inl fs))), (ta, .inl (g.2.1 2, 25, .inr (.inl ft))), (ca, .inl (g.2.1 2, 5, .inr (.inl fc))), (ra, .inl (g.2.1 2, 24, .inr (.inl fr))), (ua, .inl (g.2.1 0, 25, .inl fu))])) (va_Qv (fun (u : (Nat → Int64) × (Nat → Int64) × (Nat → Int64)) => True) (po g.1 vcl (va_A [(h0, .inr (9, [.ref sa, .ref ta, .ref ca, .ref ra, .ref ua, .int (nI rt), .int (nI ps), .int x3])), (sa, .inl (g.2.1 2, 25, .inr (.inl fs))), (ta, .inl (g.2.1 2, 25, .inr (.inl ft))), (ca, .inl (g.2.1 2, 5, .inr (.inl fc))), (ra, .inl (g.2.1 2, 24, .inr (.inl fr))), (ua, .inl (g.2.1 0, 25, .inl fu))] sz) (fun (u : (Nat → Int64) × (Nat → Int64) × (Nat → Int64)) => [(h0, .inr (9, [.ref sa, .ref ta, .ref ca, .ref ra, .ref ua, .int (nI rt), .int (nI 0), .int x3])), (sa, .inl (g.2.1 2, 25, .inr (.inl ((u.1))))), (ta, .inl (g.2.1 2, 25, .inr (.inl ((u.2.1))))), (ca, .inl (g.2.1 2, 5, .inr (.inl ((u.2.2))))), (ra, .inl (g.2.1 2, 24, .inr (.inl fr))), (ua, .inl (g.2.1 0, 25, .inl fu))])) (va_A [(h0, .inr (9, [.ref sa, .ref ta, .ref ca, .ref ra, .ref ua, .int (nI rt), .int (nI ps), .int x3])), (sa, .inl (g.2.1 2, 25, .inr (.inl fs))), (ta, .inl (g.2.1 2, 25, .inr (.inl ft))), (ca, .inl (g.2.1 2, 5, .inr (.inl fc))), (ra, .inl (g.2.1 2, 24, .inr (.inl fr))), (ua, .inl (g.2.1 0, 25, .inl fu))] sz)) 0 0 (va_A [(h0, .inr (9, [.ref sa, .ref ta, .ref ca, .ref ra, .ref ua, .int (nI rt), .int (nI ps), .int x3])), (sa, .inl (g.2.1 2, 25, .inr (.inl fs))), (ta, .inl (g.2.1 2, 25, .inr (.inl ft))), (ca, .inl (g.2.1 2, 5, .inr (.inl fc))), (ra, .inl (g.2.1 2, 24, .inr (.inl fr))), (ua, .inl (g.2.1 0, 25, .inl fu))] sz) := by
  refine mc_entry (cc := c_MS_end) (maxL := 1) (ret := none) (by decide) rfl (Nat.le_of_ble_eq_true rfl) ?_
  intro p e s m args below meth c ls F hr hlk hnm hsz hP hD hE hA hl
  obtain ⟨hx, hb, hml, hown, hts⟩ := id F
  have hK := hE.1
  generalize va_A [(h0, .inr (9, [.ref sa, .ref ta, .ref ca, .ref ra, .ref ua, .int (nI rt), .int (nI ps), .int x3])), (sa, .inl (g.2.1 2, 25, .inr (.inl fs))), (ta, .inl (g.2.1 2, 25, .inr (.inl ft))), (ca, .inl (g.2.1 2, 5, .inr (.inl fc))), (ra, .inl (g.2.1 2, 24, .inr (.inl fr))), (ua, .inl (g.2.1 0, 25, .inl fu))] sz = A at hD hE hA ⊢
  have hS : va_S A s.heap s.heap [] := va_S.rf
  have hl : lv_has ls 1 [(0, .ref h0)] := hl
  refine lv_aload_n hx hb dMS_end_0 rfl (lv_at hl 0 rfl) ?_
  refine lv_aload_n hx hb dMS_end_1 rfl (lv_at hl 0 rfl) ?_
  refine va_get (D := g.1) (ci := 9) (C := "LatticeKeysModel$Sponge") (T := T_MS) (N := 8) hx hb hts (wg_ft i_MS) hown hK hP 0 rfl rfl 6 (by decide) (hts _ (wg_t kw_1331)) (fun _ h9 => h9) rfl dMS_end_2 ?_
  refine lv_aload_n hx hb dMS_end_5 rfl (lv_at hl 0 rfl) ?_
  refine va_get (D := g.1) (ci := 9) (C := "LatticeKeysModel$Sponge") (T := T_MS) (N := 8) hx hb hts (wg_ft i_MS) hown hK hP 0 rfl rfl 7 (by decide) (hts _ (wg_t kw_1332)) (fun _ h9 => h9) rfl dMS_end_6 ?_
  refine mc_v (wc := [(h0, .inr (9, [.ref sa, .ref ta, .ref ca, .ref ra, .ref ua, .int (nI rt), .int (nI ps), .int x3])), (sa, .inl (g.2.1 2, 25, .inr (.inl fs))), (ta, .inl (g.2.1 2, 25, .inr (.inl ft))), (ca, .inl (g.2.1 2, 5, .inr (.inl fc))), (ra, .inl (g.2.1 2, 24, .inr (.inl fr))), (ua, .inl (g.2.1 0, 25, .inl fu))]) (wr := []) hP hD hS hA [0, 1, 2, 3, 4, 5] [] rfl rfl rfl (by decide) (va_runV (As := [.int (nI ps), .int x3]) (rest := []) F (m_MS_add l g _ h0 sa ta ca ra ua (nI rt) (nI ps) x3 x3 ps fs ft fc fr fu (by omega)) (cwV 2 hts (wg_app (wg_c kw_1619 (wg_c kw_1621 (wg_c ks_52 (wg_c kw_10 wg_n)))) kw_1622) rfl rfl rfl (by decide +kernel) ⟨by decide, by decide⟩) (pr_V (en_ok g) (q0 := 0) hK hP hD hS hA hE [0, 1, 2, 3, 4, 5] rfl rfl rfl rfl) rfl rfl hl.1 rfl (lv_room (Nat.le_of_ble_eq_true rfl)) dMS_end_9 ⟨(by decide), (by decide)⟩) (fun u1 H locs hu1 hP hD hS => ?_)
  have hP : va_P g.1 vcl [(h0, .inr (9, [.ref sa, .ref ta, .ref ca, .ref ra, .ref ua, .int (nI rt), .int (nI ps), .int x3])), (sa, .inl (g.2.1 2, 25, .inr (.inl u1))), (ta, .inl (g.2.1 2, 25, .inr (.inl ft))), (ca, .inl (g.2.1 2, 5, .inr (.inl fc))), (ra, .inl (g.2.1 2, 24, .inr (.inl fr))), (ua, .inl (g.2.1 0, 25, .inl fu))] _ := hP
  have hD : va_D _ [(h0, .inr (9, [.ref sa, .ref ta, .ref ca, .ref ra, .ref ua, .int (nI rt), .int (nI ps), .int x3])), (sa, .inl (g.2.1 2, 25, .inr (.inl u1))), (ta, .inl (g.2.1 2, 25, .inr (.inl ft))), (ca, .inl (g.2.1 2, 5, .inr (.inl fc))), (ra, .inl (g.2.1 2, 24, .inr (.inl fr))), (ua, .inl (g.2.1 0, 25, .inl fu))] := hD
  refine W.widen (k := 0) (n := 0) (by omega) (by omega) ?_
  refine lv_aload_n hx hb dMS_end_12 rfl (lv_at hl 0 rfl) ?_
  refine lv_aload_n hx hb dMS_end_13 rfl (lv_at hl 0 rfl) ?_
  refine va_get (D := g.1) (ci := 9) (C := "LatticeKeysModel$Sponge") (T := T_MS) (N := 8) hx hb hts (wg_ft i_MS) hown hK hP 0 rfl rfl 5 (by decide) (hts _ (wg_t kw_1330)) (fun _ h9 => h9) rfl dMS_end_14 ?_
  refine lv_iconst (v := nI 1) hx hb dMS_end_17 (by decide) ?_
  refine mi_isub hx hb dMS_end_18 (by omega) ?_
  refine lv_sipush (v := nI 128) hx hb dMS_end_19 (by decide) ?_
  refine mc_v (wc := [(h0, .inr (9, [.ref sa, .ref ta, .ref ca, .ref ra, .ref ua, .int (nI rt), .int (nI ps), .int x3])), (sa, .inl (g.2.1 2, 25, .inr (.inl u1))), (ta, .inl (g.2.1 2, 25, .inr (.inl ft))), (ca, .inl (g.2.1 2, 5, .inr (.inl fc))), (ra, .inl (g.2.1 2, 24, .inr (.inl fr))), (ua, .inl (g.2.1 0, 25, .inl fu))]) (wr := []) hP hD hS hA [0, 1, 2, 3, 4, 5] [] rfl rfl rfl (by decide) (va_runV (As := [.int (nI (rt - 1)), .int (nI 128)]) (rest := []) F (m_MS_add l g _ h0 sa ta ca ra ua (nI rt) (nI ps) x3 (nI 128) (rt - 1) u1 ft fc fr fu (by omega)) (cwV 2 hts (wg_app (wg_c kw_1619 (wg_c kw_1621 (wg_c ks_52 (wg_c kw_10 wg_n)))) kw_1622) rfl rfl rfl (by decide +kernel) ⟨by decide, by decide⟩) (pr_V (en_ok g) (q0 := 0) hK hP hD hS hA hE [0, 1, 2, 3, 4, 5] rfl rfl rfl rfl) rfl rfl hl.1 rfl (lv_room (Nat.le_of_ble_eq_true rfl)) dMS_end_22 ⟨(by decide), (by decide)⟩) (fun u2 H locs hu2 hP hD hS => ?_)
  have hP : va_P g.1 vcl [(h0, .inr (9, [.ref sa, .ref ta, .ref ca, .ref ra, .ref ua, .int (nI rt), .int (nI ps), .int x3])), (sa, .inl (g.2.1 2, 25, .inr (.inl u2))), (ta, .inl (g.2.1 2, 25, .inr (.inl ft))), (ca, .inl (g.2.1 2, 5, .inr (.inl fc))), (ra, .inl (g.2.1 2, 24, .inr (.inl fr))), (ua, .inl (g.2.1 0, 25, .inl fu))] _ := hP
  have hD : va_D _ [(h0, .inr (9, [.ref sa, .ref ta, .ref ca, .ref ra, .ref ua, .int (nI rt), .int (nI ps), .int x3])), (sa, .inl (g.2.1 2, 25, .inr (.inl u2))), (ta, .inl (g.2.1 2, 25, .inr (.inl ft))), (ca, .inl (g.2.1 2, 5, .inr (.inl fc))), (ra, .inl (g.2.1 2, 24, .inr (.inl fr))), (ua, .inl (g.2.1 0, 25, .inl fu))] := hD
  refine W.widen (k := 0) (n := 0) (by omega) (by omega) ?_
  refine lv_aload_n hx hb dMS_end_25 rfl (lv_at hl 0 rfl) ?_
  refine mc_v (wc := [(h0, .inr (9, [.ref sa, .ref ta, .ref ca, .ref ra, .ref ua, .int (nI rt), .int (nI ps), .int x3])), (sa, .inl (g.2.1 2, 25, .inr (.inl u2))), (ta, .inl (g.2.1 2, 25, .inr (.inl ft))), (ca, .inl (g.2.1 2, 5, .inr (.inl fc))), (ra, .inl (g.2.1 2, 24, .inr (.inl fr))), (ua, .inl (g.2.1 0, 25, .inl fu))]) (wr := []) hP hD hS hA [0, 1, 2, 3, 4, 5] [] rfl rfl rfl (by decide) (va_runV (As := []) (rest := []) F (m_MS_mix l g _ h0 sa ta ca ra ua (nI rt) (nI ps) x3 u2 ft fc fr fu) (cwV 0 hts (wg_app (wg_c kw_1624 (wg_c kw_1626 (wg_c ks_53 (wg_c kw_10 wg_n)))) kw_1627) rfl rfl rfl (by decide +kernel) ⟨by decide, by decide⟩) (pr_V (en_ok g) (q0 := 0) hK hP hD hS hA hE [0, 1, 2, 3, 4, 5] rfl rfl rfl rfl) rfl rfl hl.1 rfl (lv_room (Nat.le_of_ble_eq_true rfl)) dMS_end_26 ⟨(by decide), (by decide)⟩) (fun u3 H locs hu3 hP hD hS => ?_)
  obtain ⟨fm1, fm2, fm3⟩ := u3
  have hP : va_P g.1 vcl [(h0, .inr (9, [.ref sa, .ref ta, .ref ca, .ref ra, .ref ua, .int (nI rt), .int (nI ps), .int x3])), (sa, .inl (g.2.1 2, 25, .inr (.inl fm1))), (ta, .inl (g.2.1 2, 25, .inr (.inl fm2))), (ca, .inl (g.2.1 2, 5, .inr (.inl fm3))), (ra, .inl (g.2.1 2, 24, .inr (.inl fr))), (ua, .inl (g.2.1 0, 25, .inl fu))] _ := hP
  have hD : va_D _ [(h0, .inr (9, [.ref sa, .ref ta, .ref ca, .ref ra, .ref ua, .int (nI rt), .int (nI ps), .int x3])), (sa, .inl (g.2.1 2, 25, .inr (.inl fm1))), (ta, .inl (g.2.1 2, 25, .inr (.inl fm2))), (ca, .inl (g.2.1 2, 5, .inr (.inl fm3))), (ra, .inl (g.2.1 2, 24, .inr (.inl fr))), (ua, .inl (g.2.1 0, 25, .inl fu))] := hD
  refine W.widen (k := 0) (n := 0) (by omega) (by omega) ?_
  refine lv_aload_n hx hb dMS_end_29 rfl (lv_at hl 0 rfl) ?_
  refine lv_iconst (v := nI 0) hx hb dMS_end_30 (by decide) ?_
  refine va_put (D := g.1) (ci := 9) (v := .int (nI 0)) (ty := .int) (C := "LatticeKeysModel$Sponge") (T := T_MS) (N := 8) hx hb hts (wg_ft i_MS) ty_MS k_MS n_MS hown hK hP hD hS 0 rfl rfl 6 (by decide) (hts _ (wg_t kw_1331)) (fun _ h9 => h9) rfl (by decide +kernel) rfl rfl (Nat.le_of_ble_eq_true rfl) dMS_end_31 (fun H locs hP hD hS => ?_)
  have hP : va_P g.1 vcl [(h0, .inr (9, [.ref sa, .ref ta, .ref ca, .ref ra, .ref ua, .int (nI rt), .int (nI 0), .int x3])), (sa, .inl (g.2.1 2, 25, .inr (.inl fm1))), (ta, .inl (g.2.1 2, 25, .inr (.inl fm2))), (ca, .inl (g.2.1 2, 5, .inr (.inl fm3))), (ra, .inl (g.2.1 2, 24, .inr (.inl fr))), (ua, .inl (g.2.1 0, 25, .inl fu))] _ := hP
  have hD : va_D _ [(h0, .inr (9, [.ref sa, .ref ta, .ref ca, .ref ra, .ref ua, .int (nI rt), .int (nI 0), .int x3])), (sa, .inl (g.2.1 2, 25, .inr (.inl fm1))), (ta, .inl (g.2.1 2, 25, .inr (.inl fm2))), (ca, .inl (g.2.1 2, 5, .inr (.inl fm3))), (ra, .inl (g.2.1 2, 24, .inr (.inl fr))), (ua, .inl (g.2.1 0, 25, .inl fu))] := hD
  exact mc_vret hx hb hr hlk hP hD hS (fm1, fm2, fm3) trivial [0, 1, 2, 3, 4, 5] rfl rfl (by omega) (by omega) dMS_end_34
