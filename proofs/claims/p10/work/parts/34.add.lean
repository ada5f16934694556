set_option linter.all false
abbrev c_MS_add : ByteArray := prog_16_method_5_code
abbrev y_MS_add : MethodName := ⟨"LatticeKeysModel$Sponge", "add", "(II)V"⟩
abbrev w_MS_add : List Cond := Cond.code y_MS_add c_MS_add 3 none :: WG
theorem dMS_add_0 : decode c_MS_add 0 = .ok (.aload_n 0, 1) := by decide +kernel
theorem dMS_add_1 : decode c_MS_add 1 = .ok (.getfield 7, 3) := by decide +kernel
theorem dMS_add_4 : decode c_MS_add 4 = .ok (.iload_n 1, 1) := by decide +kernel
theorem dMS_add_5 : decode c_MS_add 5 = .ok (.bipush 8, 2) := by decide +kernel
theorem dMS_add_7 : decode c_MS_add 7 = .ok (.idiv, 1) := by decide +kernel
theorem dMS_add_8 : decode c_MS_add 8 = .ok (.dup2, 1) := by decide +kernel
theorem dMS_add_9 : decode c_MS_add 9 = .ok (.laload, 1) := by decide +kernel
theorem dMS_add_10 : decode c_MS_add 10 = .ok (.iload_n 2, 1) := by decide +kernel
theorem dMS_add_11 : decode c_MS_add 11 = .ok (.i2l, 1) := by decide +kernel
theorem dMS_add_12 : decode c_MS_add 12 = .ok (.ldc2_w 42, 3) := by decide +kernel
theorem dMS_add_15 : decode c_MS_add 15 = .ok (.land, 1) := by decide +kernel
theorem dMS_add_16 : decode c_MS_add 16 = .ok (.bipush 8, 2) := by decide +kernel
theorem dMS_add_18 : decode c_MS_add 18 = .ok (.iload_n 1, 1) := by decide +kernel
theorem dMS_add_19 : decode c_MS_add 19 = .ok (.bipush 8, 2) := by decide +kernel
theorem dMS_add_21 : decode c_MS_add 21 = .ok (.irem, 1) := by decide +kernel
theorem dMS_add_22 : decode c_MS_add 22 = .ok (.imul, 1) := by decide +kernel
theorem dMS_add_23 : decode c_MS_add 23 = .ok (.lshl, 1) := by decide +kernel
theorem dMS_add_24 : decode c_MS_add 24 = .ok (.lxor, 1) := by decide +kernel
theorem dMS_add_25 : decode c_MS_add 25 = .ok (.lastore, 1) := by decide +kernel
theorem dMS_add_26 : decode c_MS_add 26 = .ok (.return_, 1) := by decide +kernel
set_option maxHeartbeats 400000 in
set_option maxRecDepth 100000 in
theorem m_MS_add (l : Launch) (g : Gd) (sz : Nat) (h0 sa ta ca ra ua : Nat) (x1 x2 x3 v : Int32) (k : Nat) (fs ft fc fr : Nat → Int64) (fu : Nat → Int32) (hk : k < 200)  : Met l y_MS_add w_MS_add ({ frames := 0, cells := 0, slots := 0, locals := 0 } : Room) (va_Pc [.ref h0, .int (nI k), .int v] (pr (en g) g.1 vcl sz [(h0, .inr (9, [.ref sa, .ref ta, .ref ca, .ref ra, .ref ua, .int x1, .int x2, .int x3])), (sa, .inl (g.2.1 2, 25, .inr (.inl fs))), (ta, .inl (g.2.1 2, 25, .inr (.inl ft))), (ca, .inl (g.2.1 2, 5, .inr (.inl fc))), (ra, .inl (g.2.1 2, 24, .inr (.inl fr))), (ua, .inl (g.2.1 0, 25, .inl fu))])) (va_Qv (fun (u : Nat → Int64) => True) (po g.1 vcl (va_A [(h0, .inr (9, [.ref sa, .ref ta, .ref ca, .ref ra, .ref ua, .int x1, .int x2, .int x3])), (sa, .inl (g.2.1 2, 25, .inr (.inl fs))), (ta, .inl (g.2.1 2, 25, .inr (.inl ft))), (ca, .inl (g.2.1 2, 5, .inr (.inl fc))), (ra, .inl (g.2.1 2, 24, .inr (.inl fr))), (ua, .inl (g.2.1 0, 25, .inl fu))] sz) (fun (u : Nat → Int64) => [(h0, .inr (9, [.ref sa, .ref ta, .ref ca, .ref ra, .ref ua, .int x1, .int x2, .int x3])), (sa, .inl (g.2.1 2, 25, .inr (.inl u))), (ta, .inl (g.2.1 2, 25, .inr (.inl ft))), (ca, .inl (g.2.1 2, 5, .inr (.inl fc))), (ra, .inl (g.2.1 2, 24, .inr (.inl fr))), (ua, .inl (g.2.1 0, 25, .inl fu))])) (va_A [(h0, .inr (9, [.ref sa, .ref ta, .ref ca, .ref ra, .ref ua, .int x1, .int x2, .int x3])), (sa, .inl (g.2.1 2, 25, .inr (.inl fs))), (ta, .inl (g.2.1 2, 25, .inr (.inl ft))), (ca, .inl (g.2.1 2, 5, .inr (.inl fc))), (ra, .inl (g.2.1 2, 24, .inr (.inl fr))), (ua, .inl (g.2.1 0, 25, .inl fu))] sz)) 0 0 (va_A [(h0, .inr (9, [.ref sa, .ref ta, .ref ca, .ref ra, .ref ua, .int x1, .int x2, .int x3])), (sa, .inl (g.2.1 2, 25, .inr (.inl fs))), (ta, .inl (g.2.1 2, 25, .inr (.inl ft))), (ca, .inl (g.2.1 2, 5, .inr (.inl fc))), (ra, .inl (g.2.1 2, 24, .inr (.inl fr))), (ua, .inl (g.2.1 0, 25, .inl fu))] sz) := by
  refine mc_entry (cc := c_MS_add) (maxL := 3) (ret := none) (by decide) rfl (Nat.le_of_ble_eq_true rfl) ?_
  intro p e s m args below meth c ls F hr hlk hnm hsz hP hD hE hA hl
  obtain ⟨hx, hb, hml, hown, hts⟩ := id F
  have hK := hE.1
  generalize va_A [(h0, .inr (9, [.ref sa, .ref ta, .ref ca, .ref ra, .ref ua, .int x1, .int x2, .int x3])), (sa, .inl (g.2.1 2, 25, .inr (.inl fs))), (ta, .inl (g.2.1 2, 25, .inr (.inl ft))), (ca, .inl (g.2.1 2, 5, .inr (.inl fc))), (ra, .inl (g.2.1 2, 24, .inr (.inl fr))), (ua, .inl (g.2.1 0, 25, .inl fu))] sz = A at hD hE hA ⊢
  have hS : va_S A s.heap s.heap [] := va_S.rf
  have hl : lv_has ls 3 [(0, .ref h0), (1, .int (nI k)), (2, .int v)] := hl
  refine lv_aload_n hx hb dMS_add_0 rfl (lv_at hl 0 rfl) ?_
  refine va_get (D := g.1) (ci := 9) (C := "LatticeKeysModel$Sponge") (T := T_MS) (N := 8) hx hb hts (wg_ft i_MS) hown hK hP 0 rfl rfl 0 (by decide) (hts _ (wg_t kw_1325)) (fun _ h9 => h9) rfl dMS_add_1 ?_
  refine lv_iload_n hx hb dMS_add_4 rfl (lv_at hl 1 rfl) ?_
  refine lv_bipush (v := nI 8) hx hb dMS_add_5 (by decide) ?_
  refine mi_idiv hx hb dMS_add_7 (by omega) (by omega) (by omega) ?_
  refine lv_dup2_11 hx hb dMS_add_8 rfl rfl ?_
  refine ma_lald hx hb hK hP 1 2 rfl rfl (vp_in_nI (by omega) (by decide)) dMS_add_9 (fun y1 => ?_)
  refine lv_iload_n hx hb dMS_add_10 rfl (lv_at hl 2 rfl) ?_
  refine lv_i2l hx hb dMS_add_11 rfl ?_
  refine ml_any (fun y2 => ?_)
  refine lv_ldc2 (v := (255)) hx hb hown (hts _ (wg_t kw_1623)) dMS_add_12 ?_
  refine lv_land hx hb dMS_add_15 ?_
  refine ml_any (fun y3 => ?_)
  refine lv_bipush (v := nI 8) hx hb dMS_add_16 (by decide) ?_
  refine lv_iload_n hx hb dMS_add_18 rfl (lv_at hl 1 rfl) ?_
  refine lv_bipush (v := nI 8) hx hb dMS_add_19 (by decide) ?_
  refine mi_irem hx hb dMS_add_21 (by omega) (by omega) (by omega) ?_
  refine mi_imul hx hb dMS_add_22 ?_
  refine lv_lshl hx hb dMS_add_23 rfl ?_
  refine ml_any (fun y4 => ?_)
  refine lv_lxor hx hb dMS_add_24 ?_
  refine ml_any (fun y5 => ?_)
  refine ma_last hx hb hK hP hD hS 1 2 rfl rfl (vp_in_nI (by omega) (by decide)) dMS_add_25 (fun f1 H locs hP hD hS => ?_)
  have hP : va_P g.1 vcl [(h0, .inr (9, [.ref sa, .ref ta, .ref ca, .ref ra, .ref ua, .int x1, .int x2, .int x3])), (sa, .inl (g.2.1 2, 25, .inr (.inl f1))), (ta, .inl (g.2.1 2, 25, .inr (.inl ft))), (ca, .inl (g.2.1 2, 5, .inr (.inl fc))), (ra, .inl (g.2.1 2, 24, .inr (.inl fr))), (ua, .inl (g.2.1 0, 25, .inl fu))] _ := hP
  have hD : va_D _ [(h0, .inr (9, [.ref sa, .ref ta, .ref ca, .ref ra, .ref ua, .int x1, .int x2, .int x3])), (sa, .inl (g.2.1 2, 25, .inr (.inl f1))), (ta, .inl (g.2.1 2, 25, .inr (.inl ft))), (ca, .inl (g.2.1 2, 5, .inr (.inl fc))), (ra, .inl (g.2.1 2, 24, .inr (.inl fr))), (ua, .inl (g.2.1 0, 25, .inl fu))] := hD
  exact mc_vret hx hb hr hlk hP hD hS f1 trivial [0, 1, 2, 3, 4, 5] rfl rfl (by omega) (by omega) dMS_add_26
