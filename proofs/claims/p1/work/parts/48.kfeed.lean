abbrev c_K_writeNumber : ByteArray := prog_1_method_18_code
abbrev y_K_writeNumber : MethodName := ⟨"LatticeKeys", "writeNumber", "(I)V"⟩
abbrev w_K_writeNumber : List Cond := Cond.code y_K_writeNumber c_K_writeNumber 2 none :: WG
theorem dK_writeNumber_0 : decode c_K_writeNumber 0 = .ok (.aload_n 0, 1) := by decide +kernel
theorem dK_writeNumber_1 : decode c_K_writeNumber 1 = .ok (.getfield 9, 3) := by decide +kernel
theorem dK_writeNumber_4 : decode c_K_writeNumber 4 = .ok (.aload_n 0, 1) := by decide +kernel
theorem dK_writeNumber_5 : decode c_K_writeNumber 5 = .ok (.getfield 13, 3) := by decide +kernel
theorem dK_writeNumber_8 : decode c_K_writeNumber 8 = .ok (.iload_n 1, 1) := by decide +kernel
theorem dK_writeNumber_9 : decode c_K_writeNumber 9 = .ok (.bipush 24, 2) := by decide +kernel
theorem dK_writeNumber_11 : decode c_K_writeNumber 11 = .ok (.iushr, 1) := by decide +kernel
theorem dK_writeNumber_12 : decode c_K_writeNumber 12 = .ok (.i2b, 1) := by decide +kernel
theorem dK_writeNumber_13 : decode c_K_writeNumber 13 = .ok (.bastore, 1) := by decide +kernel
theorem dK_writeNumber_14 : decode c_K_writeNumber 14 = .ok (.aload_n 0, 1) := by decide +kernel
theorem dK_writeNumber_15 : decode c_K_writeNumber 15 = .ok (.getfield 9, 3) := by decide +kernel
theorem dK_writeNumber_18 : decode c_K_writeNumber 18 = .ok (.aload_n 0, 1) := by decide +kernel
theorem dK_writeNumber_19 : decode c_K_writeNumber 19 = .ok (.getfield 13, 3) := by decide +kernel
theorem dK_writeNumber_22 : decode c_K_writeNumber 22 = .ok (.iconst 1, 1) := by decide +kernel
theorem dK_writeNumber_23 : decode c_K_writeNumber 23 = .ok (.iadd, 1) := by decide +kernel
theorem dK_writeNumber_24 : decode c_K_writeNumber 24 = .ok (.iload_n 1, 1) := by decide +kernel
theorem dK_writeNumber_25 : decode c_K_writeNumber 25 = .ok (.bipush 16, 2) := by decide +kernel
theorem dK_writeNumber_27 : decode c_K_writeNumber 27 = .ok (.iushr, 1) := by decide +kernel
theorem dK_writeNumber_28 : decode c_K_writeNumber 28 = .ok (.i2b, 1) := by decide +kernel
theorem dK_writeNumber_29 : decode c_K_writeNumber 29 = .ok (.bastore, 1) := by decide +kernel
theorem dK_writeNumber_30 : decode c_K_writeNumber 30 = .ok (.aload_n 0, 1) := by decide +kernel
theorem dK_writeNumber_31 : decode c_K_writeNumber 31 = .ok (.getfield 9, 3) := by decide +kernel
theorem dK_writeNumber_34 : decode c_K_writeNumber 34 = .ok (.aload_n 0, 1) := by decide +kernel
theorem dK_writeNumber_35 : decode c_K_writeNumber 35 = .ok (.getfield 13, 3) := by decide +kernel
theorem dK_writeNumber_38 : decode c_K_writeNumber 38 = .ok (.iconst 2, 1) := by decide +kernel
theorem dK_writeNumber_39 : decode c_K_writeNumber 39 = .ok (.iadd, 1) := by decide +kernel
theorem dK_writeNumber_40 : decode c_K_writeNumber 40 = .ok (.iload_n 1, 1) := by decide +kernel
theorem dK_writeNumber_41 : decode c_K_writeNumber 41 = .ok (.bipush 8, 2) := by decide +kernel
theorem dK_writeNumber_43 : decode c_K_writeNumber 43 = .ok (.iushr, 1) := by decide +kernel
theorem dK_writeNumber_44 : decode c_K_writeNumber 44 = .ok (.i2b, 1) := by decide +kernel
theorem dK_writeNumber_45 : decode c_K_writeNumber 45 = .ok (.bastore, 1) := by decide +kernel
theorem dK_writeNumber_46 : decode c_K_writeNumber 46 = .ok (.aload_n 0, 1) := by decide +kernel
theorem dK_writeNumber_47 : decode c_K_writeNumber 47 = .ok (.getfield 9, 3) := by decide +kernel
theorem dK_writeNumber_50 : decode c_K_writeNumber 50 = .ok (.aload_n 0, 1) := by decide +kernel
theorem dK_writeNumber_51 : decode c_K_writeNumber 51 = .ok (.getfield 13, 3) := by decide +kernel
theorem dK_writeNumber_54 : decode c_K_writeNumber 54 = .ok (.iconst 3, 1) := by decide +kernel
theorem dK_writeNumber_55 : decode c_K_writeNumber 55 = .ok (.iadd, 1) := by decide +kernel
theorem dK_writeNumber_56 : decode c_K_writeNumber 56 = .ok (.iload_n 1, 1) := by decide +kernel
theorem dK_writeNumber_57 : decode c_K_writeNumber 57 = .ok (.i2b, 1) := by decide +kernel
theorem dK_writeNumber_58 : decode c_K_writeNumber 58 = .ok (.bastore, 1) := by decide +kernel
theorem dK_writeNumber_59 : decode c_K_writeNumber 59 = .ok (.aload_n 0, 1) := by decide +kernel
theorem dK_writeNumber_60 : decode c_K_writeNumber 60 = .ok (.dup, 1) := by decide +kernel
theorem dK_writeNumber_61 : decode c_K_writeNumber 61 = .ok (.getfield 13, 3) := by decide +kernel
theorem dK_writeNumber_64 : decode c_K_writeNumber 64 = .ok (.iconst 4, 1) := by decide +kernel
theorem dK_writeNumber_65 : decode c_K_writeNumber 65 = .ok (.iadd, 1) := by decide +kernel
theorem dK_writeNumber_66 : decode c_K_writeNumber 66 = .ok (.putfield 13, 3) := by decide +kernel
theorem dK_writeNumber_69 : decode c_K_writeNumber 69 = .ok (.return_, 1) := by decide +kernel
abbrev c_K_feed : ByteArray := prog_1_method_2_code
abbrev y_K_feed : MethodName := ⟨"LatticeKeys", "feed", "(IIIII)I"⟩
abbrev w_K_feed : List Cond := Cond.code y_K_feed c_K_feed 6 (some .int) :: WG
theorem dK_feed_0 : decode c_K_feed 0 = .ok (.aload_n 0, 1) := by decide +kernel
theorem dK_feed_1 : decode c_K_feed 1 = .ok (.getfield 13, 3) := by decide +kernel
theorem dK_feed_4 : decode c_K_feed 4 = .ok (.sipush 16364, 3) := by decide +kernel
theorem dK_feed_7 : decode c_K_feed 7 = .ok (.if_icmp .le 13, 3) := by decide +kernel
theorem dK_feed_10 : decode c_K_feed 10 = .ok (.new 69, 3) := by decide +kernel
theorem dK_feed_13 : decode c_K_feed 13 = .ok (.dup, 1) := by decide +kernel
theorem dK_feed_14 : decode c_K_feed 14 = .ok (.ldc 71, 2) := by decide +kernel
theorem dK_feed_16 : decode c_K_feed 16 = .ok (.invokespecial 73, 3) := by decide +kernel
theorem dK_feed_19 : decode c_K_feed 19 = .ok (.athrow, 1) := by decide +kernel
theorem dK_feed_20 : decode c_K_feed 20 = .ok (.aload_n 0, 1) := by decide +kernel
theorem dK_feed_21 : decode c_K_feed 21 = .ok (.iload_n 1, 1) := by decide +kernel
theorem dK_feed_22 : decode c_K_feed 22 = .ok (.invokevirtual 76, 3) := by decide +kernel
theorem dK_feed_25 : decode c_K_feed 25 = .ok (.aload_n 0, 1) := by decide +kernel
theorem dK_feed_26 : decode c_K_feed 26 = .ok (.iload_n 2, 1) := by decide +kernel
theorem dK_feed_27 : decode c_K_feed 27 = .ok (.invokevirtual 76, 3) := by decide +kernel
theorem dK_feed_30 : decode c_K_feed 30 = .ok (.aload_n 0, 1) := by decide +kernel
theorem dK_feed_31 : decode c_K_feed 31 = .ok (.iload_n 3, 1) := by decide +kernel
theorem dK_feed_32 : decode c_K_feed 32 = .ok (.invokevirtual 76, 3) := by decide +kernel
theorem dK_feed_35 : decode c_K_feed 35 = .ok (.aload_n 0, 1) := by decide +kernel
theorem dK_feed_36 : decode c_K_feed 36 = .ok (.iload 4, 2) := by decide +kernel
theorem dK_feed_38 : decode c_K_feed 38 = .ok (.invokevirtual 76, 3) := by decide +kernel
theorem dK_feed_41 : decode c_K_feed 41 = .ok (.aload_n 0, 1) := by decide +kernel
theorem dK_feed_42 : decode c_K_feed 42 = .ok (.iload 5, 2) := by decide +kernel
theorem dK_feed_44 : decode c_K_feed 44 = .ok (.invokevirtual 76, 3) := by decide +kernel
theorem dK_feed_47 : decode c_K_feed 47 = .ok (.aload_n 0, 1) := by decide +kernel
theorem dK_feed_48 : decode c_K_feed 48 = .ok (.getfield 13, 3) := by decide +kernel
theorem dK_feed_51 : decode c_K_feed 51 = .ok (.ireturn, 1) := by decide +kernel
set_option maxHeartbeats 400000 in
set_option maxRecDepth 100000 in
theorem m_K_writeNumber (l : Launch) (g : Gd) (sz : Nat) (h0 : Nat) (u : Nat → Nat) (k : Nat) (v : Int32) (f : Nat → Int32) (hk : k < 16000)  : Met l y_K_writeNumber w_K_writeNumber ({ frames := 0, cells := 0, slots := 0, locals := 0 } : Room) (va_Pc [.ref h0, .int v] (pr (en g) g.1 vcl sz [(h0, .inr (0, [.ref (u 0), .int (nI k), .ref (u 1), .int (nI 0), .ref (u 12), .int (nI 0), .ref (u 2), .ref (u 3), .ref (u 4), .ref (u 13), .ref (u 14)])), (u 0, .inl (g.2.1 1, 16384, .inl f))])) (va_Qv (fun (z : Nat → Int32) => True) (po g.1 vcl (va_A [(h0, .inr (0, [.ref (u 0), .int (nI k), .ref (u 1), .int (nI 0), .ref (u 12), .int (nI 0), .ref (u 2), .ref (u 3), .ref (u 4), .ref (u 13), .ref (u 14)])), (u 0, .inl (g.2.1 1, 16384, .inl f))] sz) (fun (z : Nat → Int32) => [(h0, .inr (0, [.ref (u 0), .int (nI (k + 4)), .ref (u 1), .int (nI 0), .ref (u 12), .int (nI 0), .ref (u 2), .ref (u 3), .ref (u 4), .ref (u 13), .ref (u 14)])), (u 0, .inl (g.2.1 1, 16384, .inl z))])) (va_A [(h0, .inr (0, [.ref (u 0), .int (nI k), .ref (u 1), .int (nI 0), .ref (u 12), .int (nI 0), .ref (u 2), .ref (u 3), .ref (u 4), .ref (u 13), .ref (u 14)])), (u 0, .inl (g.2.1 1, 16384, .inl f))] sz)) 0 0 (va_A [(h0, .inr (0, [.ref (u 0), .int (nI k), .ref (u 1), .int (nI 0), .ref (u 12), .int (nI 0), .ref (u 2), .ref (u 3), .ref (u 4), .ref (u 13), .ref (u 14)])), (u 0, .inl (g.2.1 1, 16384, .inl f))] sz) := by
  refine mc_entry (cc := c_K_writeNumber) (maxL := 2) (ret := none) (by decide) rfl (Nat.le_of_ble_eq_true rfl) ?_
  intro p e s m args below meth c ls F hr hlk hnm hsz hP hD hE hA hl
  obtain ⟨hx, hb, hml, hown, hts⟩ := id F
  have hK := hE.1
  generalize va_A [(h0, .inr (0, [.ref (u 0), .int (nI k), .ref (u 1), .int (nI 0), .ref (u 12), .int (nI 0), .ref (u 2), .ref (u 3), .ref (u 4), .ref (u 13), .ref (u 14)])), (u 0, .inl (g.2.1 1, 16384, .inl f))] sz = A at hD hE hA ⊢
  have hS : va_S A s.heap s.heap [] := va_S.rf
  have hl : lv_has ls 2 [(0, .ref h0), (1, .int v)] := hl
  refine lv_aload_n hx hb dK_writeNumber_0 rfl (lv_at hl 0 rfl) ?_
  refine va_get (D := g.1) (ci := 0) (C := "LatticeKeys") (T := T_K) (N := 11) hx hb hts (wg_ft i_K) hown hK hP 0 rfl rfl 0 (by decide) (hts _ (wg_t kw_374)) (fun _ h9 => h9) rfl dK_writeNumber_1 ?_
  refine lv_aload_n hx hb dK_writeNumber_4 rfl (lv_at hl 0 rfl) ?_
  refine va_get (D := g.1) (ci := 0) (C := "LatticeKeys") (T := T_K) (N := 11) hx hb hts (wg_ft i_K) hown hK hP 0 rfl rfl 1 (by decide) (hts _ (wg_t kw_375)) (fun _ h9 => h9) rfl dK_writeNumber_5 ?_
  refine lv_iload_n hx hb dK_writeNumber_8 rfl (lv_at hl 1 rfl) ?_
  refine lv_bipush (v := nI 24) hx hb dK_writeNumber_9 (by decide) ?_
  refine lv_iushr hx hb dK_writeNumber_11 rfl ?_
  refine mi_any (fun z1 => ?_)
  refine lv_i2b hx hb dK_writeNumber_12 rfl ?_
  refine mi_any (fun z2 => ?_)
  refine ma_bast hx hb hK hP hD hS 1 1 rfl rfl (vp_in_nI (by omega) (by decide)) dK_writeNumber_13 (fun f1 H locs hP hD hS => ?_)
  have hP : va_P g.1 vcl [(h0, .inr (0, [.ref (u 0), .int (nI k), .ref (u 1), .int (nI 0), .ref (u 12), .int (nI 0), .ref (u 2), .ref (u 3), .ref (u 4), .ref (u 13), .ref (u 14)])), (u 0, .inl (g.2.1 1, 16384, .inl f1))] _ := hP
  have hD : va_D _ [(h0, .inr (0, [.ref (u 0), .int (nI k), .ref (u 1), .int (nI 0), .ref (u 12), .int (nI 0), .ref (u 2), .ref (u 3), .ref (u 4), .ref (u 13), .ref (u 14)])), (u 0, .inl (g.2.1 1, 16384, .inl f1))] := hD
  refine lv_aload_n hx hb dK_writeNumber_14 rfl (lv_at hl 0 rfl) ?_
  refine va_get (D := g.1) (ci := 0) (C := "LatticeKeys") (T := T_K) (N := 11) hx hb hts (wg_ft i_K) hown hK hP 0 rfl rfl 0 (by decide) (hts _ (wg_t kw_374)) (fun _ h9 => h9) rfl dK_writeNumber_15 ?_
  refine lv_aload_n hx hb dK_writeNumber_18 rfl (lv_at hl 0 rfl) ?_
  refine va_get (D := g.1) (ci := 0) (C := "LatticeKeys") (T := T_K) (N := 11) hx hb hts (wg_ft i_K) hown hK hP 0 rfl rfl 1 (by decide) (hts _ (wg_t kw_375)) (fun _ h9 => h9) rfl dK_writeNumber_19 ?_
  refine lv_iconst (v := nI 1) hx hb dK_writeNumber_22 (by decide) ?_
  refine mi_iadd hx hb dK_writeNumber_23 ?_
  refine lv_iload_n hx hb dK_writeNumber_24 rfl (lv_at hl 1 rfl) ?_
  refine lv_bipush (v := nI 16) hx hb dK_writeNumber_25 (by decide) ?_
  refine lv_iushr hx hb dK_writeNumber_27 rfl ?_
  refine mi_any (fun z3 => ?_)
  refine lv_i2b hx hb dK_writeNumber_28 rfl ?_
  refine mi_any (fun z4 => ?_)
  refine ma_bast hx hb hK hP hD hS 1 1 rfl rfl (vp_in_nI (by omega) (by decide)) dK_writeNumber_29 (fun f2 H locs hP hD hS => ?_)
  have hP : va_P g.1 vcl [(h0, .inr (0, [.ref (u 0), .int (nI k), .ref (u 1), .int (nI 0), .ref (u 12), .int (nI 0), .ref (u 2), .ref (u 3), .ref (u 4), .ref (u 13), .ref (u 14)])), (u 0, .inl (g.2.1 1, 16384, .inl f2))] _ := hP
  have hD : va_D _ [(h0, .inr (0, [.ref (u 0), .int (nI k), .ref (u 1), .int (nI 0), .ref (u 12), .int (nI 0), .ref (u 2), .ref (u 3), .ref (u 4), .ref (u 13), .ref (u 14)])), (u 0, .inl (g.2.1 1, 16384, .inl f2))] := hD
  refine lv_aload_n hx hb dK_writeNumber_30 rfl (lv_at hl 0 rfl) ?_
  refine va_get (D := g.1) (ci := 0) (C := "LatticeKeys") (T := T_K) (N := 11) hx hb hts (wg_ft i_K) hown hK hP 0 rfl rfl 0 (by decide) (hts _ (wg_t kw_374)) (fun _ h9 => h9) rfl dK_writeNumber_31 ?_
  refine lv_aload_n hx hb dK_writeNumber_34 rfl (lv_at hl 0 rfl) ?_
  refine va_get (D := g.1) (ci := 0) (C := "LatticeKeys") (T := T_K) (N := 11) hx hb hts (wg_ft i_K) hown hK hP 0 rfl rfl 1 (by decide) (hts _ (wg_t kw_375)) (fun _ h9 => h9) rfl dK_writeNumber_35 ?_
  refine lv_iconst (v := nI 2) hx hb dK_writeNumber_38 (by decide) ?_
  refine mi_iadd hx hb dK_writeNumber_39 ?_
  refine lv_iload_n hx hb dK_writeNumber_40 rfl (lv_at hl 1 rfl) ?_
  refine lv_bipush (v := nI 8) hx hb dK_writeNumber_41 (by decide) ?_
  refine lv_iushr hx hb dK_writeNumber_43 rfl ?_
  refine mi_any (fun z5 => ?_)
  refine lv_i2b hx hb dK_writeNumber_44 rfl ?_
  refine mi_any (fun z6 => ?_)
  refine ma_bast hx hb hK hP hD hS 1 1 rfl rfl (vp_in_nI (by omega) (by decide)) dK_writeNumber_45 (fun f3 H locs hP hD hS => ?_)
  have hP : va_P g.1 vcl [(h0, .inr (0, [.ref (u 0), .int (nI k), .ref (u 1), .int (nI 0), .ref (u 12), .int (nI 0), .ref (u 2), .ref (u 3), .ref (u 4), .ref (u 13), .ref (u 14)])), (u 0, .inl (g.2.1 1, 16384, .inl f3))] _ := hP
  have hD : va_D _ [(h0, .inr (0, [.ref (u 0), .int (nI k), .ref (u 1), .int (nI 0), .ref (u 12), .int (nI 0), .ref (u 2), .ref (u 3), .ref (u 4), .ref (u 13), .ref (u 14)])), (u 0, .inl (g.2.1 1, 16384, .inl f3))] := hD
  refine lv_aload_n hx hb dK_writeNumber_46 rfl (lv_at hl 0 rfl) ?_
  refine va_get (D := g.1) (ci := 0) (C := "LatticeKeys") (T := T_K) (N := 11) hx hb hts (wg_ft i_K) hown hK hP 0 rfl rfl 0 (by decide) (hts _ (wg_t kw_374)) (fun _ h9 => h9) rfl dK_writeNumber_47 ?_
  refine lv_aload_n hx hb dK_writeNumber_50 rfl (lv_at hl 0 rfl) ?_
  refine va_get (D := g.1) (ci := 0) (C := "LatticeKeys") (T := T_K) (N := 11) hx hb hts (wg_ft i_K) hown hK hP 0 rfl rfl 1 (by decide) (hts _ (wg_t kw_375)) (fun _ h9 => h9) rfl dK_writeNumber_51 ?_
  refine lv_iconst (v := nI 3) hx hb dK_writeNumber_54 (by decide) ?_
  refine mi_iadd hx hb dK_writeNumber_55 ?_
  refine lv_iload_n hx hb dK_writeNumber_56 rfl (lv_at hl 1 rfl) ?_
  refine lv_i2b hx hb dK_writeNumber_57 rfl ?_
  refine mi_any (fun z7 => ?_)
  refine ma_bast hx hb hK hP hD hS 1 1 rfl rfl (vp_in_nI (by omega) (by decide)) dK_writeNumber_58 (fun f4 H locs hP hD hS => ?_)
  have hP : va_P g.1 vcl [(h0, .inr (0, [.ref (u 0), .int (nI k), .ref (u 1), .int (nI 0), .ref (u 12), .int (nI 0), .ref (u 2), .ref (u 3), .ref (u 4), .ref (u 13), .ref (u 14)])), (u 0, .inl (g.2.1 1, 16384, .inl f4))] _ := hP
  have hD : va_D _ [(h0, .inr (0, [.ref (u 0), .int (nI k), .ref (u 1), .int (nI 0), .ref (u 12), .int (nI 0), .ref (u 2), .ref (u 3), .ref (u 4), .ref (u 13), .ref (u 14)])), (u 0, .inl (g.2.1 1, 16384, .inl f4))] := hD
  refine lv_aload_n hx hb dK_writeNumber_59 rfl (lv_at hl 0 rfl) ?_
  refine lv_dup hx hb dK_writeNumber_60 rfl ?_
  refine va_get (D := g.1) (ci := 0) (C := "LatticeKeys") (T := T_K) (N := 11) hx hb hts (wg_ft i_K) hown hK hP 0 rfl rfl 1 (by decide) (hts _ (wg_t kw_375)) (fun _ h9 => h9) rfl dK_writeNumber_61 ?_
  refine lv_iconst (v := nI 4) hx hb dK_writeNumber_64 (by decide) ?_
  refine mi_iadd hx hb dK_writeNumber_65 ?_
  refine va_put (D := g.1) (ci := 0) (v := .int (nI (k + 4))) (ty := .int) (C := "LatticeKeys") (T := T_K) (N := 11) hx hb hts (wg_ft i_K) ty_K k_K n_K hown hK hP hD hS 0 rfl rfl 1 (by decide) (hts _ (wg_t kw_375)) (fun _ h9 => h9) rfl (by decide +kernel) rfl rfl (Nat.le_of_ble_eq_true rfl) dK_writeNumber_66 (fun H locs hP hD hS => ?_)
  have hP : va_P g.1 vcl [(h0, .inr (0, [.ref (u 0), .int (nI (k + 4)), .ref (u 1), .int (nI 0), .ref (u 12), .int (nI 0), .ref (u 2), .ref (u 3), .ref (u 4), .ref (u 13), .ref (u 14)])), (u 0, .inl (g.2.1 1, 16384, .inl f4))] _ := hP
  have hD : va_D _ [(h0, .inr (0, [.ref (u 0), .int (nI (k + 4)), .ref (u 1), .int (nI 0), .ref (u 12), .int (nI 0), .ref (u 2), .ref (u 3), .ref (u 4), .ref (u 13), .ref (u 14)])), (u 0, .inl (g.2.1 1, 16384, .inl f4))] := hD
  exact mc_vret hx hb hr hlk hP hD hS f4 trivial [0, 1] rfl rfl (by omega) (by omega) dK_writeNumber_69
set_option maxHeartbeats 400000 in
set_option maxRecDepth 100000 in
theorem m_K_feed (l : Launch) (g : Gd) (sz : Nat) (h0 : Nat) (u : Nat → Nat) (v1 v2 v3 v4 v5 : Int32)  : Met l y_K_feed w_K_feed ({ frames := 1, cells := 0, slots := 0, locals := 30 } : Room) (va_Pc [.ref h0, .int v1, .int v2, .int v3, .int v4, .int v5] (pr (en g) g.1 vcl sz [(h0, .inr (0, [.ref (u 0), .int (nI 0), .ref (u 1), .int (nI 0), .ref (u 12), .int (nI 0), .ref (u 2), .ref (u 3), .ref (u 4), .ref (u 13), .ref (u 14)])), (u 0, .inl (g.2.1 1, 16384, .inl ((fun _ => 0))))])) (va_Qi (fun (r : Int32) (u : Unit) => r = nI 20) (po g.1 vcl (va_A [(h0, .inr (0, [.ref (u 0), .int (nI 0), .ref (u 1), .int (nI 0), .ref (u 12), .int (nI 0), .ref (u 2), .ref (u 3), .ref (u 4), .ref (u 13), .ref (u 14)])), (u 0, .inl (g.2.1 1, 16384, .inl ((fun _ => 0))))] sz) (fun (u : Unit) => [])) (va_A [(h0, .inr (0, [.ref (u 0), .int (nI 0), .ref (u 1), .int (nI 0), .ref (u 12), .int (nI 0), .ref (u 2), .ref (u 3), .ref (u 4), .ref (u 13), .ref (u 14)])), (u 0, .inl (g.2.1 1, 16384, .inl ((fun _ => 0))))] sz)) 0 0 (va_A [(h0, .inr (0, [.ref (u 0), .int (nI 0), .ref (u 1), .int (nI 0), .ref (u 12), .int (nI 0), .ref (u 2), .ref (u 3), .ref (u 4), .ref (u 13), .ref (u 14)])), (u 0, .inl (g.2.1 1, 16384, .inl ((fun _ => 0))))] sz) := by
  refine mc_entry (cc := c_K_feed) (maxL := 6) (ret := (some .int)) (by decide) rfl (Nat.le_of_ble_eq_true rfl) ?_
  intro p e s m args below meth c ls F hr hlk hnm hsz hP hD hE hA hl
  obtain ⟨hx, hb, hml, hown, hts⟩ := id F
  have hK := hE.1
  generalize va_A [(h0, .inr (0, [.ref (u 0), .int (nI 0), .ref (u 1), .int (nI 0), .ref (u 12), .int (nI 0), .ref (u 2), .ref (u 3), .ref (u 4), .ref (u 13), .ref (u 14)])), (u 0, .inl (g.2.1 1, 16384, .inl ((fun _ => 0))))] sz = A at hD hE hA ⊢
  have hS : va_S A s.heap s.heap [] := va_S.rf
  have hl : lv_has ls 6 [(0, .ref h0), (1, .int v1), (2, .int v2), (3, .int v3), (4, .int v4), (5, .int v5)] := hl
  refine lv_aload_n hx hb dK_feed_0 rfl (lv_at hl 0 rfl) ?_
  refine va_get (D := g.1) (ci := 0) (C := "LatticeKeys") (T := T_K) (N := 11) hx hb hts (wg_ft i_K) hown hK hP 0 rfl rfl 1 (by decide) (hts _ (wg_t kw_375)) (fun _ h9 => h9) rfl dK_feed_1 ?_
  refine lv_sipush (v := nI 16364) hx hb dK_feed_4 (by decide) ?_
  refine mi_le (tgt := 20) hx hb dK_feed_7 (by decide) (by omega) (by omega) (fun h1 => ?_) (fun h1 => absurd h1 (by omega))
  refine lv_aload_n hx hb dK_feed_20 rfl (lv_at hl 0 rfl) ?_
  refine lv_iload_n hx hb dK_feed_21 rfl (lv_at hl 1 rfl) ?_
  refine mc_v (wc := [(h0, .inr (0, [.ref (u 0), .int (nI 0), .ref (u 1), .int (nI 0), .ref (u 12), .int (nI 0), .ref (u 2), .ref (u 3), .ref (u 4), .ref (u 13), .ref (u 14)])), (u 0, .inl (g.2.1 1, 16384, .inl ((fun _ => 0))))]) (wr := []) hP hD hS hA [0, 1] [] rfl rfl rfl (by decide) (va_runV (As := [.int v1]) (rest := []) F (m_K_writeNumber l g _ h0 u 0 v1 (fun _ => 0) (by omega)) (cwV 1 hts (wg_app (wg_c kw_489 (wg_c kw_491 (wg_c ks_1 (wg_c kw_1 wg_n)))) kw_492) rfl rfl rfl (by decide +kernel) ⟨by decide, by decide⟩) (pr_V (en_ok g) (q0 := 0) hK hP hD hS hA hE [0, 1] rfl rfl rfl rfl) rfl rfl hl.1 rfl (lv_room (Nat.le_of_ble_eq_true rfl)) dK_feed_22 ⟨(by decide), (by decide)⟩) (fun u1 H locs hu1 hP hD hS => ?_)
  have hP : va_P g.1 vcl [(h0, .inr (0, [.ref (u 0), .int (nI 4), .ref (u 1), .int (nI 0), .ref (u 12), .int (nI 0), .ref (u 2), .ref (u 3), .ref (u 4), .ref (u 13), .ref (u 14)])), (u 0, .inl (g.2.1 1, 16384, .inl u1))] _ := hP
  have hD : va_D _ [(h0, .inr (0, [.ref (u 0), .int (nI 4), .ref (u 1), .int (nI 0), .ref (u 12), .int (nI 0), .ref (u 2), .ref (u 3), .ref (u 4), .ref (u 13), .ref (u 14)])), (u 0, .inl (g.2.1 1, 16384, .inl u1))] := hD
  refine W.widen (k := 0) (n := 0) (by omega) (by omega) ?_
  refine lv_aload_n hx hb dK_feed_25 rfl (lv_at hl 0 rfl) ?_
  refine lv_iload_n hx hb dK_feed_26 rfl (lv_at hl 2 rfl) ?_
  refine mc_v (wc := [(h0, .inr (0, [.ref (u 0), .int (nI 4), .ref (u 1), .int (nI 0), .ref (u 12), .int (nI 0), .ref (u 2), .ref (u 3), .ref (u 4), .ref (u 13), .ref (u 14)])), (u 0, .inl (g.2.1 1, 16384, .inl u1))]) (wr := []) hP hD hS hA [0, 1] [] rfl rfl rfl (by decide) (va_runV (As := [.int v2]) (rest := []) F (m_K_writeNumber l g _ h0 u 4 v2 u1 (by omega)) (cwV 1 hts (wg_app (wg_c kw_489 (wg_c kw_491 (wg_c ks_1 (wg_c kw_1 wg_n)))) kw_492) rfl rfl rfl (by decide +kernel) ⟨by decide, by decide⟩) (pr_V (en_ok g) (q0 := 0) hK hP hD hS hA hE [0, 1] rfl rfl rfl rfl) rfl rfl hl.1 rfl (lv_room (Nat.le_of_ble_eq_true rfl)) dK_feed_27 ⟨(by decide), (by decide)⟩) (fun u2 H locs hu2 hP hD hS => ?_)
  have hP : va_P g.1 vcl [(h0, .inr (0, [.ref (u 0), .int (nI 8), .ref (u 1), .int (nI 0), .ref (u 12), .int (nI 0), .ref (u 2), .ref (u 3), .ref (u 4), .ref (u 13), .ref (u 14)])), (u 0, .inl (g.2.1 1, 16384, .inl u2))] _ := hP
  have hD : va_D _ [(h0, .inr (0, [.ref (u 0), .int (nI 8), .ref (u 1), .int (nI 0), .ref (u 12), .int (nI 0), .ref (u 2), .ref (u 3), .ref (u 4), .ref (u 13), .ref (u 14)])), (u 0, .inl (g.2.1 1, 16384, .inl u2))] := hD
  refine W.widen (k := 0) (n := 0) (by omega) (by omega) ?_
  refine lv_aload_n hx hb dK_feed_30 rfl (lv_at hl 0 rfl) ?_
  refine lv_iload_n hx hb dK_feed_31 rfl (lv_at hl 3 rfl) ?_
  refine mc_v (wc := [(h0, .inr (0, [.ref (u 0), .int (nI 8), .ref (u 1), .int (nI 0), .ref (u 12), .int (nI 0), .ref (u 2), .ref (u 3), .ref (u 4), .ref (u 13), .ref (u 14)])), (u 0, .inl (g.2.1 1, 16384, .inl u2))]) (wr := []) hP hD hS hA [0, 1] [] rfl rfl rfl (by decide) (va_runV (As := [.int v3]) (rest := []) F (m_K_writeNumber l g _ h0 u 8 v3 u2 (by omega)) (cwV 1 hts (wg_app (wg_c kw_489 (wg_c kw_491 (wg_c ks_1 (wg_c kw_1 wg_n)))) kw_492) rfl rfl rfl (by decide +kernel) ⟨by decide, by decide⟩) (pr_V (en_ok g) (q0 := 0) hK hP hD hS hA hE [0, 1] rfl rfl rfl rfl) rfl rfl hl.1 rfl (lv_room (Nat.le_of_ble_eq_true rfl)) dK_feed_32 ⟨(by decide), (by decide)⟩) (fun u3 H locs hu3 hP hD hS => ?_)
  have hP : va_P g.1 vcl [(h0, .inr (0, [.ref (u 0), .int (nI 12), .ref (u 1), .int (nI 0), .ref (u 12), .int (nI 0), .ref (u 2), .ref (u 3), .ref (u 4), .ref (u 13), .ref (u 14)])), (u 0, .inl (g.2.1 1, 16384, .inl u3))] _ := hP
  have hD : va_D _ [(h0, .inr (0, [.ref (u 0), .int (nI 12), .ref (u 1), .int (nI 0), .ref (u 12), .int (nI 0), .ref (u 2), .ref (u 3), .ref (u 4), .ref (u 13), .ref (u 14)])), (u 0, .inl (g.2.1 1, 16384, .inl u3))] := hD
  refine W.widen (k := 0) (n := 0) (by omega) (by omega) ?_
  refine lv_aload_n hx hb dK_feed_35 rfl (lv_at hl 0 rfl) ?_
  refine lv_iload hx hb dK_feed_36 (lv_at hl 4 rfl) ?_
  refine mc_v (wc := [(h0, .inr (0, [.ref (u 0), .int (nI 12), .ref (u 1), .int (nI 0), .ref (u 12), .int (nI 0), .ref (u 2), .ref (u 3), .ref (u 4), .ref (u 13), .ref (u 14)])), (u 0, .inl (g.2.1 1, 16384, .inl u3))]) (wr := []) hP hD hS hA [0, 1] [] rfl rfl rfl (by decide) (va_runV (As := [.int v4]) (rest := []) F (m_K_writeNumber l g _ h0 u 12 v4 u3 (by omega)) (cwV 1 hts (wg_app (wg_c kw_489 (wg_c kw_491 (wg_c ks_1 (wg_c kw_1 wg_n)))) kw_492) rfl rfl rfl (by decide +kernel) ⟨by decide, by decide⟩) (pr_V (en_ok g) (q0 := 0) hK hP hD hS hA hE [0, 1] rfl rfl rfl rfl) rfl rfl hl.1 rfl (lv_room (Nat.le_of_ble_eq_true rfl)) dK_feed_38 ⟨(by decide), (by decide)⟩) (fun u4 H locs hu4 hP hD hS => ?_)
  have hP : va_P g.1 vcl [(h0, .inr (0, [.ref (u 0), .int (nI 16), .ref (u 1), .int (nI 0), .ref (u 12), .int (nI 0), .ref (u 2), .ref (u 3), .ref (u 4), .ref (u 13), .ref (u 14)])), (u 0, .inl (g.2.1 1, 16384, .inl u4))] _ := hP
  have hD : va_D _ [(h0, .inr (0, [.ref (u 0), .int (nI 16), .ref (u 1), .int (nI 0), .ref (u 12), .int (nI 0), .ref (u 2), .ref (u 3), .ref (u 4), .ref (u 13), .ref (u 14)])), (u 0, .inl (g.2.1 1, 16384, .inl u4))] := hD
  refine W.widen (k := 0) (n := 0) (by omega) (by omega) ?_
  refine lv_aload_n hx hb dK_feed_41 rfl (lv_at hl 0 rfl) ?_
  refine lv_iload hx hb dK_feed_42 (lv_at hl 5 rfl) ?_
  refine mc_v (wc := [(h0, .inr (0, [.ref (u 0), .int (nI 16), .ref (u 1), .int (nI 0), .ref (u 12), .int (nI 0), .ref (u 2), .ref (u 3), .ref (u 4), .ref (u 13), .ref (u 14)])), (u 0, .inl (g.2.1 1, 16384, .inl u4))]) (wr := []) hP hD hS hA [0, 1] [] rfl rfl rfl (by decide) (va_runV (As := [.int v5]) (rest := []) F (m_K_writeNumber l g _ h0 u 16 v5 u4 (by omega)) (cwV 1 hts (wg_app (wg_c kw_489 (wg_c kw_491 (wg_c ks_1 (wg_c kw_1 wg_n)))) kw_492) rfl rfl rfl (by decide +kernel) ⟨by decide, by decide⟩) (pr_V (en_ok g) (q0 := 0) hK hP hD hS hA hE [0, 1] rfl rfl rfl rfl) rfl rfl hl.1 rfl (lv_room (Nat.le_of_ble_eq_true rfl)) dK_feed_44 ⟨(by decide), (by decide)⟩) (fun u5 H locs hu5 hP hD hS => ?_)
  have hP : va_P g.1 vcl [(h0, .inr (0, [.ref (u 0), .int (nI 20), .ref (u 1), .int (nI 0), .ref (u 12), .int (nI 0), .ref (u 2), .ref (u 3), .ref (u 4), .ref (u 13), .ref (u 14)])), (u 0, .inl (g.2.1 1, 16384, .inl u5))] _ := hP
  have hD : va_D _ [(h0, .inr (0, [.ref (u 0), .int (nI 20), .ref (u 1), .int (nI 0), .ref (u 12), .int (nI 0), .ref (u 2), .ref (u 3), .ref (u 4), .ref (u 13), .ref (u 14)])), (u 0, .inl (g.2.1 1, 16384, .inl u5))] := hD
  refine W.widen (k := 0) (n := 0) (by omega) (by omega) ?_
  refine lv_aload_n hx hb dK_feed_47 rfl (lv_at hl 0 rfl) ?_
  refine va_get (D := g.1) (ci := 0) (C := "LatticeKeys") (T := T_K) (N := 11) hx hb hts (wg_ft i_K) hown hK hP 0 rfl rfl 1 (by decide) (hts _ (wg_t kw_375)) (fun _ h9 => h9) rfl dK_feed_48 ?_
  exact mc_iret hx hb hr hlk hP hD hS () rfl [] rfl rfl (by omega) (by omega) dK_feed_51
