set_option linter.all false
abbrev c_SP_mixIn : ByteArray := prog_10_method_8_code
abbrev y_SP_mixIn : MethodName := ⟨"LatticeKeys$Sponge", "mixIn", "(II)V"⟩
abbrev w_SP_mixIn : List Cond := Cond.code y_SP_mixIn c_SP_mixIn 3 none :: WG
theorem dSP_mixIn_0 : decode c_SP_mixIn 0 = .ok (.aload_n 0, 1) := by decide +kernel
theorem dSP_mixIn_1 : decode c_SP_mixIn 1 = .ok (.getfield 7, 3) := by decide +kernel
theorem dSP_mixIn_4 : decode c_SP_mixIn 4 = .ok (.iload_n 1, 1) := by decide +kernel
theorem dSP_mixIn_5 : decode c_SP_mixIn 5 = .ok (.iconst 3, 1) := by decide +kernel
theorem dSP_mixIn_6 : decode c_SP_mixIn 6 = .ok (.ishr, 1) := by decide +kernel
theorem dSP_mixIn_7 : decode c_SP_mixIn 7 = .ok (.dup2, 1) := by decide +kernel
theorem dSP_mixIn_8 : decode c_SP_mixIn 8 = .ok (.laload, 1) := by decide +kernel
theorem dSP_mixIn_9 : decode c_SP_mixIn 9 = .ok (.iload_n 2, 1) := by decide +kernel
theorem dSP_mixIn_10 : decode c_SP_mixIn 10 = .ok (.i2l, 1) := by decide +kernel
theorem dSP_mixIn_11 : decode c_SP_mixIn 11 = .ok (.ldc2_w 51, 3) := by decide +kernel
theorem dSP_mixIn_14 : decode c_SP_mixIn 14 = .ok (.land, 1) := by decide +kernel
theorem dSP_mixIn_15 : decode c_SP_mixIn 15 = .ok (.iload_n 1, 1) := by decide +kernel
theorem dSP_mixIn_16 : decode c_SP_mixIn 16 = .ok (.bipush 7, 2) := by decide +kernel
theorem dSP_mixIn_18 : decode c_SP_mixIn 18 = .ok (.iand, 1) := by decide +kernel
theorem dSP_mixIn_19 : decode c_SP_mixIn 19 = .ok (.iconst 3, 1) := by decide +kernel
theorem dSP_mixIn_20 : decode c_SP_mixIn 20 = .ok (.ishl, 1) := by decide +kernel
theorem dSP_mixIn_21 : decode c_SP_mixIn 21 = .ok (.lshl, 1) := by decide +kernel
theorem dSP_mixIn_22 : decode c_SP_mixIn 22 = .ok (.lxor, 1) := by decide +kernel
theorem dSP_mixIn_23 : decode c_SP_mixIn 23 = .ok (.lastore, 1) := by decide +kernel
theorem dSP_mixIn_24 : decode c_SP_mixIn 24 = .ok (.return_, 1) := by decide +kernel
set_option maxHeartbeats 400000 in
set_option maxRecDepth 100000 in
theorem m_SP_mixIn (l : Launch) (g : Gd) (sz : Nat) (h0 ln k : Nat) (x1 x2 x3 v : Int32) (f : Nat → Int64) (hk : k < 200)  : Met l y_SP_mixIn w_SP_mixIn ({ frames := 0, cells := 0, slots := 0, locals := 0 } : Room) (va_Pc [.ref h0, .int (nI k), .int v] (pr (en g) g.1 vcl sz [(h0, .inr (3, [.ref ln, .int x1, .int x2, .int x3])), (ln, .inl (g.2.1 2, 25, .inr (.inl f)))])) (va_Qv (fun (u : Nat → Int64) => True) (po g.1 vcl (va_A [(h0, .inr (3, [.ref ln, .int x1, .int x2, .int x3])), (ln, .inl (g.2.1 2, 25, .inr (.inl f)))] sz) (fun (u : Nat → Int64) => [(h0, .inr (3, [.ref ln, .int x1, .int x2, .int x3])), (ln, .inl (g.2.1 2, 25, .inr (.inl u)))])) (va_A [(h0, .inr (3, [.ref ln, .int x1, .int x2, .int x3])), (ln, .inl (g.2.1 2, 25, .inr (.inl f)))] sz)) 0 0 (va_A [(h0, .inr (3, [.ref ln, .int x1, .int x2, .int x3])), (ln, .inl (g.2.1 2, 25, .inr (.inl f)))] sz) := by
  refine mc_entry (cc := c_SP_mixIn) (maxL := 3) (ret := none) (by decide) rfl (Nat.le_of_ble_eq_true rfl) ?_
  intro p e s m args below meth c ls F hr hlk hnm hsz hP hD hE hA hl
  obtain ⟨hx, hb, hml, hown, hts⟩ := id F
  have hK := hE.1
  generalize va_A [(h0, .inr (3, [.ref ln, .int x1, .int x2, .int x3])), (ln, .inl (g.2.1 2, 25, .inr (.inl f)))] sz = A at hD hE hA ⊢
  have hS : va_S A s.heap s.heap [] := va_S.rf
  have hl : lv_has ls 3 [(0, .ref h0), (1, .int (nI k)), (2, .int v)] := hl
  refine lv_aload_n hx hb dSP_mixIn_0 rfl (lv_at hl 0 rfl) ?_
  refine va_get (D := g.1) (ci := 3) (C := "LatticeKeys$Sponge") (T := T_SP) (N := 4) hx hb hts (wg_ft i_SP) hown hK hP 0 rfl rfl 0 (by decide) (hts _ (wg_t kw_59)) (fun _ h9 => h9) rfl dSP_mixIn_1 ?_
  refine lv_iload_n hx hb dSP_mixIn_4 rfl (lv_at hl 1 rfl) ?_
  refine lv_iconst (v := nI 3) hx hb dSP_mixIn_5 (by decide) ?_
  refine mi_ishr hx hb dSP_mixIn_6 (by omega) (by decide) ?_
  refine mi_as (show nI (k / 2 ^ 3) = nI (k / 8) from rfl) ?_
  refine lv_dup2_11 hx hb dSP_mixIn_7 rfl rfl ?_
  refine ma_lald hx hb hK hP 1 2 rfl rfl (vp_in_nI (by omega) (by decide)) dSP_mixIn_8 (fun y1 => ?_)
  refine lv_iload_n hx hb dSP_mixIn_9 rfl (lv_at hl 2 rfl) ?_
  refine lv_i2l hx hb dSP_mixIn_10 rfl ?_
  refine ml_any (fun y2 => ?_)
  refine lv_ldc2 (v := (255)) hx hb hown (hts _ (wg_t kw_597)) dSP_mixIn_11 ?_
  refine lv_land hx hb dSP_mixIn_14 ?_
  refine ml_any (fun y3 => ?_)
  refine lv_iload_n hx hb dSP_mixIn_15 rfl (lv_at hl 1 rfl) ?_
  refine lv_bipush (v := nI 7) hx hb dSP_mixIn_16 (by decide) ?_
  refine lv_iand hx hb dSP_mixIn_18 ?_
  refine mi_any (fun z1 => ?_)
  refine lv_iconst (v := nI 3) hx hb dSP_mixIn_19 (by decide) ?_
  refine lv_ishl hx hb dSP_mixIn_20 ?_
  refine mi_any (fun z2 => ?_)
  refine lv_lshl hx hb dSP_mixIn_21 rfl ?_
  refine ml_any (fun y4 => ?_)
  refine lv_lxor hx hb dSP_mixIn_22 ?_
  refine ml_any (fun y5 => ?_)
  refine ma_last hx hb hK hP hD hS 1 2 rfl rfl (vp_in_nI (by omega) (by decide)) dSP_mixIn_23 (fun f1 H locs hP hD hS => ?_)
  have hP : va_P g.1 vcl [(h0, .inr (3, [.ref ln, .int x1, .int x2, .int x3])), (ln, .inl (g.2.1 2, 25, .inr (.inl f1)))] _ := hP
  have hD : va_D _ [(h0, .inr (3, [.ref ln, .int x1, .int x2, .int x3])), (ln, .inl (g.2.1 2, 25, .inr (.inl f1)))] := hD
  exact mc_vret hx hb hr hlk hP hD hS f1 trivial [0, 1] rfl rfl (by omega) (by omega) dSP_mixIn_24
