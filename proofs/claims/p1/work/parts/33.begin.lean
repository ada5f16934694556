abbrev c_MS_begin : ByteArray := prog_16_method_4_code
abbrev y_MS_begin : MethodName := ⟨"LatticeKeysModel$Sponge", "begin", "(II)V"⟩
abbrev w_MS_begin : List Cond := Cond.code y_MS_begin c_MS_begin 4 none :: WG
theorem dMS_begin_0 : decode c_MS_begin 0 = .ok (.aload_n 0, 1) := by decide +kernel
theorem dMS_begin_1 : decode c_MS_begin 1 = .ok (.iload_n 1, 1) := by decide +kernel
theorem dMS_begin_2 : decode c_MS_begin 2 = .ok (.putfield 32, 3) := by decide +kernel
theorem dMS_begin_5 : decode c_MS_begin 5 = .ok (.aload_n 0, 1) := by decide +kernel
theorem dMS_begin_6 : decode c_MS_begin 6 = .ok (.iload_n 2, 1) := by decide +kernel
theorem dMS_begin_7 : decode c_MS_begin 7 = .ok (.putfield 36, 3) := by decide +kernel
theorem dMS_begin_10 : decode c_MS_begin 10 = .ok (.aload_n 0, 1) := by decide +kernel
theorem dMS_begin_11 : decode c_MS_begin 11 = .ok (.iconst 0, 1) := by decide +kernel
theorem dMS_begin_12 : decode c_MS_begin 12 = .ok (.putfield 39, 3) := by decide +kernel
theorem dMS_begin_15 : decode c_MS_begin 15 = .ok (.iconst 0, 1) := by decide +kernel
theorem dMS_begin_16 : decode c_MS_begin 16 = .ok (.istore_n 3, 1) := by decide +kernel
theorem dMS_begin_17 : decode c_MS_begin 17 = .ok (.iload_n 3, 1) := by decide +kernel
theorem dMS_begin_18 : decode c_MS_begin 18 = .ok (.bipush 25, 2) := by decide +kernel
theorem dMS_begin_20 : decode c_MS_begin 20 = .ok (.if_icmp .ge 16, 3) := by decide +kernel
theorem dMS_begin_23 : decode c_MS_begin 23 = .ok (.aload_n 0, 1) := by decide +kernel
theorem dMS_begin_24 : decode c_MS_begin 24 = .ok (.getfield 7, 3) := by decide +kernel
theorem dMS_begin_27 : decode c_MS_begin 27 = .ok (.iload_n 3, 1) := by decide +kernel
theorem dMS_begin_28 : decode c_MS_begin 28 = .ok (.lconst 0, 1) := by decide +kernel
theorem dMS_begin_29 : decode c_MS_begin 29 = .ok (.lastore, 1) := by decide +kernel
theorem dMS_begin_30 : decode c_MS_begin 30 = .ok (.iinc 3 1, 3) := by decide +kernel
theorem dMS_begin_33 : decode c_MS_begin 33 = .ok (.goto (-16), 3) := by decide +kernel
theorem dMS_begin_36 : decode c_MS_begin 36 = .ok (.return_, 1) := by decide +kernel
set_option maxHeartbeats 400000 in
set_option maxRecDepth 100000 in
theorem m_MS_begin (l : Launch) (g : Gd) (sz : Nat) (h0 sa ta ca ra ua : Nat) (x1 x2 x3 sf : Int32) (rt : Nat) (fs ft fc fr : Nat → Int64) (fu : Nat → Int32)  : Met l y_MS_begin w_MS_begin ({ frames := 0, cells := 0, slots := 0, locals := 0 } : Room) (va_Pc [.ref h0, .int (nI rt), .int sf] (pr (en g) g.1 vcl sz [(h0, .inr (9, [.ref sa, .ref ta, .ref ca, .ref ra, .ref ua, .int x1, .int x2, .int x3])), (sa, .inl (g.2.1 2, 25, .inr (.inl fs))), (ta, .inl (g.2.1 2, 25, .inr (.inl ft))), (ca, .inl (g.2.1 2, 5, .inr (.inl fc))), (ra, .inl (g.2.1 2, 24, .inr (.inl fr))), (ua, .inl (g.2.1 0, 25, .inl fu))])) (va_Qv (fun (u : Nat → Int64) => True) (po g.1 vcl (va_A [(h0, .inr (9, [.ref sa, .ref ta, .ref ca, .ref ra, .ref ua, .int x1, .int x2, .int x3])), (sa, .inl (g.2.1 2, 25, .inr (.inl fs))), (ta, .inl (g.2.1 2, 25, .inr (.inl ft))), (ca, .inl (g.2.1 2, 5, .inr (.inl fc))), (ra, .inl (g.2.1 2, 24, .inr (.inl fr))), (ua, .inl (g.2.1 0, 25, .inl fu))] sz) (fun (u : Nat → Int64) => [(h0, .inr (9, [.ref sa, .ref ta, .ref ca, .ref ra, .ref ua, .int (nI rt), .int (nI 0), .int sf])), (sa, .inl (g.2.1 2, 25, .inr (.inl u))), (ta, .inl (g.2.1 2, 25, .inr (.inl ft))), (ca, .inl (g.2.1 2, 5, .inr (.inl fc))), (ra, .inl (g.2.1 2, 24, .inr (.inl fr))), (ua, .inl (g.2.1 0, 25, .inl fu))])) (va_A [(h0, .inr (9, [.ref sa, .ref ta, .ref ca, .ref ra, .ref ua, .int x1, .int x2, .int x3])), (sa, .inl (g.2.1 2, 25, .inr (.inl fs))), (ta, .inl (g.2.1 2, 25, .inr (.inl ft))), (ca, .inl (g.2.1 2, 5, .inr (.inl fc))), (ra, .inl (g.2.1 2, 24, .inr (.inl fr))), (ua, .inl (g.2.1 0, 25, .inl fu))] sz)) 0 0 (va_A [(h0, .inr (9, [.ref sa, .ref ta, .ref ca, .ref ra, .ref ua, .int x1, .int x2, .int x3])), (sa, .inl (g.2.1 2, 25, .inr (.inl fs))), (ta, .inl (g.2.1 2, 25, .inr (.inl ft))), (ca, .inl (g.2.1 2, 5, .inr (.inl fc))), (ra, .inl (g.2.1 2, 24, .inr (.inl fr))), (ua, .inl (g.2.1 0, 25, .inl fu))] sz) := by
  refine mc_entry (cc := c_MS_begin) (maxL := 4) (ret := none) (by decide) rfl (Nat.le_of_ble_eq_true rfl) ?_
  intro p e s m args below meth c ls F hr hlk hnm hsz hP hD hE hA hl
  obtain ⟨hx, hb, hml, hown, hts⟩ := id F
  have hK := hE.1
  generalize va_A [(h0, .inr (9, [.ref sa, .ref ta, .ref ca, .ref ra, .ref ua, .int x1, .int x2, .int x3])), (sa, .inl (g.2.1 2, 25, .inr (.inl fs))), (ta, .inl (g.2.1 2, 25, .inr (.inl ft))), (ca, .inl (g.2.1 2, 5, .inr (.inl fc))), (ra, .inl (g.2.1 2, 24, .inr (.inl fr))), (ua, .inl (g.2.1 0, 25, .inl fu))] sz = A at hD hE hA ⊢
  have hS : va_S A s.heap s.heap [] := va_S.rf
  have hl : lv_has ls 4 [(0, .ref h0), (1, .int (nI rt)), (2, .int sf)] := hl
  have lp : ∀ (n : Nat) (i : Nat) (fs : Nat → Int64) (ls : Array Slot) (H : Heap) (locs : List Loc) , n + i = 25 → lv_has ls 4 [(3, .int (nI i)), (0, .ref h0)] → va_P g.1 vcl [(h0, .inr (9, [.ref sa, .ref ta, .ref ca, .ref ra, .ref ua, .int (nI rt), .int (nI 0), .int sf])), (sa, .inl (g.2.1 2, 25, .inr (.inl fs))), (ta, .inl (g.2.1 2, 25, .inr (.inl ft))), (ca, .inl (g.2.1 2, 5, .inr (.inl fc))), (ra, .inl (g.2.1 2, 24, .inr (.inl fr))), (ua, .inl (g.2.1 0, 25, .inl fu))] H → va_D A [(h0, .inr (9, [.ref sa, .ref ta, .ref ca, .ref ra, .ref ua, .int (nI rt), .int (nI 0), .int sf])), (sa, .inl (g.2.1 2, 25, .inr (.inl fs))), (ta, .inl (g.2.1 2, 25, .inr (.inl ft))), (ca, .inl (g.2.1 2, 5, .inr (.inl fc))), (ra, .inl (g.2.1 2, 24, .inr (.inl fr))), (ua, .inl (g.2.1 0, 25, .inl fu))] → va_S A s.heap H locs → W p l e ({ frames := 0, cells := 0, slots := 0, locals := 0 } : Room) s m args below meth c H locs 0 0 (MQ below (va_Qv (fun (u : Nat → Int64) => True) (po g.1 vcl A (fun (u : Nat → Int64) => [(h0, .inr (9, [.ref sa, .ref ta, .ref ca, .ref ra, .ref ua, .int (nI rt), .int (nI 0), .int sf])), (sa, .inl (g.2.1 2, 25, .inr (.inl u))), (ta, .inl (g.2.1 2, 25, .inr (.inl ft))), (ca, .inl (g.2.1 2, 5, .inr (.inl fc))), (ra, .inl (g.2.1 2, 24, .inr (.inl fr))), (ua, .inl (g.2.1 0, 25, .inl fu))])) A) args s 0 0 A) (F0 m 17 ls []) := by
    intro n
    induction n with
    | zero =>
      intro i fs ls H locs hi  hl hP hD hS
      refine lv_iload_n hx hb dMS_begin_17 rfl (lv_at hl 0 rfl) ?_
      refine lv_bipush (v := nI 25) hx hb dMS_begin_18 (by decide) ?_
      refine mi_ge (tgt := 36) hx hb dMS_begin_20 (by decide) (by omega) (by omega) (fun h1 => ?_) (fun h1 => absurd h1 (by omega))
      exact mc_vret hx hb hr hlk hP hD hS fs trivial [0, 1, 2, 3, 4, 5] rfl rfl (by omega) (by omega) dMS_begin_36
    | succ n ihlp =>
      intro i fs ls H locs hi  hl hP hD hS
      refine lv_iload_n hx hb dMS_begin_17 rfl (lv_at hl 0 rfl) ?_
      refine lv_bipush (v := nI 25) hx hb dMS_begin_18 (by decide) ?_
      refine mi_ge (tgt := 36) hx hb dMS_begin_20 (by decide) (by omega) (by omega) (fun h1 => absurd h1 (by omega)) (fun h1 => ?_)
      refine lv_aload_n hx hb dMS_begin_23 rfl (lv_at hl 1 rfl) ?_
      refine va_get (D := g.1) (ci := 9) (C := "LatticeKeysModel$Sponge") (T := T_MS) (N := 8) hx hb hts (wg_ft i_MS) hown hK hP 0 rfl rfl 0 (by decide) (hts _ (wg_t kw_1325)) (fun _ h9 => h9) rfl dMS_begin_24 ?_
      refine lv_iload_n hx hb dMS_begin_27 rfl (lv_at hl 0 rfl) ?_
      refine lv_lconst (v := 0) hx hb dMS_begin_28 (by decide) ?_
      refine ma_last hx hb hK hP hD hS 1 2 rfl rfl (vp_in_nI (by omega) (by decide)) dMS_begin_29 (fun f1 H locs hP hD hS => ?_)
      have hP : va_P g.1 vcl [(h0, .inr (9, [.ref sa, .ref ta, .ref ca, .ref ra, .ref ua, .int (nI rt), .int (nI 0), .int sf])), (sa, .inl (g.2.1 2, 25, .inr (.inl f1))), (ta, .inl (g.2.1 2, 25, .inr (.inl ft))), (ca, .inl (g.2.1 2, 5, .inr (.inl fc))), (ra, .inl (g.2.1 2, 24, .inr (.inl fr))), (ua, .inl (g.2.1 0, 25, .inl fu))] _ := hP
      have hD : va_D _ [(h0, .inr (9, [.ref sa, .ref ta, .ref ca, .ref ra, .ref ua, .int (nI rt), .int (nI 0), .int sf])), (sa, .inl (g.2.1 2, 25, .inr (.inl f1))), (ta, .inl (g.2.1 2, 25, .inr (.inl ft))), (ca, .inl (g.2.1 2, 5, .inr (.inl fc))), (ra, .inl (g.2.1 2, 24, .inr (.inl fr))), (ua, .inl (g.2.1 0, 25, .inl fu))] := hD
      refine mi_iinc (k := 0) (x := i) (d := 1) (y := i + 1) (lv' := [(3, .int (nI (i + 1))), (0, .ref h0)]) hx hb dMS_begin_30 hl rfl (by decide) rfl (by decide) rfl (fun ls hl => ?_)
      refine lv_goto (tgt := 17) hx hb dMS_begin_33 (by decide) ?_
      exact ihlp (i + 1) f1 ls _ _ (by omega)  (lv_sub hl [0, 1] rfl) hP hD hS
  refine lv_aload_n hx hb dMS_begin_0 rfl (lv_at hl 0 rfl) ?_
  refine lv_iload_n hx hb dMS_begin_1 rfl (lv_at hl 1 rfl) ?_
  refine va_put (D := g.1) (ci := 9) (v := .int (nI rt)) (ty := .int) (C := "LatticeKeysModel$Sponge") (T := T_MS) (N := 8) hx hb hts (wg_ft i_MS) ty_MS k_MS n_MS hown hK hP hD hS 0 rfl rfl 5 (by decide) (hts _ (wg_t kw_1330)) (fun _ h9 => h9) rfl (by decide +kernel) rfl rfl (Nat.le_of_ble_eq_true rfl) dMS_begin_2 (fun H locs hP hD hS => ?_)
  have hP : va_P g.1 vcl [(h0, .inr (9, [.ref sa, .ref ta, .ref ca, .ref ra, .ref ua, .int (nI rt), .int x2, .int x3])), (sa, .inl (g.2.1 2, 25, .inr (.inl fs))), (ta, .inl (g.2.1 2, 25, .inr (.inl ft))), (ca, .inl (g.2.1 2, 5, .inr (.inl fc))), (ra, .inl (g.2.1 2, 24, .inr (.inl fr))), (ua, .inl (g.2.1 0, 25, .inl fu))] _ := hP
  have hD : va_D _ [(h0, .inr (9, [.ref sa, .ref ta, .ref ca, .ref ra, .ref ua, .int (nI rt), .int x2, .int x3])), (sa, .inl (g.2.1 2, 25, .inr (.inl fs))), (ta, .inl (g.2.1 2, 25, .inr (.inl ft))), (ca, .inl (g.2.1 2, 5, .inr (.inl fc))), (ra, .inl (g.2.1 2, 24, .inr (.inl fr))), (ua, .inl (g.2.1 0, 25, .inl fu))] := hD
  refine lv_aload_n hx hb dMS_begin_5 rfl (lv_at hl 0 rfl) ?_
  refine lv_iload_n hx hb dMS_begin_6 rfl (lv_at hl 2 rfl) ?_
  refine va_put (D := g.1) (ci := 9) (v := .int sf) (ty := .int) (C := "LatticeKeysModel$Sponge") (T := T_MS) (N := 8) hx hb hts (wg_ft i_MS) ty_MS k_MS n_MS hown hK hP hD hS 0 rfl rfl 7 (by decide) (hts _ (wg_t kw_1332)) (fun _ h9 => h9) rfl (by decide +kernel) rfl rfl (Nat.le_of_ble_eq_true rfl) dMS_begin_7 (fun H locs hP hD hS => ?_)
  have hP : va_P g.1 vcl [(h0, .inr (9, [.ref sa, .ref ta, .ref ca, .ref ra, .ref ua, .int (nI rt), .int x2, .int sf])), (sa, .inl (g.2.1 2, 25, .inr (.inl fs))), (ta, .inl (g.2.1 2, 25, .inr (.inl ft))), (ca, .inl (g.2.1 2, 5, .inr (.inl fc))), (ra, .inl (g.2.1 2, 24, .inr (.inl fr))), (ua, .inl (g.2.1 0, 25, .inl fu))] _ := hP
  have hD : va_D _ [(h0, .inr (9, [.ref sa, .ref ta, .ref ca, .ref ra, .ref ua, .int (nI rt), .int x2, .int sf])), (sa, .inl (g.2.1 2, 25, .inr (.inl fs))), (ta, .inl (g.2.1 2, 25, .inr (.inl ft))), (ca, .inl (g.2.1 2, 5, .inr (.inl fc))), (ra, .inl (g.2.1 2, 24, .inr (.inl fr))), (ua, .inl (g.2.1 0, 25, .inl fu))] := hD
  refine lv_aload_n hx hb dMS_begin_10 rfl (lv_at hl 0 rfl) ?_
  refine lv_iconst (v := nI 0) hx hb dMS_begin_11 (by decide) ?_
  refine va_put (D := g.1) (ci := 9) (v := .int (nI 0)) (ty := .int) (C := "LatticeKeysModel$Sponge") (T := T_MS) (N := 8) hx hb hts (wg_ft i_MS) ty_MS k_MS n_MS hown hK hP hD hS 0 rfl rfl 6 (by decide) (hts _ (wg_t kw_1331)) (fun _ h9 => h9) rfl (by decide +kernel) rfl rfl (Nat.le_of_ble_eq_true rfl) dMS_begin_12 (fun H locs hP hD hS => ?_)
  have hP : va_P g.1 vcl [(h0, .inr (9, [.ref sa, .ref ta, .ref ca, .ref ra, .ref ua, .int (nI rt), .int (nI 0), .int sf])), (sa, .inl (g.2.1 2, 25, .inr (.inl fs))), (ta, .inl (g.2.1 2, 25, .inr (.inl ft))), (ca, .inl (g.2.1 2, 5, .inr (.inl fc))), (ra, .inl (g.2.1 2, 24, .inr (.inl fr))), (ua, .inl (g.2.1 0, 25, .inl fu))] _ := hP
  have hD : va_D _ [(h0, .inr (9, [.ref sa, .ref ta, .ref ca, .ref ra, .ref ua, .int (nI rt), .int (nI 0), .int sf])), (sa, .inl (g.2.1 2, 25, .inr (.inl fs))), (ta, .inl (g.2.1 2, 25, .inr (.inl ft))), (ca, .inl (g.2.1 2, 5, .inr (.inl fc))), (ra, .inl (g.2.1 2, 24, .inr (.inl fr))), (ua, .inl (g.2.1 0, 25, .inl fu))] := hD
  refine lv_iconst (v := nI 0) hx hb dMS_begin_15 (by decide) ?_
  refine lv_istore_n (lv' := [(3, .int (nI 0)), (0, .ref h0), (1, .int (nI rt)), (2, .int sf)]) hx hb dMS_begin_16 rfl hl (by decide) rfl (fun ls hl => ?_)
  exact lp 25 0 fs ls _ _ (by omega)  (lv_sub hl [0, 1] rfl) hP hD hS
