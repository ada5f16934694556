abbrev c_SP_nextByte : ByteArray := prog_10_method_7_code
abbrev y_SP_nextByte : MethodName := ⟨"LatticeKeys$Sponge", "nextByte", "()I"⟩
abbrev w_SP_nextByte : List Cond := Cond.code y_SP_nextByte c_SP_nextByte 2 (some .int) :: WG
theorem dSP_nextByte_0 : decode c_SP_nextByte 0 = .ok (.aload_n 0, 1) := by decide +kernel
theorem dSP_nextByte_1 : decode c_SP_nextByte 1 = .ok (.getfield 27, 3) := by decide +kernel
theorem dSP_nextByte_4 : decode c_SP_nextByte 4 = .ok (.aload_n 0, 1) := by decide +kernel
theorem dSP_nextByte_5 : decode c_SP_nextByte 5 = .ok (.getfield 17, 3) := by decide +kernel
theorem dSP_nextByte_8 : decode c_SP_nextByte 8 = .ok (.if_icmp .ne 12, 3) := by decide +kernel
theorem dSP_nextByte_11 : decode c_SP_nextByte 11 = .ok (.aload_n 0, 1) := by decide +kernel
theorem dSP_nextByte_12 : decode c_SP_nextByte 12 = .ok (.invokevirtual 44, 3) := by decide +kernel
theorem dSP_nextByte_15 : decode c_SP_nextByte 15 = .ok (.aload_n 0, 1) := by decide +kernel
theorem dSP_nextByte_16 : decode c_SP_nextByte 16 = .ok (.iconst 0, 1) := by decide +kernel
theorem dSP_nextByte_17 : decode c_SP_nextByte 17 = .ok (.putfield 27, 3) := by decide +kernel
theorem dSP_nextByte_20 : decode c_SP_nextByte 20 = .ok (.aload_n 0, 1) := by decide +kernel
theorem dSP_nextByte_21 : decode c_SP_nextByte 21 = .ok (.getfield 7, 3) := by decide +kernel
theorem dSP_nextByte_24 : decode c_SP_nextByte 24 = .ok (.aload_n 0, 1) := by decide +kernel
theorem dSP_nextByte_25 : decode c_SP_nextByte 25 = .ok (.getfield 27, 3) := by decide +kernel
theorem dSP_nextByte_28 : decode c_SP_nextByte 28 = .ok (.iconst 3, 1) := by decide +kernel
theorem dSP_nextByte_29 : decode c_SP_nextByte 29 = .ok (.ishr, 1) := by decide +kernel
theorem dSP_nextByte_30 : decode c_SP_nextByte 30 = .ok (.laload, 1) := by decide +kernel
theorem dSP_nextByte_31 : decode c_SP_nextByte 31 = .ok (.aload_n 0, 1) := by decide +kernel
theorem dSP_nextByte_32 : decode c_SP_nextByte 32 = .ok (.getfield 27, 3) := by decide +kernel
theorem dSP_nextByte_35 : decode c_SP_nextByte 35 = .ok (.bipush 7, 2) := by decide +kernel
theorem dSP_nextByte_37 : decode c_SP_nextByte 37 = .ok (.iand, 1) := by decide +kernel
theorem dSP_nextByte_38 : decode c_SP_nextByte 38 = .ok (.iconst 3, 1) := by decide +kernel
theorem dSP_nextByte_39 : decode c_SP_nextByte 39 = .ok (.ishl, 1) := by decide +kernel
theorem dSP_nextByte_40 : decode c_SP_nextByte 40 = .ok (.lushr, 1) := by decide +kernel
theorem dSP_nextByte_41 : decode c_SP_nextByte 41 = .ok (.l2i, 1) := by decide +kernel
theorem dSP_nextByte_42 : decode c_SP_nextByte 42 = .ok (.sipush 255, 3) := by decide +kernel
theorem dSP_nextByte_45 : decode c_SP_nextByte 45 = .ok (.iand, 1) := by decide +kernel
theorem dSP_nextByte_46 : decode c_SP_nextByte 46 = .ok (.istore_n 1, 1) := by decide +kernel
theorem dSP_nextByte_47 : decode c_SP_nextByte 47 = .ok (.aload_n 0, 1) := by decide +kernel
theorem dSP_nextByte_48 : decode c_SP_nextByte 48 = .ok (.dup, 1) := by decide +kernel
theorem dSP_nextByte_49 : decode c_SP_nextByte 49 = .ok (.getfield 27, 3) := by decide +kernel
theorem dSP_nextByte_52 : decode c_SP_nextByte 52 = .ok (.iconst 1, 1) := by decide +kernel
theorem dSP_nextByte_53 : decode c_SP_nextByte 53 = .ok (.iadd, 1) := by decide +kernel
theorem dSP_nextByte_54 : decode c_SP_nextByte 54 = .ok (.putfield 27, 3) := by decide +kernel
theorem dSP_nextByte_57 : decode c_SP_nextByte 57 = .ok (.iload_n 1, 1) := by decide +kernel
theorem dSP_nextByte_58 : decode c_SP_nextByte 58 = .ok (.ireturn, 1) := by decide +kernel
set_option maxHeartbeats 400000 in
set_option maxRecDepth 100000 in
theorem m_SP_nextByte (l : Launch) (g : Gd) (sz : Nat) (h0 ln rt ps : Nat) (x2 : Int32) (f : Nat → Int64) (hrt : 0 < rt ∧ rt < 200) (hps : ps ≤ rt)  : Met l y_SP_nextByte w_SP_nextByte ({ frames := 1, cells := 0, slots := 0, locals := 55 } : Room) (va_Pc [.ref h0] (pr (en g) g.1 vcl sz [(h0, .inr (3, [.ref ln, .int (nI rt), .int x2, .int (nI ps)])), (ln, .inl (g.2.1 2, 25, .inr (.inl f)))])) (va_Qi (fun (r : Int32) (u : Nat × (Nat → Int64)) => u.1 ≤ rt) (po g.1 vcl (va_A [(h0, .inr (3, [.ref ln, .int (nI rt), .int x2, .int (nI ps)])), (ln, .inl (g.2.1 2, 25, .inr (.inl f)))] sz) (fun (u : Nat × (Nat → Int64)) => [(h0, .inr (3, [.ref ln, .int (nI rt), .int x2, .int (nI (u.1))])), (ln, .inl (g.2.1 2, 25, .inr (.inl (u.2))))])) (va_A [(h0, .inr (3, [.ref ln, .int (nI rt), .int x2, .int (nI ps)])), (ln, .inl (g.2.1 2, 25, .inr (.inl f)))] sz)) 0 0 (va_A [(h0, .inr (3, [.ref ln, .int (nI rt), .int x2, .int (nI ps)])), (ln, .inl (g.2.1 2, 25, .inr (.inl f)))] sz) := by
  refine mc_entry (cc := c_SP_nextByte) (maxL := 2) (ret := (some .int)) (by decide) rfl (Nat.le_of_ble_eq_true rfl) ?_
  intro p e s m args below meth c ls F hr hlk hnm hsz hP hD hE hA hl
  obtain ⟨hx, hb, hml, hown, hts⟩ := id F
  have hK := hE.1
  generalize va_A [(h0, .inr (3, [.ref ln, .int (nI rt), .int x2, .int (nI ps)])), (ln, .inl (g.2.1 2, 25, .inr (.inl f)))] sz = A at hD hE hA ⊢
  have hS : va_S A s.heap s.heap [] := va_S.rf
  have hl : lv_has ls 2 [(0, .ref h0)] := hl
  refine lv_aload_n hx hb dSP_nextByte_0 rfl (lv_at hl 0 rfl) ?_
  refine va_get (D := g.1) (ci := 3) (C := "LatticeKeys$Sponge") (T := T_SP) (N := 4) hx hb hts (wg_ft i_SP) hown hK hP 0 rfl rfl 3 (by decide) (hts _ (wg_t kw_62)) (fun _ h9 => h9) rfl dSP_nextByte_1 ?_
  refine lv_aload_n hx hb dSP_nextByte_4 rfl (lv_at hl 0 rfl) ?_
  refine va_get (D := g.1) (ci := 3) (C := "LatticeKeys$Sponge") (T := T_SP) (N := 4) hx hb hts (wg_ft i_SP) hown hK hP 0 rfl rfl 1 (by decide) (hts _ (wg_t kw_60)) (fun _ h9 => h9) rfl dSP_nextByte_5 ?_
  refine mi_ne (tgt := 20) hx hb dSP_nextByte_8 (by decide) (by omega) (by omega) (fun h1 => ?_) (fun h1 => ?_)
  · refine lv_aload_n hx hb dSP_nextByte_20 rfl (lv_at hl 0 rfl) ?_
    refine va_get (D := g.1) (ci := 3) (C := "LatticeKeys$Sponge") (T := T_SP) (N := 4) hx hb hts (wg_ft i_SP) hown hK hP 0 rfl rfl 0 (by decide) (hts _ (wg_t kw_59)) (fun _ h9 => h9) rfl dSP_nextByte_21 ?_
    refine lv_aload_n hx hb dSP_nextByte_24 rfl (lv_at hl 0 rfl) ?_
    refine va_get (D := g.1) (ci := 3) (C := "LatticeKeys$Sponge") (T := T_SP) (N := 4) hx hb hts (wg_ft i_SP) hown hK hP 0 rfl rfl 3 (by decide) (hts _ (wg_t kw_62)) (fun _ h9 => h9) rfl dSP_nextByte_25 ?_
    refine lv_iconst (v := nI 3) hx hb dSP_nextByte_28 (by decide) ?_
    refine mi_ishr hx hb dSP_nextByte_29 (by omega) (by decide) ?_
    refine mi_as (show nI (ps / 2 ^ 3) = nI (ps / 8) from rfl) ?_
    refine ma_lald hx hb hK hP 1 2 rfl rfl (vp_in_nI (by omega) (by decide)) dSP_nextByte_30 (fun y1 => ?_)
    refine lv_aload_n hx hb dSP_nextByte_31 rfl (lv_at hl 0 rfl) ?_
    refine va_get (D := g.1) (ci := 3) (C := "LatticeKeys$Sponge") (T := T_SP) (N := 4) hx hb hts (wg_ft i_SP) hown hK hP 0 rfl rfl 3 (by decide) (hts _ (wg_t kw_62)) (fun _ h9 => h9) rfl dSP_nextByte_32 ?_
    refine lv_bipush (v := nI 7) hx hb dSP_nextByte_35 (by decide) ?_
    refine lv_iand hx hb dSP_nextByte_37 ?_
    refine mi_any (fun z1 => ?_)
    refine lv_iconst (v := nI 3) hx hb dSP_nextByte_38 (by decide) ?_
    refine lv_ishl hx hb dSP_nextByte_39 ?_
    refine mi_any (fun z2 => ?_)
    refine lv_lushr hx hb dSP_nextByte_40 rfl ?_
    refine ml_any (fun y2 => ?_)
    refine lv_l2i hx hb dSP_nextByte_41 rfl ?_
    refine mi_any (fun z3 => ?_)
    refine lv_sipush (v := nI 255) hx hb dSP_nextByte_42 (by decide) ?_
    refine lv_iand hx hb dSP_nextByte_45 ?_
    refine mi_any (fun z4 => ?_)
    refine lv_istore_n (lv' := [(1, .int z4), (0, .ref h0)]) hx hb dSP_nextByte_46 rfl hl (by decide) rfl (fun ls hl => ?_)
    refine lv_aload_n hx hb dSP_nextByte_47 rfl (lv_at hl 1 rfl) ?_
    refine lv_dup hx hb dSP_nextByte_48 rfl ?_
    refine va_get (D := g.1) (ci := 3) (C := "LatticeKeys$Sponge") (T := T_SP) (N := 4) hx hb hts (wg_ft i_SP) hown hK hP 0 rfl rfl 3 (by decide) (hts _ (wg_t kw_62)) (fun _ h9 => h9) rfl dSP_nextByte_49 ?_
    refine lv_iconst (v := nI 1) hx hb dSP_nextByte_52 (by decide) ?_
    refine mi_iadd hx hb dSP_nextByte_53 ?_
    refine va_put (D := g.1) (ci := 3) (v := .int (nI (ps + 1))) (ty := .int) (C := "LatticeKeys$Sponge") (T := T_SP) (N := 4) hx hb hts (wg_ft i_SP) ty_SP k_SP n_SP hown hK hP hD hS 0 rfl rfl 3 (by decide) (hts _ (wg_t kw_62)) (fun _ h9 => h9) rfl (by decide +kernel) rfl rfl (Nat.le_of_ble_eq_true rfl) dSP_nextByte_54 (fun H locs hP hD hS => ?_)
    have hP : va_P g.1 vcl [(h0, .inr (3, [.ref ln, .int (nI rt), .int x2, .int (nI (ps + 1))])), (ln, .inl (g.2.1 2, 25, .inr (.inl f)))] _ := hP
    have hD : va_D _ [(h0, .inr (3, [.ref ln, .int (nI rt), .int x2, .int (nI (ps + 1))])), (ln, .inl (g.2.1 2, 25, .inr (.inl f)))] := hD
    refine lv_iload_n hx hb dSP_nextByte_57 rfl (lv_at hl 0 rfl) ?_
    exact mc_iret hx hb hr hlk hP hD hS (ps + 1, f) (by show ps + 1 ≤ rt; omega) [0, 1] rfl rfl (by omega) (by omega) dSP_nextByte_58
  · refine lv_aload_n hx hb dSP_nextByte_11 rfl (lv_at hl 0 rfl) ?_
    refine mc_v (wc := [(h0, .inr (3, [.ref ln, .int (nI rt), .int x2, .int (nI ps)])), (ln, .inl (g.2.1 2, 25, .inr (.inl f)))]) (wr := []) hP hD hS hA [0, 1] [] rfl rfl rfl (by decide) (va_runV (As := []) (rest := []) F (m_SP_permute l g _ h0 ln (nI rt) x2 (nI ps) f) (cwV 0 hts (wg_app (wg_c kw_598 (wg_c kw_600 (wg_c ks_5 (wg_c kw_2 wg_n)))) kw_601) rfl rfl rfl (by decide +kernel) ⟨by decide, by decide⟩) (pr_V (en_ok g) (q0 := 0) hK hP hD hS hA hE [0, 1] rfl rfl rfl rfl) rfl rfl hl.1 rfl (lv_room (Nat.le_of_ble_eq_true rfl)) dSP_nextByte_12 ⟨(by decide), (by decide)⟩) (fun u1 H locs hu1 hP hD hS => ?_)
    have hP : va_P g.1 vcl [(h0, .inr (3, [.ref ln, .int (nI rt), .int x2, .int (nI ps)])), (ln, .inl (g.2.1 2, 25, .inr (.inl u1)))] _ := hP
    have hD : va_D _ [(h0, .inr (3, [.ref ln, .int (nI rt), .int x2, .int (nI ps)])), (ln, .inl (g.2.1 2, 25, .inr (.inl u1)))] := hD
    refine W.widen (k := 0) (n := 0) (by omega) (by omega) ?_
    refine lv_aload_n hx hb dSP_nextByte_15 rfl (lv_at hl 0 rfl) ?_
    refine lv_iconst (v := nI 0) hx hb dSP_nextByte_16 (by decide) ?_
    refine va_put (D := g.1) (ci := 3) (v := .int (nI 0)) (ty := .int) (C := "LatticeKeys$Sponge") (T := T_SP) (N := 4) hx hb hts (wg_ft i_SP) ty_SP k_SP n_SP hown hK hP hD hS 0 rfl rfl 3 (by decide) (hts _ (wg_t kw_62)) (fun _ h9 => h9) rfl (by decide +kernel) rfl rfl (Nat.le_of_ble_eq_true rfl) dSP_nextByte_17 (fun H locs hP hD hS => ?_)
    have hP : va_P g.1 vcl [(h0, .inr (3, [.ref ln, .int (nI rt), .int x2, .int (nI 0)])), (ln, .inl (g.2.1 2, 25, .inr (.inl u1)))] _ := hP
    have hD : va_D _ [(h0, .inr (3, [.ref ln, .int (nI rt), .int x2, .int (nI 0)])), (ln, .inl (g.2.1 2, 25, .inr (.inl u1)))] := hD
    refine lv_aload_n hx hb dSP_nextByte_20 rfl (lv_at hl 0 rfl) ?_
    refine va_get (D := g.1) (ci := 3) (C := "LatticeKeys$Sponge") (T := T_SP) (N := 4) hx hb hts (wg_ft i_SP) hown hK hP 0 rfl rfl 0 (by decide) (hts _ (wg_t kw_59)) (fun _ h9 => h9) rfl dSP_nextByte_21 ?_
    refine lv_aload_n hx hb dSP_nextByte_24 rfl (lv_at hl 0 rfl) ?_
    refine va_get (D := g.1) (ci := 3) (C := "LatticeKeys$Sponge") (T := T_SP) (N := 4) hx hb hts (wg_ft i_SP) hown hK hP 0 rfl rfl 3 (by decide) (hts _ (wg_t kw_62)) (fun _ h9 => h9) rfl dSP_nextByte_25 ?_
    refine lv_iconst (v := nI 3) hx hb dSP_nextByte_28 (by decide) ?_
    refine mi_ishr hx hb dSP_nextByte_29 (by omega) (by decide) ?_
    refine mi_as (show nI (0 / 2 ^ 3) = nI (0 / 8) from rfl) ?_
    refine ma_lald hx hb hK hP 1 2 rfl rfl (vp_in_nI (by omega) (by decide)) dSP_nextByte_30 (fun y3 => ?_)
    refine lv_aload_n hx hb dSP_nextByte_31 rfl (lv_at hl 0 rfl) ?_
    refine va_get (D := g.1) (ci := 3) (C := "LatticeKeys$Sponge") (T := T_SP) (N := 4) hx hb hts (wg_ft i_SP) hown hK hP 0 rfl rfl 3 (by decide) (hts _ (wg_t kw_62)) (fun _ h9 => h9) rfl dSP_nextByte_32 ?_
    refine lv_bipush (v := nI 7) hx hb dSP_nextByte_35 (by decide) ?_
    refine lv_iand hx hb dSP_nextByte_37 ?_
    refine mi_any (fun z5 => ?_)
    refine lv_iconst (v := nI 3) hx hb dSP_nextByte_38 (by decide) ?_
    refine lv_ishl hx hb dSP_nextByte_39 ?_
    refine mi_any (fun z6 => ?_)
    refine lv_lushr hx hb dSP_nextByte_40 rfl ?_
    refine ml_any (fun y4 => ?_)
    refine lv_l2i hx hb dSP_nextByte_41 rfl ?_
    refine mi_any (fun z7 => ?_)
    refine lv_sipush (v := nI 255) hx hb dSP_nextByte_42 (by decide) ?_
    refine lv_iand hx hb dSP_nextByte_45 ?_
    refine mi_any (fun z8 => ?_)
    refine lv_istore_n (lv' := [(1, .int z8), (0, .ref h0)]) hx hb dSP_nextByte_46 rfl hl (by decide) rfl (fun ls hl => ?_)
    refine lv_aload_n hx hb dSP_nextByte_47 rfl (lv_at hl 1 rfl) ?_
    refine lv_dup hx hb dSP_nextByte_48 rfl ?_
    refine va_get (D := g.1) (ci := 3) (C := "LatticeKeys$Sponge") (T := T_SP) (N := 4) hx hb hts (wg_ft i_SP) hown hK hP 0 rfl rfl 3 (by decide) (hts _ (wg_t kw_62)) (fun _ h9 => h9) rfl dSP_nextByte_49 ?_
    refine lv_iconst (v := nI 1) hx hb dSP_nextByte_52 (by decide) ?_
    refine mi_iadd hx hb dSP_nextByte_53 ?_
    refine mi_as (show nI (0 + 1) = nI 1 from rfl) ?_
    refine va_put (D := g.1) (ci := 3) (v := .int (nI 1)) (ty := .int) (C := "LatticeKeys$Sponge") (T := T_SP) (N := 4) hx hb hts (wg_ft i_SP) ty_SP k_SP n_SP hown hK hP hD hS 0 rfl rfl 3 (by decide) (hts _ (wg_t kw_62)) (fun _ h9 => h9) rfl (by decide +kernel) rfl rfl (Nat.le_of_ble_eq_true rfl) dSP_nextByte_54 (fun H locs hP hD hS => ?_)
    have hP : va_P g.1 vcl [(h0, .inr (3, [.ref ln, .int (nI rt), .int x2, .int (nI 1)])), (ln, .inl (g.2.1 2, 25, .inr (.inl u1)))] _ := hP
    have hD : va_D _ [(h0, .inr (3, [.ref ln, .int (nI rt), .int x2, .int (nI 1)])), (ln, .inl (g.2.1 2, 25, .inr (.inl u1)))] := hD
    refine lv_iload_n hx hb dSP_nextByte_57 rfl (lv_at hl 0 rfl) ?_
    exact mc_iret hx hb hr hlk hP hD hS (1, u1) (by show 1 ≤ rt; omega) [0, 1] rfl rfl (by omega) (by omega) dSP_nextByte_58
