abbrev c_MS_next : ByteArray := prog_16_method_9_code
abbrev y_MS_next : MethodName := ⟨"LatticeKeysModel$Sponge", "next", "()I"⟩
abbrev w_MS_next : List Cond := Cond.code y_MS_next c_MS_next 2 (some .int) :: WG
theorem dMS_next_0 : decode c_MS_next 0 = .ok (.aload_n 0, 1) := by decide +kernel
theorem dMS_next_1 : decode c_MS_next 1 = .ok (.getfield 39, 3) := by decide +kernel
theorem dMS_next_4 : decode c_MS_next 4 = .ok (.aload_n 0, 1) := by decide +kernel
theorem dMS_next_5 : decode c_MS_next 5 = .ok (.getfield 32, 3) := by decide +kernel
theorem dMS_next_8 : decode c_MS_next 8 = .ok (.if_icmp .ne 12, 3) := by decide +kernel
theorem dMS_next_11 : decode c_MS_next 11 = .ok (.aload_n 0, 1) := by decide +kernel
theorem dMS_next_12 : decode c_MS_next 12 = .ok (.invokevirtual 48, 3) := by decide +kernel
theorem dMS_next_15 : decode c_MS_next 15 = .ok (.aload_n 0, 1) := by decide +kernel
theorem dMS_next_16 : decode c_MS_next 16 = .ok (.iconst 0, 1) := by decide +kernel
theorem dMS_next_17 : decode c_MS_next 17 = .ok (.putfield 39, 3) := by decide +kernel
theorem dMS_next_20 : decode c_MS_next 20 = .ok (.aload_n 0, 1) := by decide +kernel
theorem dMS_next_21 : decode c_MS_next 21 = .ok (.getfield 7, 3) := by decide +kernel
theorem dMS_next_24 : decode c_MS_next 24 = .ok (.aload_n 0, 1) := by decide +kernel
theorem dMS_next_25 : decode c_MS_next 25 = .ok (.getfield 39, 3) := by decide +kernel
theorem dMS_next_28 : decode c_MS_next 28 = .ok (.bipush 8, 2) := by decide +kernel
theorem dMS_next_30 : decode c_MS_next 30 = .ok (.idiv, 1) := by decide +kernel
theorem dMS_next_31 : decode c_MS_next 31 = .ok (.laload, 1) := by decide +kernel
theorem dMS_next_32 : decode c_MS_next 32 = .ok (.bipush 8, 2) := by decide +kernel
theorem dMS_next_34 : decode c_MS_next 34 = .ok (.aload_n 0, 1) := by decide +kernel
theorem dMS_next_35 : decode c_MS_next 35 = .ok (.getfield 39, 3) := by decide +kernel
theorem dMS_next_38 : decode c_MS_next 38 = .ok (.bipush 8, 2) := by decide +kernel
theorem dMS_next_40 : decode c_MS_next 40 = .ok (.irem, 1) := by decide +kernel
theorem dMS_next_41 : decode c_MS_next 41 = .ok (.imul, 1) := by decide +kernel
theorem dMS_next_42 : decode c_MS_next 42 = .ok (.lushr, 1) := by decide +kernel
theorem dMS_next_43 : decode c_MS_next 43 = .ok (.l2i, 1) := by decide +kernel
theorem dMS_next_44 : decode c_MS_next 44 = .ok (.sipush 255, 3) := by decide +kernel
theorem dMS_next_47 : decode c_MS_next 47 = .ok (.iand, 1) := by decide +kernel
theorem dMS_next_48 : decode c_MS_next 48 = .ok (.istore_n 1, 1) := by decide +kernel
theorem dMS_next_49 : decode c_MS_next 49 = .ok (.aload_n 0, 1) := by decide +kernel
theorem dMS_next_50 : decode c_MS_next 50 = .ok (.dup, 1) := by decide +kernel
theorem dMS_next_51 : decode c_MS_next 51 = .ok (.getfield 39, 3) := by decide +kernel
theorem dMS_next_54 : decode c_MS_next 54 = .ok (.iconst 1, 1) := by decide +kernel
theorem dMS_next_55 : decode c_MS_next 55 = .ok (.iadd, 1) := by decide +kernel
theorem dMS_next_56 : decode c_MS_next 56 = .ok (.putfield 39, 3) := by decide +kernel
theorem dMS_next_59 : decode c_MS_next 59 = .ok (.iload_n 1, 1) := by decide +kernel
theorem dMS_next_60 : decode c_MS_next 60 = .ok (.ireturn, 1) := by decide +kernel
set_option maxHeartbeats 400000 in
set_option maxRecDepth 100000 in
theorem m_MS_next (l : Launch) (g : Gd) (sz : Nat) (h0 sa ta ca ra ua : Nat) (x3 : Int32) (rt ps : Nat) (fs ft fc fr : Nat → Int64) (fu : Nat → Int32) (hrt : 0 < rt ∧ rt < 200) (hps : ps ≤ rt)  : Met l y_MS_next w_MS_next ({ frames := 2, cells := 0, slots := 0, locals := 60 } : Room) (va_Pc [.ref h0] (pr (en g) g.1 vcl sz [(h0, .inr (9, [.ref sa, .ref ta, .ref ca, .ref ra, .ref ua, .int (nI rt), .int (nI ps), .int x3])), (sa, .inl (g.2.1 2, 25, .inr (.inl fs))), (ta, .inl (g.2.1 2, 25, .inr (.inl ft))), (ca, .inl (g.2.1 2, 5, .inr (.inl fc))), (ra, .inl (g.2.1 2, 24, .inr (.inl fr))), (ua, .inl (g.2.1 0, 25, .inl fu))])) (va_Qi (fun (r : Int32) (u : Nat × (Nat → Int64) × (Nat → Int64) × (Nat → Int64)) => u.1 ≤ rt) (po g.1 vcl (va_A [(h0, .inr (9, [.ref sa, .ref ta, .ref ca, .ref ra, .ref ua, .int (nI rt), .int (nI ps), .int x3])), (sa, .inl (g.2.1 2, 25, .inr (.inl fs))), (ta, .inl (g.2.1 2, 25, .inr (.inl ft))), (ca, .inl (g.2.1 2, 5, .inr (.inl fc))), (ra, .inl (g.2.1 2, 24, .inr (.inl fr))), (ua, .inl (g.2.1 0, 25, .inl fu))] sz) (fun (u : Nat × (Nat → Int64) × (Nat → Int64) × (Nat → Int64)) => [(h0, .inr (9, [.ref sa, .ref ta, .ref ca, .ref ra, .ref ua, .int (nI rt), .int (nI (u.1)), .int x3])), (sa, .inl (g.2.1 2, 25, .inr (.inl ((u.2.1))))), (ta, .inl (g.2.1 2, 25, .inr (.inl ((u.2.2.1))))), (ca, .inl (g.2.1 2, 5, .inr (.inl ((u.2.2.2))))), (ra, .inl (g.2.1 2, 24, .inr (.inl fr))), (ua, .inl (g.2.1 0, 25, .inl fu))])) (va_A [(h0, .inr (9, [.ref sa, .ref ta, .ref ca, .ref ra, .ref ua, .int (nI rt), .int (nI ps), .int x3])), (sa, .inl (g.2.1 2, 25, .inr (.inl fs))), (ta, .inl (g.2.1 2, 25, .inr (.inl ft))), (ca, .inl (g.2.1 2, 5, .inr (.inl fc))), (ra, .inl (g.2.1 2, 24, .inr (.inl fr))), (ua, .inl (g.2.1 0, 25, .inl fu))] sz)) 0 0 (va_A [(h0, .inr (9, [.ref sa, .ref ta, .ref ca, .ref ra, .ref ua, .int (nI rt), .int (nI ps), .int x3])), (sa, .inl (g.2.1 2, 25, .inr (.inl fs))), (ta, .inl (g.2.1 2, 25, .inr (.inl ft))), (ca, .inl (g.2.1 2, 5, .inr (.inl fc))), (ra, .inl (g.2.1 2, 24, .inr (.inl fr))), (ua, .inl (g.2.1 0, 25, .inl fu))] sz) := by
  refine mc_entry (cc := c_MS_next) (maxL := 2) (ret := (some .int)) (by decide) rfl (Nat.le_of_ble_eq_true rfl) ?_
  intro p e s m args below meth c ls F hr hlk hnm hsz hP hD hE hA hl
  obtain ⟨hx, hb, hml, hown, hts⟩ := id F
  have hK := hE.1
  generalize va_A [(h0, .inr (9, [.ref sa, .ref ta, .ref ca, .ref ra, .ref ua, .int (nI rt), .int (nI ps), .int x3])), (sa, .inl (g.2.1 2, 25, .inr (.inl fs))), (ta, .inl (g.2.1 2, 25, .inr (.inl ft))), (ca, .inl (g.2.1 2, 5, .inr (.inl fc))), (ra, .inl (g.2.1 2, 24, .inr (.inl fr))), (ua, .inl (g.2.1 0, 25, .inl fu))] sz = A at hD hE hA ⊢
  have hS : va_S A s.heap s.heap [] := va_S.rf
  have hl : lv_has ls 2 [(0, .ref h0)] := hl
  refine lv_aload_n hx hb dMS_next_0 rfl (lv_at hl 0 rfl) ?_
  refine va_get (D := g.1) (ci := 9) (C := "LatticeKeysModel$Sponge") (T := T_MS) (N := 8) hx hb hts (wg_ft i_MS) hown hK hP 0 rfl rfl 6 (by decide) (hts _ (wg_t kw_1331)) (fun _ h9 => h9) rfl dMS_next_1 ?_
  refine lv_aload_n hx hb dMS_next_4 rfl (lv_at hl 0 rfl) ?_
  refine va_get (D := g.1) (ci := 9) (C := "LatticeKeysModel$Sponge") (T := T_MS) (N := 8) hx hb hts (wg_ft i_MS) hown hK hP 0 rfl rfl 5 (by decide) (hts _ (wg_t kw_1330)) (fun _ h9 => h9) rfl dMS_next_5 ?_
  refine mi_ne (tgt := 20) hx hb dMS_next_8 (by decide) (by omega) (by omega) (fun h1 => ?_) (fun h1 => ?_)
  · refine lv_aload_n hx hb dMS_next_20 rfl (lv_at hl 0 rfl) ?_
    refine va_get (D := g.1) (ci := 9) (C := "LatticeKeysModel$Sponge") (T := T_MS) (N := 8) hx hb hts (wg_ft i_MS) hown hK hP 0 rfl rfl 0 (by decide) (hts _ (wg_t kw_1325)) (fun _ h9 => h9) rfl dMS_next_21 ?_
    refine lv_aload_n hx hb dMS_next_24 rfl (lv_at hl 0 rfl) ?_
    refine va_get (D := g.1) (ci := 9) (C := "LatticeKeysModel$Sponge") (T := T_MS) (N := 8) hx hb hts (wg_ft i_MS) hown hK hP 0 rfl rfl 6 (by decide) (hts _ (wg_t kw_1331)) (fun _ h9 => h9) rfl dMS_next_25 ?_
    refine lv_bipush (v := nI 8) hx hb dMS_next_28 (by decide) ?_
    refine mi_idiv hx hb dMS_next_30 (by omega) (by omega) (by omega) ?_
    refine ma_lald hx hb hK hP 1 2 rfl rfl (vp_in_nI (by omega) (by decide)) dMS_next_31 (fun y1 => ?_)
    refine lv_bipush (v := nI 8) hx hb dMS_next_32 (by decide) ?_
    refine lv_aload_n hx hb dMS_next_34 rfl (lv_at hl 0 rfl) ?_
    refine va_get (D := g.1) (ci := 9) (C := "LatticeKeysModel$Sponge") (T := T_MS) (N := 8) hx hb hts (wg_ft i_MS) hown hK hP 0 rfl rfl 6 (by decide) (hts _ (wg_t kw_1331)) (fun _ h9 => h9) rfl dMS_next_35 ?_
    refine lv_bipush (v := nI 8) hx hb dMS_next_38 (by decide) ?_
    refine mi_irem hx hb dMS_next_40 (by omega) (by omega) (by omega) ?_
    refine mi_imul hx hb dMS_next_41 ?_
    refine lv_lushr hx hb dMS_next_42 rfl ?_
    refine ml_any (fun y2 => ?_)
    refine lv_l2i hx hb dMS_next_43 rfl ?_
    refine mi_any (fun z1 => ?_)
    refine lv_sipush (v := nI 255) hx hb dMS_next_44 (by decide) ?_
    refine lv_iand hx hb dMS_next_47 ?_
    refine mi_any (fun z2 => ?_)
    refine lv_istore_n (lv' := [(1, .int z2), (0, .ref h0)]) hx hb dMS_next_48 rfl hl (by decide) rfl (fun ls hl => ?_)
    refine lv_aload_n hx hb dMS_next_49 rfl (lv_at hl 1 rfl) ?_
    refine lv_dup hx hb dMS_next_50 rfl ?_
    refine va_get (D := g.1) (ci := 9) (C := "LatticeKeysModel$Sponge") (T := T_MS) (N := 8) hx hb hts (wg_ft i_MS) hown hK hP 0 rfl rfl 6 (by decide) (hts _ (wg_t kw_1331)) (fun _ h9 => h9) rfl dMS_next_51 ?_
    refine lv_iconst (v := nI 1) hx hb dMS_next_54 (by decide) ?_
    refine mi_iadd hx hb dMS_next_55 ?_
    refine va_put (D := g.1) (ci := 9) (v := .int (nI (ps + 1))) (ty := .int) (C := "LatticeKeysModel$Sponge") (T := T_MS) (N := 8) hx hb hts (wg_ft i_MS) ty_MS k_MS n_MS hown hK hP hD hS 0 rfl rfl 6 (by decide) (hts _ (wg_t kw_1331)) (fun _ h9 => h9) rfl (by decide +kernel) rfl rfl (Nat.le_of_ble_eq_true rfl) dMS_next_56 (fun H locs hP hD hS => ?_)
    have hP : va_P g.1 vcl [(h0, .inr (9, [.ref sa, .ref ta, .ref ca, .ref ra, .ref ua, .int (nI rt), .int (nI (ps + 1)), .int x3])), (sa, .inl (g.2.1 2, 25, .inr (.inl fs))), (ta, .inl (g.2.1 2, 25, .inr (.inl ft))), (ca, .inl (g.2.1 2, 5, .inr (.inl fc))), (ra, .inl (g.2.1 2, 24, .inr (.inl fr))), (ua, .inl (g.2.1 0, 25, .inl fu))] _ := hP
    have hD : va_D _ [(h0, .inr (9, [.ref sa, .ref ta, .ref ca, .ref ra, .ref ua, .int (nI rt), .int (nI (ps + 1)), .int x3])), (sa, .inl (g.2.1 2, 25, .inr (.inl fs))), (ta, .inl (g.2.1 2, 25, .inr (.inl ft))), (ca, .inl (g.2.1 2, 5, .inr (.inl fc))), (ra, .inl (g.2.1 2, 24, .inr (.inl fr))), (ua, .inl (g.2.1 0, 25, .inl fu))] := hD
    refine lv_iload_n hx hb dMS_next_59 rfl (lv_at hl 0 rfl) ?_
    exact mc_iret hx hb hr hlk hP hD hS (ps + 1, fs, ft, fc) (by show ps + 1 ≤ rt; omega) [0, 1, 2, 3, 4, 5] rfl rfl (by omega) (by omega) dMS_next_60
  · refine lv_aload_n hx hb dMS_next_11 rfl (lv_at hl 0 rfl) ?_
    refine mc_v (wc := [(h0, .inr (9, [.ref sa, .ref ta, .ref ca, .ref ra, .ref ua, .int (nI rt), .int (nI ps), .int x3])), (sa, .inl (g.2.1 2, 25, .inr (.inl fs))), (ta, .inl (g.2.1 2, 25, .inr (.inl ft))), (ca, .inl (g.2.1 2, 5, .inr (.inl fc))), (ra, .inl (g.2.1 2, 24, .inr (.inl fr))), (ua, .inl (g.2.1 0, 25, .inl fu))]) (wr := []) hP hD hS hA [0, 1, 2, 3, 4, 5] [] rfl rfl rfl (by decide) (va_runV (As := []) (rest := []) F (m_MS_mix l g _ h0 sa ta ca ra ua (nI rt) (nI ps) x3 fs ft fc fr fu) (cwV 0 hts (wg_app (wg_c kw_1624 (wg_c kw_1626 (wg_c ks_53 (wg_c kw_10 wg_n)))) kw_1627) rfl rfl rfl (by decide +kernel) ⟨by decide, by decide⟩) (pr_V (en_ok g) (q0 := 0) hK hP hD hS hA hE [0, 1, 2, 3, 4, 5] rfl rfl rfl rfl) rfl rfl hl.1 rfl (lv_room (Nat.le_of_ble_eq_true rfl)) dMS_next_12 ⟨(by decide), (by decide)⟩) (fun u1 H locs hu1 hP hD hS => ?_)
    obtain ⟨fm1, fm2, fm3⟩ := u1
    have hP : va_P g.1 vcl [(h0, .inr (9, [.ref sa, .ref ta, .ref ca, .ref ra, .ref ua, .int (nI rt), .int (nI ps), .int x3])), (sa, .inl (g.2.1 2, 25, .inr (.inl fm1))), (ta, .inl (g.2.1 2, 25, .inr (.inl fm2))), (ca, .inl (g.2.1 2, 5, .inr (.inl fm3))), (ra, .inl (g.2.1 2, 24, .inr (.inl fr))), (ua, .inl (g.2.1 0, 25, .inl fu))] _ := hP
    have hD : va_D _ [(h0, .inr (9, [.ref sa, .ref ta, .ref ca, .ref ra, .ref ua, .int (nI rt), .int (nI ps), .int x3])), (sa, .inl (g.2.1 2, 25, .inr (.inl fm1))), (ta, .inl (g.2.1 2, 25, .inr (.inl fm2))), (ca, .inl (g.2.1 2, 5, .inr (.inl fm3))), (ra, .inl (g.2.1 2, 24, .inr (.inl fr))), (ua, .inl (g.2.1 0, 25, .inl fu))] := hD
    refine W.widen (k := 0) (n := 0) (by omega) (by omega) ?_
    refine lv_aload_n hx hb dMS_next_15 rfl (lv_at hl 0 rfl) ?_
    refine lv_iconst (v := nI 0) hx hb dMS_next_16 (by decide) ?_
    refine va_put (D := g.1) (ci := 9) (v := .int (nI 0)) (ty := .int) (C := "LatticeKeysModel$Sponge") (T := T_MS) (N := 8) hx hb hts (wg_ft i_MS) ty_MS k_MS n_MS hown hK hP hD hS 0 rfl rfl 6 (by decide) (hts _ (wg_t kw_1331)) (fun _ h9 => h9) rfl (by decide +kernel) rfl rfl (Nat.le_of_ble_eq_true rfl) dMS_next_17 (fun H locs hP hD hS => ?_)
    have hP : va_P g.1 vcl [(h0, .inr (9, [.ref sa, .ref ta, .ref ca, .ref ra, .ref ua, .int (nI rt), .int (nI 0), .int x3])), (sa, .inl (g.2.1 2, 25, .inr (.inl fm1))), (ta, .inl (g.2.1 2, 25, .inr (.inl fm2))), (ca, .inl (g.2.1 2, 5, .inr (.inl fm3))), (ra, .inl (g.2.1 2, 24, .inr (.inl fr))), (ua, .inl (g.2.1 0, 25, .inl fu))] _ := hP
    have hD : va_D _ [(h0, .inr (9, [.ref sa, .ref ta, .ref ca, .ref ra, .ref ua, .int (nI rt), .int (nI 0), .int x3])), (sa, .inl (g.2.1 2, 25, .inr (.inl fm1))), (ta, .inl (g.2.1 2, 25, .inr (.inl fm2))), (ca, .inl (g.2.1 2, 5, .inr (.inl fm3))), (ra, .inl (g.2.1 2, 24, .inr (.inl fr))), (ua, .inl (g.2.1 0, 25, .inl fu))] := hD
    refine lv_aload_n hx hb dMS_next_20 rfl (lv_at hl 0 rfl) ?_
    refine va_get (D := g.1) (ci := 9) (C := "LatticeKeysModel$Sponge") (T := T_MS) (N := 8) hx hb hts (wg_ft i_MS) hown hK hP 0 rfl rfl 0 (by decide) (hts _ (wg_t kw_1325)) (fun _ h9 => h9) rfl dMS_next_21 ?_
    refine lv_aload_n hx hb dMS_next_24 rfl (lv_at hl 0 rfl) ?_
    refine va_get (D := g.1) (ci := 9) (C := "LatticeKeysModel$Sponge") (T := T_MS) (N := 8) hx hb hts (wg_ft i_MS) hown hK hP 0 rfl rfl 6 (by decide) (hts _ (wg_t kw_1331)) (fun _ h9 => h9) rfl dMS_next_25 ?_
    refine lv_bipush (v := nI 8) hx hb dMS_next_28 (by decide) ?_
    refine mi_idiv hx hb dMS_next_30 (by omega) (by omega) (by omega) ?_
    refine mi_as (show nI (0 / 8) = nI 0 from rfl) ?_
    refine ma_lald hx hb hK hP 1 2 rfl rfl (vp_in_nI (by omega) (by decide)) dMS_next_31 (fun y3 => ?_)
    refine lv_bipush (v := nI 8) hx hb dMS_next_32 (by decide) ?_
    refine lv_aload_n hx hb dMS_next_34 rfl (lv_at hl 0 rfl) ?_
    refine va_get (D := g.1) (ci := 9) (C := "LatticeKeysModel$Sponge") (T := T_MS) (N := 8) hx hb hts (wg_ft i_MS) hown hK hP 0 rfl rfl 6 (by decide) (hts _ (wg_t kw_1331)) (fun _ h9 => h9) rfl dMS_next_35 ?_
    refine lv_bipush (v := nI 8) hx hb dMS_next_38 (by decide) ?_
    refine mi_irem hx hb dMS_next_40 (by omega) (by omega) (by omega) ?_
    refine mi_as (show nI (0 % 8) = nI 0 from rfl) ?_
    refine mi_imul hx hb dMS_next_41 ?_
    refine mi_as (show nI (8 * 0) = nI 0 from rfl) ?_
    refine lv_lushr hx hb dMS_next_42 rfl ?_
    refine ml_any (fun y4 => ?_)
    refine lv_l2i hx hb dMS_next_43 rfl ?_
    refine mi_any (fun z3 => ?_)
    refine lv_sipush (v := nI 255) hx hb dMS_next_44 (by decide) ?_
    refine lv_iand hx hb dMS_next_47 ?_
    refine mi_any (fun z4 => ?_)
    refine lv_istore_n (lv' := [(1, .int z4), (0, .ref h0)]) hx hb dMS_next_48 rfl hl (by decide) rfl (fun ls hl => ?_)
    refine lv_aload_n hx hb dMS_next_49 rfl (lv_at hl 1 rfl) ?_
    refine lv_dup hx hb dMS_next_50 rfl ?_
    refine va_get (D := g.1) (ci := 9) (C := "LatticeKeysModel$Sponge") (T := T_MS) (N := 8) hx hb hts (wg_ft i_MS) hown hK hP 0 rfl rfl 6 (by decide) (hts _ (wg_t kw_1331)) (fun _ h9 => h9) rfl dMS_next_51 ?_
    refine lv_iconst (v := nI 1) hx hb dMS_next_54 (by decide) ?_
    refine mi_iadd hx hb dMS_next_55 ?_
    refine mi_as (show nI (0 + 1) = nI 1 from rfl) ?_
    refine va_put (D := g.1) (ci := 9) (v := .int (nI 1)) (ty := .int) (C := "LatticeKeysModel$Sponge") (T := T_MS) (N := 8) hx hb hts (wg_ft i_MS) ty_MS k_MS n_MS hown hK hP hD hS 0 rfl rfl 6 (by decide) (hts _ (wg_t kw_1331)) (fun _ h9 => h9) rfl (by decide +kernel) rfl rfl (Nat.le_of_ble_eq_true rfl) dMS_next_56 (fun H locs hP hD hS => ?_)
    have hP : va_P g.1 vcl [(h0, .inr (9, [.ref sa, .ref ta, .ref ca, .ref ra, .ref ua, .int (nI rt), .int (nI 1), .int x3])), (sa, .inl (g.2.1 2, 25, .inr (.inl fm1))), (ta, .inl (g.2.1 2, 25, .inr (.inl fm2))), (ca, .inl (g.2.1 2, 5, .inr (.inl fm3))), (ra, .inl (g.2.1 2, 24, .inr (.inl fr))), (ua, .inl (g.2.1 0, 25, .inl fu))] _ := hP
    have hD : va_D _ [(h0, .inr (9, [.ref sa, .ref ta, .ref ca, .ref ra, .ref ua, .int (nI rt), .int (nI 1), .int x3])), (sa, .inl (g.2.1 2, 25, .inr (.inl fm1))), (ta, .inl (g.2.1 2, 25, .inr (.inl fm2))), (ca, .inl (g.2.1 2, 5, .inr (.inl fm3))), (ra, .inl (g.2.1 2, 24, .inr (.inl fr))), (ua, .inl (g.2.1 0, 25, .inl fu))] := hD
    refine lv_iload_n hx hb dMS_next_59 rfl (lv_at hl 0 rfl) ?_
    exact mc_iret hx hb hr hlk hP hD hS (1, fm1, fm2, fm3) (by show 1 ≤ rt; omega) [0, 1, 2, 3, 4, 5] rfl rfl (by omega) (by omega) dMS_next_60
