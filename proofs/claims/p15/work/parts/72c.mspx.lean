set_option maxHeartbeats 400000 in
set_option maxRecDepth 100000 in
theorem x_MS_add (l : Launch) (g : Gd) (sz : Nat) (T : Ty) (xs : List Nat) (pl : va_W) (hO : okx g T xs pl) (hU : uni T) (k : Nat) (v : Int32) (h0 sa ta ca ra ua rt ps : Nat) (x3 : Int32) (fs ft fc fr : Nat → Int64) (fu : Nat → Int32) (hk : k < 200)  : Met l y_MS_add w_MS_add ({ frames := 0, cells := 0, slots := 0, locals := 0 } : Room) (va_Pc [.ref h0, .int (nI k), .int v] (pr (en g) g.1 vcl sz ([(h0, .inr (9, [.ref sa, .ref ta, .ref ca, .ref ra, .ref ua, .int (nI rt), .int (nI ps), .int x3])), (sa, .inl (g.2.1 2, 25, .inr (.inl fs))), (ta, .inl (g.2.1 2, 25, .inr (.inl ft))), (ca, .inl (g.2.1 2, 5, .inr (.inl fc))), (ra, .inl (g.2.1 2, 24, .inr (.inl fr))), (ua, .inl (g.2.1 0, 25, .inl fu))] ++ pl))) (va_Qv (fun (u : (Nat → Int64) × va_W) => (∀ j, j ≠ k / 8 → u.1 j = fs j) ∧ okx g T xs u.2) (po g.1 vcl (va_A ([(h0, .inr (9, [.ref sa, .ref ta, .ref ca, .ref ra, .ref ua, .int (nI rt), .int (nI ps), .int x3])), (sa, .inl (g.2.1 2, 25, .inr (.inl fs))), (ta, .inl (g.2.1 2, 25, .inr (.inl ft))), (ca, .inl (g.2.1 2, 5, .inr (.inl fc))), (ra, .inl (g.2.1 2, 24, .inr (.inl fr))), (ua, .inl (g.2.1 0, 25, .inl fu))] ++ pl) sz) (fun (u : (Nat → Int64) × va_W) => [(h0, .inr (9, [.ref sa, .ref ta, .ref ca, .ref ra, .ref ua, .int (nI rt), .int (nI ps), .int x3])), (sa, .inl (g.2.1 2, 25, .inr (.inl ((u.1))))), (ta, .inl (g.2.1 2, 25, .inr (.inl ft))), (ca, .inl (g.2.1 2, 5, .inr (.inl fc))), (ra, .inl (g.2.1 2, 24, .inr (.inl fr))), (ua, .inl (g.2.1 0, 25, .inl fu))] ++ u.2)) (va_A ([(h0, .inr (9, [.ref sa, .ref ta, .ref ca, .ref ra, .ref ua, .int (nI rt), .int (nI ps), .int x3])), (sa, .inl (g.2.1 2, 25, .inr (.inl fs))), (ta, .inl (g.2.1 2, 25, .inr (.inl ft))), (ca, .inl (g.2.1 2, 5, .inr (.inl fc))), (ra, .inl (g.2.1 2, 24, .inr (.inl fr))), (ua, .inl (g.2.1 0, 25, .inl fu))] ++ pl) sz)) 0 0 (va_A ([(h0, .inr (9, [.ref sa, .ref ta, .ref ca, .ref ra, .ref ua, .int (nI rt), .int (nI ps), .int x3])), (sa, .inl (g.2.1 2, 25, .inr (.inl fs))), (ta, .inl (g.2.1 2, 25, .inr (.inl ft))), (ca, .inl (g.2.1 2, 5, .inr (.inl fc))), (ra, .inl (g.2.1 2, 24, .inr (.inl fr))), (ua, .inl (g.2.1 0, 25, .inl fu))] ++ pl) sz) := by
  refine mc_entry (cc := c_MS_add) (maxL := 3) (ret := none) (by decide) rfl (Nat.le_of_ble_eq_true rfl) ?_
  intro p e s m args below meth c ls F hr hlk hnm hsz hP hD hE hA hl
  obtain ⟨hx, hb, hml, hown, hts⟩ := id F
  have hK := hE.1
  generalize va_A ([(h0, .inr (9, [.ref sa, .ref ta, .ref ca, .ref ra, .ref ua, .int (nI rt), .int (nI ps), .int x3])), (sa, .inl (g.2.1 2, 25, .inr (.inl fs))), (ta, .inl (g.2.1 2, 25, .inr (.inl ft))), (ca, .inl (g.2.1 2, 5, .inr (.inl fc))), (ra, .inl (g.2.1 2, 24, .inr (.inl fr))), (ua, .inl (g.2.1 0, 25, .inl fu))] ++ pl) sz = A at hD hE hA ⊢
  have hS : va_S A s.heap s.heap [] := va_S.rf
  have hl : lv_has ls 3 [(0, .ref h0), (1, .int (nI k)), (2, .int v)] := hl
  refine lv_aload_n hx hb dMS_add_0 rfl (lv_at hl 0 rfl) ?_
  refine va_get (D := g.1) (ci := 9) (C := "LatticeKeysModel$Sponge") (T := T_MS) (N := 8) hx hb hts (wg_ft i_MS) hown hK hP 0 rfl rfl 0 (by decide) (hts _ (wg_t kw_1325)) (fun _ h9 => h9) rfl dMS_add_1 ?_
  refine lv_iload_n hx hb dMS_add_4 rfl (lv_at hl 1 rfl) ?_
  refine lv_bipush (v := nI 8) hx hb dMS_add_5 (by decide) ?_
  refine mi_idiv hx hb dMS_add_7 (by omega) (by omega) (by omega) ?_
  refine lv_dup2_11 hx hb dMS_add_8 rfl rfl ?_
  refine mp_lald hx hb hK hP 1 2 rfl rfl (by omega) (by decide) dMS_add_9 ?_
  refine lv_iload_n hx hb dMS_add_10 rfl (lv_at hl 2 rfl) ?_
  refine lv_i2l hx hb dMS_add_11 rfl ?_
  refine ml_any (fun y21 => ?_)
  refine lv_ldc2 (v := (255)) hx hb hown (hts _ (wg_t kw_1623)) dMS_add_12 ?_
  refine lv_land hx hb dMS_add_15 ?_
  refine lv_bipush (v := nI 8) hx hb dMS_add_16 (by decide) ?_
  refine lv_iload_n hx hb dMS_add_18 rfl (lv_at hl 1 rfl) ?_
  refine lv_bipush (v := nI 8) hx hb dMS_add_19 (by decide) ?_
  refine mi_irem hx hb dMS_add_21 (by omega) (by omega) (by omega) ?_
  refine mi_imul hx hb dMS_add_22 ?_
  refine lv_lshl hx hb dMS_add_23 rfl ?_
  refine ml_any (fun y22 => ?_)
  refine lv_lxor hx hb dMS_add_24 ?_
  refine mp_last hx hb hK hP hD hS 1 2 rfl rfl (by omega) (by decide) dMS_add_25 (fun H locs hP hD hS => ?_)
  have hP : va_P g.1 vcl ([(h0, .inr (9, [.ref sa, .ref ta, .ref ca, .ref ra, .ref ua, .int (nI rt), .int (nI ps), .int x3])), (sa, .inl (g.2.1 2, 25, .inr (.inl ((vp_updL fs (k / 8) ((fs (k / 8)) ^^^ y22)))))), (ta, .inl (g.2.1 2, 25, .inr (.inl ft))), (ca, .inl (g.2.1 2, 5, .inr (.inl fc))), (ra, .inl (g.2.1 2, 24, .inr (.inl fr))), (ua, .inl (g.2.1 0, 25, .inl fu))] ++ pl) _ := hP
  have hD : va_D _ ([(h0, .inr (9, [.ref sa, .ref ta, .ref ca, .ref ra, .ref ua, .int (nI rt), .int (nI ps), .int x3])), (sa, .inl (g.2.1 2, 25, .inr (.inl ((vp_updL fs (k / 8) ((fs (k / 8)) ^^^ y22)))))), (ta, .inl (g.2.1 2, 25, .inr (.inl ft))), (ca, .inl (g.2.1 2, 5, .inr (.inl fc))), (ra, .inl (g.2.1 2, 24, .inr (.inl fr))), (ua, .inl (g.2.1 0, 25, .inl fu))] ++ pl) := hD
  exact mp_vret hx hb hr hlk hP hD hS ((vp_updL fs (k / 8) ((fs (k / 8)) ^^^ y22)), pl) ⟨up_ne, hO⟩ [0, 1, 2, 3, 4, 5] rfl rfl rfl (by omega) (by omega) dMS_add_26
set_option maxHeartbeats 400000 in
set_option maxRecDepth 100000 in
theorem x_MS_begin (l : Launch) (g : Gd) (sz : Nat) (T : Ty) (xs : List Nat) (pl : va_W) (hO : okx g T xs pl) (hU : uni T) (nr : Nat) (sf : Int32) (h0 sa ta ca ra ua rt ps : Nat) (x3 : Int32) (fs ft fc fr : Nat → Int64) (fu : Nat → Int32) (h1 : 0 < nr ∧ nr < 200)  : Met l y_MS_begin w_MS_begin ({ frames := 0, cells := 0, slots := 0, locals := 0 } : Room) (va_Pc [.ref h0, .int (nI nr), .int sf] (pr (en g) g.1 vcl sz ([(h0, .inr (9, [.ref sa, .ref ta, .ref ca, .ref ra, .ref ua, .int (nI rt), .int (nI ps), .int x3])), (sa, .inl (g.2.1 2, 25, .inr (.inl fs))), (ta, .inl (g.2.1 2, 25, .inr (.inl ft))), (ca, .inl (g.2.1 2, 5, .inr (.inl fc))), (ra, .inl (g.2.1 2, 24, .inr (.inl fr))), (ua, .inl (g.2.1 0, 25, .inl fu))] ++ pl))) (va_Qv (fun (u : (Nat → Int64) × va_W) => (∀ j, j < 25 → u.1 j = 0) ∧ okx g T xs u.2) (po g.1 vcl (va_A ([(h0, .inr (9, [.ref sa, .ref ta, .ref ca, .ref ra, .ref ua, .int (nI rt), .int (nI ps), .int x3])), (sa, .inl (g.2.1 2, 25, .inr (.inl fs))), (ta, .inl (g.2.1 2, 25, .inr (.inl ft))), (ca, .inl (g.2.1 2, 5, .inr (.inl fc))), (ra, .inl (g.2.1 2, 24, .inr (.inl fr))), (ua, .inl (g.2.1 0, 25, .inl fu))] ++ pl) sz) (fun (u : (Nat → Int64) × va_W) => [(h0, .inr (9, [.ref sa, .ref ta, .ref ca, .ref ra, .ref ua, .int (nI nr), .int (nI 0), .int sf])), (sa, .inl (g.2.1 2, 25, .inr (.inl ((u.1))))), (ta, .inl (g.2.1 2, 25, .inr (.inl ft))), (ca, .inl (g.2.1 2, 5, .inr (.inl fc))), (ra, .inl (g.2.1 2, 24, .inr (.inl fr))), (ua, .inl (g.2.1 0, 25, .inl fu))] ++ u.2)) (va_A ([(h0, .inr (9, [.ref sa, .ref ta, .ref ca, .ref ra, .ref ua, .int (nI rt), .int (nI ps), .int x3])), (sa, .inl (g.2.1 2, 25, .inr (.inl fs))), (ta, .inl (g.2.1 2, 25, .inr (.inl ft))), (ca, .inl (g.2.1 2, 5, .inr (.inl fc))), (ra, .inl (g.2.1 2, 24, .inr (.inl fr))), (ua, .inl (g.2.1 0, 25, .inl fu))] ++ pl) sz)) 0 0 (va_A ([(h0, .inr (9, [.ref sa, .ref ta, .ref ca, .ref ra, .ref ua, .int (nI rt), .int (nI ps), .int x3])), (sa, .inl (g.2.1 2, 25, .inr (.inl fs))), (ta, .inl (g.2.1 2, 25, .inr (.inl ft))), (ca, .inl (g.2.1 2, 5, .inr (.inl fc))), (ra, .inl (g.2.1 2, 24, .inr (.inl fr))), (ua, .inl (g.2.1 0, 25, .inl fu))] ++ pl) sz) := by
  refine mc_entry (cc := c_MS_begin) (maxL := 4) (ret := none) (by decide) rfl (Nat.le_of_ble_eq_true rfl) ?_
  intro p e s m args below meth c ls F hr hlk hnm hsz hP hD hE hA hl
  obtain ⟨hx, hb, hml, hown, hts⟩ := id F
  have hK := hE.1
  generalize va_A ([(h0, .inr (9, [.ref sa, .ref ta, .ref ca, .ref ra, .ref ua, .int (nI rt), .int (nI ps), .int x3])), (sa, .inl (g.2.1 2, 25, .inr (.inl fs))), (ta, .inl (g.2.1 2, 25, .inr (.inl ft))), (ca, .inl (g.2.1 2, 5, .inr (.inl fc))), (ra, .inl (g.2.1 2, 24, .inr (.inl fr))), (ua, .inl (g.2.1 0, 25, .inl fu))] ++ pl) sz = A at hD hE hA ⊢
  have hS : va_S A s.heap s.heap [] := va_S.rf
  have hl : lv_has ls 4 [(0, .ref h0), (1, .int (nI nr)), (2, .int sf)] := hl
  refine lv_aload_n hx hb dMS_begin_0 rfl (lv_at hl 0 rfl) ?_
  refine lv_iload_n hx hb dMS_begin_1 rfl (lv_at hl 1 rfl) ?_
  refine va_put (D := g.1) (ci := 9) (v := .int (nI nr)) (ty := .int) (C := "LatticeKeysModel$Sponge") (T := T_MS) (N := 8) hx hb hts (wg_ft i_MS) ty_MS k_MS n_MS hown hK hP hD hS 0 rfl rfl 5 (by decide) (hts _ (wg_t kw_1330)) (fun _ h9 => h9) rfl (by decide +kernel) rfl rfl (Nat.le_of_ble_eq_true rfl) dMS_begin_2 (fun H locs hP hD hS => ?_)
  have hP : va_P g.1 vcl ([(h0, .inr (9, [.ref sa, .ref ta, .ref ca, .ref ra, .ref ua, .int (nI nr), .int (nI ps), .int x3])), (sa, .inl (g.2.1 2, 25, .inr (.inl fs))), (ta, .inl (g.2.1 2, 25, .inr (.inl ft))), (ca, .inl (g.2.1 2, 5, .inr (.inl fc))), (ra, .inl (g.2.1 2, 24, .inr (.inl fr))), (ua, .inl (g.2.1 0, 25, .inl fu))] ++ pl) _ := hP
  have hD : va_D _ ([(h0, .inr (9, [.ref sa, .ref ta, .ref ca, .ref ra, .ref ua, .int (nI nr), .int (nI ps), .int x3])), (sa, .inl (g.2.1 2, 25, .inr (.inl fs))), (ta, .inl (g.2.1 2, 25, .inr (.inl ft))), (ca, .inl (g.2.1 2, 5, .inr (.inl fc))), (ra, .inl (g.2.1 2, 24, .inr (.inl fr))), (ua, .inl (g.2.1 0, 25, .inl fu))] ++ pl) := hD
  refine lv_aload_n hx hb dMS_begin_5 rfl (lv_at hl 0 rfl) ?_
  refine lv_iload_n hx hb dMS_begin_6 rfl (lv_at hl 2 rfl) ?_
  refine va_put (D := g.1) (ci := 9) (v := .int sf) (ty := .int) (C := "LatticeKeysModel$Sponge") (T := T_MS) (N := 8) hx hb hts (wg_ft i_MS) ty_MS k_MS n_MS hown hK hP hD hS 0 rfl rfl 7 (by decide) (hts _ (wg_t kw_1332)) (fun _ h9 => h9) rfl (by decide +kernel) rfl rfl (Nat.le_of_ble_eq_true rfl) dMS_begin_7 (fun H locs hP hD hS => ?_)
  have hP : va_P g.1 vcl ([(h0, .inr (9, [.ref sa, .ref ta, .ref ca, .ref ra, .ref ua, .int (nI nr), .int (nI ps), .int sf])), (sa, .inl (g.2.1 2, 25, .inr (.inl fs))), (ta, .inl (g.2.1 2, 25, .inr (.inl ft))), (ca, .inl (g.2.1 2, 5, .inr (.inl fc))), (ra, .inl (g.2.1 2, 24, .inr (.inl fr))), (ua, .inl (g.2.1 0, 25, .inl fu))] ++ pl) _ := hP
  have hD : va_D _ ([(h0, .inr (9, [.ref sa, .ref ta, .ref ca, .ref ra, .ref ua, .int (nI nr), .int (nI ps), .int sf])), (sa, .inl (g.2.1 2, 25, .inr (.inl fs))), (ta, .inl (g.2.1 2, 25, .inr (.inl ft))), (ca, .inl (g.2.1 2, 5, .inr (.inl fc))), (ra, .inl (g.2.1 2, 24, .inr (.inl fr))), (ua, .inl (g.2.1 0, 25, .inl fu))] ++ pl) := hD
  refine lv_aload_n hx hb dMS_begin_10 rfl (lv_at hl 0 rfl) ?_
  refine lv_iconst (v := nI 0) hx hb dMS_begin_11 (by decide) ?_
  refine va_put (D := g.1) (ci := 9) (v := .int (nI 0)) (ty := .int) (C := "LatticeKeysModel$Sponge") (T := T_MS) (N := 8) hx hb hts (wg_ft i_MS) ty_MS k_MS n_MS hown hK hP hD hS 0 rfl rfl 6 (by decide) (hts _ (wg_t kw_1331)) (fun _ h9 => h9) rfl (by decide +kernel) rfl rfl (Nat.le_of_ble_eq_true rfl) dMS_begin_12 (fun H locs hP hD hS => ?_)
  have hP : va_P g.1 vcl ([(h0, .inr (9, [.ref sa, .ref ta, .ref ca, .ref ra, .ref ua, .int (nI nr), .int (nI 0), .int sf])), (sa, .inl (g.2.1 2, 25, .inr (.inl fs))), (ta, .inl (g.2.1 2, 25, .inr (.inl ft))), (ca, .inl (g.2.1 2, 5, .inr (.inl fc))), (ra, .inl (g.2.1 2, 24, .inr (.inl fr))), (ua, .inl (g.2.1 0, 25, .inl fu))] ++ pl) _ := hP
  have hD : va_D _ ([(h0, .inr (9, [.ref sa, .ref ta, .ref ca, .ref ra, .ref ua, .int (nI nr), .int (nI 0), .int sf])), (sa, .inl (g.2.1 2, 25, .inr (.inl fs))), (ta, .inl (g.2.1 2, 25, .inr (.inl ft))), (ca, .inl (g.2.1 2, 5, .inr (.inl fc))), (ra, .inl (g.2.1 2, 24, .inr (.inl fr))), (ua, .inl (g.2.1 0, 25, .inl fu))] ++ pl) := hD
  refine lv_iconst (v := nI 0) hx hb dMS_begin_15 (by decide) ?_
  refine lv_istore_n (lv' := [(3, .int (nI 0)), (0, .ref h0), (1, .int (nI nr)), (2, .int sf)]) hx hb dMS_begin_16 rfl hl (by decide) rfl (fun ls hl => ?_)
  have lp21 : ∀ (n21 : Nat) (i21 : Nat) (f21 : Nat → Int64) (pl : va_W) (ls : Array Slot) (H : Heap) (locs : List Loc), n21 + i21 = 25 → (∀ j, j < i21 → f21 j = 0) → lv_has ls 4 [(3, .int (nI i21)), (0, .ref h0)] → okx g T xs pl → va_P g.1 vcl ([(h0, .inr (9, [.ref sa, .ref ta, .ref ca, .ref ra, .ref ua, .int (nI nr), .int (nI 0), .int sf])), (sa, .inl (g.2.1 2, 25, .inr (.inl f21))), (ta, .inl (g.2.1 2, 25, .inr (.inl ft))), (ca, .inl (g.2.1 2, 5, .inr (.inl fc))), (ra, .inl (g.2.1 2, 24, .inr (.inl fr))), (ua, .inl (g.2.1 0, 25, .inl fu))] ++ pl) H → va_D A ([(h0, .inr (9, [.ref sa, .ref ta, .ref ca, .ref ra, .ref ua, .int (nI nr), .int (nI 0), .int sf])), (sa, .inl (g.2.1 2, 25, .inr (.inl f21))), (ta, .inl (g.2.1 2, 25, .inr (.inl ft))), (ca, .inl (g.2.1 2, 5, .inr (.inl fc))), (ra, .inl (g.2.1 2, 24, .inr (.inl fr))), (ua, .inl (g.2.1 0, 25, .inl fu))] ++ pl) → va_S A s.heap H locs → W p l e ({ frames := 0, cells := 0, slots := 0, locals := 0 } : Room) s m args below meth c H locs 0 0 (MQ below (va_Qv (fun (u : (Nat → Int64) × va_W) => (∀ j, j < 25 → u.1 j = 0) ∧ okx g T xs u.2) (po g.1 vcl A (fun (u : (Nat → Int64) × va_W) => [(h0, .inr (9, [.ref sa, .ref ta, .ref ca, .ref ra, .ref ua, .int (nI nr), .int (nI 0), .int sf])), (sa, .inl (g.2.1 2, 25, .inr (.inl ((u.1))))), (ta, .inl (g.2.1 2, 25, .inr (.inl ft))), (ca, .inl (g.2.1 2, 5, .inr (.inl fc))), (ra, .inl (g.2.1 2, 24, .inr (.inl fr))), (ua, .inl (g.2.1 0, 25, .inl fu))] ++ u.2)) A) args s 0 0 A) (F0 m 17 ls []) := by
    intro n21
    induction n21 with
    | zero =>
      intro i21 f21 pl ls H locs hm21 hz0 hl hO hP hD hS
      refine lv_iload_n hx hb dMS_begin_17 rfl (lv_at hl 0 rfl) ?_
      refine lv_bipush (v := nI 25) hx hb dMS_begin_18 (by decide) ?_
      refine mi_ge (tgt := 36) hx hb dMS_begin_20 (by decide) (by omega) (by omega) (fun h21 => ?_) (fun h21 => absurd h21 (by omega))
      exact mp_vret hx hb hr hlk hP hD hS (f21, pl) ⟨(fun j h9 => hz0 j (by omega)), hO⟩ [0, 1, 2, 3, 4, 5] rfl rfl rfl (by omega) (by omega) dMS_begin_36
    | succ n21 ih21 =>
      intro i21 f21 pl ls H locs hm21 hz0 hl hO hP hD hS
      refine lv_iload_n hx hb dMS_begin_17 rfl (lv_at hl 0 rfl) ?_
      refine lv_bipush (v := nI 25) hx hb dMS_begin_18 (by decide) ?_
      refine mi_ge (tgt := 36) hx hb dMS_begin_20 (by decide) (by omega) (by omega) (fun h22 => absurd h22 (by omega)) (fun h22 => ?_)
      refine lv_aload_n hx hb dMS_begin_23 rfl (lv_at hl 1 rfl) ?_
      refine va_get (D := g.1) (ci := 9) (C := "LatticeKeysModel$Sponge") (T := T_MS) (N := 8) hx hb hts (wg_ft i_MS) hown hK hP 0 rfl rfl 0 (by decide) (hts _ (wg_t kw_1325)) (fun _ h9 => h9) rfl dMS_begin_24 ?_
      refine lv_iload_n hx hb dMS_begin_27 rfl (lv_at hl 0 rfl) ?_
      refine lv_lconst (v := 0) hx hb dMS_begin_28 (by decide) ?_
      refine mp_last hx hb hK hP hD hS 1 2 rfl rfl (by omega) (by decide) dMS_begin_29 (fun H locs hP hD hS => ?_)
      have hP : va_P g.1 vcl ([(h0, .inr (9, [.ref sa, .ref ta, .ref ca, .ref ra, .ref ua, .int (nI nr), .int (nI 0), .int sf])), (sa, .inl (g.2.1 2, 25, .inr (.inl ((vp_updL f21 i21 0))))), (ta, .inl (g.2.1 2, 25, .inr (.inl ft))), (ca, .inl (g.2.1 2, 5, .inr (.inl fc))), (ra, .inl (g.2.1 2, 24, .inr (.inl fr))), (ua, .inl (g.2.1 0, 25, .inl fu))] ++ pl) _ := hP
      have hD : va_D _ ([(h0, .inr (9, [.ref sa, .ref ta, .ref ca, .ref ra, .ref ua, .int (nI nr), .int (nI 0), .int sf])), (sa, .inl (g.2.1 2, 25, .inr (.inl ((vp_updL f21 i21 0))))), (ta, .inl (g.2.1 2, 25, .inr (.inl ft))), (ca, .inl (g.2.1 2, 5, .inr (.inl fc))), (ra, .inl (g.2.1 2, 24, .inr (.inl fr))), (ua, .inl (g.2.1 0, 25, .inl fu))] ++ pl) := hD
      refine mi_iinc (k := 0) (x := i21) (d := 1) (y := i21 + 1) (lv' := [(3, .int (nI (i21 + 1))), (0, .ref h0)]) hx hb dMS_begin_30 hl rfl (by decide) rfl (by decide) rfl (fun ls hl => ?_)
      refine lv_goto (tgt := 17) hx hb dMS_begin_33 (by decide) ?_
      exact ih21 (i21 + 1) (vp_updL f21 i21 0) pl ls H locs (by omega) (up_step (G := fun _ => 0) hz0 rfl) (lv_sub hl [0, 1] rfl) hO hP hD hS
  exact lp21 25 0 fs pl ls _ _ (by omega) (fun j h9 => absurd h9 (Nat.not_lt_zero _)) (lv_sub hl [0, 1] rfl) hO hP hD hS
set_option maxHeartbeats 400000 in
set_option maxRecDepth 100000 in
theorem x_MS_shake (l : Launch) (g : Gd) (sz : Nat) (T : Ty) (xs : List Nat) (pl : va_W) (hO : okx g T xs pl) (hU : uni T) (h0 sa ta ca ra ua rt ps : Nat) (x3 : Int32) (fs ft fc fr : Nat → Int64) (fu : Nat → Int32)  : Met l y_MS_shake w_MS_shake ({ frames := 1, cells := 0, slots := 0, locals := 23 } : Room) (va_Pc [.ref h0] (pr (en g) g.1 vcl sz ([(h0, .inr (9, [.ref sa, .ref ta, .ref ca, .ref ra, .ref ua, .int (nI rt), .int (nI ps), .int x3])), (sa, .inl (g.2.1 2, 25, .inr (.inl fs))), (ta, .inl (g.2.1 2, 25, .inr (.inl ft))), (ca, .inl (g.2.1 2, 5, .inr (.inl fc))), (ra, .inl (g.2.1 2, 24, .inr (.inl fr))), (ua, .inl (g.2.1 0, 25, .inl fu))] ++ pl))) (va_Qv (fun (u : (Nat → Int64) × va_W) => (∀ j, j < 25 → u.1 j = 0) ∧ okx g T xs u.2) (po g.1 vcl (va_A ([(h0, .inr (9, [.ref sa, .ref ta, .ref ca, .ref ra, .ref ua, .int (nI rt), .int (nI ps), .int x3])), (sa, .inl (g.2.1 2, 25, .inr (.inl fs))), (ta, .inl (g.2.1 2, 25, .inr (.inl ft))), (ca, .inl (g.2.1 2, 5, .inr (.inl fc))), (ra, .inl (g.2.1 2, 24, .inr (.inl fr))), (ua, .inl (g.2.1 0, 25, .inl fu))] ++ pl) sz) (fun (u : (Nat → Int64) × va_W) => [(h0, .inr (9, [.ref sa, .ref ta, .ref ca, .ref ra, .ref ua, .int (nI 136), .int (nI 0), .int (nI 31)])), (sa, .inl (g.2.1 2, 25, .inr (.inl ((u.1))))), (ta, .inl (g.2.1 2, 25, .inr (.inl ft))), (ca, .inl (g.2.1 2, 5, .inr (.inl fc))), (ra, .inl (g.2.1 2, 24, .inr (.inl fr))), (ua, .inl (g.2.1 0, 25, .inl fu))] ++ u.2)) (va_A ([(h0, .inr (9, [.ref sa, .ref ta, .ref ca, .ref ra, .ref ua, .int (nI rt), .int (nI ps), .int x3])), (sa, .inl (g.2.1 2, 25, .inr (.inl fs))), (ta, .inl (g.2.1 2, 25, .inr (.inl ft))), (ca, .inl (g.2.1 2, 5, .inr (.inl fc))), (ra, .inl (g.2.1 2, 24, .inr (.inl fr))), (ua, .inl (g.2.1 0, 25, .inl fu))] ++ pl) sz)) 0 0 (va_A ([(h0, .inr (9, [.ref sa, .ref ta, .ref ca, .ref ra, .ref ua, .int (nI rt), .int (nI ps), .int x3])), (sa, .inl (g.2.1 2, 25, .inr (.inl fs))), (ta, .inl (g.2.1 2, 25, .inr (.inl ft))), (ca, .inl (g.2.1 2, 5, .inr (.inl fc))), (ra, .inl (g.2.1 2, 24, .inr (.inl fr))), (ua, .inl (g.2.1 0, 25, .inl fu))] ++ pl) sz) := by
  refine mc_entry (cc := c_MS_shake) (maxL := 1) (ret := none) (by decide) rfl (Nat.le_of_ble_eq_true rfl) ?_
  intro p e s m args below meth c ls F hr hlk hnm hsz hP hD hE hA hl
  obtain ⟨hx, hb, hml, hown, hts⟩ := id F
  have hK := hE.1
  generalize va_A ([(h0, .inr (9, [.ref sa, .ref ta, .ref ca, .ref ra, .ref ua, .int (nI rt), .int (nI ps), .int x3])), (sa, .inl (g.2.1 2, 25, .inr (.inl fs))), (ta, .inl (g.2.1 2, 25, .inr (.inl ft))), (ca, .inl (g.2.1 2, 5, .inr (.inl fc))), (ra, .inl (g.2.1 2, 24, .inr (.inl fr))), (ua, .inl (g.2.1 0, 25, .inl fu))] ++ pl) sz = A at hD hE hA ⊢
  have hS : va_S A s.heap s.heap [] := va_S.rf
  have hl : lv_has ls 1 [(0, .ref h0)] := hl
  refine lv_aload_n hx hb dMS_shake_0 rfl (lv_at hl 0 rfl) ?_
  refine lv_sipush (v := nI 136) hx hb dMS_shake_1 (by decide) ?_
  refine lv_bipush (v := nI 31) hx hb dMS_shake_4 (by decide) ?_
  refine mp_v (cx := [(h0, .inr (9, [.ref sa, .ref ta, .ref ca, .ref ra, .ref ua, .int (nI rt), .int (nI ps), .int x3])), (sa, .inl (g.2.1 2, 25, .inr (.inl fs))), (ta, .inl (g.2.1 2, 25, .inr (.inl ft))), (ca, .inl (g.2.1 2, 5, .inr (.inl fc))), (ra, .inl (g.2.1 2, 24, .inr (.inl fr))), (ua, .inl (g.2.1 0, 25, .inl fu))]) (wr := []) hP hD hS hA [0, 1, 2, 3, 4, 5] [] rfl rfl rfl (by decide) (va_runV (As := [.int (nI 136), .int (nI 31)]) (rest := []) F (x_MS_begin l g _ T xs pl hO hU  136 (nI 31) h0 sa ta ca ra ua rt ps x3 fs ft fc fr fu (by omega)) (cwV 2 hts (wg_app (wg_c kw_1664 (wg_c kw_1608 (wg_c kw_1609 (wg_c kw_10 wg_n)))) kw_1610) rfl rfl rfl (by decide +kernel) ⟨by decide, by decide⟩) (pp_V (en_ok g) (q0 := 0) hK hP hD hS hA hE [0, 1, 2, 3, 4, 5] rfl rfl rfl rfl) rfl rfl hl.1 rfl (lv_room (Nat.le_of_ble_eq_true rfl)) dMS_shake_6 ⟨by omega, by omega⟩) (fun  u21 H locs hu21 hP hD hS => ?_)
  obtain ⟨u22, pl⟩ := u21
  obtain ⟨hq21, hO⟩ := hu21
  have hP : va_P g.1 vcl ([(h0, .inr (9, [.ref sa, .ref ta, .ref ca, .ref ra, .ref ua, .int (nI 136), .int (nI 0), .int (nI 31)])), (sa, .inl (g.2.1 2, 25, .inr (.inl u22))), (ta, .inl (g.2.1 2, 25, .inr (.inl ft))), (ca, .inl (g.2.1 2, 5, .inr (.inl fc))), (ra, .inl (g.2.1 2, 24, .inr (.inl fr))), (ua, .inl (g.2.1 0, 25, .inl fu))] ++ pl) _ := hP
  have hD : va_D _ ([(h0, .inr (9, [.ref sa, .ref ta, .ref ca, .ref ra, .ref ua, .int (nI 136), .int (nI 0), .int (nI 31)])), (sa, .inl (g.2.1 2, 25, .inr (.inl u22))), (ta, .inl (g.2.1 2, 25, .inr (.inl ft))), (ca, .inl (g.2.1 2, 5, .inr (.inl fc))), (ra, .inl (g.2.1 2, 24, .inr (.inl fr))), (ua, .inl (g.2.1 0, 25, .inl fu))] ++ pl) := hD
  have hq21 : ∀ j, j < 25 → u22 j = 0 := hq21
  refine W.widen (k := 0) (n := 0) (by omega) (by omega) ?_
  exact mp_vret hx hb hr hlk hP hD hS (u22, pl) ⟨hq21, hO⟩ [0, 1, 2, 3, 4, 5] rfl rfl rfl (by omega) (by omega) dMS_shake_9
set_option maxHeartbeats 400000 in
set_option maxRecDepth 100000 in
theorem x_MS_put (l : Launch) (g : Gd) (sz : Nat) (T : Ty) (xs : List Nat) (pl : va_W) (hO : okx g T xs pl) (hU : uni T) (v : Int32) (h0 sa ta ca ra ua rt ps : Nat) (x3 : Int32) (fs ft fc fr : Nat → Int64) (fu : Nat → Int32) (hrt : rt < 200) (hps : ps + 1 < rt)  : Met l y_MS_put w_MS_put ({ frames := 1, cells := 0, slots := 0, locals := 22 } : Room) (va_Pc [.ref h0, .int v] (pr (en g) g.1 vcl sz ([(h0, .inr (9, [.ref sa, .ref ta, .ref ca, .ref ra, .ref ua, .int (nI rt), .int (nI ps), .int x3])), (sa, .inl (g.2.1 2, 25, .inr (.inl fs))), (ta, .inl (g.2.1 2, 25, .inr (.inl ft))), (ca, .inl (g.2.1 2, 5, .inr (.inl fc))), (ra, .inl (g.2.1 2, 24, .inr (.inl fr))), (ua, .inl (g.2.1 0, 25, .inl fu))] ++ pl))) (va_Qv (fun (u : (Nat → Int64) × va_W) => (∀ j, j ≠ ps / 8 → u.1 j = fs j) ∧ okx g T xs u.2) (po g.1 vcl (va_A ([(h0, .inr (9, [.ref sa, .ref ta, .ref ca, .ref ra, .ref ua, .int (nI rt), .int (nI ps), .int x3])), (sa, .inl (g.2.1 2, 25, .inr (.inl fs))), (ta, .inl (g.2.1 2, 25, .inr (.inl ft))), (ca, .inl (g.2.1 2, 5, .inr (.inl fc))), (ra, .inl (g.2.1 2, 24, .inr (.inl fr))), (ua, .inl (g.2.1 0, 25, .inl fu))] ++ pl) sz) (fun (u : (Nat → Int64) × va_W) => [(h0, .inr (9, [.ref sa, .ref ta, .ref ca, .ref ra, .ref ua, .int (nI rt), .int (nI (ps + 1)), .int x3])), (sa, .inl (g.2.1 2, 25, .inr (.inl ((u.1))))), (ta, .inl (g.2.1 2, 25, .inr (.inl ft))), (ca, .inl (g.2.1 2, 5, .inr (.inl fc))), (ra, .inl (g.2.1 2, 24, .inr (.inl fr))), (ua, .inl (g.2.1 0, 25, .inl fu))] ++ u.2)) (va_A ([(h0, .inr (9, [.ref sa, .ref ta, .ref ca, .ref ra, .ref ua, .int (nI rt), .int (nI ps), .int x3])), (sa, .inl (g.2.1 2, 25, .inr (.inl fs))), (ta, .inl (g.2.1 2, 25, .inr (.inl ft))), (ca, .inl (g.2.1 2, 5, .inr (.inl fc))), (ra, .inl (g.2.1 2, 24, .inr (.inl fr))), (ua, .inl (g.2.1 0, 25, .inl fu))] ++ pl) sz)) 0 0 (va_A ([(h0, .inr (9, [.ref sa, .ref ta, .ref ca, .ref ra, .ref ua, .int (nI rt), .int (nI ps), .int x3])), (sa, .inl (g.2.1 2, 25, .inr (.inl fs))), (ta, .inl (g.2.1 2, 25, .inr (.inl ft))), (ca, .inl (g.2.1 2, 5, .inr (.inl fc))), (ra, .inl (g.2.1 2, 24, .inr (.inl fr))), (ua, .inl (g.2.1 0, 25, .inl fu))] ++ pl) sz) := by
  refine mc_entry (cc := c_MS_put) (maxL := 2) (ret := none) (by decide) rfl (Nat.le_of_ble_eq_true rfl) ?_
  intro p e s m args below meth c ls F hr hlk hnm hsz hP hD hE hA hl
  obtain ⟨hx, hb, hml, hown, hts⟩ := id F
  have hK := hE.1
  generalize va_A ([(h0, .inr (9, [.ref sa, .ref ta, .ref ca, .ref ra, .ref ua, .int (nI rt), .int (nI ps), .int x3])), (sa, .inl (g.2.1 2, 25, .inr (.inl fs))), (ta, .inl (g.2.1 2, 25, .inr (.inl ft))), (ca, .inl (g.2.1 2, 5, .inr (.inl fc))), (ra, .inl (g.2.1 2, 24, .inr (.inl fr))), (ua, .inl (g.2.1 0, 25, .inl fu))] ++ pl) sz = A at hD hE hA ⊢
  have hS : va_S A s.heap s.heap [] := va_S.rf
  have hl : lv_has ls 2 [(0, .ref h0), (1, .int v)] := hl
  refine lv_aload_n hx hb dMS_put_0 rfl (lv_at hl 0 rfl) ?_
  refine lv_aload_n hx hb dMS_put_1 rfl (lv_at hl 0 rfl) ?_
  refine va_get (D := g.1) (ci := 9) (C := "LatticeKeysModel$Sponge") (T := T_MS) (N := 8) hx hb hts (wg_ft i_MS) hown hK hP 0 rfl rfl 6 (by decide) (hts _ (wg_t kw_1331)) (fun _ h9 => h9) rfl dMS_put_2 ?_
  refine lv_iload_n hx hb dMS_put_5 rfl (lv_at hl 1 rfl) ?_
  refine mp_v (cx := [(h0, .inr (9, [.ref sa, .ref ta, .ref ca, .ref ra, .ref ua, .int (nI rt), .int (nI ps), .int x3])), (sa, .inl (g.2.1 2, 25, .inr (.inl fs))), (ta, .inl (g.2.1 2, 25, .inr (.inl ft))), (ca, .inl (g.2.1 2, 5, .inr (.inl fc))), (ra, .inl (g.2.1 2, 24, .inr (.inl fr))), (ua, .inl (g.2.1 0, 25, .inl fu))]) (wr := []) hP hD hS hA [0, 1, 2, 3, 4, 5] [] rfl rfl rfl (by decide) (va_runV (As := [.int (nI ps), .int v]) (rest := []) F (x_MS_add l g _ T xs pl hO hU  ps v h0 sa ta ca ra ua rt ps x3 fs ft fc fr fu (by omega)) (cwV 2 hts (wg_app (wg_c kw_1619 (wg_c kw_1621 (wg_c ks_52 (wg_c kw_10 wg_n)))) kw_1622) rfl rfl rfl (by decide +kernel) ⟨by decide, by decide⟩) (pp_V (en_ok g) (q0 := 0) hK hP hD hS hA hE [0, 1, 2, 3, 4, 5] rfl rfl rfl rfl) rfl rfl hl.1 rfl (lv_room (Nat.le_of_ble_eq_true rfl)) dMS_put_6 ⟨by omega, by omega⟩) (fun  u21 H locs hu21 hP hD hS => ?_)
  obtain ⟨u22, pl⟩ := u21
  obtain ⟨hq21, hO⟩ := hu21
  have hP : va_P g.1 vcl ([(h0, .inr (9, [.ref sa, .ref ta, .ref ca, .ref ra, .ref ua, .int (nI rt), .int (nI ps), .int x3])), (sa, .inl (g.2.1 2, 25, .inr (.inl u22))), (ta, .inl (g.2.1 2, 25, .inr (.inl ft))), (ca, .inl (g.2.1 2, 5, .inr (.inl fc))), (ra, .inl (g.2.1 2, 24, .inr (.inl fr))), (ua, .inl (g.2.1 0, 25, .inl fu))] ++ pl) _ := hP
  have hD : va_D _ ([(h0, .inr (9, [.ref sa, .ref ta, .ref ca, .ref ra, .ref ua, .int (nI rt), .int (nI ps), .int x3])), (sa, .inl (g.2.1 2, 25, .inr (.inl u22))), (ta, .inl (g.2.1 2, 25, .inr (.inl ft))), (ca, .inl (g.2.1 2, 5, .inr (.inl fc))), (ra, .inl (g.2.1 2, 24, .inr (.inl fr))), (ua, .inl (g.2.1 0, 25, .inl fu))] ++ pl) := hD
  have hq21 : ∀ j, j ≠ ps / 8 → u22 j = _ := hq21
  refine W.widen (k := 0) (n := 0) (by omega) (by omega) ?_
  refine lv_aload_n hx hb dMS_put_9 rfl (lv_at hl 0 rfl) ?_
  refine lv_dup hx hb dMS_put_10 rfl ?_
  refine va_get (D := g.1) (ci := 9) (C := "LatticeKeysModel$Sponge") (T := T_MS) (N := 8) hx hb hts (wg_ft i_MS) hown hK hP 0 rfl rfl 6 (by decide) (hts _ (wg_t kw_1331)) (fun _ h9 => h9) rfl dMS_put_11 ?_
  refine lv_iconst (v := nI 1) hx hb dMS_put_14 (by decide) ?_
  refine mi_iadd hx hb dMS_put_15 ?_
  refine va_put (D := g.1) (ci := 9) (v := .int (nI (ps + 1))) (ty := .int) (C := "LatticeKeysModel$Sponge") (T := T_MS) (N := 8) hx hb hts (wg_ft i_MS) ty_MS k_MS n_MS hown hK hP hD hS 0 rfl rfl 6 (by decide) (hts _ (wg_t kw_1331)) (fun _ h9 => h9) rfl (by decide +kernel) rfl rfl (Nat.le_of_ble_eq_true rfl) dMS_put_16 (fun H locs hP hD hS => ?_)
  have hP : va_P g.1 vcl ([(h0, .inr (9, [.ref sa, .ref ta, .ref ca, .ref ra, .ref ua, .int (nI rt), .int (nI (ps + 1)), .int x3])), (sa, .inl (g.2.1 2, 25, .inr (.inl u22))), (ta, .inl (g.2.1 2, 25, .inr (.inl ft))), (ca, .inl (g.2.1 2, 5, .inr (.inl fc))), (ra, .inl (g.2.1 2, 24, .inr (.inl fr))), (ua, .inl (g.2.1 0, 25, .inl fu))] ++ pl) _ := hP
  have hD : va_D _ ([(h0, .inr (9, [.ref sa, .ref ta, .ref ca, .ref ra, .ref ua, .int (nI rt), .int (nI (ps + 1)), .int x3])), (sa, .inl (g.2.1 2, 25, .inr (.inl u22))), (ta, .inl (g.2.1 2, 25, .inr (.inl ft))), (ca, .inl (g.2.1 2, 5, .inr (.inl fc))), (ra, .inl (g.2.1 2, 24, .inr (.inl fr))), (ua, .inl (g.2.1 0, 25, .inl fu))] ++ pl) := hD
  refine lv_aload_n hx hb dMS_put_19 rfl (lv_at hl 0 rfl) ?_
  refine va_get (D := g.1) (ci := 9) (C := "LatticeKeysModel$Sponge") (T := T_MS) (N := 8) hx hb hts (wg_ft i_MS) hown hK hP 0 rfl rfl 6 (by decide) (hts _ (wg_t kw_1331)) (fun _ h9 => h9) rfl dMS_put_20 ?_
  refine lv_aload_n hx hb dMS_put_23 rfl (lv_at hl 0 rfl) ?_
  refine va_get (D := g.1) (ci := 9) (C := "LatticeKeysModel$Sponge") (T := T_MS) (N := 8) hx hb hts (wg_ft i_MS) hown hK hP 0 rfl rfl 5 (by decide) (hts _ (wg_t kw_1330)) (fun _ h9 => h9) rfl dMS_put_24 ?_
  refine mi_ge (tgt := 31) hx hb dMS_put_27 (by decide) (by omega) (by omega) (fun h21 => absurd h21 (by omega)) (fun h21 => ?_)
  exact mp_vret hx hb hr hlk hP hD hS (u22, pl) ⟨hq21, hO⟩ [0, 1, 2, 3, 4, 5] rfl rfl rfl (by omega) (by omega) dMS_put_30
set_option maxHeartbeats 400000 in
set_option maxRecDepth 100000 in
theorem x_MS_puts (l : Launch) (g : Gd) (sz : Nat) (T : Ty) (xs : List Nat) (pl : va_W) (hO : okx g T xs pl) (hU : uni T) (hc0 : clo T xs 0) (b n at_ len : Nat) (h0 sa ta ca ra ua rt ps : Nat) (x3 : Int32) (fs ft fc fr : Nat → Int64) (fu : Nat → Int32) (k_b : T b = some (1, n)) (hrt : rt < 200) (hps : ps + len < rt) (h1 : at_ + len ≤ n) (h2 : n < 65536)  : Met l y_MS_puts w_MS_puts ({ frames := 2, cells := 0, slots := 0, locals := 43 } : Room) (va_Pc [.ref h0, .ref b, .int (nI at_), .int (nI len)] (pr (en g) g.1 vcl sz ([(h0, .inr (9, [.ref sa, .ref ta, .ref ca, .ref ra, .ref ua, .int (nI rt), .int (nI ps), .int x3])), (sa, .inl (g.2.1 2, 25, .inr (.inl fs))), (ta, .inl (g.2.1 2, 25, .inr (.inl ft))), (ca, .inl (g.2.1 2, 5, .inr (.inl fc))), (ra, .inl (g.2.1 2, 24, .inr (.inl fr))), (ua, .inl (g.2.1 0, 25, .inl fu))] ++ pl))) (va_Qv (fun (u : (Nat → Int64) × va_W) => (∀ j, ps + len ≤ 8 * j → u.1 j = fs j) ∧ okx g T xs u.2) (po g.1 vcl (va_A ([(h0, .inr (9, [.ref sa, .ref ta, .ref ca, .ref ra, .ref ua, .int (nI rt), .int (nI ps), .int x3])), (sa, .inl (g.2.1 2, 25, .inr (.inl fs))), (ta, .inl (g.2.1 2, 25, .inr (.inl ft))), (ca, .inl (g.2.1 2, 5, .inr (.inl fc))), (ra, .inl (g.2.1 2, 24, .inr (.inl fr))), (ua, .inl (g.2.1 0, 25, .inl fu))] ++ pl) sz) (fun (u : (Nat → Int64) × va_W) => [(h0, .inr (9, [.ref sa, .ref ta, .ref ca, .ref ra, .ref ua, .int (nI rt), .int (nI (ps + len)), .int x3])), (sa, .inl (g.2.1 2, 25, .inr (.inl ((u.1))))), (ta, .inl (g.2.1 2, 25, .inr (.inl ft))), (ca, .inl (g.2.1 2, 5, .inr (.inl fc))), (ra, .inl (g.2.1 2, 24, .inr (.inl fr))), (ua, .inl (g.2.1 0, 25, .inl fu))] ++ u.2)) (va_A ([(h0, .inr (9, [.ref sa, .ref ta, .ref ca, .ref ra, .ref ua, .int (nI rt), .int (nI ps), .int x3])), (sa, .inl (g.2.1 2, 25, .inr (.inl fs))), (ta, .inl (g.2.1 2, 25, .inr (.inl ft))), (ca, .inl (g.2.1 2, 5, .inr (.inl fc))), (ra, .inl (g.2.1 2, 24, .inr (.inl fr))), (ua, .inl (g.2.1 0, 25, .inl fu))] ++ pl) sz)) 0 0 (va_A ([(h0, .inr (9, [.ref sa, .ref ta, .ref ca, .ref ra, .ref ua, .int (nI rt), .int (nI ps), .int x3])), (sa, .inl (g.2.1 2, 25, .inr (.inl fs))), (ta, .inl (g.2.1 2, 25, .inr (.inl ft))), (ca, .inl (g.2.1 2, 5, .inr (.inl fc))), (ra, .inl (g.2.1 2, 24, .inr (.inl fr))), (ua, .inl (g.2.1 0, 25, .inl fu))] ++ pl) sz) := by
  refine mc_entry (cc := c_MS_puts) (maxL := 5) (ret := none) (by decide) rfl (Nat.le_of_ble_eq_true rfl) ?_
  intro p e s m args below meth c ls F hr hlk hnm hsz hP hD hE hA hl
  obtain ⟨hx, hb, hml, hown, hts⟩ := id F
  have hK := hE.1
  generalize va_A ([(h0, .inr (9, [.ref sa, .ref ta, .ref ca, .ref ra, .ref ua, .int (nI rt), .int (nI ps), .int x3])), (sa, .inl (g.2.1 2, 25, .inr (.inl fs))), (ta, .inl (g.2.1 2, 25, .inr (.inl ft))), (ca, .inl (g.2.1 2, 5, .inr (.inl fc))), (ra, .inl (g.2.1 2, 24, .inr (.inl fr))), (ua, .inl (g.2.1 0, 25, .inl fu))] ++ pl) sz = A at hD hE hA ⊢
  have hS : va_S A s.heap s.heap [] := va_S.rf
  have hl : lv_has ls 5 [(0, .ref h0), (1, .ref b), (2, .int (nI at_)), (3, .int (nI len))] := hl
  refine lv_iconst (v := nI 0) hx hb dMS_puts_0 (by decide) ?_
  refine lv_istore (lv' := [(4, .int (nI 0)), (0, .ref h0), (1, .ref b), (2, .int (nI at_)), (3, .int (nI len))]) hx hb dMS_puts_1 hl (by decide) rfl (fun ls hl => ?_)
  have lp21 : ∀ (n21 : Nat) (i21 : Nat) (f21 : Nat → Int64) (pl : va_W) (ls : Array Slot) (H : Heap) (locs : List Loc), n21 + i21 = len → (∀ j, ps + i21 ≤ 8 * j → f21 j = fs j) → lv_has ls 5 [(4, .int (nI i21)), (0, .ref h0), (1, .ref b), (2, .int (nI at_)), (3, .int (nI len))] → okx g T xs pl → va_P g.1 vcl ([(h0, .inr (9, [.ref sa, .ref ta, .ref ca, .ref ra, .ref ua, .int (nI rt), .int (nI (ps + i21)), .int x3])), (sa, .inl (g.2.1 2, 25, .inr (.inl f21))), (ta, .inl (g.2.1 2, 25, .inr (.inl ft))), (ca, .inl (g.2.1 2, 5, .inr (.inl fc))), (ra, .inl (g.2.1 2, 24, .inr (.inl fr))), (ua, .inl (g.2.1 0, 25, .inl fu))] ++ pl) H → va_D A ([(h0, .inr (9, [.ref sa, .ref ta, .ref ca, .ref ra, .ref ua, .int (nI rt), .int (nI (ps + i21)), .int x3])), (sa, .inl (g.2.1 2, 25, .inr (.inl f21))), (ta, .inl (g.2.1 2, 25, .inr (.inl ft))), (ca, .inl (g.2.1 2, 5, .inr (.inl fc))), (ra, .inl (g.2.1 2, 24, .inr (.inl fr))), (ua, .inl (g.2.1 0, 25, .inl fu))] ++ pl) → va_S A s.heap H locs → W p l e ({ frames := 2, cells := 0, slots := 0, locals := 43 } : Room) s m args below meth c H locs 0 0 (MQ below (va_Qv (fun (u : (Nat → Int64) × va_W) => (∀ j, ps + len ≤ 8 * j → u.1 j = fs j) ∧ okx g T xs u.2) (po g.1 vcl A (fun (u : (Nat → Int64) × va_W) => [(h0, .inr (9, [.ref sa, .ref ta, .ref ca, .ref ra, .ref ua, .int (nI rt), .int (nI (ps + len)), .int x3])), (sa, .inl (g.2.1 2, 25, .inr (.inl ((u.1))))), (ta, .inl (g.2.1 2, 25, .inr (.inl ft))), (ca, .inl (g.2.1 2, 5, .inr (.inl fc))), (ra, .inl (g.2.1 2, 24, .inr (.inl fr))), (ua, .inl (g.2.1 0, 25, .inl fu))] ++ u.2)) A) args s 0 0 A) (F0 m 3 ls []) := by
    intro n21
    induction n21 with
    | zero =>
      intro i21 f21 pl ls H locs hm21 hk hl hO hP hD hS
      refine lv_iload hx hb dMS_puts_3 (lv_at hl 0 rfl) ?_
      refine lv_iload_n hx hb dMS_puts_5 rfl (lv_at hl 4 rfl) ?_
      refine mi_ge (tgt := 25) hx hb dMS_puts_6 (by decide) (by omega) (by omega) (fun h21 => ?_) (fun h21 => absurd h21 (by omega))
      obtain rfl : i21 = len := by omega
      exact mp_vret hx hb hr hlk hP hD hS (f21, pl) ⟨hk, hO⟩ [0, 1, 2, 3, 4, 5] rfl rfl rfl (by omega) (by omega) dMS_puts_25
    | succ n21 ih21 =>
      intro i21 f21 pl ls H locs hm21 hk hl hO hP hD hS
      refine lv_iload hx hb dMS_puts_3 (lv_at hl 0 rfl) ?_
      refine lv_iload_n hx hb dMS_puts_5 rfl (lv_at hl 4 rfl) ?_
      refine mi_ge (tgt := 25) hx hb dMS_puts_6 (by decide) (by omega) (by omega) (fun h22 => absurd h22 (by omega)) (fun h22 => ?_)
      refine lv_aload_n hx hb dMS_puts_9 rfl (lv_at hl 1 rfl) ?_
      refine lv_aload_n hx hb dMS_puts_10 rfl (lv_at hl 2 rfl) ?_
      refine lv_iload_n hx hb dMS_puts_11 rfl (lv_at hl 3 rfl) ?_
      refine lv_iload hx hb dMS_puts_12 (lv_at hl 0 rfl) ?_
      refine mi_iadd hx hb dMS_puts_14 ?_
      refine ty_bald hx hb hK hO k_b (nxg hc0 k_b rfl) hP (vp_in_nI (by omega) (by omega)) dMS_puts_15 (fun z21 => ?_)
      refine mp_v (cx := [(h0, .inr (9, [.ref sa, .ref ta, .ref ca, .ref ra, .ref ua, .int (nI rt), .int (nI (ps + i21)), .int x3])), (sa, .inl (g.2.1 2, 25, .inr (.inl f21))), (ta, .inl (g.2.1 2, 25, .inr (.inl ft))), (ca, .inl (g.2.1 2, 5, .inr (.inl fc))), (ra, .inl (g.2.1 2, 24, .inr (.inl fr))), (ua, .inl (g.2.1 0, 25, .inl fu))]) (wr := []) hP hD hS hA [0, 1, 2, 3, 4, 5] [] rfl rfl rfl (by decide) (va_runV (As := [.int z21]) (rest := []) F (x_MS_put l g _ T xs pl hO hU  z21 h0 sa ta ca ra ua rt (ps + i21) x3 f21 ft fc fr fu (by omega) (by omega)) (cwV 1 hts (wg_app (wg_c kw_1615 (wg_c kw_1616 (wg_c kw_1617 (wg_c kw_10 wg_n)))) kw_1618) rfl rfl rfl (by decide +kernel) ⟨by decide, by decide⟩) (pp_V (en_ok g) (q0 := 0) hK hP hD hS hA hE [0, 1, 2, 3, 4, 5] rfl rfl rfl rfl) rfl rfl hl.1 rfl (lv_room (Nat.le_of_ble_eq_true rfl)) dMS_puts_16 ⟨by omega, by omega⟩) (fun  u21 H locs hu21 hP hD hS => ?_)
      obtain ⟨u22, pl⟩ := u21
      obtain ⟨hq21, hO⟩ := hu21
      have hP : va_P g.1 vcl ([(h0, .inr (9, [.ref sa, .ref ta, .ref ca, .ref ra, .ref ua, .int (nI rt), .int (nI (ps + i21 + 1)), .int x3])), (sa, .inl (g.2.1 2, 25, .inr (.inl u22))), (ta, .inl (g.2.1 2, 25, .inr (.inl ft))), (ca, .inl (g.2.1 2, 5, .inr (.inl fc))), (ra, .inl (g.2.1 2, 24, .inr (.inl fr))), (ua, .inl (g.2.1 0, 25, .inl fu))] ++ pl) _ := hP
      have hD : va_D _ ([(h0, .inr (9, [.ref sa, .ref ta, .ref ca, .ref ra, .ref ua, .int (nI rt), .int (nI (ps + i21 + 1)), .int x3])), (sa, .inl (g.2.1 2, 25, .inr (.inl u22))), (ta, .inl (g.2.1 2, 25, .inr (.inl ft))), (ca, .inl (g.2.1 2, 5, .inr (.inl fc))), (ra, .inl (g.2.1 2, 24, .inr (.inl fr))), (ua, .inl (g.2.1 0, 25, .inl fu))] ++ pl) := hD
      refine W.widen (k := 0) (n := 0) (by omega) (by omega) ?_
      refine mi_iinc (k := 0) (x := i21) (d := 1) (y := i21 + 1) (lv' := [(4, .int (nI (i21 + 1))), (0, .ref h0), (1, .ref b), (2, .int (nI at_)), (3, .int (nI len))]) hx hb dMS_puts_19 hl rfl (by decide) rfl (by decide) rfl (fun ls hl => ?_)
      refine lv_goto (tgt := 3) hx hb dMS_puts_22 (by decide) ?_
      exact ih21 (i21 + 1) u22 pl ls H locs (by omega) (fun j h9 => (hq21 j (by omega)).trans (hk j (by omega))) (lv_sub hl [0, 1, 2, 3, 4] rfl) hO hP hD hS
  exact lp21 len 0 fs pl ls _ _ (by omega) (fun _ _ => rfl) (lv_sub hl [0, 1, 2, 3, 4] rfl) hO hP hD hS
set_option maxHeartbeats 400000 in
set_option maxRecDepth 100000 in
theorem x_MS_end (l : Launch) (g : Gd) (sz : Nat) (T : Ty) (xs : List Nat) (pl : va_W) (hO : okx g T xs pl) (hU : uni T) (h0 sa ta ca ra ua rt ps : Nat) (x3 : Int32) (fs ft fc fr : Nat → Int64) (fu : Nat → Int32) (hrt : 0 < rt ∧ rt < 200) (hps : ps ≤ rt)  : Met l y_MS_end w_MS_end ({ frames := 2, cells := 0, slots := 0, locals := 45 } : Room) (va_Pc [.ref h0] (pr (en g) g.1 vcl sz ([(h0, .inr (9, [.ref sa, .ref ta, .ref ca, .ref ra, .ref ua, .int (nI rt), .int (nI ps), .int x3])), (sa, .inl (g.2.1 2, 25, .inr (.inl fs))), (ta, .inl (g.2.1 2, 25, .inr (.inl ft))), (ca, .inl (g.2.1 2, 5, .inr (.inl fc))), (ra, .inl (g.2.1 2, 24, .inr (.inl fr))), (ua, .inl (g.2.1 0, 25, .inl fu))] ++ pl))) (va_Qv (fun (u : ((Nat → Int64) × (Nat → Int64) × (Nat → Int64) × (Nat → Int64)) × va_W) => (eq25 u.1.1 (kfN fu fr 24 u.1.2.2.2) ∧ ∀ j, j ≠ ps / 8 → j ≠ (rt - 1) / 8 → u.1.2.2.2 j = fs j) ∧ okx g T xs u.2) (po g.1 vcl (va_A ([(h0, .inr (9, [.ref sa, .ref ta, .ref ca, .ref ra, .ref ua, .int (nI rt), .int (nI ps), .int x3])), (sa, .inl (g.2.1 2, 25, .inr (.inl fs))), (ta, .inl (g.2.1 2, 25, .inr (.inl ft))), (ca, .inl (g.2.1 2, 5, .inr (.inl fc))), (ra, .inl (g.2.1 2, 24, .inr (.inl fr))), (ua, .inl (g.2.1 0, 25, .inl fu))] ++ pl) sz) (fun (u : ((Nat → Int64) × (Nat → Int64) × (Nat → Int64) × (Nat → Int64)) × va_W) => [(h0, .inr (9, [.ref sa, .ref ta, .ref ca, .ref ra, .ref ua, .int (nI rt), .int (nI 0), .int x3])), (sa, .inl (g.2.1 2, 25, .inr (.inl ((u.1.1))))), (ta, .inl (g.2.1 2, 25, .inr (.inl ((u.1.2.1))))), (ca, .inl (g.2.1 2, 5, .inr (.inl ((u.1.2.2.1))))), (ra, .inl (g.2.1 2, 24, .inr (.inl fr))), (ua, .inl (g.2.1 0, 25, .inl fu))] ++ u.2)) (va_A ([(h0, .inr (9, [.ref sa, .ref ta, .ref ca, .ref ra, .ref ua, .int (nI rt), .int (nI ps), .int x3])), (sa, .inl (g.2.1 2, 25, .inr (.inl fs))), (ta, .inl (g.2.1 2, 25, .inr (.inl ft))), (ca, .inl (g.2.1 2, 5, .inr (.inl fc))), (ra, .inl (g.2.1 2, 24, .inr (.inl fr))), (ua, .inl (g.2.1 0, 25, .inl fu))] ++ pl) sz)) 0 0 (va_A ([(h0, .inr (9, [.ref sa, .ref ta, .ref ca, .ref ra, .ref ua, .int (nI rt), .int (nI ps), .int x3])), (sa, .inl (g.2.1 2, 25, .inr (.inl fs))), (ta, .inl (g.2.1 2, 25, .inr (.inl ft))), (ca, .inl (g.2.1 2, 5, .inr (.inl fc))), (ra, .inl (g.2.1 2, 24, .inr (.inl fr))), (ua, .inl (g.2.1 0, 25, .inl fu))] ++ pl) sz) := by
  refine mc_entry (cc := c_MS_end) (maxL := 1) (ret := none) (by decide) rfl (Nat.le_of_ble_eq_true rfl) ?_
  intro p e s m args below meth c ls F hr hlk hnm hsz hP hD hE hA hl
  obtain ⟨hx, hb, hml, hown, hts⟩ := id F
  have hK := hE.1
  generalize va_A ([(h0, .inr (9, [.ref sa, .ref ta, .ref ca, .ref ra, .ref ua, .int (nI rt), .int (nI ps), .int x3])), (sa, .inl (g.2.1 2, 25, .inr (.inl fs))), (ta, .inl (g.2.1 2, 25, .inr (.inl ft))), (ca, .inl (g.2.1 2, 5, .inr (.inl fc))), (ra, .inl (g.2.1 2, 24, .inr (.inl fr))), (ua, .inl (g.2.1 0, 25, .inl fu))] ++ pl) sz = A at hD hE hA ⊢
  have hS : va_S A s.heap s.heap [] := va_S.rf
  have hl : lv_has ls 1 [(0, .ref h0)] := hl
  refine lv_aload_n hx hb dMS_end_0 rfl (lv_at hl 0 rfl) ?_
  refine lv_aload_n hx hb dMS_end_1 rfl (lv_at hl 0 rfl) ?_
  refine va_get (D := g.1) (ci := 9) (C := "LatticeKeysModel$Sponge") (T := T_MS) (N := 8) hx hb hts (wg_ft i_MS) hown hK hP 0 rfl rfl 6 (by decide) (hts _ (wg_t kw_1331)) (fun _ h9 => h9) rfl dMS_end_2 ?_
  refine lv_aload_n hx hb dMS_end_5 rfl (lv_at hl 0 rfl) ?_
  refine va_get (D := g.1) (ci := 9) (C := "LatticeKeysModel$Sponge") (T := T_MS) (N := 8) hx hb hts (wg_ft i_MS) hown hK hP 0 rfl rfl 7 (by decide) (hts _ (wg_t kw_1332)) (fun _ h9 => h9) rfl dMS_end_6 ?_
  refine mp_v (cx := [(h0, .inr (9, [.ref sa, .ref ta, .ref ca, .ref ra, .ref ua, .int (nI rt), .int (nI ps), .int x3])), (sa, .inl (g.2.1 2, 25, .inr (.inl fs))), (ta, .inl (g.2.1 2, 25, .inr (.inl ft))), (ca, .inl (g.2.1 2, 5, .inr (.inl fc))), (ra, .inl (g.2.1 2, 24, .inr (.inl fr))), (ua, .inl (g.2.1 0, 25, .inl fu))]) (wr := []) hP hD hS hA [0, 1, 2, 3, 4, 5] [] rfl rfl rfl (by decide) (va_runV (As := [.int (nI ps), .int x3]) (rest := []) F (x_MS_add l g _ T xs pl hO hU  ps x3 h0 sa ta ca ra ua rt ps x3 fs ft fc fr fu (by omega)) (cwV 2 hts (wg_app (wg_c kw_1619 (wg_c kw_1621 (wg_c ks_52 (wg_c kw_10 wg_n)))) kw_1622) rfl rfl rfl (by decide +kernel) ⟨by decide, by decide⟩) (pp_V (en_ok g) (q0 := 0) hK hP hD hS hA hE [0, 1, 2, 3, 4, 5] rfl rfl rfl rfl) rfl rfl hl.1 rfl (lv_room (Nat.le_of_ble_eq_true rfl)) dMS_end_9 ⟨by omega, by omega⟩) (fun  u21 H locs hu21 hP hD hS => ?_)
  obtain ⟨u22, pl⟩ := u21
  obtain ⟨hq21, hO⟩ := hu21
  have hP : va_P g.1 vcl ([(h0, .inr (9, [.ref sa, .ref ta, .ref ca, .ref ra, .ref ua, .int (nI rt), .int (nI ps), .int x3])), (sa, .inl (g.2.1 2, 25, .inr (.inl u22))), (ta, .inl (g.2.1 2, 25, .inr (.inl ft))), (ca, .inl (g.2.1 2, 5, .inr (.inl fc))), (ra, .inl (g.2.1 2, 24, .inr (.inl fr))), (ua, .inl (g.2.1 0, 25, .inl fu))] ++ pl) _ := hP
  have hD : va_D _ ([(h0, .inr (9, [.ref sa, .ref ta, .ref ca, .ref ra, .ref ua, .int (nI rt), .int (nI ps), .int x3])), (sa, .inl (g.2.1 2, 25, .inr (.inl u22))), (ta, .inl (g.2.1 2, 25, .inr (.inl ft))), (ca, .inl (g.2.1 2, 5, .inr (.inl fc))), (ra, .inl (g.2.1 2, 24, .inr (.inl fr))), (ua, .inl (g.2.1 0, 25, .inl fu))] ++ pl) := hD
  have hq21 : ∀ j, j ≠ ps / 8 → u22 j = _ := hq21
  refine W.widen (k := 0) (n := 0) (by omega) (by omega) ?_
  refine lv_aload_n hx hb dMS_end_12 rfl (lv_at hl 0 rfl) ?_
  refine lv_aload_n hx hb dMS_end_13 rfl (lv_at hl 0 rfl) ?_
  refine va_get (D := g.1) (ci := 9) (C := "LatticeKeysModel$Sponge") (T := T_MS) (N := 8) hx hb hts (wg_ft i_MS) hown hK hP 0 rfl rfl 5 (by decide) (hts _ (wg_t kw_1330)) (fun _ h9 => h9) rfl dMS_end_14 ?_
  refine lv_iconst (v := nI 1) hx hb dMS_end_17 (by decide) ?_
  refine mi_isub hx hb dMS_end_18 (by omega) ?_
  refine lv_sipush (v := nI 128) hx hb dMS_end_19 (by decide) ?_
  refine mp_v (cx := [(h0, .inr (9, [.ref sa, .ref ta, .ref ca, .ref ra, .ref ua, .int (nI rt), .int (nI ps), .int x3])), (sa, .inl (g.2.1 2, 25, .inr (.inl u22))), (ta, .inl (g.2.1 2, 25, .inr (.inl ft))), (ca, .inl (g.2.1 2, 5, .inr (.inl fc))), (ra, .inl (g.2.1 2, 24, .inr (.inl fr))), (ua, .inl (g.2.1 0, 25, .inl fu))]) (wr := []) hP hD hS hA [0, 1, 2, 3, 4, 5] [] rfl rfl rfl (by decide) (va_runV (As := [.int (nI (rt - 1)), .int (nI 128)]) (rest := []) F (x_MS_add l g _ T xs pl hO hU  (rt - 1) (nI 128) h0 sa ta ca ra ua rt ps x3 u22 ft fc fr fu (by omega)) (cwV 2 hts (wg_app (wg_c kw_1619 (wg_c kw_1621 (wg_c ks_52 (wg_c kw_10 wg_n)))) kw_1622) rfl rfl rfl (by decide +kernel) ⟨by decide, by decide⟩) (pp_V (en_ok g) (q0 := 0) hK hP hD hS hA hE [0, 1, 2, 3, 4, 5] rfl rfl rfl rfl) rfl rfl hl.1 rfl (lv_room (Nat.le_of_ble_eq_true rfl)) dMS_end_22 ⟨by omega, by omega⟩) (fun  u23 H locs hu22 hP hD hS => ?_)
  obtain ⟨u24, pl⟩ := u23
  obtain ⟨hq22, hO⟩ := hu22
  have hP : va_P g.1 vcl ([(h0, .inr (9, [.ref sa, .ref ta, .ref ca, .ref ra, .ref ua, .int (nI rt), .int (nI ps), .int x3])), (sa, .inl (g.2.1 2, 25, .inr (.inl u24))), (ta, .inl (g.2.1 2, 25, .inr (.inl ft))), (ca, .inl (g.2.1 2, 5, .inr (.inl fc))), (ra, .inl (g.2.1 2, 24, .inr (.inl fr))), (ua, .inl (g.2.1 0, 25, .inl fu))] ++ pl) _ := hP
  have hD : va_D _ ([(h0, .inr (9, [.ref sa, .ref ta, .ref ca, .ref ra, .ref ua, .int (nI rt), .int (nI ps), .int x3])), (sa, .inl (g.2.1 2, 25, .inr (.inl u24))), (ta, .inl (g.2.1 2, 25, .inr (.inl ft))), (ca, .inl (g.2.1 2, 5, .inr (.inl fc))), (ra, .inl (g.2.1 2, 24, .inr (.inl fr))), (ua, .inl (g.2.1 0, 25, .inl fu))] ++ pl) := hD
  have hq22 : ∀ j, j ≠ (rt - 1) / 8 → u24 j = _ := hq22
  refine W.widen (k := 0) (n := 0) (by omega) (by omega) ?_
  refine lv_aload_n hx hb dMS_end_25 rfl (lv_at hl 0 rfl) ?_
  refine mp_v (cx := [(h0, .inr (9, [.ref sa, .ref ta, .ref ca, .ref ra, .ref ua, .int (nI rt), .int (nI ps), .int x3])), (sa, .inl (g.2.1 2, 25, .inr (.inl u24))), (ta, .inl (g.2.1 2, 25, .inr (.inl ft))), (ca, .inl (g.2.1 2, 5, .inr (.inl fc))), (ra, .inl (g.2.1 2, 24, .inr (.inl fr))), (ua, .inl (g.2.1 0, 25, .inl fu))]) (wr := []) hP hD hS hA [0, 1, 2, 3, 4, 5] [] rfl rfl rfl (by decide) (va_runV (As := []) (rest := []) F (x_MS_mix l g _ T xs pl hO hU  h0 sa ta ca ra ua (nI rt) (nI ps) x3 u24 ft fc fr fu) (cwV 0 hts (wg_app (wg_c kw_1624 (wg_c kw_1626 (wg_c ks_53 (wg_c kw_10 wg_n)))) kw_1627) rfl rfl rfl (by decide +kernel) ⟨by decide, by decide⟩) (pp_V (en_ok g) (q0 := 0) hK hP hD hS hA hE [0, 1, 2, 3, 4, 5] rfl rfl rfl rfl) rfl rfl hl.1 rfl (lv_room (Nat.le_of_ble_eq_true rfl)) dMS_end_26 ⟨by omega, by omega⟩) (fun  u25 H locs hu23 hP hD hS => ?_)
  obtain ⟨u26, pl⟩ := u25
  obtain ⟨hq23, hO⟩ := hu23
  obtain ⟨f21, f22, f23⟩ := u26
  have hP : va_P g.1 vcl ([(h0, .inr (9, [.ref sa, .ref ta, .ref ca, .ref ra, .ref ua, .int (nI rt), .int (nI ps), .int x3])), (sa, .inl (g.2.1 2, 25, .inr (.inl f21))), (ta, .inl (g.2.1 2, 25, .inr (.inl f22))), (ca, .inl (g.2.1 2, 5, .inr (.inl f23))), (ra, .inl (g.2.1 2, 24, .inr (.inl fr))), (ua, .inl (g.2.1 0, 25, .inl fu))] ++ pl) _ := hP
  have hD : va_D _ ([(h0, .inr (9, [.ref sa, .ref ta, .ref ca, .ref ra, .ref ua, .int (nI rt), .int (nI ps), .int x3])), (sa, .inl (g.2.1 2, 25, .inr (.inl f21))), (ta, .inl (g.2.1 2, 25, .inr (.inl f22))), (ca, .inl (g.2.1 2, 5, .inr (.inl f23))), (ra, .inl (g.2.1 2, 24, .inr (.inl fr))), (ua, .inl (g.2.1 0, 25, .inl fu))] ++ pl) := hD
  have hq23 : eq25 f21 _ := hq23
  refine W.widen (k := 0) (n := 0) (by omega) (by omega) ?_
  refine lv_aload_n hx hb dMS_end_29 rfl (lv_at hl 0 rfl) ?_
  refine lv_iconst (v := nI 0) hx hb dMS_end_30 (by decide) ?_
  refine va_put (D := g.1) (ci := 9) (v := .int (nI 0)) (ty := .int) (C := "LatticeKeysModel$Sponge") (T := T_MS) (N := 8) hx hb hts (wg_ft i_MS) ty_MS k_MS n_MS hown hK hP hD hS 0 rfl rfl 6 (by decide) (hts _ (wg_t kw_1331)) (fun _ h9 => h9) rfl (by decide +kernel) rfl rfl (Nat.le_of_ble_eq_true rfl) dMS_end_31 (fun H locs hP hD hS => ?_)
  have hP : va_P g.1 vcl ([(h0, .inr (9, [.ref sa, .ref ta, .ref ca, .ref ra, .ref ua, .int (nI rt), .int (nI 0), .int x3])), (sa, .inl (g.2.1 2, 25, .inr (.inl f21))), (ta, .inl (g.2.1 2, 25, .inr (.inl f22))), (ca, .inl (g.2.1 2, 5, .inr (.inl f23))), (ra, .inl (g.2.1 2, 24, .inr (.inl fr))), (ua, .inl (g.2.1 0, 25, .inl fu))] ++ pl) _ := hP
  have hD : va_D _ ([(h0, .inr (9, [.ref sa, .ref ta, .ref ca, .ref ra, .ref ua, .int (nI rt), .int (nI 0), .int x3])), (sa, .inl (g.2.1 2, 25, .inr (.inl f21))), (ta, .inl (g.2.1 2, 25, .inr (.inl f22))), (ca, .inl (g.2.1 2, 5, .inr (.inl f23))), (ra, .inl (g.2.1 2, 24, .inr (.inl fr))), (ua, .inl (g.2.1 0, 25, .inl fu))] ++ pl) := hD
  exact mp_vret hx hb hr hlk hP hD hS ((f21, f22, f23, u24), pl) ⟨⟨hq23, fun j h8 h9 => (hq22 j h9).trans (hq21 j h8)⟩, hO⟩ [0, 1, 2, 3, 4, 5] rfl rfl rfl (by omega) (by omega) dMS_end_34
set_option maxHeartbeats 400000 in
set_option maxRecDepth 100000 in
theorem x_MS_next (l : Launch) (g : Gd) (sz : Nat) (T : Ty) (xs : List Nat) (pl : va_W) (hO : okx g T xs pl) (hU : uni T) (h0 sa ta ca ra ua rt ps : Nat) (x3 : Int32) (fs ft fc fr : Nat → Int64) (fu : Nat → Int32) (hrt : 0 < rt ∧ rt < 200) (hps : ps ≤ rt)  : Met l y_MS_next w_MS_next ({ frames := 2, cells := 0, slots := 0, locals := 45 } : Room) (va_Pc [.ref h0] (pr (en g) g.1 vcl sz ([(h0, .inr (9, [.ref sa, .ref ta, .ref ca, .ref ra, .ref ua, .int (nI rt), .int (nI ps), .int x3])), (sa, .inl (g.2.1 2, 25, .inr (.inl fs))), (ta, .inl (g.2.1 2, 25, .inr (.inl ft))), (ca, .inl (g.2.1 2, 5, .inr (.inl fc))), (ra, .inl (g.2.1 2, 24, .inr (.inl fr))), (ua, .inl (g.2.1 0, 25, .inl fu))] ++ pl))) (va_Qi (fun (r : Int32) (u : (Nat × (Nat → Int64) × (Nat → Int64) × (Nat → Int64)) × va_W) => (nxt fu fr rt ps fs u.1.1 u.1.2.1 ∧ u.1.1 ≤ rt ∧ ∃ z : Nat, z < 256 ∧ r = nI z ∧ (u.1.2.1 ((u.1.1 - 1) / 8) = 0 → z = 0)) ∧ okx g T xs u.2) (po g.1 vcl (va_A ([(h0, .inr (9, [.ref sa, .ref ta, .ref ca, .ref ra, .ref ua, .int (nI rt), .int (nI ps), .int x3])), (sa, .inl (g.2.1 2, 25, .inr (.inl fs))), (ta, .inl (g.2.1 2, 25, .inr (.inl ft))), (ca, .inl (g.2.1 2, 5, .inr (.inl fc))), (ra, .inl (g.2.1 2, 24, .inr (.inl fr))), (ua, .inl (g.2.1 0, 25, .inl fu))] ++ pl) sz) (fun (u : (Nat × (Nat → Int64) × (Nat → Int64) × (Nat → Int64)) × va_W) => [(h0, .inr (9, [.ref sa, .ref ta, .ref ca, .ref ra, .ref ua, .int (nI rt), .int (nI (u.1.1)), .int x3])), (sa, .inl (g.2.1 2, 25, .inr (.inl ((u.1.2.1))))), (ta, .inl (g.2.1 2, 25, .inr (.inl ((u.1.2.2.1))))), (ca, .inl (g.2.1 2, 5, .inr (.inl ((u.1.2.2.2))))), (ra, .inl (g.2.1 2, 24, .inr (.inl fr))), (ua, .inl (g.2.1 0, 25, .inl fu))] ++ u.2)) (va_A ([(h0, .inr (9, [.ref sa, .ref ta, .ref ca, .ref ra, .ref ua, .int (nI rt), .int (nI ps), .int x3])), (sa, .inl (g.2.1 2, 25, .inr (.inl fs))), (ta, .inl (g.2.1 2, 25, .inr (.inl ft))), (ca, .inl (g.2.1 2, 5, .inr (.inl fc))), (ra, .inl (g.2.1 2, 24, .inr (.inl fr))), (ua, .inl (g.2.1 0, 25, .inl fu))] ++ pl) sz)) 0 0 (va_A ([(h0, .inr (9, [.ref sa, .ref ta, .ref ca, .ref ra, .ref ua, .int (nI rt), .int (nI ps), .int x3])), (sa, .inl (g.2.1 2, 25, .inr (.inl fs))), (ta, .inl (g.2.1 2, 25, .inr (.inl ft))), (ca, .inl (g.2.1 2, 5, .inr (.inl fc))), (ra, .inl (g.2.1 2, 24, .inr (.inl fr))), (ua, .inl (g.2.1 0, 25, .inl fu))] ++ pl) sz) := by
  refine mc_entry (cc := c_MS_next) (maxL := 2) (ret := (some .int)) (by decide) rfl (Nat.le_of_ble_eq_true rfl) ?_
  intro p e s m args below meth c ls F hr hlk hnm hsz hP hD hE hA hl
  obtain ⟨hx, hb, hml, hown, hts⟩ := id F
  have hK := hE.1
  generalize va_A ([(h0, .inr (9, [.ref sa, .ref ta, .ref ca, .ref ra, .ref ua, .int (nI rt), .int (nI ps), .int x3])), (sa, .inl (g.2.1 2, 25, .inr (.inl fs))), (ta, .inl (g.2.1 2, 25, .inr (.inl ft))), (ca, .inl (g.2.1 2, 5, .inr (.inl fc))), (ra, .inl (g.2.1 2, 24, .inr (.inl fr))), (ua, .inl (g.2.1 0, 25, .inl fu))] ++ pl) sz = A at hD hE hA ⊢
  have hS : va_S A s.heap s.heap [] := va_S.rf
  have hl : lv_has ls 2 [(0, .ref h0)] := hl
  refine lv_aload_n hx hb dMS_next_0 rfl (lv_at hl 0 rfl) ?_
  refine va_get (D := g.1) (ci := 9) (C := "LatticeKeysModel$Sponge") (T := T_MS) (N := 8) hx hb hts (wg_ft i_MS) hown hK hP 0 rfl rfl 6 (by decide) (hts _ (wg_t kw_1331)) (fun _ h9 => h9) rfl dMS_next_1 ?_
  refine lv_aload_n hx hb dMS_next_4 rfl (lv_at hl 0 rfl) ?_
  refine va_get (D := g.1) (ci := 9) (C := "LatticeKeysModel$Sponge") (T := T_MS) (N := 8) hx hb hts (wg_ft i_MS) hown hK hP 0 rfl rfl 5 (by decide) (hts _ (wg_t kw_1330)) (fun _ h9 => h9) rfl dMS_next_5 ?_
  refine mi_ne (tgt := 20) hx hb dMS_next_8 (by decide) (by omega) (by omega) (fun h21 => ?_) (fun h21 => ?_)
  · refine lv_aload_n hx hb dMS_next_20 rfl (lv_at hl 0 rfl) ?_
    refine va_get (D := g.1) (ci := 9) (C := "LatticeKeysModel$Sponge") (T := T_MS) (N := 8) hx hb hts (wg_ft i_MS) hown hK hP 0 rfl rfl 0 (by decide) (hts _ (wg_t kw_1325)) (fun _ h9 => h9) rfl dMS_next_21 ?_
    refine lv_aload_n hx hb dMS_next_24 rfl (lv_at hl 0 rfl) ?_
    refine va_get (D := g.1) (ci := 9) (C := "LatticeKeysModel$Sponge") (T := T_MS) (N := 8) hx hb hts (wg_ft i_MS) hown hK hP 0 rfl rfl 6 (by decide) (hts _ (wg_t kw_1331)) (fun _ h9 => h9) rfl dMS_next_25 ?_
    refine lv_bipush (v := nI 8) hx hb dMS_next_28 (by decide) ?_
    refine mi_idiv hx hb dMS_next_30 (by omega) (by omega) (by omega) ?_
    refine mp_lald hx hb hK hP 1 2 rfl rfl (by omega) (by decide) dMS_next_31 ?_
    refine lv_bipush (v := nI 8) hx hb dMS_next_32 (by decide) ?_
    refine lv_aload_n hx hb dMS_next_34 rfl (lv_at hl 0 rfl) ?_
    refine va_get (D := g.1) (ci := 9) (C := "LatticeKeysModel$Sponge") (T := T_MS) (N := 8) hx hb hts (wg_ft i_MS) hown hK hP 0 rfl rfl 6 (by decide) (hts _ (wg_t kw_1331)) (fun _ h9 => h9) rfl dMS_next_35 ?_
    refine lv_bipush (v := nI 8) hx hb dMS_next_38 (by decide) ?_
    refine mi_irem hx hb dMS_next_40 (by omega) (by omega) (by omega) ?_
    refine mi_imul hx hb dMS_next_41 ?_
    refine lv_lushr hx hb dMS_next_42 rfl ?_
    refine ml_as2 (fun ysh hsh => ?_)
    refine lv_l2i (v := Int64.toInt32 ysh) hx hb dMS_next_43 rfl ?_
    refine lv_sipush (v := nI 255) hx hb dMS_next_44 (by decide) ?_
    refine mi_iandE hx hb 8 dMS_next_47 (by decide) (fun zb hzb ezb => ?_)
    have hzb : zb < 256 := hzb
    have h0b : (fs (ps / 8)) = 0 → zb = 0 := fun h9 => by_zero h9 hsh hzb ezb
    refine lv_istore_n (lv' := [(1, .int (nI zb)), (0, .ref h0)]) hx hb dMS_next_48 rfl hl (by decide) rfl (fun ls hl => ?_)
    refine lv_aload_n hx hb dMS_next_49 rfl (lv_at hl 1 rfl) ?_
    refine lv_dup hx hb dMS_next_50 rfl ?_
    refine va_get (D := g.1) (ci := 9) (C := "LatticeKeysModel$Sponge") (T := T_MS) (N := 8) hx hb hts (wg_ft i_MS) hown hK hP 0 rfl rfl 6 (by decide) (hts _ (wg_t kw_1331)) (fun _ h9 => h9) rfl dMS_next_51 ?_
    refine lv_iconst (v := nI 1) hx hb dMS_next_54 (by decide) ?_
    refine mi_iadd hx hb dMS_next_55 ?_
    refine va_put (D := g.1) (ci := 9) (v := .int (nI (ps + 1))) (ty := .int) (C := "LatticeKeysModel$Sponge") (T := T_MS) (N := 8) hx hb hts (wg_ft i_MS) ty_MS k_MS n_MS hown hK hP hD hS 0 rfl rfl 6 (by decide) (hts _ (wg_t kw_1331)) (fun _ h9 => h9) rfl (by decide +kernel) rfl rfl (Nat.le_of_ble_eq_true rfl) dMS_next_56 (fun H locs hP hD hS => ?_)
    have hP : va_P g.1 vcl ([(h0, .inr (9, [.ref sa, .ref ta, .ref ca, .ref ra, .ref ua, .int (nI rt), .int (nI (ps + 1)), .int x3])), (sa, .inl (g.2.1 2, 25, .inr (.inl fs))), (ta, .inl (g.2.1 2, 25, .inr (.inl ft))), (ca, .inl (g.2.1 2, 5, .inr (.inl fc))), (ra, .inl (g.2.1 2, 24, .inr (.inl fr))), (ua, .inl (g.2.1 0, 25, .inl fu))] ++ pl) _ := hP
    have hD : va_D _ ([(h0, .inr (9, [.ref sa, .ref ta, .ref ca, .ref ra, .ref ua, .int (nI rt), .int (nI (ps + 1)), .int x3])), (sa, .inl (g.2.1 2, 25, .inr (.inl fs))), (ta, .inl (g.2.1 2, 25, .inr (.inl ft))), (ca, .inl (g.2.1 2, 5, .inr (.inl fc))), (ra, .inl (g.2.1 2, 24, .inr (.inl fr))), (ua, .inl (g.2.1 0, 25, .inl fu))] ++ pl) := hD
    refine lv_iload_n hx hb dMS_next_59 rfl (lv_at hl 0 rfl) ?_
    exact mp_iret hx hb hr hlk hP hD hS ((ps + 1, fs, ft, fc), pl) ⟨⟨(Or.inl ⟨by omega, rfl, rfl⟩), (by show ps + 1 ≤ rt; omega), zb, by omega, rfl, (by show fs ((ps + 1 - 1) / 8) = 0 → zb = 0; exact h0b)⟩, hO⟩ [0, 1, 2, 3, 4, 5] rfl rfl rfl (by omega) (by omega) dMS_next_60
  · refine lv_aload_n hx hb dMS_next_11 rfl (lv_at hl 0 rfl) ?_
    refine mp_v (cx := [(h0, .inr (9, [.ref sa, .ref ta, .ref ca, .ref ra, .ref ua, .int (nI rt), .int (nI ps), .int x3])), (sa, .inl (g.2.1 2, 25, .inr (.inl fs))), (ta, .inl (g.2.1 2, 25, .inr (.inl ft))), (ca, .inl (g.2.1 2, 5, .inr (.inl fc))), (ra, .inl (g.2.1 2, 24, .inr (.inl fr))), (ua, .inl (g.2.1 0, 25, .inl fu))]) (wr := []) hP hD hS hA [0, 1, 2, 3, 4, 5] [] rfl rfl rfl (by decide) (va_runV (As := []) (rest := []) F (x_MS_mix l g _ T xs pl hO hU  h0 sa ta ca ra ua (nI rt) (nI ps) x3 fs ft fc fr fu) (cwV 0 hts (wg_app (wg_c kw_1624 (wg_c kw_1626 (wg_c ks_53 (wg_c kw_10 wg_n)))) kw_1627) rfl rfl rfl (by decide +kernel) ⟨by decide, by decide⟩) (pp_V (en_ok g) (q0 := 0) hK hP hD hS hA hE [0, 1, 2, 3, 4, 5] rfl rfl rfl rfl) rfl rfl hl.1 rfl (lv_room (Nat.le_of_ble_eq_true rfl)) dMS_next_12 ⟨by omega, by omega⟩) (fun  u21 H locs hu21 hP hD hS => ?_)
    obtain ⟨u22, pl⟩ := u21
    obtain ⟨hq21, hO⟩ := hu21
    obtain ⟨f21, f22, f23⟩ := u22
    have hP : va_P g.1 vcl ([(h0, .inr (9, [.ref sa, .ref ta, .ref ca, .ref ra, .ref ua, .int (nI rt), .int (nI ps), .int x3])), (sa, .inl (g.2.1 2, 25, .inr (.inl f21))), (ta, .inl (g.2.1 2, 25, .inr (.inl f22))), (ca, .inl (g.2.1 2, 5, .inr (.inl f23))), (ra, .inl (g.2.1 2, 24, .inr (.inl fr))), (ua, .inl (g.2.1 0, 25, .inl fu))] ++ pl) _ := hP
    have hD : va_D _ ([(h0, .inr (9, [.ref sa, .ref ta, .ref ca, .ref ra, .ref ua, .int (nI rt), .int (nI ps), .int x3])), (sa, .inl (g.2.1 2, 25, .inr (.inl f21))), (ta, .inl (g.2.1 2, 25, .inr (.inl f22))), (ca, .inl (g.2.1 2, 5, .inr (.inl f23))), (ra, .inl (g.2.1 2, 24, .inr (.inl fr))), (ua, .inl (g.2.1 0, 25, .inl fu))] ++ pl) := hD
    have hq21 : eq25 f21 _ := hq21
    refine W.widen (k := 0) (n := 0) (by omega) (by omega) ?_
    refine lv_aload_n hx hb dMS_next_15 rfl (lv_at hl 0 rfl) ?_
    refine lv_iconst (v := nI 0) hx hb dMS_next_16 (by decide) ?_
    refine va_put (D := g.1) (ci := 9) (v := .int (nI 0)) (ty := .int) (C := "LatticeKeysModel$Sponge") (T := T_MS) (N := 8) hx hb hts (wg_ft i_MS) ty_MS k_MS n_MS hown hK hP hD hS 0 rfl rfl 6 (by decide) (hts _ (wg_t kw_1331)) (fun _ h9 => h9) rfl (by decide +kernel) rfl rfl (Nat.le_of_ble_eq_true rfl) dMS_next_17 (fun H locs hP hD hS => ?_)
    have hP : va_P g.1 vcl ([(h0, .inr (9, [.ref sa, .ref ta, .ref ca, .ref ra, .ref ua, .int (nI rt), .int (nI 0), .int x3])), (sa, .inl (g.2.1 2, 25, .inr (.inl f21))), (ta, .inl (g.2.1 2, 25, .inr (.inl f22))), (ca, .inl (g.2.1 2, 5, .inr (.inl f23))), (ra, .inl (g.2.1 2, 24, .inr (.inl fr))), (ua, .inl (g.2.1 0, 25, .inl fu))] ++ pl) _ := hP
    have hD : va_D _ ([(h0, .inr (9, [.ref sa, .ref ta, .ref ca, .ref ra, .ref ua, .int (nI rt), .int (nI 0), .int x3])), (sa, .inl (g.2.1 2, 25, .inr (.inl f21))), (ta, .inl (g.2.1 2, 25, .inr (.inl f22))), (ca, .inl (g.2.1 2, 5, .inr (.inl f23))), (ra, .inl (g.2.1 2, 24, .inr (.inl fr))), (ua, .inl (g.2.1 0, 25, .inl fu))] ++ pl) := hD
    refine lv_aload_n hx hb dMS_next_20 rfl (lv_at hl 0 rfl) ?_
    refine va_get (D := g.1) (ci := 9) (C := "LatticeKeysModel$Sponge") (T := T_MS) (N := 8) hx hb hts (wg_ft i_MS) hown hK hP 0 rfl rfl 0 (by decide) (hts _ (wg_t kw_1325)) (fun _ h9 => h9) rfl dMS_next_21 ?_
    refine lv_aload_n hx hb dMS_next_24 rfl (lv_at hl 0 rfl) ?_
    refine va_get (D := g.1) (ci := 9) (C := "LatticeKeysModel$Sponge") (T := T_MS) (N := 8) hx hb hts (wg_ft i_MS) hown hK hP 0 rfl rfl 6 (by decide) (hts _ (wg_t kw_1331)) (fun _ h9 => h9) rfl dMS_next_25 ?_
    refine lv_bipush (v := nI 8) hx hb dMS_next_28 (by decide) ?_
    refine mi_idiv hx hb dMS_next_30 (by omega) (by omega) (by omega) ?_
    refine mi_as (show nI (0 / 8) = nI 0 from rfl) ?_
    refine mp_lald hx hb hK hP 1 2 rfl rfl (by omega) (by decide) dMS_next_31 ?_
    refine lv_bipush (v := nI 8) hx hb dMS_next_32 (by decide) ?_
    refine lv_aload_n hx hb dMS_next_34 rfl (lv_at hl 0 rfl) ?_
    refine va_get (D := g.1) (ci := 9) (C := "LatticeKeysModel$Sponge") (T := T_MS) (N := 8) hx hb hts (wg_ft i_MS) hown hK hP 0 rfl rfl 6 (by decide) (hts _ (wg_t kw_1331)) (fun _ h9 => h9) rfl dMS_next_35 ?_
    refine lv_bipush (v := nI 8) hx hb dMS_next_38 (by decide) ?_
    refine mi_irem hx hb dMS_next_40 (by omega) (by omega) (by omega) ?_
    refine mi_as (show nI (0 % 8) = nI 0 from rfl) ?_
    refine mi_imul hx hb dMS_next_41 ?_
    refine mi_as (show nI (8 * 0) = nI 0 from rfl) ?_
    refine lv_lushr hx hb dMS_next_42 rfl ?_
    refine ml_as2 (fun ysh hsh => ?_)
    refine lv_l2i (v := Int64.toInt32 ysh) hx hb dMS_next_43 rfl ?_
    refine lv_sipush (v := nI 255) hx hb dMS_next_44 (by decide) ?_
    refine mi_iandE hx hb 8 dMS_next_47 (by decide) (fun zb hzb ezb => ?_)
    have hzb : zb < 256 := hzb
    have h0b : (f21 0) = 0 → zb = 0 := fun h9 => by_zero h9 hsh hzb ezb
    refine lv_istore_n (lv' := [(1, .int (nI zb)), (0, .ref h0)]) hx hb dMS_next_48 rfl hl (by decide) rfl (fun ls hl => ?_)
    refine lv_aload_n hx hb dMS_next_49 rfl (lv_at hl 1 rfl) ?_
    refine lv_dup hx hb dMS_next_50 rfl ?_
    refine va_get (D := g.1) (ci := 9) (C := "LatticeKeysModel$Sponge") (T := T_MS) (N := 8) hx hb hts (wg_ft i_MS) hown hK hP 0 rfl rfl 6 (by decide) (hts _ (wg_t kw_1331)) (fun _ h9 => h9) rfl dMS_next_51 ?_
    refine lv_iconst (v := nI 1) hx hb dMS_next_54 (by decide) ?_
    refine mi_iadd hx hb dMS_next_55 ?_
    refine mi_as (show nI (0 + 1) = nI 1 from rfl) ?_
    refine va_put (D := g.1) (ci := 9) (v := .int (nI 1)) (ty := .int) (C := "LatticeKeysModel$Sponge") (T := T_MS) (N := 8) hx hb hts (wg_ft i_MS) ty_MS k_MS n_MS hown hK hP hD hS 0 rfl rfl 6 (by decide) (hts _ (wg_t kw_1331)) (fun _ h9 => h9) rfl (by decide +kernel) rfl rfl (Nat.le_of_ble_eq_true rfl) dMS_next_56 (fun H locs hP hD hS => ?_)
    have hP : va_P g.1 vcl ([(h0, .inr (9, [.ref sa, .ref ta, .ref ca, .ref ra, .ref ua, .int (nI rt), .int (nI 1), .int x3])), (sa, .inl (g.2.1 2, 25, .inr (.inl f21))), (ta, .inl (g.2.1 2, 25, .inr (.inl f22))), (ca, .inl (g.2.1 2, 5, .inr (.inl f23))), (ra, .inl (g.2.1 2, 24, .inr (.inl fr))), (ua, .inl (g.2.1 0, 25, .inl fu))] ++ pl) _ := hP
    have hD : va_D _ ([(h0, .inr (9, [.ref sa, .ref ta, .ref ca, .ref ra, .ref ua, .int (nI rt), .int (nI 1), .int x3])), (sa, .inl (g.2.1 2, 25, .inr (.inl f21))), (ta, .inl (g.2.1 2, 25, .inr (.inl f22))), (ca, .inl (g.2.1 2, 5, .inr (.inl f23))), (ra, .inl (g.2.1 2, 24, .inr (.inl fr))), (ua, .inl (g.2.1 0, 25, .inl fu))] ++ pl) := hD
    refine lv_iload_n hx hb dMS_next_59 rfl (lv_at hl 0 rfl) ?_
    exact mp_iret hx hb hr hlk hP hD hS ((1, f21, f22, f23), pl) ⟨⟨(Or.inr ⟨by omega, rfl, hq21⟩), (by show 1 ≤ rt; omega), zb, by omega, rfl, (by show f21 ((1 - 1) / 8) = 0 → zb = 0; exact h0b)⟩, hO⟩ [0, 1, 2, 3, 4, 5] rfl rfl rfl (by omega) (by omega) dMS_next_60
