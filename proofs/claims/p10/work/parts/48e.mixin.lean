set_option linter.all false
set_option maxHeartbeats 400000 in
set_option maxRecDepth 100000 in
theorem x_AR_fillJ (l : Launch) (g : Gd) (sz : Nat) (T : Ty) (xs : List Nat) (pl : va_W) (hO : okx g T xs pl) (hU : uni T) (v : Int64) (ln : Nat) (f : Nat → Int64)  : Met l y_AR_fillJ w_AR_fillJ ({ frames := 0, cells := 0, slots := 0, locals := 0 } : Room) (va_Pc [.ref ln, .long v] (pr (en g) g.1 vcl sz (([(ln, .inl (g.2.1 2, 25, .inr (.inl f)))] : va_W) ++ pl))) (va_Qv (fun (u : va_W) => (True) ∧ okx g T xs u) (po g.1 vcl (va_A (([(ln, .inl (g.2.1 2, 25, .inr (.inl f)))] : va_W) ++ pl) sz) (fun (u : va_W) => ([(ln, .inl (g.2.1 2, 25, .inr (.inl ((fun _ => v)))))] : va_W) ++ u)) (va_A (([(ln, .inl (g.2.1 2, 25, .inr (.inl f)))] : va_W) ++ pl) sz)) 0 0 (va_A (([(ln, .inl (g.2.1 2, 25, .inr (.inl f)))] : va_W) ++ pl) sz) := by
  refine mc_entry (cc := c_AR_fillJ) (maxL := 5) (ret := none) (by decide) rfl (Nat.le_of_ble_eq_true rfl) ?_
  intro p e s m args below meth c ls F hr hlk hnm hsz hP hD hE hA hl
  obtain ⟨hx, hb, hml, hown, hts⟩ := id F
  have hK := hE.1
  generalize va_A (([(ln, .inl (g.2.1 2, 25, .inr (.inl f)))] : va_W) ++ pl) sz = A at hD hE hA ⊢
  have hS : va_S A s.heap s.heap [] := va_S.rf
  have hl : lv_has ls 5 [(0, .ref ln), (1, .long v)] := hl
  refine lv_iconst (v := nI 0) hx hb dAR_fillJ_0 (by decide) ?_
  refine lv_istore_n (lv' := [(3, .int (nI 0)), (0, .ref ln), (1, .long v)]) hx hb dAR_fillJ_1 rfl hl (by decide) rfl (fun ls hl => ?_)
  refine lv_aload_n hx hb dAR_fillJ_2 rfl (lv_at hl 1 rfl) ?_
  refine va_alen (v := nI 25) hx hb hK hP 0 2 rfl rfl rfl dAR_fillJ_3 ?_
  refine lv_istore (lv' := [(4, .int (nI 25)), (3, .int (nI 0)), (0, .ref ln), (1, .long v)]) hx hb dAR_fillJ_4 hl (by decide) rfl (fun ls hl => ?_)
  have lp21 : ∀ (n21 : Nat) (i21 : Nat) (f21 : Nat → Int64) (pl : va_W) (ls : Array Slot) (H : Heap) (locs : List Loc), n21 + i21 = 25 → (∀ j, j < i21 → f21 j = (fun _ => v) j) → lv_has ls 5 [(4, .int (nI 25)), (3, .int (nI i21)), (0, .ref ln), (1, .long v)] → okx g T xs pl → va_P g.1 vcl (([(ln, .inl (g.2.1 2, 25, .inr (.inl f21)))] : va_W) ++ pl) H → va_D A (([(ln, .inl (g.2.1 2, 25, .inr (.inl f21)))] : va_W) ++ pl) → va_S A s.heap H locs → W p l e ({ frames := 0, cells := 0, slots := 0, locals := 0 } : Room) s m args below meth c H locs 0 0 (MQ below (va_Qv (fun (u : va_W) => (True) ∧ okx g T xs u) (po g.1 vcl A (fun (u : va_W) => ([(ln, .inl (g.2.1 2, 25, .inr (.inl ((fun _ => v)))))] : va_W) ++ u)) A) args s 0 0 A) (F0 m 6 ls []) := by
    intro n21
    induction n21 with
    | zero =>
      intro i21 f21 pl ls H locs hm21 hfl hl hO hP hD hS
      refine lv_iload_n hx hb dAR_fillJ_6 rfl (lv_at hl 1 rfl) ?_
      refine lv_iload hx hb dAR_fillJ_7 (lv_at hl 0 rfl) ?_
      refine mi_ge (tgt := 22) hx hb dAR_fillJ_9 (by decide) (by omega) (by omega) (fun h21 => ?_) (fun h21 => absurd h21 (by omega))
      have hP := pc_l hP 0 (fun _ => v) rfl (fun j h9 => hfl j (by omega))
      have hD := dc_e hD 0 (.inl (g.2.1 2, 25, .inr (.inl (fun _ => v)))) rfl
      have hP : va_P g.1 vcl (([(ln, .inl (g.2.1 2, 25, .inr (.inl ((fun _ => v)))))] : va_W) ++ pl) _ := hP
      have hD : va_D _ (([(ln, .inl (g.2.1 2, 25, .inr (.inl ((fun _ => v)))))] : va_W) ++ pl) := hD
      exact mp_vret hx hb hr hlk hP hD hS pl ⟨trivial, hO⟩ [0] rfl rfl rfl (by omega) (by omega) dAR_fillJ_22
    | succ n21 ih21 =>
      intro i21 f21 pl ls H locs hm21 hfl hl hO hP hD hS
      refine lv_iload_n hx hb dAR_fillJ_6 rfl (lv_at hl 1 rfl) ?_
      refine lv_iload hx hb dAR_fillJ_7 (lv_at hl 0 rfl) ?_
      refine mi_ge (tgt := 22) hx hb dAR_fillJ_9 (by decide) (by omega) (by omega) (fun h22 => absurd h22 (by omega)) (fun h22 => ?_)
      refine lv_aload_n hx hb dAR_fillJ_12 rfl (lv_at hl 2 rfl) ?_
      refine lv_iload_n hx hb dAR_fillJ_13 rfl (lv_at hl 1 rfl) ?_
      refine lv_lload_n hx hb dAR_fillJ_14 rfl (lv_at hl 3 rfl) ?_
      refine mp_last hx hb hK hP hD hS 0 2 rfl rfl (by omega) (by decide) dAR_fillJ_15 (fun H locs hP hD hS => ?_)
      have hP : va_P g.1 vcl (([(ln, .inl (g.2.1 2, 25, .inr (.inl ((vp_updL f21 i21 v)))))] : va_W) ++ pl) _ := hP
      have hD : va_D _ (([(ln, .inl (g.2.1 2, 25, .inr (.inl ((vp_updL f21 i21 v)))))] : va_W) ++ pl) := hD
      refine mi_iinc (k := 1) (x := i21) (d := 1) (y := i21 + 1) (lv' := [(3, .int (nI (i21 + 1))), (4, .int (nI 25)), (0, .ref ln), (1, .long v)]) hx hb dAR_fillJ_16 hl rfl (by decide) rfl (by decide) rfl (fun ls hl => ?_)
      refine lv_goto (tgt := 6) hx hb dAR_fillJ_19 (by decide) ?_
      exact ih21 (i21 + 1) (vp_updL f21 i21 v) pl ls H locs (by omega) (up_step hfl rfl) (lv_sub hl [1, 0, 2, 3] rfl) hO hP hD hS
  exact lp21 25 0 f pl ls _ _ (by omega) (fun j h9 => absurd h9 (Nat.not_lt_zero _)) (lv_sub hl [0, 1, 2, 3] rfl) hO hP hD hS
set_option maxHeartbeats 400000 in
set_option maxRecDepth 100000 in
theorem x_SP_mixIn (l : Launch) (g : Gd) (sz : Nat) (T : Ty) (xs : List Nat) (pl : va_W) (hO : okx g T xs pl) (hU : uni T) (k : Nat) (v : Int32) (h0 ln : Nat) (x1 x2 x3 : Int32) (f : Nat → Int64) (hk : k < 200)  : Met l y_SP_mixIn w_SP_mixIn ({ frames := 0, cells := 0, slots := 0, locals := 0 } : Room) (va_Pc [.ref h0, .int (nI k), .int v] (pr (en g) g.1 vcl sz (([(h0, .inr (3, [.ref ln, .int x1, .int x2, .int x3])), (ln, .inl (g.2.1 2, 25, .inr (.inl f)))] : va_W) ++ pl))) (va_Qv (fun (u : va_W) => (True) ∧ okx g T xs u) (po g.1 vcl (va_A (([(h0, .inr (3, [.ref ln, .int x1, .int x2, .int x3])), (ln, .inl (g.2.1 2, 25, .inr (.inl f)))] : va_W) ++ pl) sz) (fun (u : va_W) => ([(h0, .inr (3, [.ref ln, .int x1, .int x2, .int x3])), (ln, .inl (g.2.1 2, 25, .inr (.inl ((mxB f k v)))))] : va_W) ++ u)) (va_A (([(h0, .inr (3, [.ref ln, .int x1, .int x2, .int x3])), (ln, .inl (g.2.1 2, 25, .inr (.inl f)))] : va_W) ++ pl) sz)) 0 0 (va_A (([(h0, .inr (3, [.ref ln, .int x1, .int x2, .int x3])), (ln, .inl (g.2.1 2, 25, .inr (.inl f)))] : va_W) ++ pl) sz) := by
  refine mc_entry (cc := c_SP_mixIn) (maxL := 3) (ret := none) (by decide) rfl (Nat.le_of_ble_eq_true rfl) ?_
  intro p e s m args below meth c ls F hr hlk hnm hsz hP hD hE hA hl
  obtain ⟨hx, hb, hml, hown, hts⟩ := id F
  have hK := hE.1
  generalize va_A (([(h0, .inr (3, [.ref ln, .int x1, .int x2, .int x3])), (ln, .inl (g.2.1 2, 25, .inr (.inl f)))] : va_W) ++ pl) sz = A at hD hE hA ⊢
  have hS : va_S A s.heap s.heap [] := va_S.rf
  have hl : lv_has ls 3 [(0, .ref h0), (1, .int (nI k)), (2, .int v)] := hl
  refine lv_aload_n hx hb dSP_mixIn_0 rfl (lv_at hl 0 rfl) ?_
  refine va_get (D := g.1) (ci := 3) (C := "LatticeKeys$Sponge") (T := T_SP) (N := 4) hx hb hts (wg_ft i_SP) hown hK hP 0 rfl rfl 0 (by decide) (hts _ (wg_t kw_59)) (fun _ h9 => h9) rfl dSP_mixIn_1 ?_
  refine lv_iload_n hx hb dSP_mixIn_4 rfl (lv_at hl 1 rfl) ?_
  refine lv_iconst (v := nI 3) hx hb dSP_mixIn_5 (by decide) ?_
  refine mi_ishr hx hb dSP_mixIn_6 (by omega) (by decide) ?_
  refine mi_as (show nI (k / 2 ^ 3) = nI (k / 8) from rfl) ?_
  refine lv_dup2_11 hx hb dSP_mixIn_7 rfl rfl ?_
  refine mp_lald hx hb hK hP 1 2 rfl rfl (by omega) (by decide) dSP_mixIn_8 ?_
  refine lv_iload_n hx hb dSP_mixIn_9 rfl (lv_at hl 2 rfl) ?_
  refine lv_i2l hx hb dSP_mixIn_10 rfl ?_
  refine lv_ldc2 (v := (255)) hx hb hown (hts _ (wg_t kw_597)) dSP_mixIn_11 ?_
  refine lv_land hx hb dSP_mixIn_14 ?_
  refine lv_iload_n hx hb dSP_mixIn_15 rfl (lv_at hl 1 rfl) ?_
  refine lv_bipush (v := nI 7) hx hb dSP_mixIn_16 (by decide) ?_
  refine lv_iand hx hb dSP_mixIn_18 ?_
  refine mi_as (nI_and7 (k := k) (by omega)) ?_
  refine lv_iconst (v := nI 3) hx hb dSP_mixIn_19 (by decide) ?_
  refine mi_ishl hx hb dSP_mixIn_20 (by omega) (by decide) ?_
  refine mi_as (show nI ((k % 8) * 2 ^ 3) = nI (8 * (k % 8)) from congrArg nI (Nat.mul_comm _ 8)) ?_
  refine lv_lshl hx hb dSP_mixIn_21 rfl ?_
  refine lv_lxor hx hb dSP_mixIn_22 ?_
  refine mp_last hx hb hK hP hD hS 1 2 rfl rfl (by omega) (by decide) dSP_mixIn_23 (fun H locs hP hD hS => ?_)
  have hP : va_P g.1 vcl (([(h0, .inr (3, [.ref ln, .int x1, .int x2, .int x3])), (ln, .inl (g.2.1 2, 25, .inr (.inl ((vp_updL f (k / 8) ((f (k / 8)) ^^^ (((v).toInt64 &&& (255)) <<< ((nI (8 * (k % 8))).toInt64 &&& 63))))))))] : va_W) ++ pl) _ := hP
  have hD : va_D _ (([(h0, .inr (3, [.ref ln, .int x1, .int x2, .int x3])), (ln, .inl (g.2.1 2, 25, .inr (.inl ((vp_updL f (k / 8) ((f (k / 8)) ^^^ (((v).toInt64 &&& (255)) <<< ((nI (8 * (k % 8))).toInt64 &&& 63))))))))] : va_W) ++ pl) := hD
  have hP : va_P g.1 vcl (([(h0, .inr (3, [.ref ln, .int x1, .int x2, .int x3])), (ln, .inl (g.2.1 2, 25, .inr (.inl ((mxB f k v)))))] : va_W) ++ pl) _ := hP
  have hD : va_D _ (([(h0, .inr (3, [.ref ln, .int x1, .int x2, .int x3])), (ln, .inl (g.2.1 2, 25, .inr (.inl ((mxB f k v)))))] : va_W) ++ pl) := hD
  exact mp_vret hx hb hr hlk hP hD hS pl ⟨trivial, hO⟩ [0, 1] rfl rfl rfl (by omega) (by omega) dSP_mixIn_24
