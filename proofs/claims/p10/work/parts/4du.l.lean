set_option linter.all false
abbrev c_L_keys : ByteArray := method_7_code
abbrev y_L_keys : MethodName := ⟨"LatticeKeysLaw", "keys", "(LLatticeKeys;I[J)I"⟩
abbrev w_L_keys : List Cond := Cond.codeWith y_L_keys c_L_keys 4 (some .int) [(0, 9, 12, 19), (0, 9, 15, 13)] :: WG
theorem dL_keys_0 : decode c_L_keys 0 = .ok (.aload_n 2, 1) := by decide +kernel
theorem dL_keys_1 : decode c_L_keys 1 = .ok (.iconst 0, 1) := by decide +kernel
theorem dL_keys_2 : decode c_L_keys 2 = .ok (.aload_n 0, 1) := by decide +kernel
theorem dL_keys_3 : decode c_L_keys 3 = .ok (.iload_n 1, 1) := by decide +kernel
theorem dL_keys_4 : decode c_L_keys 4 = .ok (.invokevirtual 31, 3) := by decide +kernel
theorem dL_keys_7 : decode c_L_keys 7 = .ok (.i2l, 1) := by decide +kernel
theorem dL_keys_8 : decode c_L_keys 8 = .ok (.lastore, 1) := by decide +kernel
theorem dL_keys_9 : decode c_L_keys 9 = .ok (.goto 9, 3) := by decide +kernel
theorem dL_keys_12 : decode c_L_keys 12 = .ok (.astore_n 3, 1) := by decide +kernel
theorem dL_keys_13 : decode c_L_keys 13 = .ok (.iconst 1, 1) := by decide +kernel
theorem dL_keys_14 : decode c_L_keys 14 = .ok (.ireturn, 1) := by decide +kernel
theorem dL_keys_15 : decode c_L_keys 15 = .ok (.astore_n 3, 1) := by decide +kernel
theorem dL_keys_16 : decode c_L_keys 16 = .ok (.iconst 2, 1) := by decide +kernel
theorem dL_keys_17 : decode c_L_keys 17 = .ok (.ireturn, 1) := by decide +kernel
theorem dL_keys_18 : decode c_L_keys 18 = .ok (.iconst 0, 1) := by decide +kernel
theorem dL_keys_19 : decode c_L_keys 19 = .ok (.ireturn, 1) := by decide +kernel
abbrev c_L_load : ByteArray := method_8_code
abbrev y_L_load : MethodName := ⟨"LatticeKeysLaw", "load", "(LLatticeKeys;IZ[J)I"⟩
abbrev w_L_load : List Cond := Cond.codeWith y_L_load c_L_load 5 (some .int) [(0, 10, 13, 19), (0, 10, 17, 38), (0, 10, 21, 13)] :: WG
theorem dL_load_0 : decode c_L_load 0 = .ok (.aload_n 3, 1) := by decide +kernel
theorem dL_load_1 : decode c_L_load 1 = .ok (.iconst 0, 1) := by decide +kernel
theorem dL_load_2 : decode c_L_load 2 = .ok (.aload_n 0, 1) := by decide +kernel
theorem dL_load_3 : decode c_L_load 3 = .ok (.iload_n 1, 1) := by decide +kernel
theorem dL_load_4 : decode c_L_load 4 = .ok (.iload_n 2, 1) := by decide +kernel
theorem dL_load_5 : decode c_L_load 5 = .ok (.invokevirtual 34, 3) := by decide +kernel
theorem dL_load_8 : decode c_L_load 8 = .ok (.i2l, 1) := by decide +kernel
theorem dL_load_9 : decode c_L_load 9 = .ok (.lastore, 1) := by decide +kernel
theorem dL_load_10 : decode c_L_load 10 = .ok (.goto 15, 3) := by decide +kernel
theorem dL_load_13 : decode c_L_load 13 = .ok (.astore 4, 2) := by decide +kernel
theorem dL_load_15 : decode c_L_load 15 = .ok (.iconst 1, 1) := by decide +kernel
theorem dL_load_16 : decode c_L_load 16 = .ok (.ireturn, 1) := by decide +kernel
theorem dL_load_17 : decode c_L_load 17 = .ok (.astore 4, 2) := by decide +kernel
theorem dL_load_19 : decode c_L_load 19 = .ok (.iconst 2, 1) := by decide +kernel
theorem dL_load_20 : decode c_L_load 20 = .ok (.ireturn, 1) := by decide +kernel
theorem dL_load_21 : decode c_L_load 21 = .ok (.astore 4, 2) := by decide +kernel
theorem dL_load_23 : decode c_L_load 23 = .ok (.iconst 3, 1) := by decide +kernel
theorem dL_load_24 : decode c_L_load 24 = .ok (.ireturn, 1) := by decide +kernel
theorem dL_load_25 : decode c_L_load 25 = .ok (.iconst 0, 1) := by decide +kernel
theorem dL_load_26 : decode c_L_load 26 = .ok (.ireturn, 1) := by decide +kernel
set_option maxHeartbeats 2000000 in
theorem ln_keys (l : Launch) (htr : l.stackTraces = false) (g : Gd) (sz : Nat) (T : TyN) (s : Sto) (pl : va_W) (hO : okn g T s pl) (hU : inj T) (h0 : Nat) (v : Int32) (a : Nat) (f : Nat → Int64) (tl al pn : Nat) (k_h0 : T h0 = some 0) (e_tl : s.1 0 1 = nI tl) (e_al : s.1 0 3 = nI al) (e_pn : s.1 0 5 = nI pn) (h1 : tl ≤ 16384) (h2 : al ≤ 8192) (h3 : pn ≤ 8) (hlow : lowT T (379 + 36 * pn)) : Met l y_L_keys w_L_keys ({ frames := 8, cells := 3, slots := 7491, locals := 225 } : Room) (va_Pc [.ref h0, .int v, .ref a] (pr (ex g) g.1 vcl sz ([(a, .inl (g.2.1 2, 1, .inr (.inl f)))] ++ pl))) (va_Qi (fun (r : Int32) (u : (((Int32 × Int32 × Sto) × TyN) × (Nat → Int64)) × va_W) => (u.1.1.1 = F_K_keys v pn s ∧ r = u.1.1.1.1 ∧ frm M_K_keys s u.1.1.1.2.2 ∧ (u.1.1.1.1 = nI 0 → u.1.2 0 = u.1.1.1.2.1.toInt64) ∧ extN T u.1.1.2 ∧ inj u.1.1.2 ∧ (∃ x : Nat, u.1.1.1.2.2.1 0 5 = nI x ∧ x ≤ 8 ∧ lowT u.1.1.2 (379 + 36 * x))) ∧ okn g u.1.1.2 u.1.1.1.2.2 u.2) (po g.1 vcl (va_A ([(a, .inl (g.2.1 2, 1, .inr (.inl f)))] ++ pl) sz) (fun (u : (((Int32 × Int32 × Sto) × TyN) × (Nat → Int64)) × va_W) => [(a, .inl (g.2.1 2, 1, .inr (.inl u.1.2)))] ++ u.2)) (va_A ([(a, .inl (g.2.1 2, 1, .inr (.inl f)))] ++ pl) sz)) 3 7491 (va_A ([(a, .inl (g.2.1 2, 1, .inr (.inl f)))] ++ pl) sz) := by
  refine lc_entry (cc := c_L_keys) (maxL := 4) (ret := (some .int)) (hh := [(0, 9, 12, 19), (0, 9, 15, 13)]) (by decide) rfl (Nat.le_of_ble_eq_true rfl) ?_
  intro p e s0 m args below meth c ls F hr hlk htab hsz hP hD hX hA hl
  obtain ⟨hx, hb, hml, hown, hts⟩ := id F
  have hE := hX.1
  have hK := hE.1
  generalize va_A ([(a, .inl (g.2.1 2, 1, .inr (.inl f)))] ++ pl) sz = A at hD hX hE hA ⊢
  have hS : va_S A s0.heap s0.heap [] := va_S.rf
  have hl : lv_has ls 4 [(0, .ref h0), (1, .int v), (2, .ref a)] := hl
  refine lv_aload_n hx hb dL_keys_0 rfl (lv_at hl 2 rfl) ?_
  refine lv_iconst (v := nI 0) hx hb dL_keys_1 (by decide) ?_
  refine lv_aload_n hx hb dL_keys_2 rfl (lv_at hl 0 rfl) ?_
  refine lv_iload_n hx hb dL_keys_3 rfl (lv_at hl 1 rfl) ?_
  refine et_i (cx := []) (wr := [(a, .inl (g.2.1 2, 1, .inr (.inl f)))]) (own := "LatticeKeysLaw") (C := "LatticeKeys") (As := [.int v]) (rest := [.int (nI 0), .ref a]) hP hD hS hA [] [0] rfl rfl rfl (by decide) F (N_K_keys l htr g _ T s pl hO hU h0 v tl al pn k_h0 e_tl e_al e_pn h1 h2 h3 hlow) (cwV 1 hts (wg_app (wg_c kw_554 (wg_c kw_555 (wg_c kw_556 (wg_c kw_1 wg_n)))) kw_557) rfl rfl rfl (by decide +kernel) ⟨by decide, by decide⟩) (pn_V (ex_ok g) hK hO k_h0 rfl hP hD hS hA hX [] rfl rfl rfl) rfl hl.1 rfl (Nat.le_of_ble_eq_true rfl) dL_keys_4 ⟨Nat.le_of_ble_eq_true rfl, Nat.le_of_ble_eq_true rfl⟩ (fun r9 u9 H locs hu9 hP hD hS => ?_) (fun ex9 hex9 => ?_)
  · obtain ⟨⟨q9, T9⟩, pl⟩ := u9
    obtain ⟨⟨eq9, er9, ez9, hF9, -, -, -, -, hx8, hu8, hl8⟩, hO⟩ := hu9
    have hP : va_P g.1 vcl ([(a, .inl (g.2.1 2, 1, .inr (.inl f)))] ++ pl) _ := hP
    have hD : va_D _ ([(a, .inl (g.2.1 2, 1, .inr (.inl f)))] ++ pl) := hD
    refine W.widen (k := 3) (n := 7491) (by omega) (by omega) ?_
    refine lv_i2l (v := (r9).toInt64) hx hb dL_keys_7 rfl ?_
    refine va_last hx hb hK hP hD hS 0 2 rfl rfl (vp_in_nI (by decide) (by decide)) dL_keys_8 (fun H locs hP hD hS => ?_)
    have hP : va_P g.1 vcl ([(a, .inl (g.2.1 2, 1, .inr (.inl (vp_updL f (nI 0).toNatClampNeg ((r9).toInt64)))))] ++ pl) _ := hP
    have hD : va_D _ ([(a, .inl (g.2.1 2, 1, .inr (.inl (vp_updL f (nI 0).toNatClampNeg ((r9).toInt64)))))] ++ pl) := hD
    refine lv_goto (tgt := 18) hx hb dL_keys_9 (by decide) ?_
    refine lv_iconst (v := nI 0) hx hb dL_keys_18 (by decide) ?_
    exact mp_iret hx hb hr hlk hP hD hS ((⟨q9, T9⟩, vp_updL f (nI 0).toNatClampNeg ((r9).toInt64)), pl) ⟨⟨eq9, ez9.symm, hF9, fun _ => outN (f := f) (congrArg Int32.toInt64 er9), hx8, hu8, hl8⟩, hO⟩ [0] rfl rfl rfl (by omega) (by omega) dL_keys_19
  · obtain ⟨k9, ek9, hk9⟩ := xls_inv hex9
    rcases k9 with _ | _ | k9
    · have h9 : "java/lang/IllegalArgumentException" = ex9 := by simpa using hk9
      subst h9
      obtain ⟨pre9, x9, suf9, hsp, hpr, hx9⟩ := lc_at htab 0 rfl
      have hx1 : x9.startPc = 0 := congrArg (fun q => q.1) hx9
      have hx2 : x9.endPc = 9 := congrArg (fun q => q.2.1) hx9
      have hx3 : x9.handlerPc = 12 := congrArg (fun q => q.2.2.1) hx9
      have hx4 : x9.catchType = 19 := congrArg (fun q => q.2.2.2) hx9
      refine ⟨pre9, x9, suf9, "java/lang/IllegalArgumentException", hsp, (fun z9 hz9 => ?_), (by simp only [covers, hx1, hx2]; decide), (by rw [hx4]; decide), (by rw [hx4]; exact hts _ (wg_t kw_496)), va_Nw.use rfl (hX.2.2.2.2.1 "java/lang/IllegalArgumentException" (by decide)), (fun q9 u9 H locs hu9 hP hD hS => ?_)⟩
      · have hc9 := hpr z9 hz9
        exact absurd hc9 (by simp)
      · rw [hx3]
        obtain ⟨⟨q8, T9⟩, pl⟩ := u9
        obtain ⟨⟨eq9, hF9, -, -, -, -, hx8, hu8, hl8⟩, hO⟩ := hu9
        have eq9 : q8 = F_K_keys v pn s := eq9
        have hP : va_P g.1 vcl ([(a, .inl (g.2.1 2, 1, .inr (.inl f)))] ++ pl) _ := hP
        have hD : va_D _ ([(a, .inl (g.2.1 2, 1, .inr (.inl f)))] ++ pl) := hD
        refine W.widen (k := 3) (n := 7491) (by omega) (by omega) ?_
        refine lv_astore_n (lv' := [(3, .ref q9), (0, .ref h0), (1, .int v), (2, .ref a)]) hx hb dL_keys_12 rfl hl (by decide) rfl (fun ls hl => ?_)
        refine lv_iconst (v := nI 1) hx hb dL_keys_13 (by decide) ?_
        exact mp_iret hx hb hr hlk hP hD hS ((⟨q8, T9⟩, f), pl) ⟨⟨eq9, (by rw [eq9]; exact ek9.symm), hF9, fun h9 => absurd ((congrArg Prod.fst eq9).trans ek9 |>.symm.trans h9) (by decide), hx8, hu8, hl8⟩, hO⟩ [0] rfl rfl rfl (by omega) (by omega) dL_keys_14
    · have h9 : "java/lang/IllegalStateException" = ex9 := by simpa using hk9
      subst h9
      obtain ⟨pre9, x9, suf9, hsp, hpr, hx9⟩ := lc_at htab 1 rfl
      have hx1 : x9.startPc = 0 := congrArg (fun q => q.1) hx9
      have hx2 : x9.endPc = 9 := congrArg (fun q => q.2.1) hx9
      have hx3 : x9.handlerPc = 15 := congrArg (fun q => q.2.2.1) hx9
      have hx4 : x9.catchType = 13 := congrArg (fun q => q.2.2.2) hx9
      refine ⟨pre9, x9, suf9, "java/lang/IllegalStateException", hsp, (fun z9 hz9 => ?_), (by simp only [covers, hx1, hx2]; decide), (by rw [hx4]; decide), (by rw [hx4]; exact hts _ (wg_t kw_415)), va_Nw.use rfl (hX.2.2.2.2.1 "java/lang/IllegalStateException" (by decide)), (fun q9 u9 H locs hu9 hP hD hS => ?_)⟩
      · have hc9 := hpr z9 hz9
        simp only [List.take, List.map, List.mem_cons, List.not_mem_nil, or_false] at hc9
        rw [hc9]; exact ⟨by decide, "java/lang/IllegalArgumentException", hts _ (wg_t kw_496), hX.2.2.2.2.2.2.2.2 ("java/lang/IllegalStateException", "java/lang/IllegalArgumentException") (by decide)⟩
      · rw [hx3]
        obtain ⟨⟨q8, T9⟩, pl⟩ := u9
        obtain ⟨⟨eq9, hF9, -, -, -, -, hx8, hu8, hl8⟩, hO⟩ := hu9
        have eq9 : q8 = F_K_keys v pn s := eq9
        have hP : va_P g.1 vcl ([(a, .inl (g.2.1 2, 1, .inr (.inl f)))] ++ pl) _ := hP
        have hD : va_D _ ([(a, .inl (g.2.1 2, 1, .inr (.inl f)))] ++ pl) := hD
        refine W.widen (k := 3) (n := 7491) (by omega) (by omega) ?_
        refine lv_astore_n (lv' := [(3, .ref q9), (0, .ref h0), (1, .int v), (2, .ref a)]) hx hb dL_keys_15 rfl hl (by decide) rfl (fun ls hl => ?_)
        refine lv_iconst (v := nI 2) hx hb dL_keys_16 (by decide) ?_
        exact mp_iret hx hb hr hlk hP hD hS ((⟨q8, T9⟩, f), pl) ⟨⟨eq9, (by rw [eq9]; exact ek9.symm), hF9, fun h9 => absurd ((congrArg Prod.fst eq9).trans ek9 |>.symm.trans h9) (by decide), hx8, hu8, hl8⟩, hO⟩ [0] rfl rfl rfl (by omega) (by omega) dL_keys_17
    · exact absurd hk9 (by simp)
set_option maxHeartbeats 2000000 in
theorem ln_load (l : Launch) (htr : l.stackTraces = false) (g : Gd) (sz : Nat) (T : TyN) (s : Sto) (pl : va_W) (hO : okn g T s pl) (hU : inj T) (h0 : Nat) (v : Int32) (sc : Int32) (a : Nat) (f : Nat → Int64) (tl al pn : Nat) (k_h0 : T h0 = some 0) (e_tl : s.1 0 1 = nI tl) (e_al : s.1 0 3 = nI al) (e_pn : s.1 0 5 = nI pn) (h1 : tl ≤ 16384) (h2 : al ≤ 8192) (h3 : pn ≤ 8) (hlow : lowT T (379 + 36 * pn)) : Met l y_L_load w_L_load ({ frames := 7, cells := 3, slots := 7491, locals := 191 } : Room) (va_Pc [.ref h0, .int v, .int sc, .ref a] (pr (ex g) g.1 vcl sz ([(a, .inl (g.2.1 2, 1, .inr (.inl f)))] ++ pl))) (va_Qi (fun (r : Int32) (u : (((Int32 × Int32 × Sto) × TyN) × (Nat → Int64)) × va_W) => (u.1.1.1 = F_K_load v sc pn s ∧ r = u.1.1.1.1 ∧ frm M_K_load s u.1.1.1.2.2 ∧ (u.1.1.1.1 = nI 0 → u.1.2 0 = u.1.1.1.2.1.toInt64) ∧ extN T u.1.1.2 ∧ inj u.1.1.2 ∧ (∃ x : Nat, u.1.1.1.2.2.1 0 5 = nI x ∧ x ≤ 8 ∧ lowT u.1.1.2 (379 + 36 * x))) ∧ okn g u.1.1.2 u.1.1.1.2.2 u.2) (po g.1 vcl (va_A ([(a, .inl (g.2.1 2, 1, .inr (.inl f)))] ++ pl) sz) (fun (u : (((Int32 × Int32 × Sto) × TyN) × (Nat → Int64)) × va_W) => [(a, .inl (g.2.1 2, 1, .inr (.inl u.1.2)))] ++ u.2)) (va_A ([(a, .inl (g.2.1 2, 1, .inr (.inl f)))] ++ pl) sz)) 3 7491 (va_A ([(a, .inl (g.2.1 2, 1, .inr (.inl f)))] ++ pl) sz) := by
  refine lc_entry (cc := c_L_load) (maxL := 5) (ret := (some .int)) (hh := [(0, 10, 13, 19), (0, 10, 17, 38), (0, 10, 21, 13)]) (by decide) rfl (Nat.le_of_ble_eq_true rfl) ?_
  intro p e s0 m args below meth c ls F hr hlk htab hsz hP hD hX hA hl
  obtain ⟨hx, hb, hml, hown, hts⟩ := id F
  have hE := hX.1
  have hK := hE.1
  generalize va_A ([(a, .inl (g.2.1 2, 1, .inr (.inl f)))] ++ pl) sz = A at hD hX hE hA ⊢
  have hS : va_S A s0.heap s0.heap [] := va_S.rf
  have hl : lv_has ls 5 [(0, .ref h0), (1, .int v), (2, .int sc), (3, .ref a)] := hl
  refine lv_aload_n hx hb dL_load_0 rfl (lv_at hl 3 rfl) ?_
  refine lv_iconst (v := nI 0) hx hb dL_load_1 (by decide) ?_
  refine lv_aload_n hx hb dL_load_2 rfl (lv_at hl 0 rfl) ?_
  refine lv_iload_n hx hb dL_load_3 rfl (lv_at hl 1 rfl) ?_
  refine lv_iload_n hx hb dL_load_4 rfl (lv_at hl 2 rfl) ?_
  refine et_i (cx := []) (wr := [(a, .inl (g.2.1 2, 1, .inr (.inl f)))]) (own := "LatticeKeysLaw") (C := "LatticeKeys") (As := [.int v, .int sc]) (rest := [.int (nI 0), .ref a]) hP hD hS hA [] [0] rfl rfl rfl (by decide) F (N_K_load l htr g _ T s pl hO hU h0 v sc tl al pn k_h0 e_tl e_al e_pn h1 h2 h3 hlow) (cwV 2 hts (wg_app (wg_c kw_768 (wg_c kw_769 (wg_c kw_770 (wg_c kw_1 wg_n)))) kw_771) rfl rfl rfl (by decide +kernel) ⟨by decide, by decide⟩) (pn_V (ex_ok g) hK hO k_h0 rfl hP hD hS hA hX [] rfl rfl rfl) rfl hl.1 rfl (Nat.le_of_ble_eq_true rfl) dL_load_5 ⟨Nat.le_of_ble_eq_true rfl, Nat.le_of_ble_eq_true rfl⟩ (fun r9 u9 H locs hu9 hP hD hS => ?_) (fun ex9 hex9 => ?_)
  · obtain ⟨⟨q9, T9⟩, pl⟩ := u9
    obtain ⟨⟨eq9, er9, ez9, hF9, -, -, -, -, hx8, hu8, hl8⟩, hO⟩ := hu9
    have hP : va_P g.1 vcl ([(a, .inl (g.2.1 2, 1, .inr (.inl f)))] ++ pl) _ := hP
    have hD : va_D _ ([(a, .inl (g.2.1 2, 1, .inr (.inl f)))] ++ pl) := hD
    refine W.widen (k := 3) (n := 7491) (by omega) (by omega) ?_
    refine lv_i2l (v := (r9).toInt64) hx hb dL_load_8 rfl ?_
    refine va_last hx hb hK hP hD hS 0 2 rfl rfl (vp_in_nI (by decide) (by decide)) dL_load_9 (fun H locs hP hD hS => ?_)
    have hP : va_P g.1 vcl ([(a, .inl (g.2.1 2, 1, .inr (.inl (vp_updL f (nI 0).toNatClampNeg ((r9).toInt64)))))] ++ pl) _ := hP
    have hD : va_D _ ([(a, .inl (g.2.1 2, 1, .inr (.inl (vp_updL f (nI 0).toNatClampNeg ((r9).toInt64)))))] ++ pl) := hD
    refine lv_goto (tgt := 25) hx hb dL_load_10 (by decide) ?_
    refine lv_iconst (v := nI 0) hx hb dL_load_25 (by decide) ?_
    exact mp_iret hx hb hr hlk hP hD hS ((⟨q9, T9⟩, vp_updL f (nI 0).toNatClampNeg ((r9).toInt64)), pl) ⟨⟨eq9, ez9.symm, hF9, fun _ => outN (f := f) (congrArg Int32.toInt64 er9), hx8, hu8, hl8⟩, hO⟩ [0] rfl rfl rfl (by omega) (by omega) dL_load_26
  · obtain ⟨k9, ek9, hk9⟩ := xls_inv hex9
    rcases k9 with _ | _ | _ | k9
    · have h9 : "java/lang/IllegalArgumentException" = ex9 := by simpa using hk9
      subst h9
      obtain ⟨pre9, x9, suf9, hsp, hpr, hx9⟩ := lc_at htab 0 rfl
      have hx1 : x9.startPc = 0 := congrArg (fun q => q.1) hx9
      have hx2 : x9.endPc = 10 := congrArg (fun q => q.2.1) hx9
      have hx3 : x9.handlerPc = 13 := congrArg (fun q => q.2.2.1) hx9
      have hx4 : x9.catchType = 19 := congrArg (fun q => q.2.2.2) hx9
      refine ⟨pre9, x9, suf9, "java/lang/IllegalArgumentException", hsp, (fun z9 hz9 => ?_), (by simp only [covers, hx1, hx2]; decide), (by rw [hx4]; decide), (by rw [hx4]; exact hts _ (wg_t kw_496)), va_Nw.use rfl (hX.2.2.2.2.1 "java/lang/IllegalArgumentException" (by decide)), (fun q9 u9 H locs hu9 hP hD hS => ?_)⟩
      · have hc9 := hpr z9 hz9
        exact absurd hc9 (by simp)
      · rw [hx3]
        obtain ⟨⟨q8, T9⟩, pl⟩ := u9
        obtain ⟨⟨eq9, hF9, -, -, -, -, hx8, hu8, hl8⟩, hO⟩ := hu9
        have eq9 : q8 = F_K_load v sc pn s := eq9
        have hP : va_P g.1 vcl ([(a, .inl (g.2.1 2, 1, .inr (.inl f)))] ++ pl) _ := hP
        have hD : va_D _ ([(a, .inl (g.2.1 2, 1, .inr (.inl f)))] ++ pl) := hD
        refine W.widen (k := 3) (n := 7491) (by omega) (by omega) ?_
        refine lv_astore (lv' := [(4, .ref q9), (0, .ref h0), (1, .int v), (2, .int sc), (3, .ref a)]) hx hb dL_load_13 hl (by decide) rfl (fun ls hl => ?_)
        refine lv_iconst (v := nI 1) hx hb dL_load_15 (by decide) ?_
        exact mp_iret hx hb hr hlk hP hD hS ((⟨q8, T9⟩, f), pl) ⟨⟨eq9, (by rw [eq9]; exact ek9.symm), hF9, fun h9 => absurd ((congrArg Prod.fst eq9).trans ek9 |>.symm.trans h9) (by decide), hx8, hu8, hl8⟩, hO⟩ [0] rfl rfl rfl (by omega) (by omega) dL_load_16
    · have h9 : "java/lang/UnsupportedOperationException" = ex9 := by simpa using hk9
      subst h9
      obtain ⟨pre9, x9, suf9, hsp, hpr, hx9⟩ := lc_at htab 1 rfl
      have hx1 : x9.startPc = 0 := congrArg (fun q => q.1) hx9
      have hx2 : x9.endPc = 10 := congrArg (fun q => q.2.1) hx9
      have hx3 : x9.handlerPc = 17 := congrArg (fun q => q.2.2.1) hx9
      have hx4 : x9.catchType = 38 := congrArg (fun q => q.2.2.2) hx9
      refine ⟨pre9, x9, suf9, "java/lang/UnsupportedOperationException", hsp, (fun z9 hz9 => ?_), (by simp only [covers, hx1, hx2]; decide), (by rw [hx4]; decide), (by rw [hx4]; exact hts _ (wg_t kw_767)), va_Nw.use rfl (hX.2.2.2.2.1 "java/lang/UnsupportedOperationException" (by decide)), (fun q9 u9 H locs hu9 hP hD hS => ?_)⟩
      · have hc9 := hpr z9 hz9
        simp only [List.take, List.map, List.mem_cons, List.not_mem_nil, or_false] at hc9
        rw [hc9]; exact ⟨by decide, "java/lang/IllegalArgumentException", hts _ (wg_t kw_496), hX.2.2.2.2.2.2.2.2 ("java/lang/UnsupportedOperationException", "java/lang/IllegalArgumentException") (by decide)⟩
      · rw [hx3]
        obtain ⟨⟨q8, T9⟩, pl⟩ := u9
        obtain ⟨⟨eq9, hF9, -, -, -, -, hx8, hu8, hl8⟩, hO⟩ := hu9
        have eq9 : q8 = F_K_load v sc pn s := eq9
        have hP : va_P g.1 vcl ([(a, .inl (g.2.1 2, 1, .inr (.inl f)))] ++ pl) _ := hP
        have hD : va_D _ ([(a, .inl (g.2.1 2, 1, .inr (.inl f)))] ++ pl) := hD
        refine W.widen (k := 3) (n := 7491) (by omega) (by omega) ?_
        refine lv_astore (lv' := [(4, .ref q9), (0, .ref h0), (1, .int v), (2, .int sc), (3, .ref a)]) hx hb dL_load_17 hl (by decide) rfl (fun ls hl => ?_)
        refine lv_iconst (v := nI 2) hx hb dL_load_19 (by decide) ?_
        exact mp_iret hx hb hr hlk hP hD hS ((⟨q8, T9⟩, f), pl) ⟨⟨eq9, (by rw [eq9]; exact ek9.symm), hF9, fun h9 => absurd ((congrArg Prod.fst eq9).trans ek9 |>.symm.trans h9) (by decide), hx8, hu8, hl8⟩, hO⟩ [0] rfl rfl rfl (by omega) (by omega) dL_load_20
    · have h9 : "java/lang/IllegalStateException" = ex9 := by simpa using hk9
      subst h9
      obtain ⟨pre9, x9, suf9, hsp, hpr, hx9⟩ := lc_at htab 2 rfl
      have hx1 : x9.startPc = 0 := congrArg (fun q => q.1) hx9
      have hx2 : x9.endPc = 10 := congrArg (fun q => q.2.1) hx9
      have hx3 : x9.handlerPc = 21 := congrArg (fun q => q.2.2.1) hx9
      have hx4 : x9.catchType = 13 := congrArg (fun q => q.2.2.2) hx9
      refine ⟨pre9, x9, suf9, "java/lang/IllegalStateException", hsp, (fun z9 hz9 => ?_), (by simp only [covers, hx1, hx2]; decide), (by rw [hx4]; decide), (by rw [hx4]; exact hts _ (wg_t kw_415)), va_Nw.use rfl (hX.2.2.2.2.1 "java/lang/IllegalStateException" (by decide)), (fun q9 u9 H locs hu9 hP hD hS => ?_)⟩
      · have hc9 := hpr z9 hz9
        simp only [List.take, List.map, List.mem_cons, List.not_mem_nil, or_false] at hc9
        rcases hc9 with hc9 | hc9
        · rw [hc9]; exact ⟨by decide, "java/lang/IllegalArgumentException", hts _ (wg_t kw_496), hX.2.2.2.2.2.2.2.2 ("java/lang/IllegalStateException", "java/lang/IllegalArgumentException") (by decide)⟩
        · rw [hc9]; exact ⟨by decide, "java/lang/UnsupportedOperationException", hts _ (wg_t kw_767), hX.2.2.2.2.2.2.2.2 ("java/lang/IllegalStateException", "java/lang/UnsupportedOperationException") (by decide)⟩
      · rw [hx3]
        obtain ⟨⟨q8, T9⟩, pl⟩ := u9
        obtain ⟨⟨eq9, hF9, -, -, -, -, hx8, hu8, hl8⟩, hO⟩ := hu9
        have eq9 : q8 = F_K_load v sc pn s := eq9
        have hP : va_P g.1 vcl ([(a, .inl (g.2.1 2, 1, .inr (.inl f)))] ++ pl) _ := hP
        have hD : va_D _ ([(a, .inl (g.2.1 2, 1, .inr (.inl f)))] ++ pl) := hD
        refine W.widen (k := 3) (n := 7491) (by omega) (by omega) ?_
        refine lv_astore (lv' := [(4, .ref q9), (0, .ref h0), (1, .int v), (2, .int sc), (3, .ref a)]) hx hb dL_load_21 hl (by decide) rfl (fun ls hl => ?_)
        refine lv_iconst (v := nI 3) hx hb dL_load_23 (by decide) ?_
        exact mp_iret hx hb hr hlk hP hD hS ((⟨q8, T9⟩, f), pl) ⟨⟨eq9, (by rw [eq9]; exact ek9.symm), hF9, fun h9 => absurd ((congrArg Prod.fst eq9).trans ek9 |>.symm.trans h9) (by decide), hx8, hu8, hl8⟩, hO⟩ [0] rfl rfl rfl (by omega) (by omega) dL_load_24
    · exact absurd hk9 (by simp)
