set_option linter.all false
abbrev c_L_verify : ByteArray := method_15_code
abbrev y_L_verify : MethodName := ⟨"LatticeKeysLaw", "verify", "(LLatticeKeys;II[J)I"⟩
abbrev w_L_verify : List Cond := Cond.codeWith y_L_verify c_L_verify 5 (some .int) [(0, 17, 20, 44), (0, 17, 24, 19)] :: WG
theorem dL_verify_0 : decode c_L_verify 0 = .ok (.aload_n 3, 1) := by decide +kernel
theorem dL_verify_1 : decode c_L_verify 1 = .ok (.iconst 0, 1) := by decide +kernel
theorem dL_verify_2 : decode c_L_verify 2 = .ok (.aload_n 0, 1) := by decide +kernel
theorem dL_verify_3 : decode c_L_verify 3 = .ok (.iload_n 1, 1) := by decide +kernel
theorem dL_verify_4 : decode c_L_verify 4 = .ok (.iload_n 2, 1) := by decide +kernel
theorem dL_verify_5 : decode c_L_verify 5 = .ok (.invokevirtual 61, 3) := by decide +kernel
theorem dL_verify_8 : decode c_L_verify 8 = .ok (.ifCond .eq 7, 3) := by decide +kernel
theorem dL_verify_11 : decode c_L_verify 11 = .ok (.lconst 1, 1) := by decide +kernel
theorem dL_verify_12 : decode c_L_verify 12 = .ok (.goto 4, 3) := by decide +kernel
theorem dL_verify_15 : decode c_L_verify 15 = .ok (.lconst 0, 1) := by decide +kernel
theorem dL_verify_16 : decode c_L_verify 16 = .ok (.lastore, 1) := by decide +kernel
theorem dL_verify_17 : decode c_L_verify 17 = .ok (.goto 11, 3) := by decide +kernel
theorem dL_verify_20 : decode c_L_verify 20 = .ok (.astore 4, 2) := by decide +kernel
theorem dL_verify_22 : decode c_L_verify 22 = .ok (.iconst 1, 1) := by decide +kernel
theorem dL_verify_23 : decode c_L_verify 23 = .ok (.ireturn, 1) := by decide +kernel
theorem dL_verify_24 : decode c_L_verify 24 = .ok (.astore 4, 2) := by decide +kernel
theorem dL_verify_26 : decode c_L_verify 26 = .ok (.iconst 2, 1) := by decide +kernel
theorem dL_verify_27 : decode c_L_verify 27 = .ok (.ireturn, 1) := by decide +kernel
theorem dL_verify_28 : decode c_L_verify 28 = .ok (.iconst 0, 1) := by decide +kernel
theorem dL_verify_29 : decode c_L_verify 29 = .ok (.ireturn, 1) := by decide +kernel
set_option maxHeartbeats 2000000 in
theorem ln_verify (l : Launch) (htr : l.stackTraces = false) (g : Gd) (sz : Nat) (T : TyN) (s : Sto) (pl : va_W) (hO : okn g T s pl) (hU : inj T) (h0 : Nat) (v : Int32) (v2 : Int32) (a : Nat) (f : Nat → Int64) (tl al pn : Nat) (k_h0 : T h0 = some 0) (e_tl : s.1 0 1 = nI tl) (e_al : s.1 0 3 = nI al) (e_pn : s.1 0 5 = nI pn) (h1 : tl ≤ 16384) (h2 : al ≤ 8192) (h3 : pn ≤ 8) : Met l y_L_verify w_L_verify ({ frames := 7, cells := 1, slots := 6, locals := 205 } : Room) (va_Pc [.ref h0, .int v, .int v2, .ref a] (pr (ex g) g.1 vcl sz ([(a, .inl (g.2.1 2, 1, .inr (.inl f)))] ++ pl))) (va_Qi (fun (r : Int32) (u : ((Int32 × Int32 × Sto) × (Nat → Int64)) × va_W) => (u.1.1 = F_K_verify v v2 s ∧ r = u.1.1.1 ∧ frm M_K_verify s u.1.1.2.2 ∧ (u.1.1.1 = nI 0 → u.1.2 0 = (if u.1.1.2.1 = (0 : Int32) then (0 : Int64) else 1)) ∧ u.1.1.2.2.1 0 5 = nI pn) ∧ okn g T u.1.1.2.2 u.2) (po g.1 vcl (va_A ([(a, .inl (g.2.1 2, 1, .inr (.inl f)))] ++ pl) sz) (fun (u : ((Int32 × Int32 × Sto) × (Nat → Int64)) × va_W) => [(a, .inl (g.2.1 2, 1, .inr (.inl u.1.2)))] ++ u.2)) (va_A ([(a, .inl (g.2.1 2, 1, .inr (.inl f)))] ++ pl) sz)) 1 6 (va_A ([(a, .inl (g.2.1 2, 1, .inr (.inl f)))] ++ pl) sz) := by
  refine lc_entry (cc := c_L_verify) (maxL := 5) (ret := (some .int)) (hh := [(0, 17, 20, 44), (0, 17, 24, 19)]) (by decide) rfl (Nat.le_of_ble_eq_true rfl) ?_
  intro p e s0 m args below meth c ls F hr hlk htab hsz hP hD hX hA hl
  obtain ⟨hx, hb, hml, hown, hts⟩ := id F
  have hE := hX.1
  have hK := hE.1
  generalize va_A ([(a, .inl (g.2.1 2, 1, .inr (.inl f)))] ++ pl) sz = A at hD hX hE hA ⊢
  have hS : va_S A s0.heap s0.heap [] := va_S.rf
  have hl : lv_has ls 5 [(0, .ref h0), (1, .int v), (2, .int v2), (3, .ref a)] := hl
  refine lv_aload_n hx hb dL_verify_0 rfl (lv_at hl 3 rfl) ?_
  refine lv_iconst (v := nI 0) hx hb dL_verify_1 (by decide) ?_
  refine lv_aload_n hx hb dL_verify_2 rfl (lv_at hl 0 rfl) ?_
  refine lv_iload_n hx hb dL_verify_3 rfl (lv_at hl 1 rfl) ?_
  refine lv_iload_n hx hb dL_verify_4 rfl (lv_at hl 2 rfl) ?_
  refine et_i (cx := []) (wr := [(a, .inl (g.2.1 2, 1, .inr (.inl f)))]) (own := "LatticeKeysLaw") (C := "LatticeKeys") (As := [.int v, .int v2]) (rest := [.int (nI 0), .ref a]) hP hD hS hA [] [0] rfl rfl rfl (by decide) F (N_K_verify l htr g _ T s pl hO hU h0 v v2 tl al pn k_h0 e_tl e_al e_pn h1 h2 h3) (cwV 2 hts (wg_app (wg_c kw_1256 (wg_c kw_1257 (wg_c kw_1258 (wg_c kw_1 wg_n)))) kw_1259) rfl rfl rfl (by decide +kernel) ⟨by decide, by decide⟩) (pn_V (ex_ok g) hK hO k_h0 rfl hP hD hS hA hX [] rfl rfl rfl) rfl hl.1 rfl (Nat.le_of_ble_eq_true rfl) dL_verify_5 ⟨Nat.le_of_ble_eq_true rfl, Nat.le_of_ble_eq_true rfl⟩ (fun r9 u9 H locs hu9 hP hD hS => ?_) (fun ex9 hex9 => ?_)
  · obtain ⟨q9, pl⟩ := u9
    obtain ⟨⟨eq9, er9, ez9, hF9, -, -, ⟨x8, hx8, ey8⟩, -⟩, hO⟩ := hu9
    have hP : va_P g.1 vcl ([(a, .inl (g.2.1 2, 1, .inr (.inl f)))] ++ pl) _ := hP
    have hD : va_D _ ([(a, .inl (g.2.1 2, 1, .inr (.inl f)))] ++ pl) := hD
    refine W.widen (k := 1) (n := 6) (by omega) (by omega) ?_
    refine lv_if_eq (tgt := 15) hx hb dL_verify_8 (by decide) (fun h21 => ?_) (fun h21 => ?_)
    · refine lv_lconst (v := 0) hx hb dL_verify_15 (by decide) ?_
      refine va_last hx hb hK hP hD hS 0 2 rfl rfl (vp_in_nI (by decide) (by decide)) dL_verify_16 (fun H locs hP hD hS => ?_)
      have hP : va_P g.1 vcl ([(a, .inl (g.2.1 2, 1, .inr (.inl (vp_updL f (nI 0).toNatClampNeg 0))))] ++ pl) _ := hP
      have hD : va_D _ ([(a, .inl (g.2.1 2, 1, .inr (.inl (vp_updL f (nI 0).toNatClampNeg 0))))] ++ pl) := hD
      refine lv_goto (tgt := 28) hx hb dL_verify_17 (by decide) ?_
      refine lv_iconst (v := nI 0) hx hb dL_verify_28 (by decide) ?_
      exact mp_iret hx hb hr hlk hP hD hS ((q9, vp_updL f (nI 0).toNatClampNeg 0), pl) ⟨⟨eq9, ez9.symm, hF9, fun _ => (outN (f := f) rfl).trans (if_pos (er9.symm.trans h21)).symm, hx8.trans (congrArg nI ey8)⟩, hO⟩ [0] rfl rfl rfl (by omega) (by omega) dL_verify_29
    · refine lv_lconst (v := 1) hx hb dL_verify_11 (by decide) ?_
      refine lv_goto (tgt := 16) hx hb dL_verify_12 (by decide) ?_
      refine va_last hx hb hK hP hD hS 0 2 rfl rfl (vp_in_nI (by decide) (by decide)) dL_verify_16 (fun H locs hP hD hS => ?_)
      have hP : va_P g.1 vcl ([(a, .inl (g.2.1 2, 1, .inr (.inl (vp_updL f (nI 0).toNatClampNeg 1))))] ++ pl) _ := hP
      have hD : va_D _ ([(a, .inl (g.2.1 2, 1, .inr (.inl (vp_updL f (nI 0).toNatClampNeg 1))))] ++ pl) := hD
      refine lv_goto (tgt := 28) hx hb dL_verify_17 (by decide) ?_
      refine lv_iconst (v := nI 0) hx hb dL_verify_28 (by decide) ?_
      exact mp_iret hx hb hr hlk hP hD hS ((q9, vp_updL f (nI 0).toNatClampNeg 1), pl) ⟨⟨eq9, ez9.symm, hF9, fun _ => (outN (f := f) rfl).trans (if_neg (fun h9 => h21 (er9.trans h9))).symm, hx8.trans (congrArg nI ey8)⟩, hO⟩ [0] rfl rfl rfl (by omega) (by omega) dL_verify_29
  · obtain ⟨k9, ek9, hk9⟩ := xls_inv hex9
    rcases k9 with _ | _ | k9
    · have h9 : "java/util/NoSuchElementException" = ex9 := by simpa using hk9
      subst h9
      obtain ⟨pre9, x9, suf9, hsp, hpr, hx9⟩ := lc_at htab 0 rfl
      have hx1 : x9.startPc = 0 := congrArg (fun q => q.1) hx9
      have hx2 : x9.endPc = 17 := congrArg (fun q => q.2.1) hx9
      have hx3 : x9.handlerPc = 20 := congrArg (fun q => q.2.2.1) hx9
      have hx4 : x9.catchType = 44 := congrArg (fun q => q.2.2.2) hx9
      refine ⟨pre9, x9, suf9, "java/util/NoSuchElementException", hsp, (fun z9 hz9 => ?_), (by simp only [covers, hx1, hx2]; decide), (by rw [hx4]; decide), (by rw [hx4]; exact hts _ (wg_t kw_1051)), va_Nw.use rfl (hX.2.2.2.2.1 "java/util/NoSuchElementException" (by decide)), (fun q9 u9 H locs hu9 hP hD hS => ?_)⟩
      · have hc9 := hpr z9 hz9
        exact absurd hc9 (by simp)
      · rw [hx3]
        obtain ⟨q8, pl⟩ := u9
        obtain ⟨⟨eq9, hF9, -, -, ⟨x8, hx8, ey8⟩, -⟩, hO⟩ := hu9
        have eq9 : q8 = F_K_verify v v2 s := eq9
        have hP : va_P g.1 vcl ([(a, .inl (g.2.1 2, 1, .inr (.inl f)))] ++ pl) _ := hP
        have hD : va_D _ ([(a, .inl (g.2.1 2, 1, .inr (.inl f)))] ++ pl) := hD
        refine W.widen (k := 1) (n := 6) (by omega) (by omega) ?_
        refine lv_astore (lv' := [(4, .ref q9), (0, .ref h0), (1, .int v), (2, .int v2), (3, .ref a)]) hx hb dL_verify_20 hl (by decide) rfl (fun ls hl => ?_)
        refine lv_iconst (v := nI 1) hx hb dL_verify_22 (by decide) ?_
        exact mp_iret hx hb hr hlk hP hD hS ((q8, f), pl) ⟨⟨eq9, (by rw [eq9]; exact ek9.symm), hF9, fun h9 => absurd ((congrArg Prod.fst eq9).trans ek9 |>.symm.trans h9) (by decide), hx8.trans (congrArg nI ey8)⟩, hO⟩ [0] rfl rfl rfl (by omega) (by omega) dL_verify_23
    · have h9 : "java/lang/IllegalArgumentException" = ex9 := by simpa using hk9
      subst h9
      obtain ⟨pre9, x9, suf9, hsp, hpr, hx9⟩ := lc_at htab 1 rfl
      have hx1 : x9.startPc = 0 := congrArg (fun q => q.1) hx9
      have hx2 : x9.endPc = 17 := congrArg (fun q => q.2.1) hx9
      have hx3 : x9.handlerPc = 24 := congrArg (fun q => q.2.2.1) hx9
      have hx4 : x9.catchType = 19 := congrArg (fun q => q.2.2.2) hx9
      refine ⟨pre9, x9, suf9, "java/lang/IllegalArgumentException", hsp, (fun z9 hz9 => ?_), (by simp only [covers, hx1, hx2]; decide), (by rw [hx4]; decide), (by rw [hx4]; exact hts _ (wg_t kw_496)), va_Nw.use rfl (hX.2.2.2.2.1 "java/lang/IllegalArgumentException" (by decide)), (fun q9 u9 H locs hu9 hP hD hS => ?_)⟩
      · have hc9 := hpr z9 hz9
        simp only [List.take, List.map, List.mem_cons, List.not_mem_nil, or_false] at hc9
        rw [hc9]; exact ⟨by decide, "java/util/NoSuchElementException", hts _ (wg_t kw_1051), hX.2.2.2.2.2.2.2.2 ("java/lang/IllegalArgumentException", "java/util/NoSuchElementException") (by decide)⟩
      · rw [hx3]
        obtain ⟨q8, pl⟩ := u9
        obtain ⟨⟨eq9, hF9, -, -, ⟨x8, hx8, ey8⟩, -⟩, hO⟩ := hu9
        have eq9 : q8 = F_K_verify v v2 s := eq9
        have hP : va_P g.1 vcl ([(a, .inl (g.2.1 2, 1, .inr (.inl f)))] ++ pl) _ := hP
        have hD : va_D _ ([(a, .inl (g.2.1 2, 1, .inr (.inl f)))] ++ pl) := hD
        refine W.widen (k := 1) (n := 6) (by omega) (by omega) ?_
        refine lv_astore (lv' := [(4, .ref q9), (0, .ref h0), (1, .int v), (2, .int v2), (3, .ref a)]) hx hb dL_verify_24 hl (by decide) rfl (fun ls hl => ?_)
        refine lv_iconst (v := nI 2) hx hb dL_verify_26 (by decide) ?_
        exact mp_iret hx hb hr hlk hP hD hS ((q8, f), pl) ⟨⟨eq9, (by rw [eq9]; exact ek9.symm), hF9, fun h9 => absurd ((congrArg Prod.fst eq9).trans ek9 |>.symm.trans h9) (by decide), hx8.trans (congrArg nI ey8)⟩, hO⟩ [0] rfl rfl rfl (by omega) (by omega) dL_verify_27
    · exact absurd hk9 (by simp)
