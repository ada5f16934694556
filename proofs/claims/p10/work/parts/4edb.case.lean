set_option linter.all false
set_option maxHeartbeats 4000000 in
set_option maxRecDepth 100000 in
theorem lw_part {p : Program} {e : Env} {s : State} {m : MethodId} {below : List Frame} {meth : Method} {c : Code} (l : Launch) (htr : l.stackTraces = false) {b L : Nat} {xs : Nat → Int32} (hL : L ≤ 3072) (C0 : lw_At p s m meth c b L xs) (g : Gd) (F : CallFix p m c c_L_law 7 s #[Value.ref b] wL "LatticeKeysLaw") (hX : ex g (Alaw s) s s.heap) {n0 i : Nat} (hn0 : n0 < 512) (hi : i = 6 * n0) (hi6 : i + 6 ≤ L) {v1 v2 v3 v4 v5 : Int32} (hv1 : xs (nI (i + 1)).toNatClampNeg = v1) (hv2 : xs (nI (i + 2)).toNatClampNeg = v2) (hv3 : xs (nI (i + 3)).toNatClampNeg = v3) (hv4 : xs (nI (i + 4)).toNatClampNeg = v4) (hv5 : xs (nI (i + 5)).toNatClampNeg = v5) {σ : Sto} (hE9 : ∀ pn : Nat, pn ≤ 8 → σ.1 0 5 = nI pn → callE 0 v1 (bz v2) v3 v4 v5 pn σ) {H : Heap} {locs : List Loc} {ls : Array Slot} (hI : LWS g s b i σ H locs ls) (next : ∀ (pn : Nat) (H : Heap) (locs : List Loc) (ls : Array Slot), pn ≤ 8 → σ.1 0 5 = nI pn → LWS g s b i (callNxt 0 v1 (bz v2) v3 v4 v5 pn σ) H locs ls → W p l e room_1 s m #[Value.ref b] below meth c H locs (380 + 3 * n0 + 3) (194479 + 7491 * n0 + 7491) (lw_Z below #[Value.ref b] s) (F0 m 785 ls [])) : W p l e room_1 s m #[Value.ref b] below meth c H locs (380 + 3 * n0) (194479 + 7491 * n0) (lw_Z below #[Value.ref b] s) (F0 m 364 ls []) := by
  obtain ⟨hx, hb, hml, hown, hts⟩ := id F
  have hE := hX.1
  have hK := hE.1
  have hA : ∀ q, s.heap.size ≤ q → Alaw s q := fun _ h => h
  obtain ⟨-, -, hr, -, -, -, hXs, hbl, hlk, -⟩ := id C0
  have hbA : ¬ Alaw s b := fun h => Nat.not_lt.mpr h hbl
  obtain ⟨T, pl, h0, h1, a, f, tl, al, pn, hO, hU, hT, hlow, hSM, k_h0, k_h1, hP, hD, hS, hl⟩ := hI
  have hRc : room_1.cells = 601024 := rfl
  have hRs : room_1.slots = 7293034 := rfl
  have hT0 := hT
  have hO0 := hO
  obtain ⟨⟨et1, et2, et3⟩, ⟨ea1, ea2, ea3⟩, ⟨ep1, ep2, ep3⟩, -⟩ := id hSM
  replace hE9 := hE9 pn ep3 ep1
  by_cases hz9 : v2 = 0
  · have hb9 : bz v2 = nI 0 := if_pos hz9
    rw [hb9] at hE9 next
    refine lv_aload_n hx hb dL_law_364 rfl (lv_at hl 3 rfl) ?_
    refine lv_aload_n hx hb dL_law_365 rfl (lv_at hl 4 rfl) ?_
    refine lv_iload hx hb dL_law_366 (lv_at hl 0 rfl) ?_
    refine lv_iconst (v := nI 1) hx hb dL_law_368 (by decide) ?_
    refine mi_iadd hx hb dL_law_369 ?_
    refine va_sld hx hb hXs hbl hbA hS (vp_in_nI (N := L) (by omega) (by omega)) dL_law_370 ?_
    refine mi_as hv1 ?_
    refine lv_aload_n hx hb dL_law_371 rfl (lv_at hl 4 rfl) ?_
    refine lv_iload hx hb dL_law_372 (lv_at hl 0 rfl) ?_
    refine lv_iconst (v := nI 2) hx hb dL_law_374 (by decide) ?_
    refine mi_iadd hx hb dL_law_375 ?_
    refine va_sld hx hb hXs hbl hbA hS (vp_in_nI (N := L) (by omega) (by omega)) dL_law_376 ?_
    refine mi_as hv2 ?_
    refine lv_if_eq (tgt := 384) hx hb dL_law_377 (by decide) (fun _ => ?_) (fun h9 => absurd hz9 h9)
    refine lv_iconst (v := nI 0) hx hb dL_law_384 (by decide) ?_
    refine lv_aload_n hx hb dL_law_385 rfl (lv_at hl 4 rfl) ?_
    refine lv_iload hx hb dL_law_386 (lv_at hl 0 rfl) ?_
    refine lv_iconst (v := nI 3) hx hb dL_law_388 (by decide) ?_
    refine mi_iadd hx hb dL_law_389 ?_
    refine va_sld hx hb hXs hbl hbA hS (vp_in_nI (N := L) (by omega) (by omega)) dL_law_390 ?_
    refine mi_as hv3 ?_
    refine lv_aload_n hx hb dL_law_391 rfl (lv_at hl 1 rfl) ?_
    refine mp_i (cx := [(a, .inl (g.2.1 2, 1, .inr (.inl f)))]) (wr := []) hP hD hS hA [0] [] rfl rfl rfl (by decide) (lc_run (As := [.ref h0, .int v1, .int (nI 0), .int v3, .ref a]) (rest := []) F (ln_part l htr g _ T σ pl hO hU h0 v1 (nI 0) v3 a f tl al pn k_h0 et1 ea1 ep1 et3 ea3 ep3) (lc_cw 5 hts (wg_app (wg_c kw_1048 (wg_c kw_1049 (wg_c kw_0 wg_n))) kw_1050) rfl rfl rfl (by decide +kernel) ⟨by decide, by decide⟩) (pp_S (ex_ok g) hP hD hS hA hX [0] rfl rfl) rfl rfl hl.1 rfl (lv_room (Nat.le_of_ble_eq_true rfl)) dL_law_392 ⟨by omega, by omega⟩) (fun r9 u9 H locs hu9 hP hD hS => ?_)
    obtain ⟨⟨q9, f9⟩, pl⟩ := u9
    obtain ⟨⟨eq9, er9, hF9, ha9, hp9⟩, hO⟩ := hu9
    have eq9 : q9 = F_K_part v1 (nI 0) v3 σ := eq9
    have er9 : r9 = q9.1 := er9
    have hF9 : frm M_K_part σ q9.2.2 := hF9
    have hp9 : q9.2.2.1 0 5 = nI pn := hp9
    have hO : okn g T q9.2.2 pl := hO
    have ha9 : q9.1 = nI 0 → f9 0 = q9.2.1.toInt64 := ha9
    have ecc : callCls 0 v1 (nI 0) v3 v4 v5 pn σ = q9 := by rw [cc_part, eq9]
    have hO9 := hO
    have hP : va_P g.1 vcl ([(a, .inl (g.2.1 2, 1, .inr (.inl f9)))] ++ pl) _ := hP
    have hD : va_D _ ([(a, .inl (g.2.1 2, 1, .inr (.inl f9)))] ++ pl) := hD
    refine W.widen (k := 380 + 3 * n0 + 3) (n := 194479 + 7491 * n0 + 7491) (by omega) (by omega) ?_
    obtain ⟨em1, em2, em3, em4, em5⟩ := SAME_mod hSM (ms_K_part hF9)
    refine lv_istore (lv' := [(5, .int r9), (4, .int (nI i)), (3, .ref a), (2, .ref h1), (1, .ref h0), (0, .ref b)]) hx hb dL_law_395 hl (by decide) rfl (fun ls hl => ?_)
    refine lv_aload_n hx hb dL_law_397 rfl (lv_at hl 3 rfl) ?_
    refine lv_aload_n hx hb dL_law_398 rfl (lv_at hl 5 rfl) ?_
    refine lv_iload hx hb dL_law_399 (lv_at hl 1 rfl) ?_
    refine lv_iconst (v := nI 1) hx hb dL_law_401 (by decide) ?_
    refine mi_iadd hx hb dL_law_402 ?_
    refine va_sld hx hb hXs hbl hbA hS (vp_in_nI (N := L) (by omega) (by omega)) dL_law_403 ?_
    refine mi_as hv1 ?_
    refine lv_aload_n hx hb dL_law_404 rfl (lv_at hl 5 rfl) ?_
    refine lv_iload hx hb dL_law_405 (lv_at hl 1 rfl) ?_
    refine lv_iconst (v := nI 2) hx hb dL_law_407 (by decide) ?_
    refine mi_iadd hx hb dL_law_408 ?_
    refine va_sld hx hb hXs hbl hbA hS (vp_in_nI (N := L) (by omega) (by omega)) dL_law_409 ?_
    refine mi_as hv2 ?_
    refine lv_if_eq (tgt := 417) hx hb dL_law_410 (by decide) (fun _ => ?_) (fun h9 => absurd hz9 h9)
    refine lv_iconst (v := nI 0) hx hb dL_law_417 (by decide) ?_
    refine lv_aload_n hx hb dL_law_418 rfl (lv_at hl 5 rfl) ?_
    refine lv_iload hx hb dL_law_419 (lv_at hl 1 rfl) ?_
    refine lv_iconst (v := nI 3) hx hb dL_law_421 (by decide) ?_
    refine mi_iadd hx hb dL_law_422 ?_
    refine va_sld hx hb hXs hbl hbA hS (vp_in_nI (N := L) (by omega) (by omega)) dL_law_423 ?_
    refine mi_as hv3 ?_
    refine mp_i (cx := []) (wr := [(a, .inl (g.2.1 2, 1, .inr (.inl f9)))]) hP hD hS hA [] [0] rfl rfl rfl (by decide) (va_runV (As := [.int v1, .int (nI 0), .int v3]) (rest := []) F (N_M_part l g _ T q9.2.2 pl hO hU h1 v1 (nI 0) v3 tl al pn k_h1 em1 em2 em3 et3 ea3 ep3 em4 em5) (cwV 3 hts (wg_app (wg_c kw_1777 (wg_c kw_1778 (wg_c kw_1779 (wg_c kw_9 wg_n)))) kw_1780) rfl rfl rfl (by decide +kernel) ⟨by decide, by decide⟩) (pn_W "LatticeKeysModel" (en_ok g) (ci := 8) (kn := 148) (fl := [(0, 0), (0, 0), (0, 0), (0, 0), (3, 149), (3, 150), (3, 151), (3, 152), (3, 161), (3, 170), (3, 171), (3, 172), (3, 184), (3, 225)]) hK hO k_h1 rfl hP hD hS hA hE [] rfl rfl rfl) rfl rfl hl.1 rfl (lv_room (Nat.le_of_ble_eq_true rfl)) dL_law_424 ⟨by omega, by omega⟩) (fun r8 u8 H locs hu8 hP hD hS => ?_)
    obtain ⟨q8, pl⟩ := u8
    obtain ⟨⟨eq8, er8, hF8, -⟩, hO⟩ := hu8
    have eq8 : q8 = F_M_part v1 (nI 0) v3 q9.2.2 := eq8
    have er8 : r8 = q8.1 := er8
    have hF8 : frm M_M_part q9.2.2 q8.2 := hF8
    have hO : okn g T q8.2 pl := hO
    have hP : va_P g.1 vcl ([(a, .inl (g.2.1 2, 1, .inr (.inl f9)))] ++ pl) _ := hP
    have hD : va_D _ ([(a, .inl (g.2.1 2, 1, .inr (.inl f9)))] ++ pl) := hD
    refine W.widen (k := 380 + 3 * n0 + 3) (n := 194479 + 7491 * n0 + 7491) (by omega) (by omega) ?_
    have en9 : q8.2 = callNxt 0 v1 (nI 0) v3 v4 v5 pn σ := nx_of ecc cm_part eq8
    have hout := sm_out (c := 0) (v1 := v1) (v2 := (nI 0)) (v3 := v3) (v4 := v4) (v5 := v5) hSM trivial
    rw [ecc, cm_part, ← eq8, ← en9] at hout
    obtain ⟨⟨tl1, al1, pn1, hS1⟩, hth, han⟩ := hout
    have epn := pn_same hp9 ep3 (hF8 0 (by unfold M_M_part; omega)) hS1
    rw [← epn] at hlow
    refine lv_istore (lv' := [(6, .int r8), (5, .int r9), (4, .int (nI i)), (3, .ref a), (2, .ref h1), (1, .ref h0), (0, .ref b)]) hx hb dL_law_427 hl (by decide) rfl (fun ls hl => ?_)
    refine lv_goto (tgt := 785) hx hb dL_law_429 (by decide) ?_
    rw [en9] at hO hS1
    exact W.widen (k := 380 + 3 * n0 + 3) (n := 194479 + 7491 * n0 + 7491) (by omega) (by omega) (next pn _ _ _ ep3 ep1 ⟨T, pl, h0, h1, a, f9, tl1, al1, pn1, hO, hU, hT, hlow, hS1, k_h0, k_h1, hP, hD, hS, lv_sub hl [2, 3, 4, 5, 6] rfl⟩)
  · have hb9 : bz v2 = nI 1 := if_neg hz9
    rw [hb9] at hE9 next
    refine lv_aload_n hx hb dL_law_364 rfl (lv_at hl 3 rfl) ?_
    refine lv_aload_n hx hb dL_law_365 rfl (lv_at hl 4 rfl) ?_
    refine lv_iload hx hb dL_law_366 (lv_at hl 0 rfl) ?_
    refine lv_iconst (v := nI 1) hx hb dL_law_368 (by decide) ?_
    refine mi_iadd hx hb dL_law_369 ?_
    refine va_sld hx hb hXs hbl hbA hS (vp_in_nI (N := L) (by omega) (by omega)) dL_law_370 ?_
    refine mi_as hv1 ?_
    refine lv_aload_n hx hb dL_law_371 rfl (lv_at hl 4 rfl) ?_
    refine lv_iload hx hb dL_law_372 (lv_at hl 0 rfl) ?_
    refine lv_iconst (v := nI 2) hx hb dL_law_374 (by decide) ?_
    refine mi_iadd hx hb dL_law_375 ?_
    refine va_sld hx hb hXs hbl hbA hS (vp_in_nI (N := L) (by omega) (by omega)) dL_law_376 ?_
    refine mi_as hv2 ?_
    refine lv_if_eq (tgt := 384) hx hb dL_law_377 (by decide) (fun h9 => absurd h9 hz9) (fun _ => ?_)
    refine lv_iconst (v := nI 1) hx hb dL_law_380 (by decide) ?_
    refine lv_goto (tgt := 385) hx hb dL_law_381 (by decide) ?_
    refine lv_aload_n hx hb dL_law_385 rfl (lv_at hl 4 rfl) ?_
    refine lv_iload hx hb dL_law_386 (lv_at hl 0 rfl) ?_
    refine lv_iconst (v := nI 3) hx hb dL_law_388 (by decide) ?_
    refine mi_iadd hx hb dL_law_389 ?_
    refine va_sld hx hb hXs hbl hbA hS (vp_in_nI (N := L) (by omega) (by omega)) dL_law_390 ?_
    refine mi_as hv3 ?_
    refine lv_aload_n hx hb dL_law_391 rfl (lv_at hl 1 rfl) ?_
    refine mp_i (cx := [(a, .inl (g.2.1 2, 1, .inr (.inl f)))]) (wr := []) hP hD hS hA [0] [] rfl rfl rfl (by decide) (lc_run (As := [.ref h0, .int v1, .int (nI 1), .int v3, .ref a]) (rest := []) F (ln_part l htr g _ T σ pl hO hU h0 v1 (nI 1) v3 a f tl al pn k_h0 et1 ea1 ep1 et3 ea3 ep3) (lc_cw 5 hts (wg_app (wg_c kw_1048 (wg_c kw_1049 (wg_c kw_0 wg_n))) kw_1050) rfl rfl rfl (by decide +kernel) ⟨by decide, by decide⟩) (pp_S (ex_ok g) hP hD hS hA hX [0] rfl rfl) rfl rfl hl.1 rfl (lv_room (Nat.le_of_ble_eq_true rfl)) dL_law_392 ⟨by omega, by omega⟩) (fun r9 u9 H locs hu9 hP hD hS => ?_)
    obtain ⟨⟨q9, f9⟩, pl⟩ := u9
    obtain ⟨⟨eq9, er9, hF9, ha9, hp9⟩, hO⟩ := hu9
    have eq9 : q9 = F_K_part v1 (nI 1) v3 σ := eq9
    have er9 : r9 = q9.1 := er9
    have hF9 : frm M_K_part σ q9.2.2 := hF9
    have hp9 : q9.2.2.1 0 5 = nI pn := hp9
    have hO : okn g T q9.2.2 pl := hO
    have ha9 : q9.1 = nI 0 → f9 0 = q9.2.1.toInt64 := ha9
    have ecc : callCls 0 v1 (nI 1) v3 v4 v5 pn σ = q9 := by rw [cc_part, eq9]
    have hO9 := hO
    have hP : va_P g.1 vcl ([(a, .inl (g.2.1 2, 1, .inr (.inl f9)))] ++ pl) _ := hP
    have hD : va_D _ ([(a, .inl (g.2.1 2, 1, .inr (.inl f9)))] ++ pl) := hD
    refine W.widen (k := 380 + 3 * n0 + 3) (n := 194479 + 7491 * n0 + 7491) (by omega) (by omega) ?_
    obtain ⟨em1, em2, em3, em4, em5⟩ := SAME_mod hSM (ms_K_part hF9)
    refine lv_istore (lv' := [(5, .int r9), (4, .int (nI i)), (3, .ref a), (2, .ref h1), (1, .ref h0), (0, .ref b)]) hx hb dL_law_395 hl (by decide) rfl (fun ls hl => ?_)
    refine lv_aload_n hx hb dL_law_397 rfl (lv_at hl 3 rfl) ?_
    refine lv_aload_n hx hb dL_law_398 rfl (lv_at hl 5 rfl) ?_
    refine lv_iload hx hb dL_law_399 (lv_at hl 1 rfl) ?_
    refine lv_iconst (v := nI 1) hx hb dL_law_401 (by decide) ?_
    refine mi_iadd hx hb dL_law_402 ?_
    refine va_sld hx hb hXs hbl hbA hS (vp_in_nI (N := L) (by omega) (by omega)) dL_law_403 ?_
    refine mi_as hv1 ?_
    refine lv_aload_n hx hb dL_law_404 rfl (lv_at hl 5 rfl) ?_
    refine lv_iload hx hb dL_law_405 (lv_at hl 1 rfl) ?_
    refine lv_iconst (v := nI 2) hx hb dL_law_407 (by decide) ?_
    refine mi_iadd hx hb dL_law_408 ?_
    refine va_sld hx hb hXs hbl hbA hS (vp_in_nI (N := L) (by omega) (by omega)) dL_law_409 ?_
    refine mi_as hv2 ?_
    refine lv_if_eq (tgt := 417) hx hb dL_law_410 (by decide) (fun h9 => absurd h9 hz9) (fun _ => ?_)
    refine lv_iconst (v := nI 1) hx hb dL_law_413 (by decide) ?_
    refine lv_goto (tgt := 418) hx hb dL_law_414 (by decide) ?_
    refine lv_aload_n hx hb dL_law_418 rfl (lv_at hl 5 rfl) ?_
    refine lv_iload hx hb dL_law_419 (lv_at hl 1 rfl) ?_
    refine lv_iconst (v := nI 3) hx hb dL_law_421 (by decide) ?_
    refine mi_iadd hx hb dL_law_422 ?_
    refine va_sld hx hb hXs hbl hbA hS (vp_in_nI (N := L) (by omega) (by omega)) dL_law_423 ?_
    refine mi_as hv3 ?_
    refine mp_i (cx := []) (wr := [(a, .inl (g.2.1 2, 1, .inr (.inl f9)))]) hP hD hS hA [] [0] rfl rfl rfl (by decide) (va_runV (As := [.int v1, .int (nI 1), .int v3]) (rest := []) F (N_M_part l g _ T q9.2.2 pl hO hU h1 v1 (nI 1) v3 tl al pn k_h1 em1 em2 em3 et3 ea3 ep3 em4 em5) (cwV 3 hts (wg_app (wg_c kw_1777 (wg_c kw_1778 (wg_c kw_1779 (wg_c kw_9 wg_n)))) kw_1780) rfl rfl rfl (by decide +kernel) ⟨by decide, by decide⟩) (pn_W "LatticeKeysModel" (en_ok g) (ci := 8) (kn := 148) (fl := [(0, 0), (0, 0), (0, 0), (0, 0), (3, 149), (3, 150), (3, 151), (3, 152), (3, 161), (3, 170), (3, 171), (3, 172), (3, 184), (3, 225)]) hK hO k_h1 rfl hP hD hS hA hE [] rfl rfl rfl) rfl rfl hl.1 rfl (lv_room (Nat.le_of_ble_eq_true rfl)) dL_law_424 ⟨by omega, by omega⟩) (fun r8 u8 H locs hu8 hP hD hS => ?_)
    obtain ⟨q8, pl⟩ := u8
    obtain ⟨⟨eq8, er8, hF8, -⟩, hO⟩ := hu8
    have eq8 : q8 = F_M_part v1 (nI 1) v3 q9.2.2 := eq8
    have er8 : r8 = q8.1 := er8
    have hF8 : frm M_M_part q9.2.2 q8.2 := hF8
    have hO : okn g T q8.2 pl := hO
    have hP : va_P g.1 vcl ([(a, .inl (g.2.1 2, 1, .inr (.inl f9)))] ++ pl) _ := hP
    have hD : va_D _ ([(a, .inl (g.2.1 2, 1, .inr (.inl f9)))] ++ pl) := hD
    refine W.widen (k := 380 + 3 * n0 + 3) (n := 194479 + 7491 * n0 + 7491) (by omega) (by omega) ?_
    have en9 : q8.2 = callNxt 0 v1 (nI 1) v3 v4 v5 pn σ := nx_of ecc cm_part eq8
    have hout := sm_out (c := 0) (v1 := v1) (v2 := (nI 1)) (v3 := v3) (v4 := v4) (v5 := v5) hSM trivial
    rw [ecc, cm_part, ← eq8, ← en9] at hout
    obtain ⟨⟨tl1, al1, pn1, hS1⟩, hth, han⟩ := hout
    have epn := pn_same hp9 ep3 (hF8 0 (by unfold M_M_part; omega)) hS1
    rw [← epn] at hlow
    refine lv_istore (lv' := [(6, .int r8), (5, .int r9), (4, .int (nI i)), (3, .ref a), (2, .ref h1), (1, .ref h0), (0, .ref b)]) hx hb dL_law_427 hl (by decide) rfl (fun ls hl => ?_)
    refine lv_goto (tgt := 785) hx hb dL_law_429 (by decide) ?_
    rw [en9] at hO hS1
    exact W.widen (k := 380 + 3 * n0 + 3) (n := 194479 + 7491 * n0 + 7491) (by omega) (by omega) (next pn _ _ _ ep3 ep1 ⟨T, pl, h0, h1, a, f9, tl1, al1, pn1, hO, hU, hT, hlow, hS1, k_h0, k_h1, hP, hD, hS, lv_sub hl [2, 3, 4, 5, 6] rfl⟩)
set_option maxHeartbeats 4000000 in
set_option maxRecDepth 100000 in
theorem lw_show {p : Program} {e : Env} {s : State} {m : MethodId} {below : List Frame} {meth : Method} {c : Code} (l : Launch) (htr : l.stackTraces = false) {b L : Nat} {xs : Nat → Int32} (hL : L ≤ 3072) (C0 : lw_At p s m meth c b L xs) (g : Gd) (F : CallFix p m c c_L_law 7 s #[Value.ref b] wL "LatticeKeysLaw") (hX : ex g (Alaw s) s s.heap) {n0 i : Nat} (hn0 : n0 < 512) (hi : i = 6 * n0) (hi6 : i + 6 ≤ L) {v1 v2 v3 v4 v5 : Int32} (hv1 : xs (nI (i + 1)).toNatClampNeg = v1) (hv2 : xs (nI (i + 2)).toNatClampNeg = v2) (hv3 : xs (nI (i + 3)).toNatClampNeg = v3) (hv4 : xs (nI (i + 4)).toNatClampNeg = v4) (hv5 : xs (nI (i + 5)).toNatClampNeg = v5) {σ : Sto} (hE9 : ∀ pn : Nat, pn ≤ 8 → σ.1 0 5 = nI pn → callE 7 v1 (bz v2) v3 v4 v5 pn σ) {H : Heap} {locs : List Loc} {ls : Array Slot} (hI : LWS g s b i σ H locs ls) (next : ∀ (pn : Nat) (H : Heap) (locs : List Loc) (ls : Array Slot), pn ≤ 8 → σ.1 0 5 = nI pn → LWS g s b i (callNxt 7 v1 (bz v2) v3 v4 v5 pn σ) H locs ls → W p l e room_1 s m #[Value.ref b] below meth c H locs (380 + 3 * n0 + 3) (194479 + 7491 * n0 + 7491) (lw_Z below #[Value.ref b] s) (F0 m 785 ls [])) : W p l e room_1 s m #[Value.ref b] below meth c H locs (380 + 3 * n0) (194479 + 7491 * n0) (lw_Z below #[Value.ref b] s) (F0 m 432 ls []) := by
  obtain ⟨hx, hb, hml, hown, hts⟩ := id F
  have hE := hX.1
  have hK := hE.1
  have hA : ∀ q, s.heap.size ≤ q → Alaw s q := fun _ h => h
  obtain ⟨-, -, hr, -, -, -, hXs, hbl, hlk, -⟩ := id C0
  have hbA : ¬ Alaw s b := fun h => Nat.not_lt.mpr h hbl
  obtain ⟨T, pl, h0, h1, a, f, tl, al, pn, hO, hU, hT, hlow, hSM, k_h0, k_h1, hP, hD, hS, hl⟩ := hI
  have hRc : room_1.cells = 601024 := rfl
  have hRs : room_1.slots = 7293034 := rfl
  have hT0 := hT
  have hO0 := hO
  obtain ⟨⟨et1, et2, et3⟩, ⟨ea1, ea2, ea3⟩, ⟨ep1, ep2, ep3⟩, -⟩ := id hSM
  replace hE9 := hE9 pn ep3 ep1
  by_cases hz9 : v2 = 0
  · have hb9 : bz v2 = nI 0 := if_pos hz9
    rw [hb9] at hE9 next
    refine lv_aload_n hx hb dL_law_432 rfl (lv_at hl 3 rfl) ?_
    refine lv_aload_n hx hb dL_law_433 rfl (lv_at hl 4 rfl) ?_
    refine lv_iload hx hb dL_law_434 (lv_at hl 0 rfl) ?_
    refine lv_iconst (v := nI 1) hx hb dL_law_436 (by decide) ?_
    refine mi_iadd hx hb dL_law_437 ?_
    refine va_sld hx hb hXs hbl hbA hS (vp_in_nI (N := L) (by omega) (by omega)) dL_law_438 ?_
    refine mi_as hv1 ?_
    refine lv_aload_n hx hb dL_law_439 rfl (lv_at hl 4 rfl) ?_
    refine lv_iload hx hb dL_law_440 (lv_at hl 0 rfl) ?_
    refine lv_iconst (v := nI 2) hx hb dL_law_442 (by decide) ?_
    refine mi_iadd hx hb dL_law_443 ?_
    refine va_sld hx hb hXs hbl hbA hS (vp_in_nI (N := L) (by omega) (by omega)) dL_law_444 ?_
    refine mi_as hv2 ?_
    refine lv_if_eq (tgt := 452) hx hb dL_law_445 (by decide) (fun _ => ?_) (fun h9 => absurd hz9 h9)
    refine lv_iconst (v := nI 0) hx hb dL_law_452 (by decide) ?_
    refine lv_aload_n hx hb dL_law_453 rfl (lv_at hl 1 rfl) ?_
    refine mp_i (cx := [(a, .inl (g.2.1 2, 1, .inr (.inl f)))]) (wr := []) hP hD hS hA [0] [] rfl rfl rfl (by decide) (lc_run (As := [.ref h0, .int v1, .int (nI 0), .ref a]) (rest := []) F (ln_show l htr g _ T σ pl hO hU h0 v1 (nI 0) a f tl al pn k_h0 et1 ea1 ep1 et3 ea3 ep3) (lc_cw 4 hts (wg_app (wg_c kw_1081 (wg_c kw_1082 (wg_c kw_0 wg_n))) kw_1083) rfl rfl rfl (by decide +kernel) ⟨by decide, by decide⟩) (pp_S (ex_ok g) hP hD hS hA hX [0] rfl rfl) rfl rfl hl.1 rfl (lv_room (Nat.le_of_ble_eq_true rfl)) dL_law_454 ⟨by omega, by omega⟩) (fun r9 u9 H locs hu9 hP hD hS => ?_)
    obtain ⟨⟨q9, f9⟩, pl⟩ := u9
    obtain ⟨⟨eq9, er9, hF9, ha9, hp9⟩, hO⟩ := hu9
    have eq9 : q9 = F_K_show v1 (nI 0) σ := eq9
    have er9 : r9 = q9.1 := er9
    have hF9 : frm M_K_show σ q9.2.2 := hF9
    have hp9 : q9.2.2.1 0 5 = nI pn := hp9
    have hO : okn g T q9.2.2 pl := hO
    have ha9 : q9.1 = nI 0 → f9 0 = q9.2.1.toInt64 := ha9
    have ecc : callCls 7 v1 (nI 0) v3 v4 v5 pn σ = q9 := by rw [cc_show, eq9]
    have hO9 := hO
    have hP : va_P g.1 vcl ([(a, .inl (g.2.1 2, 1, .inr (.inl f9)))] ++ pl) _ := hP
    have hD : va_D _ ([(a, .inl (g.2.1 2, 1, .inr (.inl f9)))] ++ pl) := hD
    refine W.widen (k := 380 + 3 * n0 + 3) (n := 194479 + 7491 * n0 + 7491) (by omega) (by omega) ?_
    obtain ⟨em1, em2, em3, em4, em5⟩ := SAME_mod hSM (ms_K_show hF9)
    refine lv_istore (lv' := [(5, .int r9), (4, .int (nI i)), (3, .ref a), (2, .ref h1), (1, .ref h0), (0, .ref b)]) hx hb dL_law_457 hl (by decide) rfl (fun ls hl => ?_)
    refine lv_aload_n hx hb dL_law_459 rfl (lv_at hl 3 rfl) ?_
    refine lv_aload_n hx hb dL_law_460 rfl (lv_at hl 5 rfl) ?_
    refine lv_iload hx hb dL_law_461 (lv_at hl 1 rfl) ?_
    refine lv_iconst (v := nI 1) hx hb dL_law_463 (by decide) ?_
    refine mi_iadd hx hb dL_law_464 ?_
    refine va_sld hx hb hXs hbl hbA hS (vp_in_nI (N := L) (by omega) (by omega)) dL_law_465 ?_
    refine mi_as hv1 ?_
    refine lv_aload_n hx hb dL_law_466 rfl (lv_at hl 5 rfl) ?_
    refine lv_iload hx hb dL_law_467 (lv_at hl 1 rfl) ?_
    refine lv_iconst (v := nI 2) hx hb dL_law_469 (by decide) ?_
    refine mi_iadd hx hb dL_law_470 ?_
    refine va_sld hx hb hXs hbl hbA hS (vp_in_nI (N := L) (by omega) (by omega)) dL_law_471 ?_
    refine mi_as hv2 ?_
    refine lv_if_eq (tgt := 479) hx hb dL_law_472 (by decide) (fun _ => ?_) (fun h9 => absurd hz9 h9)
    refine lv_iconst (v := nI 0) hx hb dL_law_479 (by decide) ?_
    refine mp_i (cx := []) (wr := [(a, .inl (g.2.1 2, 1, .inr (.inl f9)))]) hP hD hS hA [] [0] rfl rfl rfl (by decide) (va_runV (As := [.int v1, .int (nI 0)]) (rest := []) F (N_M_show l g _ T q9.2.2 pl hO hU h1 v1 (nI 0) tl al pn k_h1 em1 em2 em3 et3 ea3 ep3 em4 em5) (cwV 2 hts (wg_app (wg_c kw_1789 (wg_c kw_1790 (wg_c kw_1791 (wg_c kw_9 wg_n)))) kw_1792) rfl rfl rfl (by decide +kernel) ⟨by decide, by decide⟩) (pn_W "LatticeKeysModel" (en_ok g) (ci := 8) (kn := 148) (fl := [(0, 0), (0, 0), (0, 0), (0, 0), (3, 149), (3, 150), (3, 151), (3, 152), (3, 161), (3, 170), (3, 171), (3, 172), (3, 184), (3, 225)]) hK hO k_h1 rfl hP hD hS hA hE [] rfl rfl rfl) rfl rfl hl.1 rfl (lv_room (Nat.le_of_ble_eq_true rfl)) dL_law_480 ⟨by omega, by omega⟩) (fun r8 u8 H locs hu8 hP hD hS => ?_)
    obtain ⟨q8, pl⟩ := u8
    obtain ⟨⟨eq8, er8, hF8, -⟩, hO⟩ := hu8
    have eq8 : q8 = F_M_show v1 (nI 0) q9.2.2 := eq8
    have er8 : r8 = q8.1 := er8
    have hF8 : frm M_M_show q9.2.2 q8.2 := hF8
    have hO : okn g T q8.2 pl := hO
    have hP : va_P g.1 vcl ([(a, .inl (g.2.1 2, 1, .inr (.inl f9)))] ++ pl) _ := hP
    have hD : va_D _ ([(a, .inl (g.2.1 2, 1, .inr (.inl f9)))] ++ pl) := hD
    refine W.widen (k := 380 + 3 * n0 + 3) (n := 194479 + 7491 * n0 + 7491) (by omega) (by omega) ?_
    have en9 : q8.2 = callNxt 7 v1 (nI 0) v3 v4 v5 pn σ := nx_of ecc cm_show eq8
    have hout := sm_out (c := 7) (v1 := v1) (v2 := (nI 0)) (v3 := v3) (v4 := v4) (v5 := v5) hSM (show_ok hO0 hT0)
    rw [ecc, cm_show, ← eq8, ← en9] at hout
    obtain ⟨⟨tl1, al1, pn1, hS1⟩, hth, han⟩ := hout
    have epn := pn_same hp9 ep3 (hF8 0 (by unfold M_M_show; omega)) hS1
    rw [← epn] at hlow
    refine lv_istore (lv' := [(6, .int r8), (5, .int r9), (4, .int (nI i)), (3, .ref a), (2, .ref h1), (1, .ref h0), (0, .ref b)]) hx hb dL_law_483 hl (by decide) rfl (fun ls hl => ?_)
    refine lv_goto (tgt := 785) hx hb dL_law_485 (by decide) ?_
    rw [en9] at hO hS1
    exact W.widen (k := 380 + 3 * n0 + 3) (n := 194479 + 7491 * n0 + 7491) (by omega) (by omega) (next pn _ _ _ ep3 ep1 ⟨T, pl, h0, h1, a, f9, tl1, al1, pn1, hO, hU, hT, hlow, hS1, k_h0, k_h1, hP, hD, hS, lv_sub hl [2, 3, 4, 5, 6] rfl⟩)
  · have hb9 : bz v2 = nI 1 := if_neg hz9
    rw [hb9] at hE9 next
    refine lv_aload_n hx hb dL_law_432 rfl (lv_at hl 3 rfl) ?_
    refine lv_aload_n hx hb dL_law_433 rfl (lv_at hl 4 rfl) ?_
    refine lv_iload hx hb dL_law_434 (lv_at hl 0 rfl) ?_
    refine lv_iconst (v := nI 1) hx hb dL_law_436 (by decide) ?_
    refine mi_iadd hx hb dL_law_437 ?_
    refine va_sld hx hb hXs hbl hbA hS (vp_in_nI (N := L) (by omega) (by omega)) dL_law_438 ?_
    refine mi_as hv1 ?_
    refine lv_aload_n hx hb dL_law_439 rfl (lv_at hl 4 rfl) ?_
    refine lv_iload hx hb dL_law_440 (lv_at hl 0 rfl) ?_
    refine lv_iconst (v := nI 2) hx hb dL_law_442 (by decide) ?_
    refine mi_iadd hx hb dL_law_443 ?_
    refine va_sld hx hb hXs hbl hbA hS (vp_in_nI (N := L) (by omega) (by omega)) dL_law_444 ?_
    refine mi_as hv2 ?_
    refine lv_if_eq (tgt := 452) hx hb dL_law_445 (by decide) (fun h9 => absurd h9 hz9) (fun _ => ?_)
    refine lv_iconst (v := nI 1) hx hb dL_law_448 (by decide) ?_
    refine lv_goto (tgt := 453) hx hb dL_law_449 (by decide) ?_
    refine lv_aload_n hx hb dL_law_453 rfl (lv_at hl 1 rfl) ?_
    refine mp_i (cx := [(a, .inl (g.2.1 2, 1, .inr (.inl f)))]) (wr := []) hP hD hS hA [0] [] rfl rfl rfl (by decide) (lc_run (As := [.ref h0, .int v1, .int (nI 1), .ref a]) (rest := []) F (ln_show l htr g _ T σ pl hO hU h0 v1 (nI 1) a f tl al pn k_h0 et1 ea1 ep1 et3 ea3 ep3) (lc_cw 4 hts (wg_app (wg_c kw_1081 (wg_c kw_1082 (wg_c kw_0 wg_n))) kw_1083) rfl rfl rfl (by decide +kernel) ⟨by decide, by decide⟩) (pp_S (ex_ok g) hP hD hS hA hX [0] rfl rfl) rfl rfl hl.1 rfl (lv_room (Nat.le_of_ble_eq_true rfl)) dL_law_454 ⟨by omega, by omega⟩) (fun r9 u9 H locs hu9 hP hD hS => ?_)
    obtain ⟨⟨q9, f9⟩, pl⟩ := u9
    obtain ⟨⟨eq9, er9, hF9, ha9, hp9⟩, hO⟩ := hu9
    have eq9 : q9 = F_K_show v1 (nI 1) σ := eq9
    have er9 : r9 = q9.1 := er9
    have hF9 : frm M_K_show σ q9.2.2 := hF9
    have hp9 : q9.2.2.1 0 5 = nI pn := hp9
    have hO : okn g T q9.2.2 pl := hO
    have ha9 : q9.1 = nI 0 → f9 0 = q9.2.1.toInt64 := ha9
    have ecc : callCls 7 v1 (nI 1) v3 v4 v5 pn σ = q9 := by rw [cc_show, eq9]
    have hO9 := hO
    have hP : va_P g.1 vcl ([(a, .inl (g.2.1 2, 1, .inr (.inl f9)))] ++ pl) _ := hP
    have hD : va_D _ ([(a, .inl (g.2.1 2, 1, .inr (.inl f9)))] ++ pl) := hD
    refine W.widen (k := 380 + 3 * n0 + 3) (n := 194479 + 7491 * n0 + 7491) (by omega) (by omega) ?_
    obtain ⟨em1, em2, em3, em4, em5⟩ := SAME_mod hSM (ms_K_show hF9)
    refine lv_istore (lv' := [(5, .int r9), (4, .int (nI i)), (3, .ref a), (2, .ref h1), (1, .ref h0), (0, .ref b)]) hx hb dL_law_457 hl (by decide) rfl (fun ls hl => ?_)
    refine lv_aload_n hx hb dL_law_459 rfl (lv_at hl 3 rfl) ?_
    refine lv_aload_n hx hb dL_law_460 rfl (lv_at hl 5 rfl) ?_
    refine lv_iload hx hb dL_law_461 (lv_at hl 1 rfl) ?_
    refine lv_iconst (v := nI 1) hx hb dL_law_463 (by decide) ?_
    refine mi_iadd hx hb dL_law_464 ?_
    refine va_sld hx hb hXs hbl hbA hS (vp_in_nI (N := L) (by omega) (by omega)) dL_law_465 ?_
    refine mi_as hv1 ?_
    refine lv_aload_n hx hb dL_law_466 rfl (lv_at hl 5 rfl) ?_
    refine lv_iload hx hb dL_law_467 (lv_at hl 1 rfl) ?_
    refine lv_iconst (v := nI 2) hx hb dL_law_469 (by decide) ?_
    refine mi_iadd hx hb dL_law_470 ?_
    refine va_sld hx hb hXs hbl hbA hS (vp_in_nI (N := L) (by omega) (by omega)) dL_law_471 ?_
    refine mi_as hv2 ?_
    refine lv_if_eq (tgt := 479) hx hb dL_law_472 (by decide) (fun h9 => absurd h9 hz9) (fun _ => ?_)
    refine lv_iconst (v := nI 1) hx hb dL_law_475 (by decide) ?_
    refine lv_goto (tgt := 480) hx hb dL_law_476 (by decide) ?_
    refine mp_i (cx := []) (wr := [(a, .inl (g.2.1 2, 1, .inr (.inl f9)))]) hP hD hS hA [] [0] rfl rfl rfl (by decide) (va_runV (As := [.int v1, .int (nI 1)]) (rest := []) F (N_M_show l g _ T q9.2.2 pl hO hU h1 v1 (nI 1) tl al pn k_h1 em1 em2 em3 et3 ea3 ep3 em4 em5) (cwV 2 hts (wg_app (wg_c kw_1789 (wg_c kw_1790 (wg_c kw_1791 (wg_c kw_9 wg_n)))) kw_1792) rfl rfl rfl (by decide +kernel) ⟨by decide, by decide⟩) (pn_W "LatticeKeysModel" (en_ok g) (ci := 8) (kn := 148) (fl := [(0, 0), (0, 0), (0, 0), (0, 0), (3, 149), (3, 150), (3, 151), (3, 152), (3, 161), (3, 170), (3, 171), (3, 172), (3, 184), (3, 225)]) hK hO k_h1 rfl hP hD hS hA hE [] rfl rfl rfl) rfl rfl hl.1 rfl (lv_room (Nat.le_of_ble_eq_true rfl)) dL_law_480 ⟨by omega, by omega⟩) (fun r8 u8 H locs hu8 hP hD hS => ?_)
    obtain ⟨q8, pl⟩ := u8
    obtain ⟨⟨eq8, er8, hF8, -⟩, hO⟩ := hu8
    have eq8 : q8 = F_M_show v1 (nI 1) q9.2.2 := eq8
    have er8 : r8 = q8.1 := er8
    have hF8 : frm M_M_show q9.2.2 q8.2 := hF8
    have hO : okn g T q8.2 pl := hO
    have hP : va_P g.1 vcl ([(a, .inl (g.2.1 2, 1, .inr (.inl f9)))] ++ pl) _ := hP
    have hD : va_D _ ([(a, .inl (g.2.1 2, 1, .inr (.inl f9)))] ++ pl) := hD
    refine W.widen (k := 380 + 3 * n0 + 3) (n := 194479 + 7491 * n0 + 7491) (by omega) (by omega) ?_
    have en9 : q8.2 = callNxt 7 v1 (nI 1) v3 v4 v5 pn σ := nx_of ecc cm_show eq8
    have hout := sm_out (c := 7) (v1 := v1) (v2 := (nI 1)) (v3 := v3) (v4 := v4) (v5 := v5) hSM (show_ok hO0 hT0)
    rw [ecc, cm_show, ← eq8, ← en9] at hout
    obtain ⟨⟨tl1, al1, pn1, hS1⟩, hth, han⟩ := hout
    have epn := pn_same hp9 ep3 (hF8 0 (by unfold M_M_show; omega)) hS1
    rw [← epn] at hlow
    refine lv_istore (lv' := [(6, .int r8), (5, .int r9), (4, .int (nI i)), (3, .ref a), (2, .ref h1), (1, .ref h0), (0, .ref b)]) hx hb dL_law_483 hl (by decide) rfl (fun ls hl => ?_)
    refine lv_goto (tgt := 785) hx hb dL_law_485 (by decide) ?_
    rw [en9] at hO hS1
    exact W.widen (k := 380 + 3 * n0 + 3) (n := 194479 + 7491 * n0 + 7491) (by omega) (by omega) (next pn _ _ _ ep3 ep1 ⟨T, pl, h0, h1, a, f9, tl1, al1, pn1, hO, hU, hT, hlow, hS1, k_h0, k_h1, hP, hD, hS, lv_sub hl [2, 3, 4, 5, 6] rfl⟩)
set_option maxHeartbeats 4000000 in
set_option maxRecDepth 100000 in
theorem lw_told {p : Program} {e : Env} {s : State} {m : MethodId} {below : List Frame} {meth : Method} {c : Code} (l : Launch) (htr : l.stackTraces = false) {b L : Nat} {xs : Nat → Int32} (hL : L ≤ 3072) (C0 : lw_At p s m meth c b L xs) (g : Gd) (F : CallFix p m c c_L_law 7 s #[Value.ref b] wL "LatticeKeysLaw") (hX : ex g (Alaw s) s s.heap) {n0 i : Nat} (hn0 : n0 < 512) (hi : i = 6 * n0) (hi6 : i + 6 ≤ L) {v1 v2 v3 v4 v5 : Int32} (hv1 : xs (nI (i + 1)).toNatClampNeg = v1) (hv2 : xs (nI (i + 2)).toNatClampNeg = v2) (hv3 : xs (nI (i + 3)).toNatClampNeg = v3) (hv4 : xs (nI (i + 4)).toNatClampNeg = v4) (hv5 : xs (nI (i + 5)).toNatClampNeg = v5) {σ : Sto} (hE9 : ∀ pn : Nat, pn ≤ 8 → σ.1 0 5 = nI pn → callE 5 v1 v2 v3 v4 v5 pn σ) {H : Heap} {locs : List Loc} {ls : Array Slot} (hI : LWS g s b i σ H locs ls) (next : ∀ (pn : Nat) (H : Heap) (locs : List Loc) (ls : Array Slot), pn ≤ 8 → σ.1 0 5 = nI pn → LWS g s b i (callNxt 5 v1 v2 v3 v4 v5 pn σ) H locs ls → W p l e room_1 s m #[Value.ref b] below meth c H locs (380 + 3 * n0 + 3) (194479 + 7491 * n0 + 7491) (lw_Z below #[Value.ref b] s) (F0 m 785 ls [])) : W p l e room_1 s m #[Value.ref b] below meth c H locs (380 + 3 * n0) (194479 + 7491 * n0) (lw_Z below #[Value.ref b] s) (F0 m 488 ls []) := by
  obtain ⟨hx, hb, hml, hown, hts⟩ := id F
  have hE := hX.1
  have hK := hE.1
  have hA : ∀ q, s.heap.size ≤ q → Alaw s q := fun _ h => h
  obtain ⟨-, -, hr, -, -, -, hXs, hbl, hlk, -⟩ := id C0
  have hbA : ¬ Alaw s b := fun h => Nat.not_lt.mpr h hbl
  obtain ⟨T, pl, h0, h1, a, f, tl, al, pn, hO, hU, hT, hlow, hSM, k_h0, k_h1, hP, hD, hS, hl⟩ := hI
  have hRc : room_1.cells = 601024 := rfl
  have hRs : room_1.slots = 7293034 := rfl
  have hT0 := hT
  have hO0 := hO
  obtain ⟨⟨et1, et2, et3⟩, ⟨ea1, ea2, ea3⟩, ⟨ep1, ep2, ep3⟩, -⟩ := id hSM
  replace hE9 := hE9 pn ep3 ep1
  refine lv_aload_n hx hb dL_law_488 rfl (lv_at hl 3 rfl) ?_
  refine lv_aload_n hx hb dL_law_489 rfl (lv_at hl 4 rfl) ?_
  refine lv_iload hx hb dL_law_490 (lv_at hl 0 rfl) ?_
  refine lv_iconst (v := nI 1) hx hb dL_law_492 (by decide) ?_
  refine mi_iadd hx hb dL_law_493 ?_
  refine va_sld hx hb hXs hbl hbA hS (vp_in_nI (N := L) (by omega) (by omega)) dL_law_494 ?_
  refine mi_as hv1 ?_
  refine lv_aload_n hx hb dL_law_495 rfl (lv_at hl 4 rfl) ?_
  refine lv_iload hx hb dL_law_496 (lv_at hl 0 rfl) ?_
  refine lv_iconst (v := nI 2) hx hb dL_law_498 (by decide) ?_
  refine mi_iadd hx hb dL_law_499 ?_
  refine va_sld hx hb hXs hbl hbA hS (vp_in_nI (N := L) (by omega) (by omega)) dL_law_500 ?_
  refine mi_as hv2 ?_
  refine lv_aload_n hx hb dL_law_501 rfl (lv_at hl 1 rfl) ?_
  refine mp_i (cx := [(a, .inl (g.2.1 2, 1, .inr (.inl f)))]) (wr := []) hP hD hS hA [0] [] rfl rfl rfl (by decide) (lc_run (As := [.ref h0, .int v1, .int v2, .ref a]) (rest := []) F (ln_told l htr g _ T σ pl hO hU h0 v1 v2 a f tl al pn k_h0 et1 ea1 ep1 et3 ea3 ep3) (lc_cw 4 hts (wg_app (wg_c kw_1088 (wg_c kw_1089 (wg_c kw_0 wg_n))) kw_1090) rfl rfl rfl (by decide +kernel) ⟨by decide, by decide⟩) (pp_S (ex_ok g) hP hD hS hA hX [0] rfl rfl) rfl rfl hl.1 rfl (lv_room (Nat.le_of_ble_eq_true rfl)) dL_law_502 ⟨by omega, by omega⟩) (fun r9 u9 H locs hu9 hP hD hS => ?_)
  obtain ⟨⟨q9, f9⟩, pl⟩ := u9
  obtain ⟨⟨eq9, er9, hF9, ha9, hp9⟩, hO⟩ := hu9
  have eq9 : q9 = F_K_told v1 v2 σ := eq9
  have er9 : r9 = q9.1 := er9
  have hF9 : frm M_K_told σ q9.2.2 := hF9
  have hp9 : q9.2.2.1 0 5 = nI pn := hp9
  have hO : okn g T q9.2.2 pl := hO
  have ha9 : q9.1 = nI 0 → f9 0 = q9.2.1.toInt64 := ha9
  have ecc : callCls 5 v1 v2 v3 v4 v5 pn σ = q9 := by rw [cc_told, eq9]
  have hO9 := hO
  have hP : va_P g.1 vcl ([(a, .inl (g.2.1 2, 1, .inr (.inl f9)))] ++ pl) _ := hP
  have hD : va_D _ ([(a, .inl (g.2.1 2, 1, .inr (.inl f9)))] ++ pl) := hD
  refine W.widen (k := 380 + 3 * n0 + 3) (n := 194479 + 7491 * n0 + 7491) (by omega) (by omega) ?_
  obtain ⟨em1, em2, em3, em4, em5⟩ := SAME_mod hSM (ms_K_told hF9)
  refine lv_istore (lv' := [(5, .int r9), (4, .int (nI i)), (3, .ref a), (2, .ref h1), (1, .ref h0), (0, .ref b)]) hx hb dL_law_505 hl (by decide) rfl (fun ls hl => ?_)
  refine lv_aload_n hx hb dL_law_507 rfl (lv_at hl 3 rfl) ?_
  refine lv_aload_n hx hb dL_law_508 rfl (lv_at hl 5 rfl) ?_
  refine lv_iload hx hb dL_law_509 (lv_at hl 1 rfl) ?_
  refine lv_iconst (v := nI 1) hx hb dL_law_511 (by decide) ?_
  refine mi_iadd hx hb dL_law_512 ?_
  refine va_sld hx hb hXs hbl hbA hS (vp_in_nI (N := L) (by omega) (by omega)) dL_law_513 ?_
  refine mi_as hv1 ?_
  refine lv_aload_n hx hb dL_law_514 rfl (lv_at hl 5 rfl) ?_
  refine lv_iload hx hb dL_law_515 (lv_at hl 1 rfl) ?_
  refine lv_iconst (v := nI 2) hx hb dL_law_517 (by decide) ?_
  refine mi_iadd hx hb dL_law_518 ?_
  refine va_sld hx hb hXs hbl hbA hS (vp_in_nI (N := L) (by omega) (by omega)) dL_law_519 ?_
  refine mi_as hv2 ?_
  refine mp_i (cx := []) (wr := [(a, .inl (g.2.1 2, 1, .inr (.inl f9)))]) hP hD hS hA [] [0] rfl rfl rfl (by decide) (va_runV (As := [.int v1, .int v2]) (rest := []) F (N_M_told l g _ T q9.2.2 pl hO hU h1 v1 v2 tl al pn k_h1 em1 em2 em3 et3 ea3 ep3 em4 em5) (cwV 2 hts (wg_app (wg_c kw_1793 (wg_c kw_1794 (wg_c kw_1795 (wg_c kw_9 wg_n)))) kw_1796) rfl rfl rfl (by decide +kernel) ⟨by decide, by decide⟩) (pn_W "LatticeKeysModel" (en_ok g) (ci := 8) (kn := 148) (fl := [(0, 0), (0, 0), (0, 0), (0, 0), (3, 149), (3, 150), (3, 151), (3, 152), (3, 161), (3, 170), (3, 171), (3, 172), (3, 184), (3, 225)]) hK hO k_h1 rfl hP hD hS hA hE [] rfl rfl rfl) rfl rfl hl.1 rfl (lv_room (Nat.le_of_ble_eq_true rfl)) dL_law_520 ⟨by omega, by omega⟩) (fun r8 u8 H locs hu8 hP hD hS => ?_)
  obtain ⟨q8, pl⟩ := u8
  obtain ⟨⟨eq8, er8, hF8, -⟩, hO⟩ := hu8
  have eq8 : q8 = F_M_told v1 v2 q9.2.2 := eq8
  have er8 : r8 = q8.1 := er8
  have hF8 : frm M_M_told q9.2.2 q8.2 := hF8
  have hO : okn g T q8.2 pl := hO
  have hP : va_P g.1 vcl ([(a, .inl (g.2.1 2, 1, .inr (.inl f9)))] ++ pl) _ := hP
  have hD : va_D _ ([(a, .inl (g.2.1 2, 1, .inr (.inl f9)))] ++ pl) := hD
  refine W.widen (k := 380 + 3 * n0 + 3) (n := 194479 + 7491 * n0 + 7491) (by omega) (by omega) ?_
  have en9 : q8.2 = callNxt 5 v1 v2 v3 v4 v5 pn σ := nx_of ecc cm_told eq8
  have hout := sm_out (c := 5) (v1 := v1) (v2 := v2) (v3 := v3) (v4 := v4) (v5 := v5) hSM trivial
  rw [ecc, cm_told, ← eq8, ← en9] at hout
  obtain ⟨⟨tl1, al1, pn1, hS1⟩, hth, han⟩ := hout
  have epn := pn_same hp9 ep3 (hF8 0 (by unfold M_M_told; omega)) hS1
  rw [← epn] at hlow
  refine lv_istore (lv' := [(6, .int r8), (5, .int r9), (4, .int (nI i)), (3, .ref a), (2, .ref h1), (1, .ref h0), (0, .ref b)]) hx hb dL_law_523 hl (by decide) rfl (fun ls hl => ?_)
  refine lv_aload_n hx hb dL_law_525 rfl (lv_at hl 4 rfl) ?_
  refine mp_i (cx := []) (wr := [(a, .inl (g.2.1 2, 1, .inr (.inl f9)))]) hP hD hS hA [] [0] rfl rfl rfl (by decide) (va_runV (As := []) (rest := []) F (N_M_thrown l g _ T q8.2 pl hO hU h1 tl1 al1 pn1 k_h1 hS1.1.2.1 hS1.2.1.2.1 hS1.2.2.1.2.1) (cwV 0 hts (wg_app (wg_c kw_1569 (wg_c kw_1570 (wg_c kw_1571 (wg_c kw_9 wg_n)))) kw_1572) rfl rfl rfl (by decide +kernel) ⟨by decide, by decide⟩) (pn_W "LatticeKeysModel" (en_ok g) (ci := 8) (kn := 148) (fl := [(0, 0), (0, 0), (0, 0), (0, 0), (3, 149), (3, 150), (3, 151), (3, 152), (3, 161), (3, 170), (3, 171), (3, 172), (3, 184), (3, 225)]) hK hO k_h1 rfl hP hD hS hA hE [] rfl rfl rfl) rfl rfl hl.1 rfl (lv_room (Nat.le_of_ble_eq_true rfl)) dL_law_526 ⟨by omega, by omega⟩) (fun r7 u7 H locs hu7 hP hD hS => ?_)
  obtain ⟨q7, pl⟩ := u7
  obtain ⟨⟨eq7, er7, -⟩, hO⟩ := hu7
  have eq7 : q7 = (q8.2.1 148 0, q8.2) := eq7
  have er7 : r7 = q7.1 := er7
  have hO : okn g T q7.2 pl := hO
  rw [eq7] at er7 hO
  have hP : va_P g.1 vcl ([(a, .inl (g.2.1 2, 1, .inr (.inl f9)))] ++ pl) _ := hP
  have hD : va_D _ ([(a, .inl (g.2.1 2, 1, .inr (.inl f9)))] ++ pl) := hD
  have e79 : r7 = r9 := er7.trans (hth.trans er9.symm)
  refine W.widen (k := 380 + 3 * n0 + 3) (n := 194479 + 7491 * n0 + 7491) (by omega) (by omega) ?_
  refine lv_iload hx hb dL_law_529 (lv_at hl 1 rfl) ?_
  refine lv_icmp_eq (tgt := 536) hx hb dL_law_531 (by decide) (fun _ => ?_) (fun h9 => absurd e79 h9)
  refine lv_iload hx hb dL_law_536 (lv_at hl 1 rfl) ?_
  refine lv_if_ne (tgt := 553) hx hb dL_law_538 (by decide) (fun h21 => ?_) (fun h21 => ?_)
  · refine lv_goto (tgt := 785) hx hb dL_law_553 (by decide) ?_
    rw [en9] at hO hS1
    exact W.widen (k := 380 + 3 * n0 + 3) (n := 194479 + 7491 * n0 + 7491) (by omega) (by omega) (next pn _ _ _ ep3 ep1 ⟨T, pl, h0, h1, a, f9, tl1, al1, pn1, hO, hU, hT, hlow, hS1, k_h0, k_h1, hP, hD, hS, lv_sub hl [2, 3, 4, 5, 6] rfl⟩)
  · have hz9 : q9.1 = nI 0 := er9.symm.trans h21
    refine lv_aload_n hx hb dL_law_541 rfl (lv_at hl 3 rfl) ?_
    refine lv_iconst (v := nI 0) hx hb dL_law_542 (by decide) ?_
    refine va_lald hx hb hK hP 0 2 rfl rfl (vp_in_nI (by decide) (by decide)) dL_law_543 ?_
    refine ml_as (show f9 (nI 0).toNatClampNeg = (q9.2.1).toInt64 from ha9 hz9) ?_
    refine lv_iload hx hb dL_law_544 (lv_at hl 0 rfl) ?_
    refine mi_as (er8.trans (han hz9)) ?_
    refine lv_i2l (v := (q9.2.1).toInt64) hx hb dL_law_546 rfl ?_
    refine W.lcmp hx hb dL_law_547 ?_
    refine mi_as (lc_cmp _) ?_
    refine lv_if_eq (tgt := 553) hx hb dL_law_548 (by decide) (fun h22 => ?_) (fun h22 => absurd h22 (by decide))
    refine lv_goto (tgt := 785) hx hb dL_law_553 (by decide) ?_
    rw [en9] at hO hS1
    exact W.widen (k := 380 + 3 * n0 + 3) (n := 194479 + 7491 * n0 + 7491) (by omega) (by omega) (next pn _ _ _ ep3 ep1 ⟨T, pl, h0, h1, a, f9, tl1, al1, pn1, hO, hU, hT, hlow, hS1, k_h0, k_h1, hP, hD, hS, lv_sub hl [2, 3, 4, 5, 6] rfl⟩)
