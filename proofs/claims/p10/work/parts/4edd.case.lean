set_option linter.all false
set_option maxHeartbeats 4000000 in
set_option maxRecDepth 100000 in
theorem lw_keys {p : Program} {e : Env} {s : State} {m : MethodId} {below : List Frame} {meth : Method} {c : Code} (l : Launch) (htr : l.stackTraces = false) {b L : Nat} {xs : Nat → Int32} (hL : L ≤ 3072) (C0 : lw_At p s m meth c b L xs) (g : Gd) (F : CallFix p m c c_L_law 7 s #[Value.ref b] wL "LatticeKeysLaw") (hX : ex g (Alaw s) s s.heap) {n0 i : Nat} (hn0 : n0 < 512) (hi : i = 6 * n0) (hi6 : i + 6 ≤ L) {v1 v2 v3 v4 v5 : Int32} (hv1 : xs (nI (i + 1)).toNatClampNeg = v1) (hv2 : xs (nI (i + 2)).toNatClampNeg = v2) (hv3 : xs (nI (i + 3)).toNatClampNeg = v3) (hv4 : xs (nI (i + 4)).toNatClampNeg = v4) (hv5 : xs (nI (i + 5)).toNatClampNeg = v5) {σ : Sto} (hE9 : ∀ pn : Nat, pn ≤ 8 → σ.1 0 5 = nI pn → callE 8 v1 v2 v3 v4 v5 pn σ) {H : Heap} {locs : List Loc} {ls : Array Slot} (hI : LWS g s b i σ H locs ls) (next : ∀ (pn : Nat) (H : Heap) (locs : List Loc) (ls : Array Slot), pn ≤ 8 → σ.1 0 5 = nI pn → LWS g s b i (callNxt 8 v1 v2 v3 v4 v5 pn σ) H locs ls → W p l e room_1 s m #[Value.ref b] below meth c H locs (380 + 3 * n0 + 3) (194479 + 7491 * n0 + 7491) (lw_Z below #[Value.ref b] s) (F0 m 785 ls [])) : W p l e room_1 s m #[Value.ref b] below meth c H locs (380 + 3 * n0) (194479 + 7491 * n0) (lw_Z below #[Value.ref b] s) (F0 m 280 ls []) := by
  obtain ⟨hx, hb, hml, hown, hts⟩ := id F
  have hE := hX.1
  have hK := hE.1
  have hA : ∀ q, s.heap.size ≤ q → Alaw s q := fun _ h => h
  obtain ⟨-, -, hr, -, -, -, hXs, hbl, hlk, -⟩ := id C0
  have hbA : ¬ Alaw s b := fun h => Nat.not_lt.mpr h hbl
  obtain ⟨T, pl, h0, h1, a, f, tl, al, pn, hO, hU, hT, hlow, hSM, k_h0, k_h1, hP, hD, hS, hl⟩ := hI
  have hRc : room_1.cells = 601024 := rfl
  have hRs : room_1.slots = 7293034 := rfl
  have hT0 := hT
  have hO0 := hO
  obtain ⟨⟨et1, et2, et3⟩, ⟨ea1, ea2, ea3⟩, ⟨ep1, ep2, ep3⟩, -⟩ := id hSM
  replace hE9 := hE9 pn ep3 ep1
  refine lv_aload_n hx hb dL_law_280 rfl (lv_at hl 3 rfl) ?_
  refine lv_aload_n hx hb dL_law_281 rfl (lv_at hl 4 rfl) ?_
  refine lv_iload hx hb dL_law_282 (lv_at hl 0 rfl) ?_
  refine lv_iconst (v := nI 1) hx hb dL_law_284 (by decide) ?_
  refine mi_iadd hx hb dL_law_285 ?_
  refine va_sld hx hb hXs hbl hbA hS (vp_in_nI (N := L) (by omega) (by omega)) dL_law_286 ?_
  refine mi_as hv1 ?_
  refine lv_aload_n hx hb dL_law_287 rfl (lv_at hl 1 rfl) ?_
  refine mp_i (cx := [(a, .inl (g.2.1 2, 1, .inr (.inl f)))]) (wr := []) hP hD hS hA [0] [] rfl rfl rfl (by decide) (lc_run (As := [.ref h0, .int v1, .ref a]) (rest := []) F (ln_keys l htr g _ T σ pl hO hU h0 v1 a f tl al pn k_h0 et1 ea1 ep1 et3 ea3 ep3 hlow) (lc_cw 3 hts (wg_app (wg_c kw_551 (wg_c kw_552 (wg_c kw_0 wg_n))) kw_553) rfl rfl rfl (by decide +kernel) ⟨by decide, by decide⟩) (pp_S (ex_ok g) hP hD hS hA hX [0] rfl rfl) rfl rfl hl.1 rfl (lv_room (Nat.le_of_ble_eq_true rfl)) dL_law_288 ⟨by omega, by omega⟩) (fun r9 u9 H locs hu9 hP hD hS => ?_)
  obtain ⟨⟨⟨q9, T9⟩, f9⟩, pl⟩ := u9
  obtain ⟨⟨eq9, er9, hF9, ha9, hx9, hU, ⟨x8, hp9, hb8, hlow⟩⟩, hO⟩ := hu9
  have eq9 : q9 = F_K_keys v1 pn σ := eq9
  have er9 : r9 = q9.1 := er9
  have hF9 : frm M_K_keys σ q9.2.2 := hF9
  have hp9 : q9.2.2.1 0 5 = nI x8 := hp9
  have hO : okn g T9 q9.2.2 pl := hO
  have ha9 : q9.1 = nI 0 → f9 0 = q9.2.1.toInt64 := ha9
  have ecc : callCls 8 v1 v2 v3 v4 v5 pn σ = q9 := by rw [cc_keys, eq9]
  have hx9 : extN T T9 := hx9
  have hU : inj T9 := hU
  have hlow : lowT T9 (379 + 36 * x8) := hlow
  have k_h0 := hx9 _ _ k_h0
  have k_h1 := hx9 _ _ k_h1
  have hT := FULL_ext hT hx9
  have hO9 := hO
  have hP : va_P g.1 vcl ([(a, .inl (g.2.1 2, 1, .inr (.inl f9)))] ++ pl) _ := hP
  have hD : va_D _ ([(a, .inl (g.2.1 2, 1, .inr (.inl f9)))] ++ pl) := hD
  refine W.widen (k := 380 + 3 * n0 + 3) (n := 194479 + 7491 * n0 + 7491) (by omega) (by omega) ?_
  obtain ⟨em1, em2, em3, em4, em5⟩ := SAME_mod hSM (ms_K_keys hF9)
  refine lv_istore (lv' := [(5, .int r9), (4, .int (nI i)), (3, .ref a), (2, .ref h1), (1, .ref h0), (0, .ref b)]) hx hb dL_law_291 hl (by decide) rfl (fun ls hl => ?_)
  refine lv_aload_n hx hb dL_law_293 rfl (lv_at hl 3 rfl) ?_
  refine lv_aload_n hx hb dL_law_294 rfl (lv_at hl 5 rfl) ?_
  refine lv_iload hx hb dL_law_295 (lv_at hl 1 rfl) ?_
  refine lv_iconst (v := nI 1) hx hb dL_law_297 (by decide) ?_
  refine mi_iadd hx hb dL_law_298 ?_
  refine va_sld hx hb hXs hbl hbA hS (vp_in_nI (N := L) (by omega) (by omega)) dL_law_299 ?_
  refine mi_as hv1 ?_
  have hE8 := ce_keys hE9 eq9
  refine mp_i (cx := []) (wr := [(a, .inl (g.2.1 2, 1, .inr (.inl f9)))]) hP hD hS hA [] [0] rfl rfl rfl (by decide) (va_runV (As := [.int v1]) (rest := []) F (N_M_keys l g _ T9 q9.2.2 pl hO hU h1 v1 tl al pn k_h1 em1 em2 em3 et3 ea3 ep3 em4 em5 hE8) (cwV 1 hts (wg_app (wg_c kw_1597 (wg_c kw_1598 (wg_c kw_1599 (wg_c kw_9 wg_n)))) kw_1600) rfl rfl rfl (by decide +kernel) ⟨by decide, by decide⟩) (pn_W "LatticeKeysModel" (en_ok g) (ci := 8) (kn := 148) (fl := [(0, 0), (0, 0), (0, 0), (0, 0), (3, 149), (3, 150), (3, 151), (3, 152), (3, 161), (3, 170), (3, 171), (3, 172), (3, 184), (3, 225)]) hK hO k_h1 rfl hP hD hS hA hE [] rfl rfl rfl) rfl rfl hl.1 rfl (lv_room (Nat.le_of_ble_eq_true rfl)) dL_law_300 ⟨by omega, by omega⟩) (fun r8 u8 H locs hu8 hP hD hS => ?_)
  obtain ⟨q8, pl⟩ := u8
  obtain ⟨⟨eq8, er8, hF8, -⟩, hO⟩ := hu8
  have eq8 : q8 = F_M_keys v1 q9.2.2 := eq8
  have er8 : r8 = q8.1 := er8
  have hF8 : frm M_M_keys q9.2.2 q8.2 := hF8
  have hO : okn g T9 q8.2 pl := hO
  have hP : va_P g.1 vcl ([(a, .inl (g.2.1 2, 1, .inr (.inl f9)))] ++ pl) _ := hP
  have hD : va_D _ ([(a, .inl (g.2.1 2, 1, .inr (.inl f9)))] ++ pl) := hD
  refine W.widen (k := 380 + 3 * n0 + 3) (n := 194479 + 7491 * n0 + 7491) (by omega) (by omega) ?_
  have en9 : q8.2 = callNxt 8 v1 v2 v3 v4 v5 pn σ := nx_of ecc cm_keys eq8
  have hout := sm_out (c := 8) (v1 := v1) (v2 := v2) (v3 := v3) (v4 := v4) (v5 := v5) hSM (keys_ok eq9 eq8 hO0 hT0 hx9 hO hF9 hE8)
  rw [ecc, cm_keys, ← eq8, ← en9] at hout
  obtain ⟨⟨tl1, al1, pn1, hS1⟩, hth, han⟩ := hout
  have epn := pn_same hp9 hb8 (hF8 0 (by unfold M_M_keys; omega)) hS1
  rw [← epn] at hlow
  refine lv_istore (lv' := [(6, .int r8), (5, .int r9), (4, .int (nI i)), (3, .ref a), (2, .ref h1), (1, .ref h0), (0, .ref b)]) hx hb dL_law_303 hl (by decide) rfl (fun ls hl => ?_)
  refine lv_goto (tgt := 785) hx hb dL_law_305 (by decide) ?_
  rw [en9] at hO hS1
  exact W.widen (k := 380 + 3 * n0 + 3) (n := 194479 + 7491 * n0 + 7491) (by omega) (by omega) (next pn _ _ _ ep3 ep1 ⟨T9, pl, h0, h1, a, f9, tl1, al1, pn1, hO, hU, hT, hlow, hS1, k_h0, k_h1, hP, hD, hS, lv_sub hl [2, 3, 4, 5, 6] rfl⟩)
set_option maxHeartbeats 4000000 in
set_option maxRecDepth 100000 in
theorem lw_load {p : Program} {e : Env} {s : State} {m : MethodId} {below : List Frame} {meth : Method} {c : Code} (l : Launch) (htr : l.stackTraces = false) {b L : Nat} {xs : Nat → Int32} (hL : L ≤ 3072) (C0 : lw_At p s m meth c b L xs) (g : Gd) (F : CallFix p m c c_L_law 7 s #[Value.ref b] wL "LatticeKeysLaw") (hX : ex g (Alaw s) s s.heap) {n0 i : Nat} (hn0 : n0 < 512) (hi : i = 6 * n0) (hi6 : i + 6 ≤ L) {v1 v2 v3 v4 v5 : Int32} (hv1 : xs (nI (i + 1)).toNatClampNeg = v1) (hv2 : xs (nI (i + 2)).toNatClampNeg = v2) (hv3 : xs (nI (i + 3)).toNatClampNeg = v3) (hv4 : xs (nI (i + 4)).toNatClampNeg = v4) (hv5 : xs (nI (i + 5)).toNatClampNeg = v5) {σ : Sto} (hE9 : ∀ pn : Nat, pn ≤ 8 → σ.1 0 5 = nI pn → callE 13 v1 (bz v2) v3 v4 v5 pn σ) {H : Heap} {locs : List Loc} {ls : Array Slot} (hI : LWS g s b i σ H locs ls) (next : ∀ (pn : Nat) (H : Heap) (locs : List Loc) (ls : Array Slot), pn ≤ 8 → σ.1 0 5 = nI pn → LWS g s b i (callNxt 13 v1 (bz v2) v3 v4 v5 pn σ) H locs ls → W p l e room_1 s m #[Value.ref b] below meth c H locs (380 + 3 * n0 + 3) (194479 + 7491 * n0 + 7491) (lw_Z below #[Value.ref b] s) (F0 m 785 ls [])) : W p l e room_1 s m #[Value.ref b] below meth c H locs (380 + 3 * n0) (194479 + 7491 * n0) (lw_Z below #[Value.ref b] s) (F0 m 308 ls []) := by
  obtain ⟨hx, hb, hml, hown, hts⟩ := id F
  have hE := hX.1
  have hK := hE.1
  have hA : ∀ q, s.heap.size ≤ q → Alaw s q := fun _ h => h
  obtain ⟨-, -, hr, -, -, -, hXs, hbl, hlk, -⟩ := id C0
  have hbA : ¬ Alaw s b := fun h => Nat.not_lt.mpr h hbl
  obtain ⟨T, pl, h0, h1, a, f, tl, al, pn, hO, hU, hT, hlow, hSM, k_h0, k_h1, hP, hD, hS, hl⟩ := hI
  have hRc : room_1.cells = 601024 := rfl
  have hRs : room_1.slots = 7293034 := rfl
  have hT0 := hT
  have hO0 := hO
  obtain ⟨⟨et1, et2, et3⟩, ⟨ea1, ea2, ea3⟩, ⟨ep1, ep2, ep3⟩, -⟩ := id hSM
  replace hE9 := hE9 pn ep3 ep1
  by_cases hz9 : v2 = 0
  · have hb9 : bz v2 = nI 0 := if_pos hz9
    rw [hb9] at hE9 next
    refine lv_aload_n hx hb dL_law_308 rfl (lv_at hl 3 rfl) ?_
    refine lv_aload_n hx hb dL_law_309 rfl (lv_at hl 4 rfl) ?_
    refine lv_iload hx hb dL_law_310 (lv_at hl 0 rfl) ?_
    refine lv_iconst (v := nI 1) hx hb dL_law_312 (by decide) ?_
    refine mi_iadd hx hb dL_law_313 ?_
    refine va_sld hx hb hXs hbl hbA hS (vp_in_nI (N := L) (by omega) (by omega)) dL_law_314 ?_
    refine mi_as hv1 ?_
    refine lv_aload_n hx hb dL_law_315 rfl (lv_at hl 4 rfl) ?_
    refine lv_iload hx hb dL_law_316 (lv_at hl 0 rfl) ?_
    refine lv_iconst (v := nI 2) hx hb dL_law_318 (by decide) ?_
    refine mi_iadd hx hb dL_law_319 ?_
    refine va_sld hx hb hXs hbl hbA hS (vp_in_nI (N := L) (by omega) (by omega)) dL_law_320 ?_
    refine mi_as hv2 ?_
    refine lv_if_eq (tgt := 328) hx hb dL_law_321 (by decide) (fun _ => ?_) (fun h9 => absurd hz9 h9)
    refine lv_iconst (v := nI 0) hx hb dL_law_328 (by decide) ?_
    refine lv_aload_n hx hb dL_law_329 rfl (lv_at hl 1 rfl) ?_
    refine mp_i (cx := [(a, .inl (g.2.1 2, 1, .inr (.inl f)))]) (wr := []) hP hD hS hA [0] [] rfl rfl rfl (by decide) (lc_run (As := [.ref h0, .int v1, .int (nI 0), .ref a]) (rest := []) F (ln_load l htr g _ T σ pl hO hU h0 v1 (nI 0) a f tl al pn k_h0 et1 ea1 ep1 et3 ea3 ep3 hlow) (lc_cw 4 hts (wg_app (wg_c kw_764 (wg_c kw_765 (wg_c kw_0 wg_n))) kw_766) rfl rfl rfl (by decide +kernel) ⟨by decide, by decide⟩) (pp_S (ex_ok g) hP hD hS hA hX [0] rfl rfl) rfl rfl hl.1 rfl (lv_room (Nat.le_of_ble_eq_true rfl)) dL_law_330 ⟨by omega, by omega⟩) (fun r9 u9 H locs hu9 hP hD hS => ?_)
    obtain ⟨⟨⟨q9, T9⟩, f9⟩, pl⟩ := u9
    obtain ⟨⟨eq9, er9, hF9, ha9, hx9, hU, ⟨x8, hp9, hb8, hlow⟩⟩, hO⟩ := hu9
    have eq9 : q9 = F_K_load v1 (nI 0) pn σ := eq9
    have er9 : r9 = q9.1 := er9
    have hF9 : frm M_K_load σ q9.2.2 := hF9
    have hp9 : q9.2.2.1 0 5 = nI x8 := hp9
    have hO : okn g T9 q9.2.2 pl := hO
    have ha9 : q9.1 = nI 0 → f9 0 = q9.2.1.toInt64 := ha9
    have ecc : callCls 13 v1 (nI 0) v3 v4 v5 pn σ = q9 := by rw [cc_load, eq9]
    have hx9 : extN T T9 := hx9
    have hU : inj T9 := hU
    have hlow : lowT T9 (379 + 36 * x8) := hlow
    have k_h0 := hx9 _ _ k_h0
    have k_h1 := hx9 _ _ k_h1
    have hT := FULL_ext hT hx9
    have hO9 := hO
    have hP : va_P g.1 vcl ([(a, .inl (g.2.1 2, 1, .inr (.inl f9)))] ++ pl) _ := hP
    have hD : va_D _ ([(a, .inl (g.2.1 2, 1, .inr (.inl f9)))] ++ pl) := hD
    refine W.widen (k := 380 + 3 * n0 + 3) (n := 194479 + 7491 * n0 + 7491) (by omega) (by omega) ?_
    obtain ⟨em1, em2, em3, em4, em5⟩ := SAME_mod hSM (ms_K_load hF9)
    refine lv_istore (lv' := [(5, .int r9), (4, .int (nI i)), (3, .ref a), (2, .ref h1), (1, .ref h0), (0, .ref b)]) hx hb dL_law_333 hl (by decide) rfl (fun ls hl => ?_)
    refine lv_aload_n hx hb dL_law_335 rfl (lv_at hl 3 rfl) ?_
    refine lv_aload_n hx hb dL_law_336 rfl (lv_at hl 5 rfl) ?_
    refine lv_iload hx hb dL_law_337 (lv_at hl 1 rfl) ?_
    refine lv_iconst (v := nI 1) hx hb dL_law_339 (by decide) ?_
    refine mi_iadd hx hb dL_law_340 ?_
    refine va_sld hx hb hXs hbl hbA hS (vp_in_nI (N := L) (by omega) (by omega)) dL_law_341 ?_
    refine mi_as hv1 ?_
    refine lv_aload_n hx hb dL_law_342 rfl (lv_at hl 5 rfl) ?_
    refine lv_iload hx hb dL_law_343 (lv_at hl 1 rfl) ?_
    refine lv_iconst (v := nI 2) hx hb dL_law_345 (by decide) ?_
    refine mi_iadd hx hb dL_law_346 ?_
    refine va_sld hx hb hXs hbl hbA hS (vp_in_nI (N := L) (by omega) (by omega)) dL_law_347 ?_
    refine mi_as hv2 ?_
    refine lv_if_eq (tgt := 355) hx hb dL_law_348 (by decide) (fun _ => ?_) (fun h9 => absurd hz9 h9)
    refine lv_iconst (v := nI 0) hx hb dL_law_355 (by decide) ?_
    refine mp_i (cx := []) (wr := [(a, .inl (g.2.1 2, 1, .inr (.inl f9)))]) hP hD hS hA [] [0] rfl rfl rfl (by decide) (va_runV (As := [.int v1, .int (nI 0)]) (rest := []) F (N_M_load l g _ T9 q9.2.2 pl hO hU h1 v1 (nI 0) tl al pn k_h1 em1 em2 em3 et3 ea3 ep3 em4 em5) (cwV 2 hts (wg_app (wg_c kw_1760 (wg_c kw_1761 (wg_c kw_1762 (wg_c kw_9 wg_n)))) kw_1763) rfl rfl rfl (by decide +kernel) ⟨by decide, by decide⟩) (pn_W "LatticeKeysModel" (en_ok g) (ci := 8) (kn := 148) (fl := [(0, 0), (0, 0), (0, 0), (0, 0), (3, 149), (3, 150), (3, 151), (3, 152), (3, 161), (3, 170), (3, 171), (3, 172), (3, 184), (3, 225)]) hK hO k_h1 rfl hP hD hS hA hE [] rfl rfl rfl) rfl rfl hl.1 rfl (lv_room (Nat.le_of_ble_eq_true rfl)) dL_law_356 ⟨by omega, by omega⟩) (fun r8 u8 H locs hu8 hP hD hS => ?_)
    obtain ⟨q8, pl⟩ := u8
    obtain ⟨⟨eq8, er8, hF8, -⟩, hO⟩ := hu8
    have eq8 : q8 = F_M_load v1 (nI 0) q9.2.2 := eq8
    have er8 : r8 = q8.1 := er8
    have hF8 : frm M_M_load q9.2.2 q8.2 := hF8
    have hO : okn g T9 q8.2 pl := hO
    have hP : va_P g.1 vcl ([(a, .inl (g.2.1 2, 1, .inr (.inl f9)))] ++ pl) _ := hP
    have hD : va_D _ ([(a, .inl (g.2.1 2, 1, .inr (.inl f9)))] ++ pl) := hD
    refine W.widen (k := 380 + 3 * n0 + 3) (n := 194479 + 7491 * n0 + 7491) (by omega) (by omega) ?_
    have en9 : q8.2 = callNxt 13 v1 (nI 0) v3 v4 v5 pn σ := nx_of ecc cm_load eq8
    have hout := sm_out (c := 13) (v1 := v1) (v2 := (nI 0)) (v3 := v3) (v4 := v4) (v5 := v5) hSM (load_ok hO0 hT0)
    rw [ecc, cm_load, ← eq8, ← en9] at hout
    obtain ⟨⟨tl1, al1, pn1, hS1⟩, hth, han⟩ := hout
    have epn := pn_same hp9 hb8 (hF8 0 (by unfold M_M_load; omega)) hS1
    rw [← epn] at hlow
    refine lv_istore (lv' := [(6, .int r8), (5, .int r9), (4, .int (nI i)), (3, .ref a), (2, .ref h1), (1, .ref h0), (0, .ref b)]) hx hb dL_law_359 hl (by decide) rfl (fun ls hl => ?_)
    refine lv_goto (tgt := 785) hx hb dL_law_361 (by decide) ?_
    rw [en9] at hO hS1
    exact W.widen (k := 380 + 3 * n0 + 3) (n := 194479 + 7491 * n0 + 7491) (by omega) (by omega) (next pn _ _ _ ep3 ep1 ⟨T9, pl, h0, h1, a, f9, tl1, al1, pn1, hO, hU, hT, hlow, hS1, k_h0, k_h1, hP, hD, hS, lv_sub hl [2, 3, 4, 5, 6] rfl⟩)
  · have hb9 : bz v2 = nI 1 := if_neg hz9
    rw [hb9] at hE9 next
    refine lv_aload_n hx hb dL_law_308 rfl (lv_at hl 3 rfl) ?_
    refine lv_aload_n hx hb dL_law_309 rfl (lv_at hl 4 rfl) ?_
    refine lv_iload hx hb dL_law_310 (lv_at hl 0 rfl) ?_
    refine lv_iconst (v := nI 1) hx hb dL_law_312 (by decide) ?_
    refine mi_iadd hx hb dL_law_313 ?_
    refine va_sld hx hb hXs hbl hbA hS (vp_in_nI (N := L) (by omega) (by omega)) dL_law_314 ?_
    refine mi_as hv1 ?_
    refine lv_aload_n hx hb dL_law_315 rfl (lv_at hl 4 rfl) ?_
    refine lv_iload hx hb dL_law_316 (lv_at hl 0 rfl) ?_
    refine lv_iconst (v := nI 2) hx hb dL_law_318 (by decide) ?_
    refine mi_iadd hx hb dL_law_319 ?_
    refine va_sld hx hb hXs hbl hbA hS (vp_in_nI (N := L) (by omega) (by omega)) dL_law_320 ?_
    refine mi_as hv2 ?_
    refine lv_if_eq (tgt := 328) hx hb dL_law_321 (by decide) (fun h9 => absurd h9 hz9) (fun _ => ?_)
    refine lv_iconst (v := nI 1) hx hb dL_law_324 (by decide) ?_
    refine lv_goto (tgt := 329) hx hb dL_law_325 (by decide) ?_
    refine lv_aload_n hx hb dL_law_329 rfl (lv_at hl 1 rfl) ?_
    refine mp_i (cx := [(a, .inl (g.2.1 2, 1, .inr (.inl f)))]) (wr := []) hP hD hS hA [0] [] rfl rfl rfl (by decide) (lc_run (As := [.ref h0, .int v1, .int (nI 1), .ref a]) (rest := []) F (ln_load l htr g _ T σ pl hO hU h0 v1 (nI 1) a f tl al pn k_h0 et1 ea1 ep1 et3 ea3 ep3 hlow) (lc_cw 4 hts (wg_app (wg_c kw_764 (wg_c kw_765 (wg_c kw_0 wg_n))) kw_766) rfl rfl rfl (by decide +kernel) ⟨by decide, by decide⟩) (pp_S (ex_ok g) hP hD hS hA hX [0] rfl rfl) rfl rfl hl.1 rfl (lv_room (Nat.le_of_ble_eq_true rfl)) dL_law_330 ⟨by omega, by omega⟩) (fun r9 u9 H locs hu9 hP hD hS => ?_)
    obtain ⟨⟨⟨q9, T9⟩, f9⟩, pl⟩ := u9
    obtain ⟨⟨eq9, er9, hF9, ha9, hx9, hU, ⟨x8, hp9, hb8, hlow⟩⟩, hO⟩ := hu9
    have eq9 : q9 = F_K_load v1 (nI 1) pn σ := eq9
    have er9 : r9 = q9.1 := er9
    have hF9 : frm M_K_load σ q9.2.2 := hF9
    have hp9 : q9.2.2.1 0 5 = nI x8 := hp9
    have hO : okn g T9 q9.2.2 pl := hO
    have ha9 : q9.1 = nI 0 → f9 0 = q9.2.1.toInt64 := ha9
    have ecc : callCls 13 v1 (nI 1) v3 v4 v5 pn σ = q9 := by rw [cc_load, eq9]
    have hx9 : extN T T9 := hx9
    have hU : inj T9 := hU
    have hlow : lowT T9 (379 + 36 * x8) := hlow
    have k_h0 := hx9 _ _ k_h0
    have k_h1 := hx9 _ _ k_h1
    have hT := FULL_ext hT hx9
    have hO9 := hO
    have hP : va_P g.1 vcl ([(a, .inl (g.2.1 2, 1, .inr (.inl f9)))] ++ pl) _ := hP
    have hD : va_D _ ([(a, .inl (g.2.1 2, 1, .inr (.inl f9)))] ++ pl) := hD
    refine W.widen (k := 380 + 3 * n0 + 3) (n := 194479 + 7491 * n0 + 7491) (by omega) (by omega) ?_
    obtain ⟨em1, em2, em3, em4, em5⟩ := SAME_mod hSM (ms_K_load hF9)
    refine lv_istore (lv' := [(5, .int r9), (4, .int (nI i)), (3, .ref a), (2, .ref h1), (1, .ref h0), (0, .ref b)]) hx hb dL_law_333 hl (by decide) rfl (fun ls hl => ?_)
    refine lv_aload_n hx hb dL_law_335 rfl (lv_at hl 3 rfl) ?_
    refine lv_aload_n hx hb dL_law_336 rfl (lv_at hl 5 rfl) ?_
    refine lv_iload hx hb dL_law_337 (lv_at hl 1 rfl) ?_
    refine lv_iconst (v := nI 1) hx hb dL_law_339 (by decide) ?_
    refine mi_iadd hx hb dL_law_340 ?_
    refine va_sld hx hb hXs hbl hbA hS (vp_in_nI (N := L) (by omega) (by omega)) dL_law_341 ?_
    refine mi_as hv1 ?_
    refine lv_aload_n hx hb dL_law_342 rfl (lv_at hl 5 rfl) ?_
    refine lv_iload hx hb dL_law_343 (lv_at hl 1 rfl) ?_
    refine lv_iconst (v := nI 2) hx hb dL_law_345 (by decide) ?_
    refine mi_iadd hx hb dL_law_346 ?_
    refine va_sld hx hb hXs hbl hbA hS (vp_in_nI (N := L) (by omega) (by omega)) dL_law_347 ?_
    refine mi_as hv2 ?_
    refine lv_if_eq (tgt := 355) hx hb dL_law_348 (by decide) (fun h9 => absurd h9 hz9) (fun _ => ?_)
    refine lv_iconst (v := nI 1) hx hb dL_law_351 (by decide) ?_
    refine lv_goto (tgt := 356) hx hb dL_law_352 (by decide) ?_
    refine mp_i (cx := []) (wr := [(a, .inl (g.2.1 2, 1, .inr (.inl f9)))]) hP hD hS hA [] [0] rfl rfl rfl (by decide) (va_runV (As := [.int v1, .int (nI 1)]) (rest := []) F (N_M_load l g _ T9 q9.2.2 pl hO hU h1 v1 (nI 1) tl al pn k_h1 em1 em2 em3 et3 ea3 ep3 em4 em5) (cwV 2 hts (wg_app (wg_c kw_1760 (wg_c kw_1761 (wg_c kw_1762 (wg_c kw_9 wg_n)))) kw_1763) rfl rfl rfl (by decide +kernel) ⟨by decide, by decide⟩) (pn_W "LatticeKeysModel" (en_ok g) (ci := 8) (kn := 148) (fl := [(0, 0), (0, 0), (0, 0), (0, 0), (3, 149), (3, 150), (3, 151), (3, 152), (3, 161), (3, 170), (3, 171), (3, 172), (3, 184), (3, 225)]) hK hO k_h1 rfl hP hD hS hA hE [] rfl rfl rfl) rfl rfl hl.1 rfl (lv_room (Nat.le_of_ble_eq_true rfl)) dL_law_356 ⟨by omega, by omega⟩) (fun r8 u8 H locs hu8 hP hD hS => ?_)
    obtain ⟨q8, pl⟩ := u8
    obtain ⟨⟨eq8, er8, hF8, -⟩, hO⟩ := hu8
    have eq8 : q8 = F_M_load v1 (nI 1) q9.2.2 := eq8
    have er8 : r8 = q8.1 := er8
    have hF8 : frm M_M_load q9.2.2 q8.2 := hF8
    have hO : okn g T9 q8.2 pl := hO
    have hP : va_P g.1 vcl ([(a, .inl (g.2.1 2, 1, .inr (.inl f9)))] ++ pl) _ := hP
    have hD : va_D _ ([(a, .inl (g.2.1 2, 1, .inr (.inl f9)))] ++ pl) := hD
    refine W.widen (k := 380 + 3 * n0 + 3) (n := 194479 + 7491 * n0 + 7491) (by omega) (by omega) ?_
    have en9 : q8.2 = callNxt 13 v1 (nI 1) v3 v4 v5 pn σ := nx_of ecc cm_load eq8
    have hout := sm_out (c := 13) (v1 := v1) (v2 := (nI 1)) (v3 := v3) (v4 := v4) (v5 := v5) hSM (load_ok hO0 hT0)
    rw [ecc, cm_load, ← eq8, ← en9] at hout
    obtain ⟨⟨tl1, al1, pn1, hS1⟩, hth, han⟩ := hout
    have epn := pn_same hp9 hb8 (hF8 0 (by unfold M_M_load; omega)) hS1
    rw [← epn] at hlow
    refine lv_istore (lv' := [(6, .int r8), (5, .int r9), (4, .int (nI i)), (3, .ref a), (2, .ref h1), (1, .ref h0), (0, .ref b)]) hx hb dL_law_359 hl (by decide) rfl (fun ls hl => ?_)
    refine lv_goto (tgt := 785) hx hb dL_law_361 (by decide) ?_
    rw [en9] at hO hS1
    exact W.widen (k := 380 + 3 * n0 + 3) (n := 194479 + 7491 * n0 + 7491) (by omega) (by omega) (next pn _ _ _ ep3 ep1 ⟨T9, pl, h0, h1, a, f9, tl1, al1, pn1, hO, hU, hT, hlow, hS1, k_h0, k_h1, hP, hD, hS, lv_sub hl [2, 3, 4, 5, 6] rfl⟩)
set_option maxHeartbeats 4000000 in
set_option maxRecDepth 100000 in
theorem lw_sign {p : Program} {e : Env} {s : State} {m : MethodId} {below : List Frame} {meth : Method} {c : Code} (l : Launch) (htr : l.stackTraces = false) {b L : Nat} {xs : Nat → Int32} (hL : L ≤ 3072) (C0 : lw_At p s m meth c b L xs) (g : Gd) (F : CallFix p m c c_L_law 7 s #[Value.ref b] wL "LatticeKeysLaw") (hX : ex g (Alaw s) s s.heap) {n0 i : Nat} (hn0 : n0 < 512) (hi : i = 6 * n0) (hi6 : i + 6 ≤ L) {v1 v2 v3 v4 v5 : Int32} (hv1 : xs (nI (i + 1)).toNatClampNeg = v1) (hv2 : xs (nI (i + 2)).toNatClampNeg = v2) (hv3 : xs (nI (i + 3)).toNatClampNeg = v3) (hv4 : xs (nI (i + 4)).toNatClampNeg = v4) (hv5 : xs (nI (i + 5)).toNatClampNeg = v5) {σ : Sto} (hE9 : ∀ pn : Nat, pn ≤ 8 → σ.1 0 5 = nI pn → callE 14 v1 v2 v3 v4 v5 pn σ) {H : Heap} {locs : List Loc} {ls : Array Slot} (hI : LWS g s b i σ H locs ls) (next : ∀ (pn : Nat) (H : Heap) (locs : List Loc) (ls : Array Slot), pn ≤ 8 → σ.1 0 5 = nI pn → LWS g s b i (callNxt 14 v1 v2 v3 v4 v5 pn σ) H locs ls → W p l e room_1 s m #[Value.ref b] below meth c H locs (380 + 3 * n0 + 3) (194479 + 7491 * n0 + 7491) (lw_Z below #[Value.ref b] s) (F0 m 785 ls [])) : W p l e room_1 s m #[Value.ref b] below meth c H locs (380 + 3 * n0) (194479 + 7491 * n0) (lw_Z below #[Value.ref b] s) (F0 m 612 ls []) := by
  obtain ⟨hx, hb, hml, hown, hts⟩ := id F
  have hE := hX.1
  have hK := hE.1
  have hA : ∀ q, s.heap.size ≤ q → Alaw s q := fun _ h => h
  obtain ⟨-, -, hr, -, -, -, hXs, hbl, hlk, -⟩ := id C0
  have hbA : ¬ Alaw s b := fun h => Nat.not_lt.mpr h hbl
  obtain ⟨T, pl, h0, h1, a, f, tl, al, pn, hO, hU, hT, hlow, hSM, k_h0, k_h1, hP, hD, hS, hl⟩ := hI
  have hRc : room_1.cells = 601024 := rfl
  have hRs : room_1.slots = 7293034 := rfl
  have hT0 := hT
  have hO0 := hO
  obtain ⟨⟨et1, et2, et3⟩, ⟨ea1, ea2, ea3⟩, ⟨ep1, ep2, ep3⟩, -⟩ := id hSM
  replace hE9 := hE9 pn ep3 ep1
  refine lv_aload_n hx hb dL_law_612 rfl (lv_at hl 3 rfl) ?_
  refine lv_aload_n hx hb dL_law_613 rfl (lv_at hl 4 rfl) ?_
  refine lv_iload hx hb dL_law_614 (lv_at hl 0 rfl) ?_
  refine lv_iconst (v := nI 1) hx hb dL_law_616 (by decide) ?_
  refine mi_iadd hx hb dL_law_617 ?_
  refine va_sld hx hb hXs hbl hbA hS (vp_in_nI (N := L) (by omega) (by omega)) dL_law_618 ?_
  refine mi_as hv1 ?_
  refine lv_aload_n hx hb dL_law_619 rfl (lv_at hl 4 rfl) ?_
  refine lv_iload hx hb dL_law_620 (lv_at hl 0 rfl) ?_
  refine lv_iconst (v := nI 2) hx hb dL_law_622 (by decide) ?_
  refine mi_iadd hx hb dL_law_623 ?_
  refine va_sld hx hb hXs hbl hbA hS (vp_in_nI (N := L) (by omega) (by omega)) dL_law_624 ?_
  refine mi_as hv2 ?_
  refine lv_aload_n hx hb dL_law_625 rfl (lv_at hl 1 rfl) ?_
  refine mp_i (cx := [(a, .inl (g.2.1 2, 1, .inr (.inl f)))]) (wr := []) hP hD hS hA [0] [] rfl rfl rfl (by decide) (lc_run (As := [.ref h0, .int v1, .int v2, .ref a]) (rest := []) F (ln_sign l htr g _ T σ pl hO hU h0 v1 v2 a f tl al pn k_h0 et1 ea1 ep1 et3 ea3 ep3) (lc_cw 4 hts (wg_app (wg_c kw_1158 (wg_c kw_1159 (wg_c kw_0 wg_n))) kw_1160) rfl rfl rfl (by decide +kernel) ⟨by decide, by decide⟩) (pp_S (ex_ok g) hP hD hS hA hX [0] rfl rfl) rfl rfl hl.1 rfl (lv_room (Nat.le_of_ble_eq_true rfl)) dL_law_626 ⟨by omega, by omega⟩) (fun r9 u9 H locs hu9 hP hD hS => ?_)
  obtain ⟨⟨q9, f9⟩, pl⟩ := u9
  obtain ⟨⟨eq9, er9, hF9, ha9, hp9, h39⟩, hO⟩ := hu9
  have eq9 : q9 = F_K_signA v1 v2 σ := eq9
  have er9 : r9 = q9.1 := er9
  have hF9 : frm M_K_signA σ q9.2.2 := hF9
  have hp9 : q9.2.2.1 0 5 = nI pn := hp9
  have hO : okn g T q9.2.2 pl := hO
  have ha9 : q9.1 = nI 0 → f9 0 = q9.2.1.toInt64 := ha9
  have h39 : q9.1 = nI 3 → q9.2.2.1 2 = σ.1 2 := h39
  have ecc : callCls 14 v1 v2 v3 v4 v5 pn σ = q9 := by rw [cc_sign, eq9, signA_eq]
  have hO9 := hO
  have hP : va_P g.1 vcl ([(a, .inl (g.2.1 2, 1, .inr (.inl f9)))] ++ pl) _ := hP
  have hD : va_D _ ([(a, .inl (g.2.1 2, 1, .inr (.inl f9)))] ++ pl) := hD
  refine W.widen (k := 380 + 3 * n0 + 3) (n := 194479 + 7491 * n0 + 7491) (by omega) (by omega) ?_
  obtain ⟨em1, em2, em3, em4, em5⟩ := SAME_mod hSM (ms_K_sign (frm_signA hF9))
  refine lv_istore (lv' := [(5, .int r9), (4, .int (nI i)), (3, .ref a), (2, .ref h1), (1, .ref h0), (0, .ref b)]) hx hb dL_law_629 hl (by decide) rfl (fun ls hl => ?_)
  refine lv_aload_n hx hb dL_law_631 rfl (lv_at hl 3 rfl) ?_
  refine lv_aload_n hx hb dL_law_632 rfl (lv_at hl 5 rfl) ?_
  refine lv_iload hx hb dL_law_633 (lv_at hl 1 rfl) ?_
  refine lv_iconst (v := nI 1) hx hb dL_law_635 (by decide) ?_
  refine mi_iadd hx hb dL_law_636 ?_
  refine va_sld hx hb hXs hbl hbA hS (vp_in_nI (N := L) (by omega) (by omega)) dL_law_637 ?_
  refine mi_as hv1 ?_
  refine lv_aload_n hx hb dL_law_638 rfl (lv_at hl 5 rfl) ?_
  refine lv_iload hx hb dL_law_639 (lv_at hl 1 rfl) ?_
  refine lv_iconst (v := nI 2) hx hb dL_law_641 (by decide) ?_
  refine mi_iadd hx hb dL_law_642 ?_
  refine va_sld hx hb hXs hbl hbA hS (vp_in_nI (N := L) (by omega) (by omega)) dL_law_643 ?_
  refine mi_as hv2 ?_
  have hE8 := ce_sign hE9 eq9
  refine mp_i (cx := []) (wr := [(a, .inl (g.2.1 2, 1, .inr (.inl f9)))]) hP hD hS hA [] [0] rfl rfl rfl (by decide) (va_runV (As := [.int v1, .int v2]) (rest := []) F (N_M_sign l g _ T q9.2.2 pl hO hU h1 v1 v2 tl al pn k_h1 em1 em2 em3 et3 ea3 ep3 em4 em5 hE8) (cwV 2 hts (wg_app (wg_c kw_1852 (wg_c kw_1853 (wg_c kw_1854 (wg_c kw_9 wg_n)))) kw_1855) rfl rfl rfl (by decide +kernel) ⟨by decide, by decide⟩) (pn_W "LatticeKeysModel" (en_ok g) (ci := 8) (kn := 148) (fl := [(0, 0), (0, 0), (0, 0), (0, 0), (3, 149), (3, 150), (3, 151), (3, 152), (3, 161), (3, 170), (3, 171), (3, 172), (3, 184), (3, 225)]) hK hO k_h1 rfl hP hD hS hA hE [] rfl rfl rfl) rfl rfl hl.1 rfl (lv_room (Nat.le_of_ble_eq_true rfl)) dL_law_644 ⟨by omega, by omega⟩) (fun r8 u8 H locs hu8 hP hD hS => ?_)
  obtain ⟨q8, pl⟩ := u8
  obtain ⟨⟨eq8, er8, hF8, -⟩, hO⟩ := hu8
  have eq8 : q8 = F_M_sign v1 v2 q9.2.2 := eq8
  have er8 : r8 = q8.1 := er8
  have hF8 : frm M_M_sign q9.2.2 q8.2 := hF8
  have hO : okn g T q8.2 pl := hO
  have hP : va_P g.1 vcl ([(a, .inl (g.2.1 2, 1, .inr (.inl f9)))] ++ pl) _ := hP
  have hD : va_D _ ([(a, .inl (g.2.1 2, 1, .inr (.inl f9)))] ++ pl) := hD
  refine W.widen (k := 380 + 3 * n0 + 3) (n := 194479 + 7491 * n0 + 7491) (by omega) (by omega) ?_
  have en9 : q8.2 = callNxt 14 v1 v2 v3 v4 v5 pn σ := nx_of ecc cm_sign eq8
  have hout := sm_out (c := 14) (v1 := v1) (v2 := v2) (v3 := v3) (v4 := v4) (v5 := v5) hSM (sign_ok eq9 hF9 h39 hO9 hT0 hE8)
  rw [ecc, cm_sign, ← eq8, ← en9] at hout
  obtain ⟨⟨tl1, al1, pn1, hS1⟩, hth, han⟩ := hout
  have epn := pn_same hp9 ep3 (hF8 0 (by unfold M_M_sign; omega)) hS1
  rw [← epn] at hlow
  refine lv_istore (lv' := [(6, .int r8), (5, .int r9), (4, .int (nI i)), (3, .ref a), (2, .ref h1), (1, .ref h0), (0, .ref b)]) hx hb dL_law_647 hl (by decide) rfl (fun ls hl => ?_)
  refine lv_goto (tgt := 785) hx hb dL_law_649 (by decide) ?_
  rw [en9] at hO hS1
  exact W.widen (k := 380 + 3 * n0 + 3) (n := 194479 + 7491 * n0 + 7491) (by omega) (by omega) (next pn _ _ _ ep3 ep1 ⟨T, pl, h0, h1, a, f9, tl1, al1, pn1, hO, hU, hT, hlow, hS1, k_h0, k_h1, hP, hD, hS, lv_sub hl [2, 3, 4, 5, 6] rfl⟩)
