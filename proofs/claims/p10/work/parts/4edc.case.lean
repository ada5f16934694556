set_option linter.all false
set_option maxHeartbeats 4000000 in
set_option maxRecDepth 100000 in
theorem lw_seal {p : Program} {e : Env} {s : State} {m : MethodId} {below : List Frame} {meth : Method} {c : Code} (l : Launch) (htr : l.stackTraces = false) {b L : Nat} {xs : Nat → Int32} (hL : L ≤ 3072) (C0 : lw_At p s m meth c b L xs) (g : Gd) (F : CallFix p m c c_L_law 7 s #[Value.ref b] wL "LatticeKeysLaw") (hX : ex g (Alaw s) s s.heap) {n0 i : Nat} (hn0 : n0 < 512) (hi : i = 6 * n0) (hi6 : i + 6 ≤ L) {v1 v2 v3 v4 v5 : Int32} (hv1 : xs (nI (i + 1)).toNatClampNeg = v1) (hv2 : xs (nI (i + 2)).toNatClampNeg = v2) (hv3 : xs (nI (i + 3)).toNatClampNeg = v3) (hv4 : xs (nI (i + 4)).toNatClampNeg = v4) (hv5 : xs (nI (i + 5)).toNatClampNeg = v5) {σ : Sto} (hE9 : ∀ pn : Nat, pn ≤ 8 → σ.1 0 5 = nI pn → callE 11 v1 v2 v3 v4 v5 pn σ) {H : Heap} {locs : List Loc} {ls : Array Slot} (hI : LWS g s b i σ H locs ls) (next : ∀ (pn : Nat) (H : Heap) (locs : List Loc) (ls : Array Slot), pn ≤ 8 → σ.1 0 5 = nI pn → LWS g s b i (callNxt 11 v1 v2 v3 v4 v5 pn σ) H locs ls → W p l e room_1 s m #[Value.ref b] below meth c H locs (380 + 3 * n0 + 3) (194479 + 7491 * n0 + 7491) (lw_Z below #[Value.ref b] s) (F0 m 785 ls [])) : W p l e room_1 s m #[Value.ref b] below meth c H locs (380 + 3 * n0) (194479 + 7491 * n0) (lw_Z below #[Value.ref b] s) (F0 m 556 ls []) := by
  obtain ⟨hx, hb, hml, hown, hts⟩ := id F
  have hE := hX.1
  have hK := hE.1
  have hA : ∀ q, s.heap.size ≤ q → Alaw s q := fun _ h => h
  obtain ⟨-, -, hr, -, -, -, hXs, hbl, hlk, -⟩ := id C0
  have hbA : ¬ Alaw s b := fun h => Nat.not_lt.mpr h hbl
  obtain ⟨T, pl, h0, h1, a, f, tl, al, pn, hO, hU, hT, hlow, hSM, k_h0, k_h1, hP, hD, hS, hl⟩ := hI
  have hRc : room_1.cells = 601024 := rfl
  have hRs : room_1.slots = 7293034 := rfl
  have hT0 := hT
  have hO0 := hO
  obtain ⟨⟨et1, et2, et3⟩, ⟨ea1, ea2, ea3⟩, ⟨ep1, ep2, ep3⟩, -⟩ := id hSM
  replace hE9 := hE9 pn ep3 ep1
  refine lv_aload_n hx hb dL_law_556 rfl (lv_at hl 3 rfl) ?_
  refine lv_aload_n hx hb dL_law_557 rfl (lv_at hl 4 rfl) ?_
  refine lv_iload hx hb dL_law_558 (lv_at hl 0 rfl) ?_
  refine lv_iconst (v := nI 1) hx hb dL_law_560 (by decide) ?_
  refine mi_iadd hx hb dL_law_561 ?_
  refine va_sld hx hb hXs hbl hbA hS (vp_in_nI (N := L) (by omega) (by omega)) dL_law_562 ?_
  refine mi_as hv1 ?_
  refine lv_aload_n hx hb dL_law_563 rfl (lv_at hl 1 rfl) ?_
  refine mp_i (cx := [(a, .inl (g.2.1 2, 1, .inr (.inl f)))]) (wr := []) hP hD hS hA [0] [] rfl rfl rfl (by decide) (lc_run (As := [.ref h0, .int v1, .ref a]) (rest := []) F (ln_seal l htr g _ T σ pl hO hU h0 v1 a f tl al pn k_h0 et1 ea1 ep1 et3 ea3 ep3) (lc_cw 3 hts (wg_app (wg_c kw_1097 (wg_c kw_1098 (wg_c kw_0 wg_n))) kw_1099) rfl rfl rfl (by decide +kernel) ⟨by decide, by decide⟩) (pp_S (ex_ok g) hP hD hS hA hX [0] rfl rfl) rfl rfl hl.1 rfl (lv_room (Nat.le_of_ble_eq_true rfl)) dL_law_564 ⟨by omega, by omega⟩) (fun r9 u9 H locs hu9 hP hD hS => ?_)
  obtain ⟨⟨q9, f9⟩, pl⟩ := u9
  obtain ⟨⟨eq9, er9, hF9, ha9, hp9⟩, hO⟩ := hu9
  have eq9 : q9 = F_K_seal v1 σ := eq9
  have er9 : r9 = q9.1 := er9
  have hF9 : frm M_K_seal σ q9.2.2 := hF9
  have hp9 : q9.2.2.1 0 5 = nI pn := hp9
  have hO : okn g T q9.2.2 pl := hO
  have ha9 : q9.1 = nI 0 → f9 0 = q9.2.1.toInt64 := ha9
  have ecc : callCls 11 v1 v2 v3 v4 v5 pn σ = q9 := by rw [cc_seal, eq9]
  have hO9 := hO
  have hP : va_P g.1 vcl ([(a, .inl (g.2.1 2, 1, .inr (.inl f9)))] ++ pl) _ := hP
  have hD : va_D _ ([(a, .inl (g.2.1 2, 1, .inr (.inl f9)))] ++ pl) := hD
  refine W.widen (k := 380 + 3 * n0 + 3) (n := 194479 + 7491 * n0 + 7491) (by omega) (by omega) ?_
  obtain ⟨em1, em2, em3, em4, em5⟩ := SAME_mod hSM (ms_K_seal hF9)
  refine lv_istore (lv' := [(5, .int r9), (4, .int (nI i)), (3, .ref a), (2, .ref h1), (1, .ref h0), (0, .ref b)]) hx hb dL_law_567 hl (by decide) rfl (fun ls hl => ?_)
  refine lv_aload_n hx hb dL_law_569 rfl (lv_at hl 3 rfl) ?_
  refine lv_aload_n hx hb dL_law_570 rfl (lv_at hl 5 rfl) ?_
  refine lv_iload hx hb dL_law_571 (lv_at hl 1 rfl) ?_
  refine lv_iconst (v := nI 1) hx hb dL_law_573 (by decide) ?_
  refine mi_iadd hx hb dL_law_574 ?_
  refine va_sld hx hb hXs hbl hbA hS (vp_in_nI (N := L) (by omega) (by omega)) dL_law_575 ?_
  refine mi_as hv1 ?_
  have hE8 := ce_seal hE9 eq9
  refine mp_i (cx := []) (wr := [(a, .inl (g.2.1 2, 1, .inr (.inl f9)))]) hP hD hS hA [] [0] rfl rfl rfl (by decide) (va_runV (As := [.int v1]) (rest := []) F (N_M_seal l g _ T q9.2.2 pl hO hU h1 v1 tl al pn k_h1 em1 em2 em3 et3 ea3 ep3 em4 em5 hE8) (cwV 1 hts (wg_app (wg_c kw_1797 (wg_c kw_1798 (wg_c kw_1799 (wg_c kw_9 wg_n)))) kw_1800) rfl rfl rfl (by decide +kernel) ⟨by decide, by decide⟩) (pn_W "LatticeKeysModel" (en_ok g) (ci := 8) (kn := 148) (fl := [(0, 0), (0, 0), (0, 0), (0, 0), (3, 149), (3, 150), (3, 151), (3, 152), (3, 161), (3, 170), (3, 171), (3, 172), (3, 184), (3, 225)]) hK hO k_h1 rfl hP hD hS hA hE [] rfl rfl rfl) rfl rfl hl.1 rfl (lv_room (Nat.le_of_ble_eq_true rfl)) dL_law_576 ⟨by omega, by omega⟩) (fun r8 u8 H locs hu8 hP hD hS => ?_)
  obtain ⟨q8, pl⟩ := u8
  obtain ⟨⟨eq8, er8, hF8, -⟩, hO⟩ := hu8
  have eq8 : q8 = F_M_seal v1 q9.2.2 := eq8
  have er8 : r8 = q8.1 := er8
  have hF8 : frm M_M_seal q9.2.2 q8.2 := hF8
  have hO : okn g T q8.2 pl := hO
  have hP : va_P g.1 vcl ([(a, .inl (g.2.1 2, 1, .inr (.inl f9)))] ++ pl) _ := hP
  have hD : va_D _ ([(a, .inl (g.2.1 2, 1, .inr (.inl f9)))] ++ pl) := hD
  refine W.widen (k := 380 + 3 * n0 + 3) (n := 194479 + 7491 * n0 + 7491) (by omega) (by omega) ?_
  have en9 : q8.2 = callNxt 11 v1 v2 v3 v4 v5 pn σ := nx_of ecc cm_seal eq8
  have hout := sm_out (c := 11) (v1 := v1) (v2 := v2) (v3 := v3) (v4 := v4) (v5 := v5) hSM (seal_ok eq9 hO0 hT0 hF9 hE8)
  rw [ecc, cm_seal, ← eq8, ← en9] at hout
  obtain ⟨⟨tl1, al1, pn1, hS1⟩, hth, han⟩ := hout
  have epn := pn_same hp9 ep3 (hF8 0 (by unfold M_M_seal; omega)) hS1
  rw [← epn] at hlow
  refine lv_istore (lv' := [(6, .int r8), (5, .int r9), (4, .int (nI i)), (3, .ref a), (2, .ref h1), (1, .ref h0), (0, .ref b)]) hx hb dL_law_579 hl (by decide) rfl (fun ls hl => ?_)
  refine lv_goto (tgt := 785) hx hb dL_law_581 (by decide) ?_
  rw [en9] at hO hS1
  exact W.widen (k := 380 + 3 * n0 + 3) (n := 194479 + 7491 * n0 + 7491) (by omega) (by omega) (next pn _ _ _ ep3 ep1 ⟨T, pl, h0, h1, a, f9, tl1, al1, pn1, hO, hU, hT, hlow, hS1, k_h0, k_h1, hP, hD, hS, lv_sub hl [2, 3, 4, 5, 6] rfl⟩)
set_option maxHeartbeats 4000000 in
set_option maxRecDepth 100000 in
theorem lw_open {p : Program} {e : Env} {s : State} {m : MethodId} {below : List Frame} {meth : Method} {c : Code} (l : Launch) (htr : l.stackTraces = false) {b L : Nat} {xs : Nat → Int32} (hL : L ≤ 3072) (C0 : lw_At p s m meth c b L xs) (g : Gd) (F : CallFix p m c c_L_law 7 s #[Value.ref b] wL "LatticeKeysLaw") (hX : ex g (Alaw s) s s.heap) {n0 i : Nat} (hn0 : n0 < 512) (hi : i = 6 * n0) (hi6 : i + 6 ≤ L) {v1 v2 v3 v4 v5 : Int32} (hv1 : xs (nI (i + 1)).toNatClampNeg = v1) (hv2 : xs (nI (i + 2)).toNatClampNeg = v2) (hv3 : xs (nI (i + 3)).toNatClampNeg = v3) (hv4 : xs (nI (i + 4)).toNatClampNeg = v4) (hv5 : xs (nI (i + 5)).toNatClampNeg = v5) {σ : Sto} (hE9 : ∀ pn : Nat, pn ≤ 8 → σ.1 0 5 = nI pn → callE 15 v1 v2 v3 v4 v5 pn σ) {H : Heap} {locs : List Loc} {ls : Array Slot} (hI : LWS g s b i σ H locs ls) (next : ∀ (pn : Nat) (H : Heap) (locs : List Loc) (ls : Array Slot), pn ≤ 8 → σ.1 0 5 = nI pn → LWS g s b i (callNxt 15 v1 v2 v3 v4 v5 pn σ) H locs ls → W p l e room_1 s m #[Value.ref b] below meth c H locs (380 + 3 * n0 + 3) (194479 + 7491 * n0 + 7491) (lw_Z below #[Value.ref b] s) (F0 m 785 ls [])) : W p l e room_1 s m #[Value.ref b] below meth c H locs (380 + 3 * n0) (194479 + 7491 * n0) (lw_Z below #[Value.ref b] s) (F0 m 584 ls []) := by
  obtain ⟨hx, hb, hml, hown, hts⟩ := id F
  have hE := hX.1
  have hK := hE.1
  have hA : ∀ q, s.heap.size ≤ q → Alaw s q := fun _ h => h
  obtain ⟨-, -, hr, -, -, -, hXs, hbl, hlk, -⟩ := id C0
  have hbA : ¬ Alaw s b := fun h => Nat.not_lt.mpr h hbl
  obtain ⟨T, pl, h0, h1, a, f, tl, al, pn, hO, hU, hT, hlow, hSM, k_h0, k_h1, hP, hD, hS, hl⟩ := hI
  have hRc : room_1.cells = 601024 := rfl
  have hRs : room_1.slots = 7293034 := rfl
  have hT0 := hT
  have hO0 := hO
  obtain ⟨⟨et1, et2, et3⟩, ⟨ea1, ea2, ea3⟩, ⟨ep1, ep2, ep3⟩, -⟩ := id hSM
  replace hE9 := hE9 pn ep3 ep1
  refine lv_aload_n hx hb dL_law_584 rfl (lv_at hl 3 rfl) ?_
  refine lv_aload_n hx hb dL_law_585 rfl (lv_at hl 4 rfl) ?_
  refine lv_iload hx hb dL_law_586 (lv_at hl 0 rfl) ?_
  refine lv_iconst (v := nI 1) hx hb dL_law_588 (by decide) ?_
  refine mi_iadd hx hb dL_law_589 ?_
  refine va_sld hx hb hXs hbl hbA hS (vp_in_nI (N := L) (by omega) (by omega)) dL_law_590 ?_
  refine mi_as hv1 ?_
  refine lv_aload_n hx hb dL_law_591 rfl (lv_at hl 1 rfl) ?_
  refine mp_i (cx := [(a, .inl (g.2.1 2, 1, .inr (.inl f)))]) (wr := []) hP hD hS hA [0] [] rfl rfl rfl (by decide) (lc_run (As := [.ref h0, .int v1, .ref a]) (rest := []) F (ln_open l htr g _ T σ pl hO hU h0 v1 a f tl al pn k_h0 et1 ea1 ep1 et3 ea3 ep3) (lc_cw 3 hts (wg_app (wg_c kw_1137 (wg_c kw_1138 (wg_c kw_0 wg_n))) kw_1139) rfl rfl rfl (by decide +kernel) ⟨by decide, by decide⟩) (pp_S (ex_ok g) hP hD hS hA hX [0] rfl rfl) rfl rfl hl.1 rfl (lv_room (Nat.le_of_ble_eq_true rfl)) dL_law_592 ⟨by omega, by omega⟩) (fun r9 u9 H locs hu9 hP hD hS => ?_)
  obtain ⟨⟨q9, f9⟩, pl⟩ := u9
  obtain ⟨⟨eq9, er9, hF9, ha9, hp9⟩, hO⟩ := hu9
  have eq9 : q9 = F_K_open v1 σ := eq9
  have er9 : r9 = q9.1 := er9
  have hF9 : frm M_K_open σ q9.2.2 := hF9
  have hp9 : q9.2.2.1 0 5 = nI pn := hp9
  have hO : okn g T q9.2.2 pl := hO
  have ha9 : q9.1 = nI 0 → f9 0 = q9.2.1.toInt64 := ha9
  have ecc : callCls 15 v1 v2 v3 v4 v5 pn σ = q9 := by rw [cc_open, eq9]
  have hO9 := hO
  have hP : va_P g.1 vcl ([(a, .inl (g.2.1 2, 1, .inr (.inl f9)))] ++ pl) _ := hP
  have hD : va_D _ ([(a, .inl (g.2.1 2, 1, .inr (.inl f9)))] ++ pl) := hD
  refine W.widen (k := 380 + 3 * n0 + 3) (n := 194479 + 7491 * n0 + 7491) (by omega) (by omega) ?_
  obtain ⟨em1, em2, em3, em4, em5⟩ := SAME_mod hSM (ms_K_open hF9)
  refine lv_istore (lv' := [(5, .int r9), (4, .int (nI i)), (3, .ref a), (2, .ref h1), (1, .ref h0), (0, .ref b)]) hx hb dL_law_595 hl (by decide) rfl (fun ls hl => ?_)
  refine lv_aload_n hx hb dL_law_597 rfl (lv_at hl 3 rfl) ?_
  refine lv_aload_n hx hb dL_law_598 rfl (lv_at hl 5 rfl) ?_
  refine lv_iload hx hb dL_law_599 (lv_at hl 1 rfl) ?_
  refine lv_iconst (v := nI 1) hx hb dL_law_601 (by decide) ?_
  refine mi_iadd hx hb dL_law_602 ?_
  refine va_sld hx hb hXs hbl hbA hS (vp_in_nI (N := L) (by omega) (by omega)) dL_law_603 ?_
  refine mi_as hv1 ?_
  have hE8 := ce_open hE9 eq9
  refine mp_i (cx := []) (wr := [(a, .inl (g.2.1 2, 1, .inr (.inl f9)))]) hP hD hS hA [] [0] rfl rfl rfl (by decide) (va_runV (As := [.int v1]) (rest := []) F (N_M_open l g _ T q9.2.2 pl hO hU h1 v1 tl al pn k_h1 em1 em2 em3 et3 ea3 ep3 em4 em5 hE8) (cwV 1 hts (wg_app (wg_c kw_1843 (wg_c kw_1844 (wg_c kw_1845 (wg_c kw_9 wg_n)))) kw_1846) rfl rfl rfl (by decide +kernel) ⟨by decide, by decide⟩) (pn_W "LatticeKeysModel" (en_ok g) (ci := 8) (kn := 148) (fl := [(0, 0), (0, 0), (0, 0), (0, 0), (3, 149), (3, 150), (3, 151), (3, 152), (3, 161), (3, 170), (3, 171), (3, 172), (3, 184), (3, 225)]) hK hO k_h1 rfl hP hD hS hA hE [] rfl rfl rfl) rfl rfl hl.1 rfl (lv_room (Nat.le_of_ble_eq_true rfl)) dL_law_604 ⟨by omega, by omega⟩) (fun r8 u8 H locs hu8 hP hD hS => ?_)
  obtain ⟨q8, pl⟩ := u8
  obtain ⟨⟨eq8, er8, hF8, -⟩, hO⟩ := hu8
  have eq8 : q8 = F_M_open v1 q9.2.2 := eq8
  have er8 : r8 = q8.1 := er8
  have hF8 : frm M_M_open q9.2.2 q8.2 := hF8
  have hO : okn g T q8.2 pl := hO
  have hP : va_P g.1 vcl ([(a, .inl (g.2.1 2, 1, .inr (.inl f9)))] ++ pl) _ := hP
  have hD : va_D _ ([(a, .inl (g.2.1 2, 1, .inr (.inl f9)))] ++ pl) := hD
  refine W.widen (k := 380 + 3 * n0 + 3) (n := 194479 + 7491 * n0 + 7491) (by omega) (by omega) ?_
  have en9 : q8.2 = callNxt 15 v1 v2 v3 v4 v5 pn σ := nx_of ecc cm_open eq8
  have hout := sm_out (c := 15) (v1 := v1) (v2 := v2) (v3 := v3) (v4 := v4) (v5 := v5) hSM (open_ok eq9 hO0 hT0 hF9 hE8)
  rw [ecc, cm_open, ← eq8, ← en9] at hout
  obtain ⟨⟨tl1, al1, pn1, hS1⟩, hth, han⟩ := hout
  have epn := pn_same hp9 ep3 (hF8 0 (by unfold M_M_open; omega)) hS1
  rw [← epn] at hlow
  refine lv_istore (lv' := [(6, .int r8), (5, .int r9), (4, .int (nI i)), (3, .ref a), (2, .ref h1), (1, .ref h0), (0, .ref b)]) hx hb dL_law_607 hl (by decide) rfl (fun ls hl => ?_)
  refine lv_goto (tgt := 785) hx hb dL_law_609 (by decide) ?_
  rw [en9] at hO hS1
  exact W.widen (k := 380 + 3 * n0 + 3) (n := 194479 + 7491 * n0 + 7491) (by omega) (by omega) (next pn _ _ _ ep3 ep1 ⟨T, pl, h0, h1, a, f9, tl1, al1, pn1, hO, hU, hT, hlow, hS1, k_h0, k_h1, hP, hD, hS, lv_sub hl [2, 3, 4, 5, 6] rfl⟩)
set_option maxHeartbeats 4000000 in
set_option maxRecDepth 100000 in
theorem lw_verify {p : Program} {e : Env} {s : State} {m : MethodId} {below : List Frame} {meth : Method} {c : Code} (l : Launch) (htr : l.stackTraces = false) {b L : Nat} {xs : Nat → Int32} (hL : L ≤ 3072) (C0 : lw_At p s m meth c b L xs) (g : Gd) (F : CallFix p m c c_L_law 7 s #[Value.ref b] wL "LatticeKeysLaw") (hX : ex g (Alaw s) s s.heap) {n0 i : Nat} (hn0 : n0 < 512) (hi : i = 6 * n0) (hi6 : i + 6 ≤ L) {v1 v2 v3 v4 v5 : Int32} (hv1 : xs (nI (i + 1)).toNatClampNeg = v1) (hv2 : xs (nI (i + 2)).toNatClampNeg = v2) (hv3 : xs (nI (i + 3)).toNatClampNeg = v3) (hv4 : xs (nI (i + 4)).toNatClampNeg = v4) (hv5 : xs (nI (i + 5)).toNatClampNeg = v5) {σ : Sto} (hE9 : ∀ pn : Nat, pn ≤ 8 → σ.1 0 5 = nI pn → callE 12 v1 v2 v3 v4 v5 pn σ) {H : Heap} {locs : List Loc} {ls : Array Slot} (hI : LWS g s b i σ H locs ls) (next : ∀ (pn : Nat) (H : Heap) (locs : List Loc) (ls : Array Slot), pn ≤ 8 → σ.1 0 5 = nI pn → LWS g s b i (callNxt 12 v1 v2 v3 v4 v5 pn σ) H locs ls → W p l e room_1 s m #[Value.ref b] below meth c H locs (380 + 3 * n0 + 3) (194479 + 7491 * n0 + 7491) (lw_Z below #[Value.ref b] s) (F0 m 785 ls [])) : W p l e room_1 s m #[Value.ref b] below meth c H locs (380 + 3 * n0) (194479 + 7491 * n0) (lw_Z below #[Value.ref b] s) (F0 m 652 ls []) := by
  obtain ⟨hx, hb, hml, hown, hts⟩ := id F
  have hE := hX.1
  have hK := hE.1
  have hA : ∀ q, s.heap.size ≤ q → Alaw s q := fun _ h => h
  obtain ⟨-, -, hr, -, -, -, hXs, hbl, hlk, -⟩ := id C0
  have hbA : ¬ Alaw s b := fun h => Nat.not_lt.mpr h hbl
  obtain ⟨T, pl, h0, h1, a, f, tl, al, pn, hO, hU, hT, hlow, hSM, k_h0, k_h1, hP, hD, hS, hl⟩ := hI
  have hRc : room_1.cells = 601024 := rfl
  have hRs : room_1.slots = 7293034 := rfl
  have hT0 := hT
  have hO0 := hO
  obtain ⟨⟨et1, et2, et3⟩, ⟨ea1, ea2, ea3⟩, ⟨ep1, ep2, ep3⟩, -⟩ := id hSM
  replace hE9 := hE9 pn ep3 ep1
  refine lv_aload_n hx hb dL_law_652 rfl (lv_at hl 3 rfl) ?_
  refine lv_aload_n hx hb dL_law_653 rfl (lv_at hl 4 rfl) ?_
  refine lv_iload hx hb dL_law_654 (lv_at hl 0 rfl) ?_
  refine lv_iconst (v := nI 1) hx hb dL_law_656 (by decide) ?_
  refine mi_iadd hx hb dL_law_657 ?_
  refine va_sld hx hb hXs hbl hbA hS (vp_in_nI (N := L) (by omega) (by omega)) dL_law_658 ?_
  refine mi_as hv1 ?_
  refine lv_aload_n hx hb dL_law_659 rfl (lv_at hl 4 rfl) ?_
  refine lv_iload hx hb dL_law_660 (lv_at hl 0 rfl) ?_
  refine lv_iconst (v := nI 2) hx hb dL_law_662 (by decide) ?_
  refine mi_iadd hx hb dL_law_663 ?_
  refine va_sld hx hb hXs hbl hbA hS (vp_in_nI (N := L) (by omega) (by omega)) dL_law_664 ?_
  refine mi_as hv2 ?_
  refine lv_aload_n hx hb dL_law_665 rfl (lv_at hl 1 rfl) ?_
  refine mp_i (cx := [(a, .inl (g.2.1 2, 1, .inr (.inl f)))]) (wr := []) hP hD hS hA [0] [] rfl rfl rfl (by decide) (lc_run (As := [.ref h0, .int v1, .int v2, .ref a]) (rest := []) F (ln_verify l htr g _ T σ pl hO hU h0 v1 v2 a f tl al pn k_h0 et1 ea1 ep1 et3 ea3 ep3) (lc_cw 4 hts (wg_app (wg_c kw_1253 (wg_c kw_1254 (wg_c kw_0 wg_n))) kw_1255) rfl rfl rfl (by decide +kernel) ⟨by decide, by decide⟩) (pp_S (ex_ok g) hP hD hS hA hX [0] rfl rfl) rfl rfl hl.1 rfl (lv_room (Nat.le_of_ble_eq_true rfl)) dL_law_666 ⟨by omega, by omega⟩) (fun r9 u9 H locs hu9 hP hD hS => ?_)
  obtain ⟨⟨q9, f9⟩, pl⟩ := u9
  obtain ⟨⟨eq9, er9, hF9, ha9, hp9⟩, hO⟩ := hu9
  have eq9 : q9 = F_K_verify v1 v2 σ := eq9
  have er9 : r9 = q9.1 := er9
  have hF9 : frm M_K_verify σ q9.2.2 := hF9
  have hp9 : q9.2.2.1 0 5 = nI pn := hp9
  have hO : okn g T q9.2.2 pl := hO
  have ha9 : q9.1 = nI 0 → f9 0 = if q9.2.1 = (0 : Int32) then (0 : Int64) else 1 := ha9
  have ecc : callCls 12 v1 v2 v3 v4 v5 pn σ = q9 := by rw [cc_verify, eq9]
  have hO9 := hO
  have hP : va_P g.1 vcl ([(a, .inl (g.2.1 2, 1, .inr (.inl f9)))] ++ pl) _ := hP
  have hD : va_D _ ([(a, .inl (g.2.1 2, 1, .inr (.inl f9)))] ++ pl) := hD
  refine W.widen (k := 380 + 3 * n0 + 3) (n := 194479 + 7491 * n0 + 7491) (by omega) (by omega) ?_
  obtain ⟨em1, em2, em3, em4, em5⟩ := SAME_mod hSM (ms_K_verify hF9)
  refine lv_istore (lv' := [(5, .int r9), (4, .int (nI i)), (3, .ref a), (2, .ref h1), (1, .ref h0), (0, .ref b)]) hx hb dL_law_669 hl (by decide) rfl (fun ls hl => ?_)
  refine lv_aload_n hx hb dL_law_671 rfl (lv_at hl 3 rfl) ?_
  refine lv_aload_n hx hb dL_law_672 rfl (lv_at hl 5 rfl) ?_
  refine lv_iload hx hb dL_law_673 (lv_at hl 1 rfl) ?_
  refine lv_iconst (v := nI 1) hx hb dL_law_675 (by decide) ?_
  refine mi_iadd hx hb dL_law_676 ?_
  refine va_sld hx hb hXs hbl hbA hS (vp_in_nI (N := L) (by omega) (by omega)) dL_law_677 ?_
  refine mi_as hv1 ?_
  refine lv_aload_n hx hb dL_law_678 rfl (lv_at hl 5 rfl) ?_
  refine lv_iload hx hb dL_law_679 (lv_at hl 1 rfl) ?_
  refine lv_iconst (v := nI 2) hx hb dL_law_681 (by decide) ?_
  refine mi_iadd hx hb dL_law_682 ?_
  refine va_sld hx hb hXs hbl hbA hS (vp_in_nI (N := L) (by omega) (by omega)) dL_law_683 ?_
  refine mi_as hv2 ?_
  have hE8 := ce_verify hE9 eq9
  refine mp_i (cx := []) (wr := [(a, .inl (g.2.1 2, 1, .inr (.inl f9)))]) hP hD hS hA [] [0] rfl rfl rfl (by decide) (va_runV (As := [.int v1, .int v2]) (rest := []) F (N_M_verify l g _ T q9.2.2 pl hO hU h1 v1 v2 tl al pn k_h1 em1 em2 em3 et3 ea3 ep3 em4 em5 hE8) (cwV 2 hts (wg_app (wg_c kw_1921 (wg_c kw_1922 (wg_c kw_1923 (wg_c kw_9 wg_n)))) kw_1924) rfl rfl rfl (by decide +kernel) ⟨by decide, by decide⟩) (pn_W "LatticeKeysModel" (en_ok g) (ci := 8) (kn := 148) (fl := [(0, 0), (0, 0), (0, 0), (0, 0), (3, 149), (3, 150), (3, 151), (3, 152), (3, 161), (3, 170), (3, 171), (3, 172), (3, 184), (3, 225)]) hK hO k_h1 rfl hP hD hS hA hE [] rfl rfl rfl) rfl rfl hl.1 rfl (lv_room (Nat.le_of_ble_eq_true rfl)) dL_law_684 ⟨by omega, by omega⟩) (fun r8 u8 H locs hu8 hP hD hS => ?_)
  obtain ⟨q8, pl⟩ := u8
  obtain ⟨⟨eq8, er8, hF8, -⟩, hO⟩ := hu8
  have eq8 : q8 = F_M_verify v1 v2 q9.2.2 := eq8
  have er8 : r8 = q8.1 := er8
  have hF8 : frm M_M_verify q9.2.2 q8.2 := hF8
  have hO : okn g T q8.2 pl := hO
  have hP : va_P g.1 vcl ([(a, .inl (g.2.1 2, 1, .inr (.inl f9)))] ++ pl) _ := hP
  have hD : va_D _ ([(a, .inl (g.2.1 2, 1, .inr (.inl f9)))] ++ pl) := hD
  refine W.widen (k := 380 + 3 * n0 + 3) (n := 194479 + 7491 * n0 + 7491) (by omega) (by omega) ?_
  have en9 : q8.2 = callNxt 12 v1 v2 v3 v4 v5 pn σ := nx_of ecc cm_verify eq8
  have hout := sm_out (c := 12) (v1 := v1) (v2 := v2) (v3 := v3) (v4 := v4) (v5 := v5) hSM (verify_ok eq9 hO0 hT0 hF9 hE8)
  rw [ecc, cm_verify, ← eq8, ← en9] at hout
  obtain ⟨⟨tl1, al1, pn1, hS1⟩, hth, han⟩ := hout
  have epn := pn_same hp9 ep3 (hF8 0 (by unfold M_M_verify; omega)) hS1
  rw [← epn] at hlow
  refine lv_istore (lv' := [(6, .int r8), (5, .int r9), (4, .int (nI i)), (3, .ref a), (2, .ref h1), (1, .ref h0), (0, .ref b)]) hx hb dL_law_687 hl (by decide) rfl (fun ls hl => ?_)
  refine lv_goto (tgt := 785) hx hb dL_law_689 (by decide) ?_
  rw [en9] at hO hS1
  exact W.widen (k := 380 + 3 * n0 + 3) (n := 194479 + 7491 * n0 + 7491) (by omega) (by omega) (next pn _ _ _ ep3 ep1 ⟨T, pl, h0, h1, a, f9, tl1, al1, pn1, hO, hU, hT, hlow, hS1, k_h0, k_h1, hP, hD, hS, lv_sub hl [2, 3, 4, 5, 6] rfl⟩)
