set_option maxHeartbeats 4000000 in
set_option maxRecDepth 100000 in
theorem law_told {p : Program} {e : Env} {s : State} {m : MethodId} {below : List Frame} {meth : Method} {c : Code} (l : Launch) (htr : l.stackTraces = false) {b L : Nat} {xs : Nat → Int32} (hL : L ≤ 3072) (C0 : lw_At p s m meth c b L xs) (g : Gd) (F : CallFix p m c c_L_law 7 s #[Value.ref b] wL "LatticeKeysLaw") (hX : ex g (Alaw s) s s.heap) {n0 i : Nat} (hn0 : n0 < 512) (hi : i = 6 * n0) (hi6 : i + 6 ≤ L) {H : Heap} {locs : List Loc} {ls : Array Slot} (hI : LI g s b i H locs ls) (next : ∀ (H : Heap) (locs : List Loc) (ls : Array Slot), LI g s b i H locs ls → W p l e room_1 s m #[Value.ref b] below meth c H locs (380 + 3 * n0 + 3) (194479 + 7491 * n0 + 7491) (lw_Z below #[Value.ref b] s) (F0 m 785 ls [])) : W p l e room_1 s m #[Value.ref b] below meth c H locs (380 + 3 * n0) (194479 + 7491 * n0) (lw_Z below #[Value.ref b] s) (F0 m 488 ls []) := by
  obtain ⟨hx, hb, hml, hown, hts⟩ := id F
  have hE := hX.1
  have hK := hE.1
  have hA : ∀ q, s.heap.size ≤ q → Alaw s q := fun _ h => h
  obtain ⟨-, -, hr, -, -, -, hXs, hbl, hlk, -⟩ := id C0
  have hbA : ¬ Alaw s b := fun h => Nat.not_lt.mpr h hbl
  obtain ⟨T, pl, h0, kt, ka, kp, kks, kds, ksp, kkm, kda, tl, al, pn, h1, mt, mr_, mk, mo, mh, mse, mhs, msp, msc, mha, tp, rs, ks, x0, fS, a, f, hO, hU, hkb, hmb, hS5, k_kt, k_ka, k_kp, k_kks, k_kds, k_ksp, k_kkm, k_kda, k_mt, k_mr_, k_mk, k_mo, k_mh, k_mhs, k_msp, k_msc, k_mha, hP, hD, hS, hl⟩ := hI
  have hRc : room_1.cells = 601024 := rfl
  have hRs : room_1.slots = 7293034 := rfl
  refine lv_aload_n hx hb dL_law_488 rfl (lv_at hl 3 rfl) ?_
  refine lv_aload_n hx hb dL_law_489 rfl (lv_at hl 4 rfl) ?_
  refine lv_iload hx hb dL_law_490 (lv_at hl 0 rfl) ?_
  refine lv_iconst (v := nI 1) hx hb dL_law_492 (by decide) ?_
  refine mi_iadd hx hb dL_law_493 ?_
  refine va_sld hx hb hXs hbl hbA hS (vp_in_nI (N := L) (by omega) (by omega)) dL_law_494 ?_
  refine mi_any (fun z21 => ?_)
  refine lv_aload_n hx hb dL_law_495 rfl (lv_at hl 4 rfl) ?_
  refine lv_iload hx hb dL_law_496 (lv_at hl 0 rfl) ?_
  refine lv_iconst (v := nI 2) hx hb dL_law_498 (by decide) ?_
  refine mi_iadd hx hb dL_law_499 ?_
  refine va_sld hx hb hXs hbl hbA hS (vp_in_nI (N := L) (by omega) (by omega)) dL_law_500 ?_
  refine mi_any (fun z22 => ?_)
  refine lv_aload_n hx hb dL_law_501 rfl (lv_at hl 1 rfl) ?_
  refine mp_i (cx := [(h0, .inr (0, [.ref kt, .int (nI tl), .ref ka, .int (nI al), .ref kp, .int (nI pn), .ref kks, .ref kds, .ref ksp, .ref kkm, .ref kda])), (a, .inl (g.2.1 2, 1, .inr (.inl f)))]) (wr := [(h1, .inr (8, [.int x0, .int (nI tp), .int (nI rs), .int (nI ks), .ref mt, .ref mr_, .ref mk, .ref mo, .ref mh, .ref mse, .ref mhs, .ref msp, .ref msc, .ref mha])), (mse, .inl (g.2.1 0, 8, .inl fS))]) hP hD hS hA [0, 3] [1, 2] rfl rfl rfl (by decide) (lc_run (As := [.ref h0, .int z21, .int z22, .ref a]) (rest := []) F (lh_told l htr g _ T  pl hO hU  z21 z22 h0 kt ka kp kks kds ksp kkm kda tl al pn k_kt k_ka k_kp k_kks k_kds k_ksp k_kkm k_kda a f (by omega)) (lc_cw 4 hts (wg_app (wg_c kw_1088 (wg_c kw_1089 (wg_c kw_0 wg_n))) kw_1090) rfl rfl rfl (by decide +kernel) ⟨by decide, by decide⟩) (pp_S (ex_ok g) hP hD hS hA hX [0, 3] rfl rfl) rfl rfl hl.1 rfl (lv_room (Nat.le_of_ble_eq_true rfl)) dL_law_502 ⟨by omega, by omega⟩) (fun r21 u21 H locs hu21 hP hD hS => ?_)
  obtain ⟨u22, pl⟩ := u21
  obtain ⟨hq21, hO⟩ := hu21
  obtain ⟨T, tl21, al21, pn21, fo21⟩ := u22
  have hP : va_P g.1 vcl ([(h1, .inr (8, [.int x0, .int (nI tp), .int (nI rs), .int (nI ks), .ref mt, .ref mr_, .ref mk, .ref mo, .ref mh, .ref mse, .ref mhs, .ref msp, .ref msc, .ref mha])), (mse, .inl (g.2.1 0, 8, .inl fS)), (h0, .inr (0, [.ref kt, .int (nI tl21), .ref ka, .int (nI al21), .ref kp, .int (nI pn21), .ref kks, .ref kds, .ref ksp, .ref kkm, .ref kda])), (a, .inl (g.2.1 2, 1, .inr (.inl fo21)))] ++ pl) _ := hP
  have hD : va_D _ ([(h1, .inr (8, [.int x0, .int (nI tp), .int (nI rs), .int (nI ks), .ref mt, .ref mr_, .ref mk, .ref mo, .ref mh, .ref mse, .ref mhs, .ref msp, .ref msc, .ref mha])), (mse, .inl (g.2.1 0, 8, .inl fS)), (h0, .inr (0, [.ref kt, .int (nI tl21), .ref ka, .int (nI al21), .ref kp, .int (nI pn21), .ref kks, .ref kds, .ref ksp, .ref kkm, .ref kda])), (a, .inl (g.2.1 2, 1, .inr (.inl fo21)))] ++ pl) := hD
  obtain ⟨⟨hm21, hm22, hm23, hxt21, hU⟩, hpo21⟩ := hq21
  have hm21 : tl21 ≤ 16384 := hm21
  have hm22 : al21 ≤ 8192 := hm22
  have hm23 : pn21 ≤ 8 := hm23
  have hxt21 : ext _ T := hxt21
  have hU : uni T := hU
  have hO : okx g T [] pl := hO
  have k_kt := hxt21 _ _ k_kt
  have k_ka := hxt21 _ _ k_ka
  have k_kp := hxt21 _ _ k_kp
  have k_kks := hxt21 _ _ k_kks
  have k_kds := hxt21 _ _ k_kds
  have k_ksp := hxt21 _ _ k_ksp
  have k_kkm := hxt21 _ _ k_kkm
  have k_kda := hxt21 _ _ k_kda
  have k_mt := hxt21 _ _ k_mt
  have k_mr_ := hxt21 _ _ k_mr_
  have k_mk := hxt21 _ _ k_mk
  have k_mo := hxt21 _ _ k_mo
  have k_mh := hxt21 _ _ k_mh
  have k_mhs := hxt21 _ _ k_mhs
  have k_msp := hxt21 _ _ k_msp
  have k_msc := hxt21 _ _ k_msc
  have k_mha := hxt21 _ _ k_mha
  refine W.widen (k := (380 + 3 * n0 + 1)) (n := (194479 + 7491 * n0 + 6)) (by omega) (by omega) ?_
  refine lv_istore (lv' := [(5, .int r21), (4, .int (nI i)), (3, .ref a), (2, .ref h1), (1, .ref h0), (0, .ref b)]) hx hb dL_law_505 hl (by decide) rfl (fun ls hl => ?_)
  refine lv_aload_n hx hb dL_law_507 rfl (lv_at hl 3 rfl) ?_
  refine lv_aload_n hx hb dL_law_508 rfl (lv_at hl 5 rfl) ?_
  refine lv_iload hx hb dL_law_509 (lv_at hl 1 rfl) ?_
  refine lv_iconst (v := nI 1) hx hb dL_law_511 (by decide) ?_
  refine mi_iadd hx hb dL_law_512 ?_
  refine va_sld hx hb hXs hbl hbA hS (vp_in_nI (N := L) (by omega) (by omega)) dL_law_513 ?_
  refine mi_any (fun z23 => ?_)
  refine lv_aload_n hx hb dL_law_514 rfl (lv_at hl 5 rfl) ?_
  refine lv_iload hx hb dL_law_515 (lv_at hl 1 rfl) ?_
  refine lv_iconst (v := nI 2) hx hb dL_law_517 (by decide) ?_
  refine mi_iadd hx hb dL_law_518 ?_
  refine va_sld hx hb hXs hbl hbA hS (vp_in_nI (N := L) (by omega) (by omega)) dL_law_519 ?_
  refine mi_any (fun z24 => ?_)
  refine mp_i (cx := [(h1, .inr (8, [.int x0, .int (nI tp), .int (nI rs), .int (nI ks), .ref mt, .ref mr_, .ref mk, .ref mo, .ref mh, .ref mse, .ref mhs, .ref msp, .ref msc, .ref mha])), (mse, .inl (g.2.1 0, 8, .inl fS))]) (wr := [(h0, .inr (0, [.ref kt, .int (nI tl21), .ref ka, .int (nI al21), .ref kp, .int (nI pn21), .ref kks, .ref kds, .ref ksp, .ref kkm, .ref kda])), (a, .inl (g.2.1 2, 1, .inr (.inl fo21)))]) hP hD hS hA [0, 1] [2, 3] rfl rfl rfl (by decide) (va_runV (As := [.int z23, .int z24]) (rest := []) F (t_M_told l g _ T  pl hO hU  z23 z24 h1 mt mr_ mk mo mh mse mhs msp msc mha tp rs ks x0 fS k_mt k_mr_ k_mk k_mo k_mh k_mhs k_msp k_msc k_mha (by omega) hS5) (cwV 2 hts (wg_app (wg_c kw_1793 (wg_c kw_1794 (wg_c kw_1795 (wg_c kw_9 wg_n)))) kw_1796) rfl rfl rfl (by decide +kernel) ⟨by decide, by decide⟩) (pp_V (en_ok g) (q0 := 0) hK hP hD hS hA hE [0, 1] rfl rfl rfl rfl) rfl rfl hl.1 rfl (lv_room (Nat.le_of_ble_eq_true rfl)) dL_law_520 ⟨by omega, by omega⟩) (fun r22 u23 H locs hu22 hP hD hS => ?_)
  obtain ⟨u24, pl⟩ := u23
  obtain ⟨hq22, hO⟩ := hu22
  obtain ⟨th21, tp21, rs21, ks21, fS21⟩ := u24
  have hP : va_P g.1 vcl ([(h0, .inr (0, [.ref kt, .int (nI tl21), .ref ka, .int (nI al21), .ref kp, .int (nI pn21), .ref kks, .ref kds, .ref ksp, .ref kkm, .ref kda])), (a, .inl (g.2.1 2, 1, .inr (.inl fo21))), (h1, .inr (8, [.int th21, .int (nI tp21), .int (nI rs21), .int (nI ks21), .ref mt, .ref mr_, .ref mk, .ref mo, .ref mh, .ref mse, .ref mhs, .ref msp, .ref msc, .ref mha])), (mse, .inl (g.2.1 0, 8, .inl fS21))] ++ pl) _ := hP
  have hD : va_D _ ([(h0, .inr (0, [.ref kt, .int (nI tl21), .ref ka, .int (nI al21), .ref kp, .int (nI pn21), .ref kks, .ref kds, .ref ksp, .ref kkm, .ref kda])), (a, .inl (g.2.1 2, 1, .inr (.inl fo21))), (h1, .inr (8, [.int th21, .int (nI tp21), .int (nI rs21), .int (nI ks21), .ref mt, .ref mr_, .ref mk, .ref mo, .ref mh, .ref mse, .ref mhs, .ref msp, .ref msc, .ref mha])), (mse, .inl (g.2.1 0, 8, .inl fS21))] ++ pl) := hD
  obtain ⟨hm24, hm25, hm26, hm27⟩ := hq22
  have hm24 : tp21 ≤ 16384 := hm24
  have hm25 : rs21 ≤ 8192 := hm25
  have hm26 : ks21 ≤ 8 := hm26
  refine W.widen (k := (380 + 3 * n0 + 1)) (n := (194479 + 7491 * n0 + 6)) (by omega) (by omega) ?_
  refine lv_istore (lv' := [(6, .int r22), (5, .int r21), (4, .int (nI i)), (3, .ref a), (2, .ref h1), (1, .ref h0), (0, .ref b)]) hx hb dL_law_523 hl (by decide) rfl (fun ls hl => ?_)
  refine lv_goto (tgt := 785) hx hb dL_law_525 (by decide) ?_
  have hP : va_P g.1 vcl ([(h0, .inr (0, [.ref kt, .int (nI tl21), .ref ka, .int (nI al21), .ref kp, .int (nI pn21), .ref kks, .ref kds, .ref ksp, .ref kkm, .ref kda])), (h1, .inr (8, [.int th21, .int (nI tp21), .int (nI rs21), .int (nI ks21), .ref mt, .ref mr_, .ref mk, .ref mo, .ref mh, .ref mse, .ref mhs, .ref msp, .ref msc, .ref mha])), (mse, .inl (g.2.1 0, 8, .inl fS21)), (a, .inl (g.2.1 2, 1, .inr (.inl fo21)))] ++ pl) _ := hP.part [0, 2, 3, 1] rfl
  have hD : va_D _ ([(h0, .inr (0, [.ref kt, .int (nI tl21), .ref ka, .int (nI al21), .ref kp, .int (nI pn21), .ref kks, .ref kds, .ref ksp, .ref kkm, .ref kda])), (h1, .inr (8, [.int th21, .int (nI tp21), .int (nI rs21), .int (nI ks21), .ref mt, .ref mr_, .ref mk, .ref mo, .ref mh, .ref mse, .ref mhs, .ref msp, .ref msc, .ref mha])), (mse, .inl (g.2.1 0, 8, .inl fS21)), (a, .inl (g.2.1 2, 1, .inr (.inl fo21)))] ++ pl) := hD.part [0, 2, 3, 1] (by decide) rfl
  exact W.widen (k := 380 + 3 * n0 + 3) (n := 194479 + 7491 * n0 + 7491) (by omega) (by omega) (next _ _ _ ⟨T, pl, h0, kt, ka, kp, kks, kds, ksp, kkm, kda, tl21, al21, pn21, h1, mt, mr_, mk, mo, mh, mse, mhs, msp, msc, mha, tp21, rs21, ks21, th21, fS21, a, fo21, hO, hU, ⟨by omega, by omega, by omega⟩, ⟨by omega, by omega, by omega⟩, hm27, k_kt, k_ka, k_kp, k_kks, k_kds, k_ksp, k_kkm, k_kda, k_mt, k_mr_, k_mk, k_mo, k_mh, k_mhs, k_msp, k_msc, k_mha, hP, hD, hS, lv_sub hl [2, 3, 4, 5, 6] rfl⟩)
set_option maxHeartbeats 4000000 in
set_option maxRecDepth 100000 in
theorem law_seal {p : Program} {e : Env} {s : State} {m : MethodId} {below : List Frame} {meth : Method} {c : Code} (l : Launch) (htr : l.stackTraces = false) {b L : Nat} {xs : Nat → Int32} (hL : L ≤ 3072) (C0 : lw_At p s m meth c b L xs) (g : Gd) (F : CallFix p m c c_L_law 7 s #[Value.ref b] wL "LatticeKeysLaw") (hX : ex g (Alaw s) s s.heap) {n0 i : Nat} (hn0 : n0 < 512) (hi : i = 6 * n0) (hi6 : i + 6 ≤ L) {H : Heap} {locs : List Loc} {ls : Array Slot} (hI : LI g s b i H locs ls) (next : ∀ (H : Heap) (locs : List Loc) (ls : Array Slot), LI g s b i H locs ls → W p l e room_1 s m #[Value.ref b] below meth c H locs (380 + 3 * n0 + 3) (194479 + 7491 * n0 + 7491) (lw_Z below #[Value.ref b] s) (F0 m 785 ls [])) : W p l e room_1 s m #[Value.ref b] below meth c H locs (380 + 3 * n0) (194479 + 7491 * n0) (lw_Z below #[Value.ref b] s) (F0 m 528 ls []) := by
  obtain ⟨hx, hb, hml, hown, hts⟩ := id F
  have hE := hX.1
  have hK := hE.1
  have hA : ∀ q, s.heap.size ≤ q → Alaw s q := fun _ h => h
  obtain ⟨-, -, hr, -, -, -, hXs, hbl, hlk, -⟩ := id C0
  have hbA : ¬ Alaw s b := fun h => Nat.not_lt.mpr h hbl
  obtain ⟨T, pl, h0, kt, ka, kp, kks, kds, ksp, kkm, kda, tl, al, pn, h1, mt, mr_, mk, mo, mh, mse, mhs, msp, msc, mha, tp, rs, ks, x0, fS, a, f, hO, hU, hkb, hmb, hS5, k_kt, k_ka, k_kp, k_kks, k_kds, k_ksp, k_kkm, k_kda, k_mt, k_mr_, k_mk, k_mo, k_mh, k_mhs, k_msp, k_msc, k_mha, hP, hD, hS, hl⟩ := hI
  have hRc : room_1.cells = 601024 := rfl
  have hRs : room_1.slots = 7293034 := rfl
  refine lv_aload_n hx hb dL_law_528 rfl (lv_at hl 3 rfl) ?_
  refine lv_aload_n hx hb dL_law_529 rfl (lv_at hl 4 rfl) ?_
  refine lv_iload hx hb dL_law_530 (lv_at hl 0 rfl) ?_
  refine lv_iconst (v := nI 1) hx hb dL_law_532 (by decide) ?_
  refine mi_iadd hx hb dL_law_533 ?_
  refine va_sld hx hb hXs hbl hbA hS (vp_in_nI (N := L) (by omega) (by omega)) dL_law_534 ?_
  refine mi_any (fun z21 => ?_)
  refine lv_aload_n hx hb dL_law_535 rfl (lv_at hl 1 rfl) ?_
  refine mp_i (cx := [(h0, .inr (0, [.ref kt, .int (nI tl), .ref ka, .int (nI al), .ref kp, .int (nI pn), .ref kks, .ref kds, .ref ksp, .ref kkm, .ref kda])), (a, .inl (g.2.1 2, 1, .inr (.inl f)))]) (wr := [(h1, .inr (8, [.int x0, .int (nI tp), .int (nI rs), .int (nI ks), .ref mt, .ref mr_, .ref mk, .ref mo, .ref mh, .ref mse, .ref mhs, .ref msp, .ref msc, .ref mha])), (mse, .inl (g.2.1 0, 8, .inl fS))]) hP hD hS hA [0, 3] [1, 2] rfl rfl rfl (by decide) (lc_run (As := [.ref h0, .int z21, .ref a]) (rest := []) F (lh_seal l htr g _ T  pl hO hU  z21 h0 kt ka kp kks kds ksp kkm kda tl al pn k_kt k_ka k_kp k_kks k_kds k_ksp k_kkm k_kda a f (by omega)) (lc_cw 3 hts (wg_app (wg_c kw_1097 (wg_c kw_1098 (wg_c kw_0 wg_n))) kw_1099) rfl rfl rfl (by decide +kernel) ⟨by decide, by decide⟩) (pp_S (ex_ok g) hP hD hS hA hX [0, 3] rfl rfl) rfl rfl hl.1 rfl (lv_room (Nat.le_of_ble_eq_true rfl)) dL_law_536 ⟨by omega, by omega⟩) (fun r21 u21 H locs hu21 hP hD hS => ?_)
  obtain ⟨u22, pl⟩ := u21
  obtain ⟨hq21, hO⟩ := hu21
  obtain ⟨T, tl21, al21, pn21, fo21⟩ := u22
  have hP : va_P g.1 vcl ([(h1, .inr (8, [.int x0, .int (nI tp), .int (nI rs), .int (nI ks), .ref mt, .ref mr_, .ref mk, .ref mo, .ref mh, .ref mse, .ref mhs, .ref msp, .ref msc, .ref mha])), (mse, .inl (g.2.1 0, 8, .inl fS)), (h0, .inr (0, [.ref kt, .int (nI tl21), .ref ka, .int (nI al21), .ref kp, .int (nI pn21), .ref kks, .ref kds, .ref ksp, .ref kkm, .ref kda])), (a, .inl (g.2.1 2, 1, .inr (.inl fo21)))] ++ pl) _ := hP
  have hD : va_D _ ([(h1, .inr (8, [.int x0, .int (nI tp), .int (nI rs), .int (nI ks), .ref mt, .ref mr_, .ref mk, .ref mo, .ref mh, .ref mse, .ref mhs, .ref msp, .ref msc, .ref mha])), (mse, .inl (g.2.1 0, 8, .inl fS)), (h0, .inr (0, [.ref kt, .int (nI tl21), .ref ka, .int (nI al21), .ref kp, .int (nI pn21), .ref kks, .ref kds, .ref ksp, .ref kkm, .ref kda])), (a, .inl (g.2.1 2, 1, .inr (.inl fo21)))] ++ pl) := hD
  obtain ⟨⟨hm21, hm22, hm23, hxt21, hU⟩, hpo21⟩ := hq21
  have hm21 : tl21 ≤ 16384 := hm21
  have hm22 : al21 ≤ 8192 := hm22
  have hm23 : pn21 ≤ 8 := hm23
  have hxt21 : ext _ T := hxt21
  have hU : uni T := hU
  have hO : okx g T [] pl := hO
  have k_kt := hxt21 _ _ k_kt
  have k_ka := hxt21 _ _ k_ka
  have k_kp := hxt21 _ _ k_kp
  have k_kks := hxt21 _ _ k_kks
  have k_kds := hxt21 _ _ k_kds
  have k_ksp := hxt21 _ _ k_ksp
  have k_kkm := hxt21 _ _ k_kkm
  have k_kda := hxt21 _ _ k_kda
  have k_mt := hxt21 _ _ k_mt
  have k_mr_ := hxt21 _ _ k_mr_
  have k_mk := hxt21 _ _ k_mk
  have k_mo := hxt21 _ _ k_mo
  have k_mh := hxt21 _ _ k_mh
  have k_mhs := hxt21 _ _ k_mhs
  have k_msp := hxt21 _ _ k_msp
  have k_msc := hxt21 _ _ k_msc
  have k_mha := hxt21 _ _ k_mha
  refine W.widen (k := (380 + 3 * n0 + 1)) (n := (194479 + 7491 * n0 + 6)) (by omega) (by omega) ?_
  refine lv_istore (lv' := [(5, .int r21), (4, .int (nI i)), (3, .ref a), (2, .ref h1), (1, .ref h0), (0, .ref b)]) hx hb dL_law_539 hl (by decide) rfl (fun ls hl => ?_)
  refine lv_aload_n hx hb dL_law_541 rfl (lv_at hl 3 rfl) ?_
  refine lv_aload_n hx hb dL_law_542 rfl (lv_at hl 5 rfl) ?_
  refine lv_iload hx hb dL_law_543 (lv_at hl 1 rfl) ?_
  refine lv_iconst (v := nI 1) hx hb dL_law_545 (by decide) ?_
  refine mi_iadd hx hb dL_law_546 ?_
  refine va_sld hx hb hXs hbl hbA hS (vp_in_nI (N := L) (by omega) (by omega)) dL_law_547 ?_
  refine mi_any (fun z22 => ?_)
  refine mp_i (cx := [(h1, .inr (8, [.int x0, .int (nI tp), .int (nI rs), .int (nI ks), .ref mt, .ref mr_, .ref mk, .ref mo, .ref mh, .ref mse, .ref mhs, .ref msp, .ref msc, .ref mha])), (mse, .inl (g.2.1 0, 8, .inl fS))]) (wr := [(h0, .inr (0, [.ref kt, .int (nI tl21), .ref ka, .int (nI al21), .ref kp, .int (nI pn21), .ref kks, .ref kds, .ref ksp, .ref kkm, .ref kda])), (a, .inl (g.2.1 2, 1, .inr (.inl fo21)))]) hP hD hS hA [0, 1] [2, 3] rfl rfl rfl (by decide) (va_runV (As := [.int z22]) (rest := []) F (t_M_seal l g _ T  pl hO hU  z22 h1 mt mr_ mk mo mh mse mhs msp msc mha tp rs ks x0 fS k_mt k_mr_ k_mk k_mo k_mh k_mhs k_msp k_msc k_mha (by omega) hS5) (cwV 1 hts (wg_app (wg_c kw_1797 (wg_c kw_1798 (wg_c kw_1799 (wg_c kw_9 wg_n)))) kw_1800) rfl rfl rfl (by decide +kernel) ⟨by decide, by decide⟩) (pp_V (en_ok g) (q0 := 0) hK hP hD hS hA hE [0, 1] rfl rfl rfl rfl) rfl rfl hl.1 rfl (lv_room (Nat.le_of_ble_eq_true rfl)) dL_law_548 ⟨by omega, by omega⟩) (fun r22 u23 H locs hu22 hP hD hS => ?_)
  obtain ⟨u24, pl⟩ := u23
  obtain ⟨hq22, hO⟩ := hu22
  obtain ⟨th21, tp21, rs21, ks21, fS21⟩ := u24
  have hP : va_P g.1 vcl ([(h0, .inr (0, [.ref kt, .int (nI tl21), .ref ka, .int (nI al21), .ref kp, .int (nI pn21), .ref kks, .ref kds, .ref ksp, .ref kkm, .ref kda])), (a, .inl (g.2.1 2, 1, .inr (.inl fo21))), (h1, .inr (8, [.int th21, .int (nI tp21), .int (nI rs21), .int (nI ks21), .ref mt, .ref mr_, .ref mk, .ref mo, .ref mh, .ref mse, .ref mhs, .ref msp, .ref msc, .ref mha])), (mse, .inl (g.2.1 0, 8, .inl fS21))] ++ pl) _ := hP
  have hD : va_D _ ([(h0, .inr (0, [.ref kt, .int (nI tl21), .ref ka, .int (nI al21), .ref kp, .int (nI pn21), .ref kks, .ref kds, .ref ksp, .ref kkm, .ref kda])), (a, .inl (g.2.1 2, 1, .inr (.inl fo21))), (h1, .inr (8, [.int th21, .int (nI tp21), .int (nI rs21), .int (nI ks21), .ref mt, .ref mr_, .ref mk, .ref mo, .ref mh, .ref mse, .ref mhs, .ref msp, .ref msc, .ref mha])), (mse, .inl (g.2.1 0, 8, .inl fS21))] ++ pl) := hD
  obtain ⟨hm24, hm25, hm26, hm27⟩ := hq22
  have hm24 : tp21 ≤ 16384 := hm24
  have hm25 : rs21 ≤ 8192 := hm25
  have hm26 : ks21 ≤ 8 := hm26
  refine W.widen (k := (380 + 3 * n0 + 1)) (n := (194479 + 7491 * n0 + 6)) (by omega) (by omega) ?_
  refine lv_istore (lv' := [(6, .int r22), (5, .int r21), (4, .int (nI i)), (3, .ref a), (2, .ref h1), (1, .ref h0), (0, .ref b)]) hx hb dL_law_551 hl (by decide) rfl (fun ls hl => ?_)
  refine lv_goto (tgt := 785) hx hb dL_law_553 (by decide) ?_
  have hP : va_P g.1 vcl ([(h0, .inr (0, [.ref kt, .int (nI tl21), .ref ka, .int (nI al21), .ref kp, .int (nI pn21), .ref kks, .ref kds, .ref ksp, .ref kkm, .ref kda])), (h1, .inr (8, [.int th21, .int (nI tp21), .int (nI rs21), .int (nI ks21), .ref mt, .ref mr_, .ref mk, .ref mo, .ref mh, .ref mse, .ref mhs, .ref msp, .ref msc, .ref mha])), (mse, .inl (g.2.1 0, 8, .inl fS21)), (a, .inl (g.2.1 2, 1, .inr (.inl fo21)))] ++ pl) _ := hP.part [0, 2, 3, 1] rfl
  have hD : va_D _ ([(h0, .inr (0, [.ref kt, .int (nI tl21), .ref ka, .int (nI al21), .ref kp, .int (nI pn21), .ref kks, .ref kds, .ref ksp, .ref kkm, .ref kda])), (h1, .inr (8, [.int th21, .int (nI tp21), .int (nI rs21), .int (nI ks21), .ref mt, .ref mr_, .ref mk, .ref mo, .ref mh, .ref mse, .ref mhs, .ref msp, .ref msc, .ref mha])), (mse, .inl (g.2.1 0, 8, .inl fS21)), (a, .inl (g.2.1 2, 1, .inr (.inl fo21)))] ++ pl) := hD.part [0, 2, 3, 1] (by decide) rfl
  exact W.widen (k := 380 + 3 * n0 + 3) (n := 194479 + 7491 * n0 + 7491) (by omega) (by omega) (next _ _ _ ⟨T, pl, h0, kt, ka, kp, kks, kds, ksp, kkm, kda, tl21, al21, pn21, h1, mt, mr_, mk, mo, mh, mse, mhs, msp, msc, mha, tp21, rs21, ks21, th21, fS21, a, fo21, hO, hU, ⟨by omega, by omega, by omega⟩, ⟨by omega, by omega, by omega⟩, hm27, k_kt, k_ka, k_kp, k_kks, k_kds, k_ksp, k_kkm, k_kda, k_mt, k_mr_, k_mk, k_mo, k_mh, k_mhs, k_msp, k_msc, k_mha, hP, hD, hS, lv_sub hl [2, 3, 4, 5, 6] rfl⟩)
set_option maxHeartbeats 4000000 in
set_option maxRecDepth 100000 in
theorem law_open {p : Program} {e : Env} {s : State} {m : MethodId} {below : List Frame} {meth : Method} {c : Code} (l : Launch) (htr : l.stackTraces = false) {b L : Nat} {xs : Nat → Int32} (hL : L ≤ 3072) (C0 : lw_At p s m meth c b L xs) (g : Gd) (F : CallFix p m c c_L_law 7 s #[Value.ref b] wL "LatticeKeysLaw") (hX : ex g (Alaw s) s s.heap) {n0 i : Nat} (hn0 : n0 < 512) (hi : i = 6 * n0) (hi6 : i + 6 ≤ L) {H : Heap} {locs : List Loc} {ls : Array Slot} (hI : LI g s b i H locs ls) (next : ∀ (H : Heap) (locs : List Loc) (ls : Array Slot), LI g s b i H locs ls → W p l e room_1 s m #[Value.ref b] below meth c H locs (380 + 3 * n0 + 3) (194479 + 7491 * n0 + 7491) (lw_Z below #[Value.ref b] s) (F0 m 785 ls [])) : W p l e room_1 s m #[Value.ref b] below meth c H locs (380 + 3 * n0) (194479 + 7491 * n0) (lw_Z below #[Value.ref b] s) (F0 m 556 ls []) := by
  obtain ⟨hx, hb, hml, hown, hts⟩ := id F
  have hE := hX.1
  have hK := hE.1
  have hA : ∀ q, s.heap.size ≤ q → Alaw s q := fun _ h => h
  obtain ⟨-, -, hr, -, -, -, hXs, hbl, hlk, -⟩ := id C0
  have hbA : ¬ Alaw s b := fun h => Nat.not_lt.mpr h hbl
  obtain ⟨T, pl, h0, kt, ka, kp, kks, kds, ksp, kkm, kda, tl, al, pn, h1, mt, mr_, mk, mo, mh, mse, mhs, msp, msc, mha, tp, rs, ks, x0, fS, a, f, hO, hU, hkb, hmb, hS5, k_kt, k_ka, k_kp, k_kks, k_kds, k_ksp, k_kkm, k_kda, k_mt, k_mr_, k_mk, k_mo, k_mh, k_mhs, k_msp, k_msc, k_mha, hP, hD, hS, hl⟩ := hI
  have hRc : room_1.cells = 601024 := rfl
  have hRs : room_1.slots = 7293034 := rfl
  refine lv_aload_n hx hb dL_law_556 rfl (lv_at hl 3 rfl) ?_
  refine lv_aload_n hx hb dL_law_557 rfl (lv_at hl 4 rfl) ?_
  refine lv_iload hx hb dL_law_558 (lv_at hl 0 rfl) ?_
  refine lv_iconst (v := nI 1) hx hb dL_law_560 (by decide) ?_
  refine mi_iadd hx hb dL_law_561 ?_
  refine va_sld hx hb hXs hbl hbA hS (vp_in_nI (N := L) (by omega) (by omega)) dL_law_562 ?_
  refine mi_any (fun z21 => ?_)
  refine lv_aload_n hx hb dL_law_563 rfl (lv_at hl 1 rfl) ?_
  refine mp_i (cx := [(h0, .inr (0, [.ref kt, .int (nI tl), .ref ka, .int (nI al), .ref kp, .int (nI pn), .ref kks, .ref kds, .ref ksp, .ref kkm, .ref kda])), (a, .inl (g.2.1 2, 1, .inr (.inl f)))]) (wr := [(h1, .inr (8, [.int x0, .int (nI tp), .int (nI rs), .int (nI ks), .ref mt, .ref mr_, .ref mk, .ref mo, .ref mh, .ref mse, .ref mhs, .ref msp, .ref msc, .ref mha])), (mse, .inl (g.2.1 0, 8, .inl fS))]) hP hD hS hA [0, 3] [1, 2] rfl rfl rfl (by decide) (lc_run (As := [.ref h0, .int z21, .ref a]) (rest := []) F (lh_open l htr g _ T  pl hO hU  z21 h0 kt ka kp kks kds ksp kkm kda tl al pn k_kt k_ka k_kp k_kks k_kds k_ksp k_kkm k_kda a f (by omega)) (lc_cw 3 hts (wg_app (wg_c kw_1137 (wg_c kw_1138 (wg_c kw_0 wg_n))) kw_1139) rfl rfl rfl (by decide +kernel) ⟨by decide, by decide⟩) (pp_S (ex_ok g) hP hD hS hA hX [0, 3] rfl rfl) rfl rfl hl.1 rfl (lv_room (Nat.le_of_ble_eq_true rfl)) dL_law_564 ⟨by omega, by omega⟩) (fun r21 u21 H locs hu21 hP hD hS => ?_)
  obtain ⟨u22, pl⟩ := u21
  obtain ⟨hq21, hO⟩ := hu21
  obtain ⟨T, tl21, al21, pn21, fo21⟩ := u22
  have hP : va_P g.1 vcl ([(h1, .inr (8, [.int x0, .int (nI tp), .int (nI rs), .int (nI ks), .ref mt, .ref mr_, .ref mk, .ref mo, .ref mh, .ref mse, .ref mhs, .ref msp, .ref msc, .ref mha])), (mse, .inl (g.2.1 0, 8, .inl fS)), (h0, .inr (0, [.ref kt, .int (nI tl21), .ref ka, .int (nI al21), .ref kp, .int (nI pn21), .ref kks, .ref kds, .ref ksp, .ref kkm, .ref kda])), (a, .inl (g.2.1 2, 1, .inr (.inl fo21)))] ++ pl) _ := hP
  have hD : va_D _ ([(h1, .inr (8, [.int x0, .int (nI tp), .int (nI rs), .int (nI ks), .ref mt, .ref mr_, .ref mk, .ref mo, .ref mh, .ref mse, .ref mhs, .ref msp, .ref msc, .ref mha])), (mse, .inl (g.2.1 0, 8, .inl fS)), (h0, .inr (0, [.ref kt, .int (nI tl21), .ref ka, .int (nI al21), .ref kp, .int (nI pn21), .ref kks, .ref kds, .ref ksp, .ref kkm, .ref kda])), (a, .inl (g.2.1 2, 1, .inr (.inl fo21)))] ++ pl) := hD
  obtain ⟨⟨hm21, hm22, hm23, hxt21, hU⟩, hpo21⟩ := hq21
  have hm21 : tl21 ≤ 16384 := hm21
  have hm22 : al21 ≤ 8192 := hm22
  have hm23 : pn21 ≤ 8 := hm23
  have hxt21 : ext _ T := hxt21
  have hU : uni T := hU
  have hO : okx g T [] pl := hO
  have k_kt := hxt21 _ _ k_kt
  have k_ka := hxt21 _ _ k_ka
  have k_kp := hxt21 _ _ k_kp
  have k_kks := hxt21 _ _ k_kks
  have k_kds := hxt21 _ _ k_kds
  have k_ksp := hxt21 _ _ k_ksp
  have k_kkm := hxt21 _ _ k_kkm
  have k_kda := hxt21 _ _ k_kda
  have k_mt := hxt21 _ _ k_mt
  have k_mr_ := hxt21 _ _ k_mr_
  have k_mk := hxt21 _ _ k_mk
  have k_mo := hxt21 _ _ k_mo
  have k_mh := hxt21 _ _ k_mh
  have k_mhs := hxt21 _ _ k_mhs
  have k_msp := hxt21 _ _ k_msp
  have k_msc := hxt21 _ _ k_msc
  have k_mha := hxt21 _ _ k_mha
  refine W.widen (k := (380 + 3 * n0 + 1)) (n := (194479 + 7491 * n0 + 6)) (by omega) (by omega) ?_
  refine lv_istore (lv' := [(5, .int r21), (4, .int (nI i)), (3, .ref a), (2, .ref h1), (1, .ref h0), (0, .ref b)]) hx hb dL_law_567 hl (by decide) rfl (fun ls hl => ?_)
  refine lv_aload_n hx hb dL_law_569 rfl (lv_at hl 3 rfl) ?_
  refine lv_aload_n hx hb dL_law_570 rfl (lv_at hl 5 rfl) ?_
  refine lv_iload hx hb dL_law_571 (lv_at hl 1 rfl) ?_
  refine lv_iconst (v := nI 1) hx hb dL_law_573 (by decide) ?_
  refine mi_iadd hx hb dL_law_574 ?_
  refine va_sld hx hb hXs hbl hbA hS (vp_in_nI (N := L) (by omega) (by omega)) dL_law_575 ?_
  refine mi_any (fun z22 => ?_)
  refine mp_i (cx := [(h1, .inr (8, [.int x0, .int (nI tp), .int (nI rs), .int (nI ks), .ref mt, .ref mr_, .ref mk, .ref mo, .ref mh, .ref mse, .ref mhs, .ref msp, .ref msc, .ref mha])), (mse, .inl (g.2.1 0, 8, .inl fS))]) (wr := [(h0, .inr (0, [.ref kt, .int (nI tl21), .ref ka, .int (nI al21), .ref kp, .int (nI pn21), .ref kks, .ref kds, .ref ksp, .ref kkm, .ref kda])), (a, .inl (g.2.1 2, 1, .inr (.inl fo21)))]) hP hD hS hA [0, 1] [2, 3] rfl rfl rfl (by decide) (va_runV (As := [.int z22]) (rest := []) F (t_M_open l g _ T  pl hO hU  z22 h1 mt mr_ mk mo mh mse mhs msp msc mha tp rs ks x0 fS k_mt k_mr_ k_mk k_mo k_mh k_mhs k_msp k_msc k_mha (by omega) hS5) (cwV 1 hts (wg_app (wg_c kw_1843 (wg_c kw_1844 (wg_c kw_1845 (wg_c kw_9 wg_n)))) kw_1846) rfl rfl rfl (by decide +kernel) ⟨by decide, by decide⟩) (pp_V (en_ok g) (q0 := 0) hK hP hD hS hA hE [0, 1] rfl rfl rfl rfl) rfl rfl hl.1 rfl (lv_room (Nat.le_of_ble_eq_true rfl)) dL_law_576 ⟨by omega, by omega⟩) (fun r22 u23 H locs hu22 hP hD hS => ?_)
  obtain ⟨u24, pl⟩ := u23
  obtain ⟨hq22, hO⟩ := hu22
  obtain ⟨th21, tp21, rs21, ks21, fS21⟩ := u24
  have hP : va_P g.1 vcl ([(h0, .inr (0, [.ref kt, .int (nI tl21), .ref ka, .int (nI al21), .ref kp, .int (nI pn21), .ref kks, .ref kds, .ref ksp, .ref kkm, .ref kda])), (a, .inl (g.2.1 2, 1, .inr (.inl fo21))), (h1, .inr (8, [.int th21, .int (nI tp21), .int (nI rs21), .int (nI ks21), .ref mt, .ref mr_, .ref mk, .ref mo, .ref mh, .ref mse, .ref mhs, .ref msp, .ref msc, .ref mha])), (mse, .inl (g.2.1 0, 8, .inl fS21))] ++ pl) _ := hP
  have hD : va_D _ ([(h0, .inr (0, [.ref kt, .int (nI tl21), .ref ka, .int (nI al21), .ref kp, .int (nI pn21), .ref kks, .ref kds, .ref ksp, .ref kkm, .ref kda])), (a, .inl (g.2.1 2, 1, .inr (.inl fo21))), (h1, .inr (8, [.int th21, .int (nI tp21), .int (nI rs21), .int (nI ks21), .ref mt, .ref mr_, .ref mk, .ref mo, .ref mh, .ref mse, .ref mhs, .ref msp, .ref msc, .ref mha])), (mse, .inl (g.2.1 0, 8, .inl fS21))] ++ pl) := hD
  obtain ⟨hm24, hm25, hm26, hm27⟩ := hq22
  have hm24 : tp21 ≤ 16384 := hm24
  have hm25 : rs21 ≤ 8192 := hm25
  have hm26 : ks21 ≤ 8 := hm26
  refine W.widen (k := (380 + 3 * n0 + 1)) (n := (194479 + 7491 * n0 + 6)) (by omega) (by omega) ?_
  refine lv_istore (lv' := [(6, .int r22), (5, .int r21), (4, .int (nI i)), (3, .ref a), (2, .ref h1), (1, .ref h0), (0, .ref b)]) hx hb dL_law_579 hl (by decide) rfl (fun ls hl => ?_)
  refine lv_goto (tgt := 785) hx hb dL_law_581 (by decide) ?_
  have hP : va_P g.1 vcl ([(h0, .inr (0, [.ref kt, .int (nI tl21), .ref ka, .int (nI al21), .ref kp, .int (nI pn21), .ref kks, .ref kds, .ref ksp, .ref kkm, .ref kda])), (h1, .inr (8, [.int th21, .int (nI tp21), .int (nI rs21), .int (nI ks21), .ref mt, .ref mr_, .ref mk, .ref mo, .ref mh, .ref mse, .ref mhs, .ref msp, .ref msc, .ref mha])), (mse, .inl (g.2.1 0, 8, .inl fS21)), (a, .inl (g.2.1 2, 1, .inr (.inl fo21)))] ++ pl) _ := hP.part [0, 2, 3, 1] rfl
  have hD : va_D _ ([(h0, .inr (0, [.ref kt, .int (nI tl21), .ref ka, .int (nI al21), .ref kp, .int (nI pn21), .ref kks, .ref kds, .ref ksp, .ref kkm, .ref kda])), (h1, .inr (8, [.int th21, .int (nI tp21), .int (nI rs21), .int (nI ks21), .ref mt, .ref mr_, .ref mk, .ref mo, .ref mh, .ref mse, .ref mhs, .ref msp, .ref msc, .ref mha])), (mse, .inl (g.2.1 0, 8, .inl fS21)), (a, .inl (g.2.1 2, 1, .inr (.inl fo21)))] ++ pl) := hD.part [0, 2, 3, 1] (by decide) rfl
  exact W.widen (k := 380 + 3 * n0 + 3) (n := 194479 + 7491 * n0 + 7491) (by omega) (by omega) (next _ _ _ ⟨T, pl, h0, kt, ka, kp, kks, kds, ksp, kkm, kda, tl21, al21, pn21, h1, mt, mr_, mk, mo, mh, mse, mhs, msp, msc, mha, tp21, rs21, ks21, th21, fS21, a, fo21, hO, hU, ⟨by omega, by omega, by omega⟩, ⟨by omega, by omega, by omega⟩, hm27, k_kt, k_ka, k_kp, k_kks, k_kds, k_ksp, k_kkm, k_kda, k_mt, k_mr_, k_mk, k_mo, k_mh, k_mhs, k_msp, k_msc, k_mha, hP, hD, hS, lv_sub hl [2, 3, 4, 5, 6] rfl⟩)
set_option maxHeartbeats 4000000 in
set_option maxRecDepth 100000 in
theorem law_sign {p : Program} {e : Env} {s : State} {m : MethodId} {below : List Frame} {meth : Method} {c : Code} (l : Launch) (htr : l.stackTraces = false) {b L : Nat} {xs : Nat → Int32} (hL : L ≤ 3072) (C0 : lw_At p s m meth c b L xs) (g : Gd) (F : CallFix p m c c_L_law 7 s #[Value.ref b] wL "LatticeKeysLaw") (hX : ex g (Alaw s) s s.heap) {n0 i : Nat} (hn0 : n0 < 512) (hi : i = 6 * n0) (hi6 : i + 6 ≤ L) {H : Heap} {locs : List Loc} {ls : Array Slot} (hI : LI g s b i H locs ls) (next : ∀ (H : Heap) (locs : List Loc) (ls : Array Slot), LI g s b i H locs ls → W p l e room_1 s m #[Value.ref b] below meth c H locs (380 + 3 * n0 + 3) (194479 + 7491 * n0 + 7491) (lw_Z below #[Value.ref b] s) (F0 m 785 ls [])) : W p l e room_1 s m #[Value.ref b] below meth c H locs (380 + 3 * n0) (194479 + 7491 * n0) (lw_Z below #[Value.ref b] s) (F0 m 584 ls []) := by
  obtain ⟨hx, hb, hml, hown, hts⟩ := id F
  have hE := hX.1
  have hK := hE.1
  have hA : ∀ q, s.heap.size ≤ q → Alaw s q := fun _ h => h
  obtain ⟨-, -, hr, -, -, -, hXs, hbl, hlk, -⟩ := id C0
  have hbA : ¬ Alaw s b := fun h => Nat.not_lt.mpr h hbl
  obtain ⟨T, pl, h0, kt, ka, kp, kks, kds, ksp, kkm, kda, tl, al, pn, h1, mt, mr_, mk, mo, mh, mse, mhs, msp, msc, mha, tp, rs, ks, x0, fS, a, f, hO, hU, hkb, hmb, hS5, k_kt, k_ka, k_kp, k_kks, k_kds, k_ksp, k_kkm, k_kda, k_mt, k_mr_, k_mk, k_mo, k_mh, k_mhs, k_msp, k_msc, k_mha, hP, hD, hS, hl⟩ := hI
  have hRc : room_1.cells = 601024 := rfl
  have hRs : room_1.slots = 7293034 := rfl
  refine lv_aload_n hx hb dL_law_584 rfl (lv_at hl 3 rfl) ?_
  refine lv_aload_n hx hb dL_law_585 rfl (lv_at hl 4 rfl) ?_
  refine lv_iload hx hb dL_law_586 (lv_at hl 0 rfl) ?_
  refine lv_iconst (v := nI 1) hx hb dL_law_588 (by decide) ?_
  refine mi_iadd hx hb dL_law_589 ?_
  refine va_sld hx hb hXs hbl hbA hS (vp_in_nI (N := L) (by omega) (by omega)) dL_law_590 ?_
  refine mi_any (fun z21 => ?_)
  refine lv_aload_n hx hb dL_law_591 rfl (lv_at hl 4 rfl) ?_
  refine lv_iload hx hb dL_law_592 (lv_at hl 0 rfl) ?_
  refine lv_iconst (v := nI 2) hx hb dL_law_594 (by decide) ?_
  refine mi_iadd hx hb dL_law_595 ?_
  refine va_sld hx hb hXs hbl hbA hS (vp_in_nI (N := L) (by omega) (by omega)) dL_law_596 ?_
  refine mi_any (fun z22 => ?_)
  refine lv_aload_n hx hb dL_law_597 rfl (lv_at hl 1 rfl) ?_
  refine mp_i (cx := [(h0, .inr (0, [.ref kt, .int (nI tl), .ref ka, .int (nI al), .ref kp, .int (nI pn), .ref kks, .ref kds, .ref ksp, .ref kkm, .ref kda])), (a, .inl (g.2.1 2, 1, .inr (.inl f)))]) (wr := [(h1, .inr (8, [.int x0, .int (nI tp), .int (nI rs), .int (nI ks), .ref mt, .ref mr_, .ref mk, .ref mo, .ref mh, .ref mse, .ref mhs, .ref msp, .ref msc, .ref mha])), (mse, .inl (g.2.1 0, 8, .inl fS))]) hP hD hS hA [0, 3] [1, 2] rfl rfl rfl (by decide) (lc_run (As := [.ref h0, .int z21, .int z22, .ref a]) (rest := []) F (lh_sign l htr g _ T  pl hO hU  z21 z22 h0 kt ka kp kks kds ksp kkm kda tl al pn k_kt k_ka k_kp k_kks k_kds k_ksp k_kkm k_kda a f (by omega)) (lc_cw 4 hts (wg_app (wg_c kw_1158 (wg_c kw_1159 (wg_c kw_0 wg_n))) kw_1160) rfl rfl rfl (by decide +kernel) ⟨by decide, by decide⟩) (pp_S (ex_ok g) hP hD hS hA hX [0, 3] rfl rfl) rfl rfl hl.1 rfl (lv_room (Nat.le_of_ble_eq_true rfl)) dL_law_598 ⟨by omega, by omega⟩) (fun r21 u21 H locs hu21 hP hD hS => ?_)
  obtain ⟨u22, pl⟩ := u21
  obtain ⟨hq21, hO⟩ := hu21
  obtain ⟨T, tl21, al21, pn21, fo21⟩ := u22
  have hP : va_P g.1 vcl ([(h1, .inr (8, [.int x0, .int (nI tp), .int (nI rs), .int (nI ks), .ref mt, .ref mr_, .ref mk, .ref mo, .ref mh, .ref mse, .ref mhs, .ref msp, .ref msc, .ref mha])), (mse, .inl (g.2.1 0, 8, .inl fS)), (h0, .inr (0, [.ref kt, .int (nI tl21), .ref ka, .int (nI al21), .ref kp, .int (nI pn21), .ref kks, .ref kds, .ref ksp, .ref kkm, .ref kda])), (a, .inl (g.2.1 2, 1, .inr (.inl fo21)))] ++ pl) _ := hP
  have hD : va_D _ ([(h1, .inr (8, [.int x0, .int (nI tp), .int (nI rs), .int (nI ks), .ref mt, .ref mr_, .ref mk, .ref mo, .ref mh, .ref mse, .ref mhs, .ref msp, .ref msc, .ref mha])), (mse, .inl (g.2.1 0, 8, .inl fS)), (h0, .inr (0, [.ref kt, .int (nI tl21), .ref ka, .int (nI al21), .ref kp, .int (nI pn21), .ref kks, .ref kds, .ref ksp, .ref kkm, .ref kda])), (a, .inl (g.2.1 2, 1, .inr (.inl fo21)))] ++ pl) := hD
  obtain ⟨⟨hm21, hm22, hm23, hxt21, hU⟩, hpo21⟩ := hq21
  have hm21 : tl21 ≤ 16384 := hm21
  have hm22 : al21 ≤ 8192 := hm22
  have hm23 : pn21 ≤ 8 := hm23
  have hxt21 : ext _ T := hxt21
  have hU : uni T := hU
  have hO : okx g T [] pl := hO
  have k_kt := hxt21 _ _ k_kt
  have k_ka := hxt21 _ _ k_ka
  have k_kp := hxt21 _ _ k_kp
  have k_kks := hxt21 _ _ k_kks
  have k_kds := hxt21 _ _ k_kds
  have k_ksp := hxt21 _ _ k_ksp
  have k_kkm := hxt21 _ _ k_kkm
  have k_kda := hxt21 _ _ k_kda
  have k_mt := hxt21 _ _ k_mt
  have k_mr_ := hxt21 _ _ k_mr_
  have k_mk := hxt21 _ _ k_mk
  have k_mo := hxt21 _ _ k_mo
  have k_mh := hxt21 _ _ k_mh
  have k_mhs := hxt21 _ _ k_mhs
  have k_msp := hxt21 _ _ k_msp
  have k_msc := hxt21 _ _ k_msc
  have k_mha := hxt21 _ _ k_mha
  refine W.widen (k := (380 + 3 * n0 + 1)) (n := (194479 + 7491 * n0 + 6)) (by omega) (by omega) ?_
  refine lv_istore (lv' := [(5, .int r21), (4, .int (nI i)), (3, .ref a), (2, .ref h1), (1, .ref h0), (0, .ref b)]) hx hb dL_law_601 hl (by decide) rfl (fun ls hl => ?_)
  refine lv_aload_n hx hb dL_law_603 rfl (lv_at hl 3 rfl) ?_
  refine lv_aload_n hx hb dL_law_604 rfl (lv_at hl 5 rfl) ?_
  refine lv_iload hx hb dL_law_605 (lv_at hl 1 rfl) ?_
  refine lv_iconst (v := nI 1) hx hb dL_law_607 (by decide) ?_
  refine mi_iadd hx hb dL_law_608 ?_
  refine va_sld hx hb hXs hbl hbA hS (vp_in_nI (N := L) (by omega) (by omega)) dL_law_609 ?_
  refine mi_any (fun z23 => ?_)
  refine lv_aload_n hx hb dL_law_610 rfl (lv_at hl 5 rfl) ?_
  refine lv_iload hx hb dL_law_611 (lv_at hl 1 rfl) ?_
  refine lv_iconst (v := nI 2) hx hb dL_law_613 (by decide) ?_
  refine mi_iadd hx hb dL_law_614 ?_
  refine va_sld hx hb hXs hbl hbA hS (vp_in_nI (N := L) (by omega) (by omega)) dL_law_615 ?_
  refine mi_any (fun z24 => ?_)
  refine mp_i (cx := [(h1, .inr (8, [.int x0, .int (nI tp), .int (nI rs), .int (nI ks), .ref mt, .ref mr_, .ref mk, .ref mo, .ref mh, .ref mse, .ref mhs, .ref msp, .ref msc, .ref mha])), (mse, .inl (g.2.1 0, 8, .inl fS))]) (wr := [(h0, .inr (0, [.ref kt, .int (nI tl21), .ref ka, .int (nI al21), .ref kp, .int (nI pn21), .ref kks, .ref kds, .ref ksp, .ref kkm, .ref kda])), (a, .inl (g.2.1 2, 1, .inr (.inl fo21)))]) hP hD hS hA [0, 1] [2, 3] rfl rfl rfl (by decide) (va_runV (As := [.int z23, .int z24]) (rest := []) F (t_M_sign l g _ T  pl hO hU  z23 z24 h1 mt mr_ mk mo mh mse mhs msp msc mha tp rs ks x0 fS k_mt k_mr_ k_mk k_mo k_mh k_mhs k_msp k_msc k_mha (by omega) hS5) (cwV 2 hts (wg_app (wg_c kw_1852 (wg_c kw_1853 (wg_c kw_1854 (wg_c kw_9 wg_n)))) kw_1855) rfl rfl rfl (by decide +kernel) ⟨by decide, by decide⟩) (pp_V (en_ok g) (q0 := 0) hK hP hD hS hA hE [0, 1] rfl rfl rfl rfl) rfl rfl hl.1 rfl (lv_room (Nat.le_of_ble_eq_true rfl)) dL_law_616 ⟨by omega, by omega⟩) (fun r22 u23 H locs hu22 hP hD hS => ?_)
  obtain ⟨u24, pl⟩ := u23
  obtain ⟨hq22, hO⟩ := hu22
  obtain ⟨th21, tp21, rs21, ks21, fS21⟩ := u24
  have hP : va_P g.1 vcl ([(h0, .inr (0, [.ref kt, .int (nI tl21), .ref ka, .int (nI al21), .ref kp, .int (nI pn21), .ref kks, .ref kds, .ref ksp, .ref kkm, .ref kda])), (a, .inl (g.2.1 2, 1, .inr (.inl fo21))), (h1, .inr (8, [.int th21, .int (nI tp21), .int (nI rs21), .int (nI ks21), .ref mt, .ref mr_, .ref mk, .ref mo, .ref mh, .ref mse, .ref mhs, .ref msp, .ref msc, .ref mha])), (mse, .inl (g.2.1 0, 8, .inl fS21))] ++ pl) _ := hP
  have hD : va_D _ ([(h0, .inr (0, [.ref kt, .int (nI tl21), .ref ka, .int (nI al21), .ref kp, .int (nI pn21), .ref kks, .ref kds, .ref ksp, .ref kkm, .ref kda])), (a, .inl (g.2.1 2, 1, .inr (.inl fo21))), (h1, .inr (8, [.int th21, .int (nI tp21), .int (nI rs21), .int (nI ks21), .ref mt, .ref mr_, .ref mk, .ref mo, .ref mh, .ref mse, .ref mhs, .ref msp, .ref msc, .ref mha])), (mse, .inl (g.2.1 0, 8, .inl fS21))] ++ pl) := hD
  obtain ⟨hm24, hm25, hm26, hm27⟩ := hq22
  have hm24 : tp21 ≤ 16384 := hm24
  have hm25 : rs21 ≤ 8192 := hm25
  have hm26 : ks21 ≤ 8 := hm26
  refine W.widen (k := (380 + 3 * n0 + 1)) (n := (194479 + 7491 * n0 + 6)) (by omega) (by omega) ?_
  refine lv_istore (lv' := [(6, .int r22), (5, .int r21), (4, .int (nI i)), (3, .ref a), (2, .ref h1), (1, .ref h0), (0, .ref b)]) hx hb dL_law_619 hl (by decide) rfl (fun ls hl => ?_)
  refine lv_goto (tgt := 785) hx hb dL_law_621 (by decide) ?_
  have hP : va_P g.1 vcl ([(h0, .inr (0, [.ref kt, .int (nI tl21), .ref ka, .int (nI al21), .ref kp, .int (nI pn21), .ref kks, .ref kds, .ref ksp, .ref kkm, .ref kda])), (h1, .inr (8, [.int th21, .int (nI tp21), .int (nI rs21), .int (nI ks21), .ref mt, .ref mr_, .ref mk, .ref mo, .ref mh, .ref mse, .ref mhs, .ref msp, .ref msc, .ref mha])), (mse, .inl (g.2.1 0, 8, .inl fS21)), (a, .inl (g.2.1 2, 1, .inr (.inl fo21)))] ++ pl) _ := hP.part [0, 2, 3, 1] rfl
  have hD : va_D _ ([(h0, .inr (0, [.ref kt, .int (nI tl21), .ref ka, .int (nI al21), .ref kp, .int (nI pn21), .ref kks, .ref kds, .ref ksp, .ref kkm, .ref kda])), (h1, .inr (8, [.int th21, .int (nI tp21), .int (nI rs21), .int (nI ks21), .ref mt, .ref mr_, .ref mk, .ref mo, .ref mh, .ref mse, .ref mhs, .ref msp, .ref msc, .ref mha])), (mse, .inl (g.2.1 0, 8, .inl fS21)), (a, .inl (g.2.1 2, 1, .inr (.inl fo21)))] ++ pl) := hD.part [0, 2, 3, 1] (by decide) rfl
  exact W.widen (k := 380 + 3 * n0 + 3) (n := 194479 + 7491 * n0 + 7491) (by omega) (by omega) (next _ _ _ ⟨T, pl, h0, kt, ka, kp, kks, kds, ksp, kkm, kda, tl21, al21, pn21, h1, mt, mr_, mk, mo, mh, mse, mhs, msp, msc, mha, tp21, rs21, ks21, th21, fS21, a, fo21, hO, hU, ⟨by omega, by omega, by omega⟩, ⟨by omega, by omega, by omega⟩, hm27, k_kt, k_ka, k_kp, k_kks, k_kds, k_ksp, k_kkm, k_kda, k_mt, k_mr_, k_mk, k_mo, k_mh, k_mhs, k_msp, k_msc, k_mha, hP, hD, hS, lv_sub hl [2, 3, 4, 5, 6] rfl⟩)
set_option maxHeartbeats 4000000 in
set_option maxRecDepth 100000 in
theorem law_verify {p : Program} {e : Env} {s : State} {m : MethodId} {below : List Frame} {meth : Method} {c : Code} (l : Launch) (htr : l.stackTraces = false) {b L : Nat} {xs : Nat → Int32} (hL : L ≤ 3072) (C0 : lw_At p s m meth c b L xs) (g : Gd) (F : CallFix p m c c_L_law 7 s #[Value.ref b] wL "LatticeKeysLaw") (hX : ex g (Alaw s) s s.heap) {n0 i : Nat} (hn0 : n0 < 512) (hi : i = 6 * n0) (hi6 : i + 6 ≤ L) {H : Heap} {locs : List Loc} {ls : Array Slot} (hI : LI g s b i H locs ls) (next : ∀ (H : Heap) (locs : List Loc) (ls : Array Slot), LI g s b i H locs ls → W p l e room_1 s m #[Value.ref b] below meth c H locs (380 + 3 * n0 + 3) (194479 + 7491 * n0 + 7491) (lw_Z below #[Value.ref b] s) (F0 m 785 ls [])) : W p l e room_1 s m #[Value.ref b] below meth c H locs (380 + 3 * n0) (194479 + 7491 * n0) (lw_Z below #[Value.ref b] s) (F0 m 624 ls []) := by
  obtain ⟨hx, hb, hml, hown, hts⟩ := id F
  have hE := hX.1
  have hK := hE.1
  have hA : ∀ q, s.heap.size ≤ q → Alaw s q := fun _ h => h
  obtain ⟨-, -, hr, -, -, -, hXs, hbl, hlk, -⟩ := id C0
  have hbA : ¬ Alaw s b := fun h => Nat.not_lt.mpr h hbl
  obtain ⟨T, pl, h0, kt, ka, kp, kks, kds, ksp, kkm, kda, tl, al, pn, h1, mt, mr_, mk, mo, mh, mse, mhs, msp, msc, mha, tp, rs, ks, x0, fS, a, f, hO, hU, hkb, hmb, hS5, k_kt, k_ka, k_kp, k_kks, k_kds, k_ksp, k_kkm, k_kda, k_mt, k_mr_, k_mk, k_mo, k_mh, k_mhs, k_msp, k_msc, k_mha, hP, hD, hS, hl⟩ := hI
  have hRc : room_1.cells = 601024 := rfl
  have hRs : room_1.slots = 7293034 := rfl
  refine lv_aload_n hx hb dL_law_624 rfl (lv_at hl 3 rfl) ?_
  refine lv_aload_n hx hb dL_law_625 rfl (lv_at hl 4 rfl) ?_
  refine lv_iload hx hb dL_law_626 (lv_at hl 0 rfl) ?_
  refine lv_iconst (v := nI 1) hx hb dL_law_628 (by decide) ?_
  refine mi_iadd hx hb dL_law_629 ?_
  refine va_sld hx hb hXs hbl hbA hS (vp_in_nI (N := L) (by omega) (by omega)) dL_law_630 ?_
  refine mi_any (fun z21 => ?_)
  refine lv_aload_n hx hb dL_law_631 rfl (lv_at hl 4 rfl) ?_
  refine lv_iload hx hb dL_law_632 (lv_at hl 0 rfl) ?_
  refine lv_iconst (v := nI 2) hx hb dL_law_634 (by decide) ?_
  refine mi_iadd hx hb dL_law_635 ?_
  refine va_sld hx hb hXs hbl hbA hS (vp_in_nI (N := L) (by omega) (by omega)) dL_law_636 ?_
  refine mi_any (fun z22 => ?_)
  refine lv_aload_n hx hb dL_law_637 rfl (lv_at hl 1 rfl) ?_
  refine mp_i (cx := [(h0, .inr (0, [.ref kt, .int (nI tl), .ref ka, .int (nI al), .ref kp, .int (nI pn), .ref kks, .ref kds, .ref ksp, .ref kkm, .ref kda])), (a, .inl (g.2.1 2, 1, .inr (.inl f)))]) (wr := [(h1, .inr (8, [.int x0, .int (nI tp), .int (nI rs), .int (nI ks), .ref mt, .ref mr_, .ref mk, .ref mo, .ref mh, .ref mse, .ref mhs, .ref msp, .ref msc, .ref mha])), (mse, .inl (g.2.1 0, 8, .inl fS))]) hP hD hS hA [0, 3] [1, 2] rfl rfl rfl (by decide) (lc_run (As := [.ref h0, .int z21, .int z22, .ref a]) (rest := []) F (lh_verify l htr g _ T  pl hO hU  z21 z22 h0 kt ka kp kks kds ksp kkm kda tl al pn k_kt k_ka k_kp k_kks k_kds k_ksp k_kkm k_kda a f (by omega)) (lc_cw 4 hts (wg_app (wg_c kw_1253 (wg_c kw_1254 (wg_c kw_0 wg_n))) kw_1255) rfl rfl rfl (by decide +kernel) ⟨by decide, by decide⟩) (pp_S (ex_ok g) hP hD hS hA hX [0, 3] rfl rfl) rfl rfl hl.1 rfl (lv_room (Nat.le_of_ble_eq_true rfl)) dL_law_638 ⟨by omega, by omega⟩) (fun r21 u21 H locs hu21 hP hD hS => ?_)
  obtain ⟨u22, pl⟩ := u21
  obtain ⟨hq21, hO⟩ := hu21
  obtain ⟨T, tl21, al21, pn21, fo21⟩ := u22
  have hP : va_P g.1 vcl ([(h1, .inr (8, [.int x0, .int (nI tp), .int (nI rs), .int (nI ks), .ref mt, .ref mr_, .ref mk, .ref mo, .ref mh, .ref mse, .ref mhs, .ref msp, .ref msc, .ref mha])), (mse, .inl (g.2.1 0, 8, .inl fS)), (h0, .inr (0, [.ref kt, .int (nI tl21), .ref ka, .int (nI al21), .ref kp, .int (nI pn21), .ref kks, .ref kds, .ref ksp, .ref kkm, .ref kda])), (a, .inl (g.2.1 2, 1, .inr (.inl fo21)))] ++ pl) _ := hP
  have hD : va_D _ ([(h1, .inr (8, [.int x0, .int (nI tp), .int (nI rs), .int (nI ks), .ref mt, .ref mr_, .ref mk, .ref mo, .ref mh, .ref mse, .ref mhs, .ref msp, .ref msc, .ref mha])), (mse, .inl (g.2.1 0, 8, .inl fS)), (h0, .inr (0, [.ref kt, .int (nI tl21), .ref ka, .int (nI al21), .ref kp, .int (nI pn21), .ref kks, .ref kds, .ref ksp, .ref kkm, .ref kda])), (a, .inl (g.2.1 2, 1, .inr (.inl fo21)))] ++ pl) := hD
  obtain ⟨⟨hm21, hm22, hm23, hxt21, hU⟩, hpo21⟩ := hq21
  have hm21 : tl21 ≤ 16384 := hm21
  have hm22 : al21 ≤ 8192 := hm22
  have hm23 : pn21 ≤ 8 := hm23
  have hxt21 : ext _ T := hxt21
  have hU : uni T := hU
  have hO : okx g T [] pl := hO
  have k_kt := hxt21 _ _ k_kt
  have k_ka := hxt21 _ _ k_ka
  have k_kp := hxt21 _ _ k_kp
  have k_kks := hxt21 _ _ k_kks
  have k_kds := hxt21 _ _ k_kds
  have k_ksp := hxt21 _ _ k_ksp
  have k_kkm := hxt21 _ _ k_kkm
  have k_kda := hxt21 _ _ k_kda
  have k_mt := hxt21 _ _ k_mt
  have k_mr_ := hxt21 _ _ k_mr_
  have k_mk := hxt21 _ _ k_mk
  have k_mo := hxt21 _ _ k_mo
  have k_mh := hxt21 _ _ k_mh
  have k_mhs := hxt21 _ _ k_mhs
  have k_msp := hxt21 _ _ k_msp
  have k_msc := hxt21 _ _ k_msc
  have k_mha := hxt21 _ _ k_mha
  refine W.widen (k := (380 + 3 * n0 + 1)) (n := (194479 + 7491 * n0 + 6)) (by omega) (by omega) ?_
  refine lv_istore (lv' := [(5, .int r21), (4, .int (nI i)), (3, .ref a), (2, .ref h1), (1, .ref h0), (0, .ref b)]) hx hb dL_law_641 hl (by decide) rfl (fun ls hl => ?_)
  refine lv_aload_n hx hb dL_law_643 rfl (lv_at hl 3 rfl) ?_
  refine lv_aload_n hx hb dL_law_644 rfl (lv_at hl 5 rfl) ?_
  refine lv_iload hx hb dL_law_645 (lv_at hl 1 rfl) ?_
  refine lv_iconst (v := nI 1) hx hb dL_law_647 (by decide) ?_
  refine mi_iadd hx hb dL_law_648 ?_
  refine va_sld hx hb hXs hbl hbA hS (vp_in_nI (N := L) (by omega) (by omega)) dL_law_649 ?_
  refine mi_any (fun z23 => ?_)
  refine lv_aload_n hx hb dL_law_650 rfl (lv_at hl 5 rfl) ?_
  refine lv_iload hx hb dL_law_651 (lv_at hl 1 rfl) ?_
  refine lv_iconst (v := nI 2) hx hb dL_law_653 (by decide) ?_
  refine mi_iadd hx hb dL_law_654 ?_
  refine va_sld hx hb hXs hbl hbA hS (vp_in_nI (N := L) (by omega) (by omega)) dL_law_655 ?_
  refine mi_any (fun z24 => ?_)
  refine mp_i (cx := [(h1, .inr (8, [.int x0, .int (nI tp), .int (nI rs), .int (nI ks), .ref mt, .ref mr_, .ref mk, .ref mo, .ref mh, .ref mse, .ref mhs, .ref msp, .ref msc, .ref mha])), (mse, .inl (g.2.1 0, 8, .inl fS))]) (wr := [(h0, .inr (0, [.ref kt, .int (nI tl21), .ref ka, .int (nI al21), .ref kp, .int (nI pn21), .ref kks, .ref kds, .ref ksp, .ref kkm, .ref kda])), (a, .inl (g.2.1 2, 1, .inr (.inl fo21)))]) hP hD hS hA [0, 1] [2, 3] rfl rfl rfl (by decide) (va_runV (As := [.int z23, .int z24]) (rest := []) F (t_M_verify l g _ T  pl hO hU  z23 z24 h1 mt mr_ mk mo mh mse mhs msp msc mha tp rs ks x0 fS k_mt k_mr_ k_mk k_mo k_mh k_mhs k_msp k_msc k_mha (by omega) hS5) (cwV 2 hts (wg_app (wg_c kw_1921 (wg_c kw_1922 (wg_c kw_1923 (wg_c kw_9 wg_n)))) kw_1924) rfl rfl rfl (by decide +kernel) ⟨by decide, by decide⟩) (pp_V (en_ok g) (q0 := 0) hK hP hD hS hA hE [0, 1] rfl rfl rfl rfl) rfl rfl hl.1 rfl (lv_room (Nat.le_of_ble_eq_true rfl)) dL_law_656 ⟨by omega, by omega⟩) (fun r22 u23 H locs hu22 hP hD hS => ?_)
  obtain ⟨u24, pl⟩ := u23
  obtain ⟨hq22, hO⟩ := hu22
  obtain ⟨th21, tp21, rs21, ks21, fS21⟩ := u24
  have hP : va_P g.1 vcl ([(h0, .inr (0, [.ref kt, .int (nI tl21), .ref ka, .int (nI al21), .ref kp, .int (nI pn21), .ref kks, .ref kds, .ref ksp, .ref kkm, .ref kda])), (a, .inl (g.2.1 2, 1, .inr (.inl fo21))), (h1, .inr (8, [.int th21, .int (nI tp21), .int (nI rs21), .int (nI ks21), .ref mt, .ref mr_, .ref mk, .ref mo, .ref mh, .ref mse, .ref mhs, .ref msp, .ref msc, .ref mha])), (mse, .inl (g.2.1 0, 8, .inl fS21))] ++ pl) _ := hP
  have hD : va_D _ ([(h0, .inr (0, [.ref kt, .int (nI tl21), .ref ka, .int (nI al21), .ref kp, .int (nI pn21), .ref kks, .ref kds, .ref ksp, .ref kkm, .ref kda])), (a, .inl (g.2.1 2, 1, .inr (.inl fo21))), (h1, .inr (8, [.int th21, .int (nI tp21), .int (nI rs21), .int (nI ks21), .ref mt, .ref mr_, .ref mk, .ref mo, .ref mh, .ref mse, .ref mhs, .ref msp, .ref msc, .ref mha])), (mse, .inl (g.2.1 0, 8, .inl fS21))] ++ pl) := hD
  obtain ⟨hm24, hm25, hm26, hm27⟩ := hq22
  have hm24 : tp21 ≤ 16384 := hm24
  have hm25 : rs21 ≤ 8192 := hm25
  have hm26 : ks21 ≤ 8 := hm26
  refine W.widen (k := (380 + 3 * n0 + 1)) (n := (194479 + 7491 * n0 + 6)) (by omega) (by omega) ?_
  refine lv_istore (lv' := [(6, .int r22), (5, .int r21), (4, .int (nI i)), (3, .ref a), (2, .ref h1), (1, .ref h0), (0, .ref b)]) hx hb dL_law_659 hl (by decide) rfl (fun ls hl => ?_)
  refine lv_goto (tgt := 785) hx hb dL_law_661 (by decide) ?_
  have hP : va_P g.1 vcl ([(h0, .inr (0, [.ref kt, .int (nI tl21), .ref ka, .int (nI al21), .ref kp, .int (nI pn21), .ref kks, .ref kds, .ref ksp, .ref kkm, .ref kda])), (h1, .inr (8, [.int th21, .int (nI tp21), .int (nI rs21), .int (nI ks21), .ref mt, .ref mr_, .ref mk, .ref mo, .ref mh, .ref mse, .ref mhs, .ref msp, .ref msc, .ref mha])), (mse, .inl (g.2.1 0, 8, .inl fS21)), (a, .inl (g.2.1 2, 1, .inr (.inl fo21)))] ++ pl) _ := hP.part [0, 2, 3, 1] rfl
  have hD : va_D _ ([(h0, .inr (0, [.ref kt, .int (nI tl21), .ref ka, .int (nI al21), .ref kp, .int (nI pn21), .ref kks, .ref kds, .ref ksp, .ref kkm, .ref kda])), (h1, .inr (8, [.int th21, .int (nI tp21), .int (nI rs21), .int (nI ks21), .ref mt, .ref mr_, .ref mk, .ref mo, .ref mh, .ref mse, .ref mhs, .ref msp, .ref msc, .ref mha])), (mse, .inl (g.2.1 0, 8, .inl fS21)), (a, .inl (g.2.1 2, 1, .inr (.inl fo21)))] ++ pl) := hD.part [0, 2, 3, 1] (by decide) rfl
  exact W.widen (k := 380 + 3 * n0 + 3) (n := 194479 + 7491 * n0 + 7491) (by omega) (by omega) (next _ _ _ ⟨T, pl, h0, kt, ka, kp, kks, kds, ksp, kkm, kda, tl21, al21, pn21, h1, mt, mr_, mk, mo, mh, mse, mhs, msp, msc, mha, tp21, rs21, ks21, th21, fS21, a, fo21, hO, hU, ⟨by omega, by omega, by omega⟩, ⟨by omega, by omega, by omega⟩, hm27, k_kt, k_ka, k_kp, k_kks, k_kds, k_ksp, k_kkm, k_kda, k_mt, k_mr_, k_mk, k_mo, k_mh, k_mhs, k_msp, k_msc, k_mha, hP, hD, hS, lv_sub hl [2, 3, 4, 5, 6] rfl⟩)
