set_option maxHeartbeats 4000000 in
set_option maxRecDepth 100000 in
theorem law_load {p : Program} {e : Env} {s : State} {m : MethodId} {below : List Frame} {meth : Method} {c : Code} (l : Launch) (htr : l.stackTraces = false) {b L : Nat} {xs : Nat → Int32} (hL : L ≤ 3072) (C0 : lw_At p s m meth c b L xs) (g : Gd) (F : CallFix p m c c_L_law 7 s #[Value.ref b] wL "LatticeKeysLaw") (hX : ex g (Alaw s) s s.heap) {n0 i : Nat} (hn0 : n0 < 512) (hi : i = 6 * n0) (hi6 : i + 6 ≤ L) {H : Heap} {locs : List Loc} {ls : Array Slot} (hI : LI g s b i H locs ls) (next : ∀ (H : Heap) (locs : List Loc) (ls : Array Slot), LI g s b i H locs ls → W p l e room_1 s m #[Value.ref b] below meth c H locs (380 + 3 * n0 + 3) (194479 + 7491 * n0 + 7491) (lw_Z below #[Value.ref b] s) (F0 m 785 ls [])) : W p l e room_1 s m #[Value.ref b] below meth c H locs (380 + 3 * n0) (194479 + 7491 * n0) (lw_Z below #[Value.ref b] s) (F0 m 308 ls []) := by
  obtain ⟨hx, hb, hml, hown, hts⟩ := id F
  have hE := hX.1
  have hK := hE.1
  have hA : ∀ q, s.heap.size ≤ q → Alaw s q := fun _ h => h
  obtain ⟨-, -, hr, -, -, -, hXs, hbl, hlk, -⟩ := id C0
  have hbA : ¬ Alaw s b := fun h => Nat.not_lt.mpr h hbl
  obtain ⟨T, pl, h0, kt, ka, kp, kks, kds, ksp, kkm, kda, tl, al, pn, h1, mt, mr_, mk, mo, mh, mse, mhs, msp, msc, mha, tp, rs, ks, x0, fS, a, f, hO, hU, hkb, hmb, hS5, k_kt, k_ka, k_kp, k_kks, k_kds, k_ksp, k_kkm, k_kda, k_mt, k_mr_, k_mk, k_mo, k_mh, k_mhs, k_msp, k_msc, k_mha, hP, hD, hS, hl⟩ := hI
  have hRc : room_1.cells = 601024 := rfl
  have hRs : room_1.slots = 7293034 := rfl
  refine lv_aload_n hx hb dL_law_308 rfl (lv_at hl 3 rfl) ?_
  refine lv_aload_n hx hb dL_law_309 rfl (lv_at hl 4 rfl) ?_
  refine lv_iload hx hb dL_law_310 (lv_at hl 0 rfl) ?_
  refine lv_iconst (v := nI 1) hx hb dL_law_312 (by decide) ?_
  refine mi_iadd hx hb dL_law_313 ?_
  refine va_sld hx hb hXs hbl hbA hS (vp_in_nI (N := L) (by omega) (by omega)) dL_law_314 ?_
  refine mi_any (fun z21 => ?_)
  refine lv_aload_n hx hb dL_law_315 rfl (lv_at hl 4 rfl) ?_
  refine lv_iload hx hb dL_law_316 (lv_at hl 0 rfl) ?_
  refine lv_iconst (v := nI 2) hx hb dL_law_318 (by decide) ?_
  refine mi_iadd hx hb dL_law_319 ?_
  refine va_sld hx hb hXs hbl hbA hS (vp_in_nI (N := L) (by omega) (by omega)) dL_law_320 ?_
  refine mi_any (fun z22 => ?_)
  refine lv_if_eq (tgt := 328) hx hb dL_law_321 (by decide) (fun h21 => ?_) (fun h21 => ?_)
  · refine lv_iconst (v := nI 0) hx hb dL_law_328 (by decide) ?_
    refine lv_aload_n hx hb dL_law_329 rfl (lv_at hl 1 rfl) ?_
    refine mp_i (cx := [(h0, .inr (0, [.ref kt, .int (nI tl), .ref ka, .int (nI al), .ref kp, .int (nI pn), .ref kks, .ref kds, .ref ksp, .ref kkm, .ref kda])), (a, .inl (g.2.1 2, 1, .inr (.inl f)))]) (wr := [(h1, .inr (8, [.int x0, .int (nI tp), .int (nI rs), .int (nI ks), .ref mt, .ref mr_, .ref mk, .ref mo, .ref mh, .ref mse, .ref mhs, .ref msp, .ref msc, .ref mha])), (mse, .inl (g.2.1 0, 8, .inl fS))]) hP hD hS hA [0, 3] [1, 2] rfl rfl rfl (by decide) (lc_run (As := [.ref h0, .int z21, .int (nI 0), .ref a]) (rest := []) F (lh_load l htr g _ T  pl hO hU  z21 (nI 0) h0 kt ka kp kks kds ksp kkm kda tl al pn k_kt k_ka k_kp k_kks k_kds k_ksp k_kkm k_kda a f (by omega)) (lc_cw 4 hts (wg_app (wg_c kw_764 (wg_c kw_765 (wg_c kw_0 wg_n))) kw_766) rfl rfl rfl (by decide +kernel) ⟨by decide, by decide⟩) (pp_S (ex_ok g) hP hD hS hA hX [0, 3] rfl rfl) rfl rfl hl.1 rfl (lv_room (Nat.le_of_ble_eq_true rfl)) dL_law_330 ⟨by omega, by omega⟩) (fun r21 u21 H locs hu21 hP hD hS => ?_)
    obtain ⟨u22, pl⟩ := u21
    obtain ⟨hq21, hO⟩ := hu21
    obtain ⟨T, tl21, al21, pn21, fo21⟩ := u22
    have hP : va_P g.1 vcl ([(h1, .inr (8, [.int x0, .int (nI tp), .int (nI rs), .int (nI ks), .ref mt, .ref mr_, .ref mk, .ref mo, .ref mh, .ref mse, .ref mhs, .ref msp, .ref msc, .ref mha])), (mse, .inl (g.2.1 0, 8, .inl fS)), (h0, .inr (0, [.ref kt, .int (nI tl21), .ref ka, .int (nI al21), .ref kp, .int (nI pn21), .ref kks, .ref kds, .ref ksp, .ref kkm, .ref kda])), (a, .inl (g.2.1 2, 1, .inr (.inl fo21)))] ++ pl) _ := hP
    have hD : va_D _ ([(h1, .inr (8, [.int x0, .int (nI tp), .int (nI rs), .int (nI ks), .ref mt, .ref mr_, .ref mk, .ref mo, .ref mh, .ref mse, .ref mhs, .ref msp, .ref msc, .ref mha])), (mse, .inl (g.2.1 0, 8, .inl fS)), (h0, .inr (0, [.ref kt, .int (nI tl21), .ref ka, .int (nI al21), .ref kp, .int (nI pn21), .ref kks, .ref kds, .ref ksp, .ref kkm, .ref kda])), (a, .inl (g.2.1 2, 1, .inr (.inl fo21)))] ++ pl) := hD
    obtain ⟨⟨hm21, hm22, hm23, hxt21, hU⟩, hpo21⟩ := hq21
    have hm21 : tl21 ≤ 16384 := hm21
    have hm22 : al21 ≤ 8192 := hm22
    have hm23 : pn21 ≤ 8 := hm23
    have hxt21 : ext _ T := hxt21
    have hU : uni T := hU
    have hO : okx g T [] pl := hO
    have k_kt := hxt21 _ _ k_kt
    have k_ka := hxt21 _ _ k_ka
    have k_kp := hxt21 _ _ k_kp
    have k_kks := hxt21 _ _ k_kks
    have k_kds := hxt21 _ _ k_kds
    have k_ksp := hxt21 _ _ k_ksp
    have k_kkm := hxt21 _ _ k_kkm
    have k_kda := hxt21 _ _ k_kda
    have k_mt := hxt21 _ _ k_mt
    have k_mr_ := hxt21 _ _ k_mr_
    have k_mk := hxt21 _ _ k_mk
    have k_mo := hxt21 _ _ k_mo
    have k_mh := hxt21 _ _ k_mh
    have k_mhs := hxt21 _ _ k_mhs
    have k_msp := hxt21 _ _ k_msp
    have k_msc := hxt21 _ _ k_msc
    have k_mha := hxt21 _ _ k_mha
    refine W.widen (k := (380 + 3 * n0 + 3)) (n := (194479 + 7491 * n0 + 7491)) (by omega) (by omega) ?_
    refine lv_istore (lv' := [(5, .int r21), (4, .int (nI i)), (3, .ref a), (2, .ref h1), (1, .ref h0), (0, .ref b)]) hx hb dL_law_333 hl (by decide) rfl (fun ls hl => ?_)
    refine lv_aload_n hx hb dL_law_335 rfl (lv_at hl 3 rfl) ?_
    refine lv_aload_n hx hb dL_law_336 rfl (lv_at hl 5 rfl) ?_
    refine lv_iload hx hb dL_law_337 (lv_at hl 1 rfl) ?_
    refine lv_iconst (v := nI 1) hx hb dL_law_339 (by decide) ?_
    refine mi_iadd hx hb dL_law_340 ?_
    refine va_sld hx hb hXs hbl hbA hS (vp_in_nI (N := L) (by omega) (by omega)) dL_law_341 ?_
    refine mi_any (fun z23 => ?_)
    refine lv_aload_n hx hb dL_law_342 rfl (lv_at hl 5 rfl) ?_
    refine lv_iload hx hb dL_law_343 (lv_at hl 1 rfl) ?_
    refine lv_iconst (v := nI 2) hx hb dL_law_345 (by decide) ?_
    refine mi_iadd hx hb dL_law_346 ?_
    refine va_sld hx hb hXs hbl hbA hS (vp_in_nI (N := L) (by omega) (by omega)) dL_law_347 ?_
    refine mi_any (fun z24 => ?_)
    refine lv_if_eq (tgt := 355) hx hb dL_law_348 (by decide) (fun h22 => ?_) (fun h22 => ?_)
    · refine lv_iconst (v := nI 0) hx hb dL_law_355 (by decide) ?_
      refine mp_i (cx := [(h1, .inr (8, [.int x0, .int (nI tp), .int (nI rs), .int (nI ks), .ref mt, .ref mr_, .ref mk, .ref mo, .ref mh, .ref mse, .ref mhs, .ref msp, .ref msc, .ref mha])), (mse, .inl (g.2.1 0, 8, .inl fS))]) (wr := [(h0, .inr (0, [.ref kt, .int (nI tl21), .ref ka, .int (nI al21), .ref kp, .int (nI pn21), .ref kks, .ref kds, .ref ksp, .ref kkm, .ref kda])), (a, .inl (g.2.1 2, 1, .inr (.inl fo21)))]) hP hD hS hA [0, 1] [2, 3] rfl rfl rfl (by decide) (va_runV (As := [.int z23, .int (nI 0)]) (rest := []) F (t_M_load l g _ T  pl hO hU  z23 (nI 0) h1 mt mr_ mk mo mh mse mhs msp msc mha tp rs ks x0 fS k_mt k_mr_ k_mk k_mo k_mh k_mhs k_msp k_msc k_mha (by omega) hS5) (cwV 2 hts (wg_app (wg_c kw_1760 (wg_c kw_1761 (wg_c kw_1762 (wg_c kw_9 wg_n)))) kw_1763) rfl rfl rfl (by decide +kernel) ⟨by decide, by decide⟩) (pp_V (en_ok g) (q0 := 0) hK hP hD hS hA hE [0, 1] rfl rfl rfl rfl) rfl rfl hl.1 rfl (lv_room (Nat.le_of_ble_eq_true rfl)) dL_law_356 ⟨by omega, by omega⟩) (fun r22 u23 H locs hu22 hP hD hS => ?_)
      obtain ⟨u24, pl⟩ := u23
      obtain ⟨hq22, hO⟩ := hu22
      obtain ⟨th21, tp21, rs21, ks21, fS21⟩ := u24
      have hP : va_P g.1 vcl ([(h0, .inr (0, [.ref kt, .int (nI tl21), .ref ka, .int (nI al21), .ref kp, .int (nI pn21), .ref kks, .ref kds, .ref ksp, .ref kkm, .ref kda])), (a, .inl (g.2.1 2, 1, .inr (.inl fo21))), (h1, .inr (8, [.int th21, .int (nI tp21), .int (nI rs21), .int (nI ks21), .ref mt, .ref mr_, .ref mk, .ref mo, .ref mh, .ref mse, .ref mhs, .ref msp, .ref msc, .ref mha])), (mse, .inl (g.2.1 0, 8, .inl fS21))] ++ pl) _ := hP
      have hD : va_D _ ([(h0, .inr (0, [.ref kt, .int (nI tl21), .ref ka, .int (nI al21), .ref kp, .int (nI pn21), .ref kks, .ref kds, .ref ksp, .ref kkm, .ref kda])), (a, .inl (g.2.1 2, 1, .inr (.inl fo21))), (h1, .inr (8, [.int th21, .int (nI tp21), .int (nI rs21), .int (nI ks21), .ref mt, .ref mr_, .ref mk, .ref mo, .ref mh, .ref mse, .ref mhs, .ref msp, .ref msc, .ref mha])), (mse, .inl (g.2.1 0, 8, .inl fS21))] ++ pl) := hD
      obtain ⟨hm24, hm25, hm26, hm27⟩ := hq22
      have hm24 : tp21 ≤ 16384 := hm24
      have hm25 : rs21 ≤ 8192 := hm25
      have hm26 : ks21 ≤ 8 := hm26
      refine W.widen (k := (380 + 3 * n0 + 3)) (n := (194479 + 7491 * n0 + 7491)) (by omega) (by omega) ?_
      refine lv_istore (lv' := [(6, .int r22), (5, .int r21), (4, .int (nI i)), (3, .ref a), (2, .ref h1), (1, .ref h0), (0, .ref b)]) hx hb dL_law_359 hl (by decide) rfl (fun ls hl => ?_)
      refine lv_goto (tgt := 785) hx hb dL_law_361 (by decide) ?_
      have hP : va_P g.1 vcl ([(h0, .inr (0, [.ref kt, .int (nI tl21), .ref ka, .int (nI al21), .ref kp, .int (nI pn21), .ref kks, .ref kds, .ref ksp, .ref kkm, .ref kda])), (h1, .inr (8, [.int th21, .int (nI tp21), .int (nI rs21), .int (nI ks21), .ref mt, .ref mr_, .ref mk, .ref mo, .ref mh, .ref mse, .ref mhs, .ref msp, .ref msc, .ref mha])), (mse, .inl (g.2.1 0, 8, .inl fS21)), (a, .inl (g.2.1 2, 1, .inr (.inl fo21)))] ++ pl) _ := hP.part [0, 2, 3, 1] rfl
      have hD : va_D _ ([(h0, .inr (0, [.ref kt, .int (nI tl21), .ref ka, .int (nI al21), .ref kp, .int (nI pn21), .ref kks, .ref kds, .ref ksp, .ref kkm, .ref kda])), (h1, .inr (8, [.int th21, .int (nI tp21), .int (nI rs21), .int (nI ks21), .ref mt, .ref mr_, .ref mk, .ref mo, .ref mh, .ref mse, .ref mhs, .ref msp, .ref msc, .ref mha])), (mse, .inl (g.2.1 0, 8, .inl fS21)), (a, .inl (g.2.1 2, 1, .inr (.inl fo21)))] ++ pl) := hD.part [0, 2, 3, 1] (by decide) rfl
      exact W.widen (k := 380 + 3 * n0 + 3) (n := 194479 + 7491 * n0 + 7491) (by omega) (by omega) (next _ _ _ ⟨T, pl, h0, kt, ka, kp, kks, kds, ksp, kkm, kda, tl21, al21, pn21, h1, mt, mr_, mk, mo, mh, mse, mhs, msp, msc, mha, tp21, rs21, ks21, th21, fS21, a, fo21, hO, hU, ⟨by omega, by omega, by omega⟩, ⟨by omega, by omega, by omega⟩, hm27, k_kt, k_ka, k_kp, k_kks, k_kds, k_ksp, k_kkm, k_kda, k_mt, k_mr_, k_mk, k_mo, k_mh, k_mhs, k_msp, k_msc, k_mha, hP, hD, hS, lv_sub hl [2, 3, 4, 5, 6] rfl⟩)
    · refine lv_iconst (v := nI 1) hx hb dL_law_351 (by decide) ?_
      refine lv_goto (tgt := 356) hx hb dL_law_352 (by decide) ?_
      refine mp_i (cx := [(h1, .inr (8, [.int x0, .int (nI tp), .int (nI rs), .int (nI ks), .ref mt, .ref mr_, .ref mk, .ref mo, .ref mh, .ref mse, .ref mhs, .ref msp, .ref msc, .ref mha])), (mse, .inl (g.2.1 0, 8, .inl fS))]) (wr := [(h0, .inr (0, [.ref kt, .int (nI tl21), .ref ka, .int (nI al21), .ref kp, .int (nI pn21), .ref kks, .ref kds, .ref ksp, .ref kkm, .ref kda])), (a, .inl (g.2.1 2, 1, .inr (.inl fo21)))]) hP hD hS hA [0, 1] [2, 3] rfl rfl rfl (by decide) (va_runV (As := [.int z23, .int (nI 1)]) (rest := []) F (t_M_load l g _ T  pl hO hU  z23 (nI 1) h1 mt mr_ mk mo mh mse mhs msp msc mha tp rs ks x0 fS k_mt k_mr_ k_mk k_mo k_mh k_mhs k_msp k_msc k_mha (by omega) hS5) (cwV 2 hts (wg_app (wg_c kw_1760 (wg_c kw_1761 (wg_c kw_1762 (wg_c kw_9 wg_n)))) kw_1763) rfl rfl rfl (by decide +kernel) ⟨by decide, by decide⟩) (pp_V (en_ok g) (q0 := 0) hK hP hD hS hA hE [0, 1] rfl rfl rfl rfl) rfl rfl hl.1 rfl (lv_room (Nat.le_of_ble_eq_true rfl)) dL_law_356 ⟨by omega, by omega⟩) (fun r23 u25 H locs hu23 hP hD hS => ?_)
      obtain ⟨u26, pl⟩ := u25
      obtain ⟨hq23, hO⟩ := hu23
      obtain ⟨th22, tp22, rs22, ks22, fS22⟩ := u26
      have hP : va_P g.1 vcl ([(h0, .inr (0, [.ref kt, .int (nI tl21), .ref ka, .int (nI al21), .ref kp, .int (nI pn21), .ref kks, .ref kds, .ref ksp, .ref kkm, .ref kda])), (a, .inl (g.2.1 2, 1, .inr (.inl fo21))), (h1, .inr (8, [.int th22, .int (nI tp22), .int (nI rs22), .int (nI ks22), .ref mt, .ref mr_, .ref mk, .ref mo, .ref mh, .ref mse, .ref mhs, .ref msp, .ref msc, .ref mha])), (mse, .inl (g.2.1 0, 8, .inl fS22))] ++ pl) _ := hP
      have hD : va_D _ ([(h0, .inr (0, [.ref kt, .int (nI tl21), .ref ka, .int (nI al21), .ref kp, .int (nI pn21), .ref kks, .ref kds, .ref ksp, .ref kkm, .ref kda])), (a, .inl (g.2.1 2, 1, .inr (.inl fo21))), (h1, .inr (8, [.int th22, .int (nI tp22), .int (nI rs22), .int (nI ks22), .ref mt, .ref mr_, .ref mk, .ref mo, .ref mh, .ref mse, .ref mhs, .ref msp, .ref msc, .ref mha])), (mse, .inl (g.2.1 0, 8, .inl fS22))] ++ pl) := hD
      obtain ⟨hm29, hm30, hm31, hm32⟩ := hq23
      have hm29 : tp22 ≤ 16384 := hm29
      have hm30 : rs22 ≤ 8192 := hm30
      have hm31 : ks22 ≤ 8 := hm31
      refine W.widen (k := (380 + 3 * n0 + 3)) (n := (194479 + 7491 * n0 + 7491)) (by omega) (by omega) ?_
      refine lv_istore (lv' := [(6, .int r23), (5, .int r21), (4, .int (nI i)), (3, .ref a), (2, .ref h1), (1, .ref h0), (0, .ref b)]) hx hb dL_law_359 hl (by decide) rfl (fun ls hl => ?_)
      refine lv_goto (tgt := 785) hx hb dL_law_361 (by decide) ?_
      have hP : va_P g.1 vcl ([(h0, .inr (0, [.ref kt, .int (nI tl21), .ref ka, .int (nI al21), .ref kp, .int (nI pn21), .ref kks, .ref kds, .ref ksp, .ref kkm, .ref kda])), (h1, .inr (8, [.int th22, .int (nI tp22), .int (nI rs22), .int (nI ks22), .ref mt, .ref mr_, .ref mk, .ref mo, .ref mh, .ref mse, .ref mhs, .ref msp, .ref msc, .ref mha])), (mse, .inl (g.2.1 0, 8, .inl fS22)), (a, .inl (g.2.1 2, 1, .inr (.inl fo21)))] ++ pl) _ := hP.part [0, 2, 3, 1] rfl
      have hD : va_D _ ([(h0, .inr (0, [.ref kt, .int (nI tl21), .ref ka, .int (nI al21), .ref kp, .int (nI pn21), .ref kks, .ref kds, .ref ksp, .ref kkm, .ref kda])), (h1, .inr (8, [.int th22, .int (nI tp22), .int (nI rs22), .int (nI ks22), .ref mt, .ref mr_, .ref mk, .ref mo, .ref mh, .ref mse, .ref mhs, .ref msp, .ref msc, .ref mha])), (mse, .inl (g.2.1 0, 8, .inl fS22)), (a, .inl (g.2.1 2, 1, .inr (.inl fo21)))] ++ pl) := hD.part [0, 2, 3, 1] (by decide) rfl
      exact W.widen (k := 380 + 3 * n0 + 3) (n := 194479 + 7491 * n0 + 7491) (by omega) (by omega) (next _ _ _ ⟨T, pl, h0, kt, ka, kp, kks, kds, ksp, kkm, kda, tl21, al21, pn21, h1, mt, mr_, mk, mo, mh, mse, mhs, msp, msc, mha, tp22, rs22, ks22, th22, fS22, a, fo21, hO, hU, ⟨by omega, by omega, by omega⟩, ⟨by omega, by omega, by omega⟩, hm32, k_kt, k_ka, k_kp, k_kks, k_kds, k_ksp, k_kkm, k_kda, k_mt, k_mr_, k_mk, k_mo, k_mh, k_mhs, k_msp, k_msc, k_mha, hP, hD, hS, lv_sub hl [2, 3, 4, 5, 6] rfl⟩)
  · refine lv_iconst (v := nI 1) hx hb dL_law_324 (by decide) ?_
    refine lv_goto (tgt := 329) hx hb dL_law_325 (by decide) ?_
    refine lv_aload_n hx hb dL_law_329 rfl (lv_at hl 1 rfl) ?_
    refine mp_i (cx := [(h0, .inr (0, [.ref kt, .int (nI tl), .ref ka, .int (nI al), .ref kp, .int (nI pn), .ref kks, .ref kds, .ref ksp, .ref kkm, .ref kda])), (a, .inl (g.2.1 2, 1, .inr (.inl f)))]) (wr := [(h1, .inr (8, [.int x0, .int (nI tp), .int (nI rs), .int (nI ks), .ref mt, .ref mr_, .ref mk, .ref mo, .ref mh, .ref mse, .ref mhs, .ref msp, .ref msc, .ref mha])), (mse, .inl (g.2.1 0, 8, .inl fS))]) hP hD hS hA [0, 3] [1, 2] rfl rfl rfl (by decide) (lc_run (As := [.ref h0, .int z21, .int (nI 1), .ref a]) (rest := []) F (lh_load l htr g _ T  pl hO hU  z21 (nI 1) h0 kt ka kp kks kds ksp kkm kda tl al pn k_kt k_ka k_kp k_kks k_kds k_ksp k_kkm k_kda a f (by omega)) (lc_cw 4 hts (wg_app (wg_c kw_764 (wg_c kw_765 (wg_c kw_0 wg_n))) kw_766) rfl rfl rfl (by decide +kernel) ⟨by decide, by decide⟩) (pp_S (ex_ok g) hP hD hS hA hX [0, 3] rfl rfl) rfl rfl hl.1 rfl (lv_room (Nat.le_of_ble_eq_true rfl)) dL_law_330 ⟨by omega, by omega⟩) (fun r24 u27 H locs hu24 hP hD hS => ?_)
    obtain ⟨u28, pl⟩ := u27
    obtain ⟨hq24, hO⟩ := hu24
    obtain ⟨T, tl22, al22, pn22, fo22⟩ := u28
    have hP : va_P g.1 vcl ([(h1, .inr (8, [.int x0, .int (nI tp), .int (nI rs), .int (nI ks), .ref mt, .ref mr_, .ref mk, .ref mo, .ref mh, .ref mse, .ref mhs, .ref msp, .ref msc, .ref mha])), (mse, .inl (g.2.1 0, 8, .inl fS)), (h0, .inr (0, [.ref kt, .int (nI tl22), .ref ka, .int (nI al22), .ref kp, .int (nI pn22), .ref kks, .ref kds, .ref ksp, .ref kkm, .ref kda])), (a, .inl (g.2.1 2, 1, .inr (.inl fo22)))] ++ pl) _ := hP
    have hD : va_D _ ([(h1, .inr (8, [.int x0, .int (nI tp), .int (nI rs), .int (nI ks), .ref mt, .ref mr_, .ref mk, .ref mo, .ref mh, .ref mse, .ref mhs, .ref msp, .ref msc, .ref mha])), (mse, .inl (g.2.1 0, 8, .inl fS)), (h0, .inr (0, [.ref kt, .int (nI tl22), .ref ka, .int (nI al22), .ref kp, .int (nI pn22), .ref kks, .ref kds, .ref ksp, .ref kkm, .ref kda])), (a, .inl (g.2.1 2, 1, .inr (.inl fo22)))] ++ pl) := hD
    obtain ⟨⟨hm34, hm35, hm36, hxt22, hU⟩, hpo22⟩ := hq24
    have hm34 : tl22 ≤ 16384 := hm34
    have hm35 : al22 ≤ 8192 := hm35
    have hm36 : pn22 ≤ 8 := hm36
    have hxt22 : ext _ T := hxt22
    have hU : uni T := hU
    have hO : okx g T [] pl := hO
    have k_kt := hxt22 _ _ k_kt
    have k_ka := hxt22 _ _ k_ka
    have k_kp := hxt22 _ _ k_kp
    have k_kks := hxt22 _ _ k_kks
    have k_kds := hxt22 _ _ k_kds
    have k_ksp := hxt22 _ _ k_ksp
    have k_kkm := hxt22 _ _ k_kkm
    have k_kda := hxt22 _ _ k_kda
    have k_mt := hxt22 _ _ k_mt
    have k_mr_ := hxt22 _ _ k_mr_
    have k_mk := hxt22 _ _ k_mk
    have k_mo := hxt22 _ _ k_mo
    have k_mh := hxt22 _ _ k_mh
    have k_mhs := hxt22 _ _ k_mhs
    have k_msp := hxt22 _ _ k_msp
    have k_msc := hxt22 _ _ k_msc
    have k_mha := hxt22 _ _ k_mha
    refine W.widen (k := (380 + 3 * n0 + 3)) (n := (194479 + 7491 * n0 + 7491)) (by omega) (by omega) ?_
    refine lv_istore (lv' := [(5, .int r24), (4, .int (nI i)), (3, .ref a), (2, .ref h1), (1, .ref h0), (0, .ref b)]) hx hb dL_law_333 hl (by decide) rfl (fun ls hl => ?_)
    refine lv_aload_n hx hb dL_law_335 rfl (lv_at hl 3 rfl) ?_
    refine lv_aload_n hx hb dL_law_336 rfl (lv_at hl 5 rfl) ?_
    refine lv_iload hx hb dL_law_337 (lv_at hl 1 rfl) ?_
    refine lv_iconst (v := nI 1) hx hb dL_law_339 (by decide) ?_
    refine mi_iadd hx hb dL_law_340 ?_
    refine va_sld hx hb hXs hbl hbA hS (vp_in_nI (N := L) (by omega) (by omega)) dL_law_341 ?_
    refine mi_any (fun z25 => ?_)
    refine lv_aload_n hx hb dL_law_342 rfl (lv_at hl 5 rfl) ?_
    refine lv_iload hx hb dL_law_343 (lv_at hl 1 rfl) ?_
    refine lv_iconst (v := nI 2) hx hb dL_law_345 (by decide) ?_
    refine mi_iadd hx hb dL_law_346 ?_
    refine va_sld hx hb hXs hbl hbA hS (vp_in_nI (N := L) (by omega) (by omega)) dL_law_347 ?_
    refine mi_any (fun z26 => ?_)
    refine lv_if_eq (tgt := 355) hx hb dL_law_348 (by decide) (fun h23 => ?_) (fun h23 => ?_)
    · refine lv_iconst (v := nI 0) hx hb dL_law_355 (by decide) ?_
      refine mp_i (cx := [(h1, .inr (8, [.int x0, .int (nI tp), .int (nI rs), .int (nI ks), .ref mt, .ref mr_, .ref mk, .ref mo, .ref mh, .ref mse, .ref mhs, .ref msp, .ref msc, .ref mha])), (mse, .inl (g.2.1 0, 8, .inl fS))]) (wr := [(h0, .inr (0, [.ref kt, .int (nI tl22), .ref ka, .int (nI al22), .ref kp, .int (nI pn22), .ref kks, .ref kds, .ref ksp, .ref kkm, .ref kda])), (a, .inl (g.2.1 2, 1, .inr (.inl fo22)))]) hP hD hS hA [0, 1] [2, 3] rfl rfl rfl (by decide) (va_runV (As := [.int z25, .int (nI 0)]) (rest := []) F (t_M_load l g _ T  pl hO hU  z25 (nI 0) h1 mt mr_ mk mo mh mse mhs msp msc mha tp rs ks x0 fS k_mt k_mr_ k_mk k_mo k_mh k_mhs k_msp k_msc k_mha (by omega) hS5) (cwV 2 hts (wg_app (wg_c kw_1760 (wg_c kw_1761 (wg_c kw_1762 (wg_c kw_9 wg_n)))) kw_1763) rfl rfl rfl (by decide +kernel) ⟨by decide, by decide⟩) (pp_V (en_ok g) (q0 := 0) hK hP hD hS hA hE [0, 1] rfl rfl rfl rfl) rfl rfl hl.1 rfl (lv_room (Nat.le_of_ble_eq_true rfl)) dL_law_356 ⟨by omega, by omega⟩) (fun r25 u29 H locs hu25 hP hD hS => ?_)
      obtain ⟨u30, pl⟩ := u29
      obtain ⟨hq25, hO⟩ := hu25
      obtain ⟨th23, tp23, rs23, ks23, fS23⟩ := u30
      have hP : va_P g.1 vcl ([(h0, .inr (0, [.ref kt, .int (nI tl22), .ref ka, .int (nI al22), .ref kp, .int (nI pn22), .ref kks, .ref kds, .ref ksp, .ref kkm, .ref kda])), (a, .inl (g.2.1 2, 1, .inr (.inl fo22))), (h1, .inr (8, [.int th23, .int (nI tp23), .int (nI rs23), .int (nI ks23), .ref mt, .ref mr_, .ref mk, .ref mo, .ref mh, .ref mse, .ref mhs, .ref msp, .ref msc, .ref mha])), (mse, .inl (g.2.1 0, 8, .inl fS23))] ++ pl) _ := hP
      have hD : va_D _ ([(h0, .inr (0, [.ref kt, .int (nI tl22), .ref ka, .int (nI al22), .ref kp, .int (nI pn22), .ref kks, .ref kds, .ref ksp, .ref kkm, .ref kda])), (a, .inl (g.2.1 2, 1, .inr (.inl fo22))), (h1, .inr (8, [.int th23, .int (nI tp23), .int (nI rs23), .int (nI ks23), .ref mt, .ref mr_, .ref mk, .ref mo, .ref mh, .ref mse, .ref mhs, .ref msp, .ref msc, .ref mha])), (mse, .inl (g.2.1 0, 8, .inl fS23))] ++ pl) := hD
      obtain ⟨hm37, hm38, hm39, hm40⟩ := hq25
      have hm37 : tp23 ≤ 16384 := hm37
      have hm38 : rs23 ≤ 8192 := hm38
      have hm39 : ks23 ≤ 8 := hm39
      refine W.widen (k := (380 + 3 * n0 + 3)) (n := (194479 + 7491 * n0 + 7491)) (by omega) (by omega) ?_
      refine lv_istore (lv' := [(6, .int r25), (5, .int r24), (4, .int (nI i)), (3, .ref a), (2, .ref h1), (1, .ref h0), (0, .ref b)]) hx hb dL_law_359 hl (by decide) rfl (fun ls hl => ?_)
      refine lv_goto (tgt := 785) hx hb dL_law_361 (by decide) ?_
      have hP : va_P g.1 vcl ([(h0, .inr (0, [.ref kt, .int (nI tl22), .ref ka, .int (nI al22), .ref kp, .int (nI pn22), .ref kks, .ref kds, .ref ksp, .ref kkm, .ref kda])), (h1, .inr (8, [.int th23, .int (nI tp23), .int (nI rs23), .int (nI ks23), .ref mt, .ref mr_, .ref mk, .ref mo, .ref mh, .ref mse, .ref mhs, .ref msp, .ref msc, .ref mha])), (mse, .inl (g.2.1 0, 8, .inl fS23)), (a, .inl (g.2.1 2, 1, .inr (.inl fo22)))] ++ pl) _ := hP.part [0, 2, 3, 1] rfl
      have hD : va_D _ ([(h0, .inr (0, [.ref kt, .int (nI tl22), .ref ka, .int (nI al22), .ref kp, .int (nI pn22), .ref kks, .ref kds, .ref ksp, .ref kkm, .ref kda])), (h1, .inr (8, [.int th23, .int (nI tp23), .int (nI rs23), .int (nI ks23), .ref mt, .ref mr_, .ref mk, .ref mo, .ref mh, .ref mse, .ref mhs, .ref msp, .ref msc, .ref mha])), (mse, .inl (g.2.1 0, 8, .inl fS23)), (a, .inl (g.2.1 2, 1, .inr (.inl fo22)))] ++ pl) := hD.part [0, 2, 3, 1] (by decide) rfl
      exact W.widen (k := 380 + 3 * n0 + 3) (n := 194479 + 7491 * n0 + 7491) (by omega) (by omega) (next _ _ _ ⟨T, pl, h0, kt, ka, kp, kks, kds, ksp, kkm, kda, tl22, al22, pn22, h1, mt, mr_, mk, mo, mh, mse, mhs, msp, msc, mha, tp23, rs23, ks23, th23, fS23, a, fo22, hO, hU, ⟨by omega, by omega, by omega⟩, ⟨by omega, by omega, by omega⟩, hm40, k_kt, k_ka, k_kp, k_kks, k_kds, k_ksp, k_kkm, k_kda, k_mt, k_mr_, k_mk, k_mo, k_mh, k_mhs, k_msp, k_msc, k_mha, hP, hD, hS, lv_sub hl [2, 3, 4, 5, 6] rfl⟩)
    · refine lv_iconst (v := nI 1) hx hb dL_law_351 (by decide) ?_
      refine lv_goto (tgt := 356) hx hb dL_law_352 (by decide) ?_
      refine mp_i (cx := [(h1, .inr (8, [.int x0, .int (nI tp), .int (nI rs), .int (nI ks), .ref mt, .ref mr_, .ref mk, .ref mo, .ref mh, .ref mse, .ref mhs, .ref msp, .ref msc, .ref mha])), (mse, .inl (g.2.1 0, 8, .inl fS))]) (wr := [(h0, .inr (0, [.ref kt, .int (nI tl22), .ref ka, .int (nI al22), .ref kp, .int (nI pn22), .ref kks, .ref kds, .ref ksp, .ref kkm, .ref kda])), (a, .inl (g.2.1 2, 1, .inr (.inl fo22)))]) hP hD hS hA [0, 1] [2, 3] rfl rfl rfl (by decide) (va_runV (As := [.int z25, .int (nI 1)]) (rest := []) F (t_M_load l g _ T  pl hO hU  z25 (nI 1) h1 mt mr_ mk mo mh mse mhs msp msc mha tp rs ks x0 fS k_mt k_mr_ k_mk k_mo k_mh k_mhs k_msp k_msc k_mha (by omega) hS5) (cwV 2 hts (wg_app (wg_c kw_1760 (wg_c kw_1761 (wg_c kw_1762 (wg_c kw_9 wg_n)))) kw_1763) rfl rfl rfl (by decide +kernel) ⟨by decide, by decide⟩) (pp_V (en_ok g) (q0 := 0) hK hP hD hS hA hE [0, 1] rfl rfl rfl rfl) rfl rfl hl.1 rfl (lv_room (Nat.le_of_ble_eq_true rfl)) dL_law_356 ⟨by omega, by omega⟩) (fun r26 u31 H locs hu26 hP hD hS => ?_)
      obtain ⟨u32, pl⟩ := u31
      obtain ⟨hq26, hO⟩ := hu26
      obtain ⟨th24, tp24, rs24, ks24, fS24⟩ := u32
      have hP : va_P g.1 vcl ([(h0, .inr (0, [.ref kt, .int (nI tl22), .ref ka, .int (nI al22), .ref kp, .int (nI pn22), .ref kks, .ref kds, .ref ksp, .ref kkm, .ref kda])), (a, .inl (g.2.1 2, 1, .inr (.inl fo22))), (h1, .inr (8, [.int th24, .int (nI tp24), .int (nI rs24), .int (nI ks24), .ref mt, .ref mr_, .ref mk, .ref mo, .ref mh, .ref mse, .ref mhs, .ref msp, .ref msc, .ref mha])), (mse, .inl (g.2.1 0, 8, .inl fS24))] ++ pl) _ := hP
      have hD : va_D _ ([(h0, .inr (0, [.ref kt, .int (nI tl22), .ref ka, .int (nI al22), .ref kp, .int (nI pn22), .ref kks, .ref kds, .ref ksp, .ref kkm, .ref kda])), (a, .inl (g.2.1 2, 1, .inr (.inl fo22))), (h1, .inr (8, [.int th24, .int (nI tp24), .int (nI rs24), .int (nI ks24), .ref mt, .ref mr_, .ref mk, .ref mo, .ref mh, .ref mse, .ref mhs, .ref msp, .ref msc, .ref mha])), (mse, .inl (g.2.1 0, 8, .inl fS24))] ++ pl) := hD
      obtain ⟨hm42, hm43, hm44, hm45⟩ := hq26
      have hm42 : tp24 ≤ 16384 := hm42
      have hm43 : rs24 ≤ 8192 := hm43
      have hm44 : ks24 ≤ 8 := hm44
      refine W.widen (k := (380 + 3 * n0 + 3)) (n := (194479 + 7491 * n0 + 7491)) (by omega) (by omega) ?_
      refine lv_istore (lv' := [(6, .int r26), (5, .int r24), (4, .int (nI i)), (3, .ref a), (2, .ref h1), (1, .ref h0), (0, .ref b)]) hx hb dL_law_359 hl (by decide) rfl (fun ls hl => ?_)
      refine lv_goto (tgt := 785) hx hb dL_law_361 (by decide) ?_
      have hP : va_P g.1 vcl ([(h0, .inr (0, [.ref kt, .int (nI tl22), .ref ka, .int (nI al22), .ref kp, .int (nI pn22), .ref kks, .ref kds, .ref ksp, .ref kkm, .ref kda])), (h1, .inr (8, [.int th24, .int (nI tp24), .int (nI rs24), .int (nI ks24), .ref mt, .ref mr_, .ref mk, .ref mo, .ref mh, .ref mse, .ref mhs, .ref msp, .ref msc, .ref mha])), (mse, .inl (g.2.1 0, 8, .inl fS24)), (a, .inl (g.2.1 2, 1, .inr (.inl fo22)))] ++ pl) _ := hP.part [0, 2, 3, 1] rfl
      have hD : va_D _ ([(h0, .inr (0, [.ref kt, .int (nI tl22), .ref ka, .int (nI al22), .ref kp, .int (nI pn22), .ref kks, .ref kds, .ref ksp, .ref kkm, .ref kda])), (h1, .inr (8, [.int th24, .int (nI tp24), .int (nI rs24), .int (nI ks24), .ref mt, .ref mr_, .ref mk, .ref mo, .ref mh, .ref mse, .ref mhs, .ref msp, .ref msc, .ref mha])), (mse, .inl (g.2.1 0, 8, .inl fS24)), (a, .inl (g.2.1 2, 1, .inr (.inl fo22)))] ++ pl) := hD.part [0, 2, 3, 1] (by decide) rfl
      exact W.widen (k := 380 + 3 * n0 + 3) (n := 194479 + 7491 * n0 + 7491) (by omega) (by omega) (next _ _ _ ⟨T, pl, h0, kt, ka, kp, kks, kds, ksp, kkm, kda, tl22, al22, pn22, h1, mt, mr_, mk, mo, mh, mse, mhs, msp, msc, mha, tp24, rs24, ks24, th24, fS24, a, fo22, hO, hU, ⟨by omega, by omega, by omega⟩, ⟨by omega, by omega, by omega⟩, hm45, k_kt, k_ka, k_kp, k_kks, k_kds, k_ksp, k_kkm, k_kda, k_mt, k_mr_, k_mk, k_mo, k_mh, k_mhs, k_msp, k_msc, k_mha, hP, hD, hS, lv_sub hl [2, 3, 4, 5, 6] rfl⟩)
set_option maxHeartbeats 4000000 in
set_option maxRecDepth 100000 in
theorem law_part {p : Program} {e : Env} {s : State} {m : MethodId} {below : List Frame} {meth : Method} {c : Code} (l : Launch) (htr : l.stackTraces = false) {b L : Nat} {xs : Nat → Int32} (hL : L ≤ 3072) (C0 : lw_At p s m meth c b L xs) (g : Gd) (F : CallFix p m c c_L_law 7 s #[Value.ref b] wL "LatticeKeysLaw") (hX : ex g (Alaw s) s s.heap) {n0 i : Nat} (hn0 : n0 < 512) (hi : i = 6 * n0) (hi6 : i + 6 ≤ L) {H : Heap} {locs : List Loc} {ls : Array Slot} (hI : LI g s b i H locs ls) (next : ∀ (H : Heap) (locs : List Loc) (ls : Array Slot), LI g s b i H locs ls → W p l e room_1 s m #[Value.ref b] below meth c H locs (380 + 3 * n0 + 3) (194479 + 7491 * n0 + 7491) (lw_Z below #[Value.ref b] s) (F0 m 785 ls [])) : W p l e room_1 s m #[Value.ref b] below meth c H locs (380 + 3 * n0) (194479 + 7491 * n0) (lw_Z below #[Value.ref b] s) (F0 m 364 ls []) := by
  obtain ⟨hx, hb, hml, hown, hts⟩ := id F
  have hE := hX.1
  have hK := hE.1
  have hA : ∀ q, s.heap.size ≤ q → Alaw s q := fun _ h => h
  obtain ⟨-, -, hr, -, -, -, hXs, hbl, hlk, -⟩ := id C0
  have hbA : ¬ Alaw s b := fun h => Nat.not_lt.mpr h hbl
  obtain ⟨T, pl, h0, kt, ka, kp, kks, kds, ksp, kkm, kda, tl, al, pn, h1, mt, mr_, mk, mo, mh, mse, mhs, msp, msc, mha, tp, rs, ks, x0, fS, a, f, hO, hU, hkb, hmb, hS5, k_kt, k_ka, k_kp, k_kks, k_kds, k_ksp, k_kkm, k_kda, k_mt, k_mr_, k_mk, k_mo, k_mh, k_mhs, k_msp, k_msc, k_mha, hP, hD, hS, hl⟩ := hI
  have hRc : room_1.cells = 601024 := rfl
  have hRs : room_1.slots = 7293034 := rfl
  refine lv_aload_n hx hb dL_law_364 rfl (lv_at hl 3 rfl) ?_
  refine lv_aload_n hx hb dL_law_365 rfl (lv_at hl 4 rfl) ?_
  refine lv_iload hx hb dL_law_366 (lv_at hl 0 rfl) ?_
  refine lv_iconst (v := nI 1) hx hb dL_law_368 (by decide) ?_
  refine mi_iadd hx hb dL_law_369 ?_
  refine va_sld hx hb hXs hbl hbA hS (vp_in_nI (N := L) (by omega) (by omega)) dL_law_370 ?_
  refine mi_any (fun z21 => ?_)
  refine lv_aload_n hx hb dL_law_371 rfl (lv_at hl 4 rfl) ?_
  refine lv_iload hx hb dL_law_372 (lv_at hl 0 rfl) ?_
  refine lv_iconst (v := nI 2) hx hb dL_law_374 (by decide) ?_
  refine mi_iadd hx hb dL_law_375 ?_
  refine va_sld hx hb hXs hbl hbA hS (vp_in_nI (N := L) (by omega) (by omega)) dL_law_376 ?_
  refine mi_any (fun z22 => ?_)
  refine lv_if_eq (tgt := 384) hx hb dL_law_377 (by decide) (fun h21 => ?_) (fun h21 => ?_)
  · refine lv_iconst (v := nI 0) hx hb dL_law_384 (by decide) ?_
    refine lv_aload_n hx hb dL_law_385 rfl (lv_at hl 4 rfl) ?_
    refine lv_iload hx hb dL_law_386 (lv_at hl 0 rfl) ?_
    refine lv_iconst (v := nI 3) hx hb dL_law_388 (by decide) ?_
    refine mi_iadd hx hb dL_law_389 ?_
    refine va_sld hx hb hXs hbl hbA hS (vp_in_nI (N := L) (by omega) (by omega)) dL_law_390 ?_
    refine mi_any (fun z23 => ?_)
    refine lv_aload_n hx hb dL_law_391 rfl (lv_at hl 1 rfl) ?_
    refine mp_i (cx := [(h0, .inr (0, [.ref kt, .int (nI tl), .ref ka, .int (nI al), .ref kp, .int (nI pn), .ref kks, .ref kds, .ref ksp, .ref kkm, .ref kda])), (a, .inl (g.2.1 2, 1, .inr (.inl f)))]) (wr := [(h1, .inr (8, [.int x0, .int (nI tp), .int (nI rs), .int (nI ks), .ref mt, .ref mr_, .ref mk, .ref mo, .ref mh, .ref mse, .ref mhs, .ref msp, .ref msc, .ref mha])), (mse, .inl (g.2.1 0, 8, .inl fS))]) hP hD hS hA [0, 3] [1, 2] rfl rfl rfl (by decide) (lc_run (As := [.ref h0, .int z21, .int (nI 0), .int z23, .ref a]) (rest := []) F (lh_part l htr g _ T  pl hO hU  z21 (nI 0) z23 h0 kt ka kp kks kds ksp kkm kda tl al pn k_kt k_ka k_kp k_kks k_kds k_ksp k_kkm k_kda a f (by omega)) (lc_cw 5 hts (wg_app (wg_c kw_1048 (wg_c kw_1049 (wg_c kw_0 wg_n))) kw_1050) rfl rfl rfl (by decide +kernel) ⟨by decide, by decide⟩) (pp_S (ex_ok g) hP hD hS hA hX [0, 3] rfl rfl) rfl rfl hl.1 rfl (lv_room (Nat.le_of_ble_eq_true rfl)) dL_law_392 ⟨by omega, by omega⟩) (fun r21 u21 H locs hu21 hP hD hS => ?_)
    obtain ⟨u22, pl⟩ := u21
    obtain ⟨hq21, hO⟩ := hu21
    obtain ⟨T, tl21, al21, pn21, fo21⟩ := u22
    have hP : va_P g.1 vcl ([(h1, .inr (8, [.int x0, .int (nI tp), .int (nI rs), .int (nI ks), .ref mt, .ref mr_, .ref mk, .ref mo, .ref mh, .ref mse, .ref mhs, .ref msp, .ref msc, .ref mha])), (mse, .inl (g.2.1 0, 8, .inl fS)), (h0, .inr (0, [.ref kt, .int (nI tl21), .ref ka, .int (nI al21), .ref kp, .int (nI pn21), .ref kks, .ref kds, .ref ksp, .ref kkm, .ref kda])), (a, .inl (g.2.1 2, 1, .inr (.inl fo21)))] ++ pl) _ := hP
    have hD : va_D _ ([(h1, .inr (8, [.int x0, .int (nI tp), .int (nI rs), .int (nI ks), .ref mt, .ref mr_, .ref mk, .ref mo, .ref mh, .ref mse, .ref mhs, .ref msp, .ref msc, .ref mha])), (mse, .inl (g.2.1 0, 8, .inl fS)), (h0, .inr (0, [.ref kt, .int (nI tl21), .ref ka, .int (nI al21), .ref kp, .int (nI pn21), .ref kks, .ref kds, .ref ksp, .ref kkm, .ref kda])), (a, .inl (g.2.1 2, 1, .inr (.inl fo21)))] ++ pl) := hD
    obtain ⟨⟨hm21, hm22, hm23, hxt21, hU⟩, hpo21⟩ := hq21
    have hm21 : tl21 ≤ 16384 := hm21
    have hm22 : al21 ≤ 8192 := hm22
    have hm23 : pn21 ≤ 8 := hm23
    have hxt21 : ext _ T := hxt21
    have hU : uni T := hU
    have hO : okx g T [] pl := hO
    have k_kt := hxt21 _ _ k_kt
    have k_ka := hxt21 _ _ k_ka
    have k_kp := hxt21 _ _ k_kp
    have k_kks := hxt21 _ _ k_kks
    have k_kds := hxt21 _ _ k_kds
    have k_ksp := hxt21 _ _ k_ksp
    have k_kkm := hxt21 _ _ k_kkm
    have k_kda := hxt21 _ _ k_kda
    have k_mt := hxt21 _ _ k_mt
    have k_mr_ := hxt21 _ _ k_mr_
    have k_mk := hxt21 _ _ k_mk
    have k_mo := hxt21 _ _ k_mo
    have k_mh := hxt21 _ _ k_mh
    have k_mhs := hxt21 _ _ k_mhs
    have k_msp := hxt21 _ _ k_msp
    have k_msc := hxt21 _ _ k_msc
    have k_mha := hxt21 _ _ k_mha
    refine W.widen (k := (380 + 3 * n0 + 1)) (n := (194479 + 7491 * n0 + 6)) (by omega) (by omega) ?_
    refine lv_istore (lv' := [(5, .int r21), (4, .int (nI i)), (3, .ref a), (2, .ref h1), (1, .ref h0), (0, .ref b)]) hx hb dL_law_395 hl (by decide) rfl (fun ls hl => ?_)
    refine lv_aload_n hx hb dL_law_397 rfl (lv_at hl 3 rfl) ?_
    refine lv_aload_n hx hb dL_law_398 rfl (lv_at hl 5 rfl) ?_
    refine lv_iload hx hb dL_law_399 (lv_at hl 1 rfl) ?_
    refine lv_iconst (v := nI 1) hx hb dL_law_401 (by decide) ?_
    refine mi_iadd hx hb dL_law_402 ?_
    refine va_sld hx hb hXs hbl hbA hS (vp_in_nI (N := L) (by omega) (by omega)) dL_law_403 ?_
    refine mi_any (fun z24 => ?_)
    refine lv_aload_n hx hb dL_law_404 rfl (lv_at hl 5 rfl) ?_
    refine lv_iload hx hb dL_law_405 (lv_at hl 1 rfl) ?_
    refine lv_iconst (v := nI 2) hx hb dL_law_407 (by decide) ?_
    refine mi_iadd hx hb dL_law_408 ?_
    refine va_sld hx hb hXs hbl hbA hS (vp_in_nI (N := L) (by omega) (by omega)) dL_law_409 ?_
    refine mi_any (fun z25 => ?_)
    refine lv_if_eq (tgt := 417) hx hb dL_law_410 (by decide) (fun h22 => ?_) (fun h22 => ?_)
    · refine lv_iconst (v := nI 0) hx hb dL_law_417 (by decide) ?_
      refine lv_aload_n hx hb dL_law_418 rfl (lv_at hl 5 rfl) ?_
      refine lv_iload hx hb dL_law_419 (lv_at hl 1 rfl) ?_
      refine lv_iconst (v := nI 3) hx hb dL_law_421 (by decide) ?_
      refine mi_iadd hx hb dL_law_422 ?_
      refine va_sld hx hb hXs hbl hbA hS (vp_in_nI (N := L) (by omega) (by omega)) dL_law_423 ?_
      refine mi_any (fun z26 => ?_)
      refine mp_i (cx := [(h1, .inr (8, [.int x0, .int (nI tp), .int (nI rs), .int (nI ks), .ref mt, .ref mr_, .ref mk, .ref mo, .ref mh, .ref mse, .ref mhs, .ref msp, .ref msc, .ref mha])), (mse, .inl (g.2.1 0, 8, .inl fS))]) (wr := [(h0, .inr (0, [.ref kt, .int (nI tl21), .ref ka, .int (nI al21), .ref kp, .int (nI pn21), .ref kks, .ref kds, .ref ksp, .ref kkm, .ref kda])), (a, .inl (g.2.1 2, 1, .inr (.inl fo21)))]) hP hD hS hA [0, 1] [2, 3] rfl rfl rfl (by decide) (va_runV (As := [.int z24, .int (nI 0), .int z26]) (rest := []) F (t_M_part l g _ T  pl hO hU  z24 (nI 0) z26 h1 mt mr_ mk mo mh mse mhs msp msc mha tp rs ks x0 fS k_mt k_mr_ k_mk k_mo k_mh k_mhs k_msp k_msc k_mha (by omega) hS5) (cwV 3 hts (wg_app (wg_c kw_1777 (wg_c kw_1778 (wg_c kw_1779 (wg_c kw_9 wg_n)))) kw_1780) rfl rfl rfl (by decide +kernel) ⟨by decide, by decide⟩) (pp_V (en_ok g) (q0 := 0) hK hP hD hS hA hE [0, 1] rfl rfl rfl rfl) rfl rfl hl.1 rfl (lv_room (Nat.le_of_ble_eq_true rfl)) dL_law_424 ⟨by omega, by omega⟩) (fun r22 u23 H locs hu22 hP hD hS => ?_)
      obtain ⟨u24, pl⟩ := u23
      obtain ⟨hq22, hO⟩ := hu22
      obtain ⟨th21, tp21, rs21, ks21, fS21⟩ := u24
      have hP : va_P g.1 vcl ([(h0, .inr (0, [.ref kt, .int (nI tl21), .ref ka, .int (nI al21), .ref kp, .int (nI pn21), .ref kks, .ref kds, .ref ksp, .ref kkm, .ref kda])), (a, .inl (g.2.1 2, 1, .inr (.inl fo21))), (h1, .inr (8, [.int th21, .int (nI tp21), .int (nI rs21), .int (nI ks21), .ref mt, .ref mr_, .ref mk, .ref mo, .ref mh, .ref mse, .ref mhs, .ref msp, .ref msc, .ref mha])), (mse, .inl (g.2.1 0, 8, .inl fS21))] ++ pl) _ := hP
      have hD : va_D _ ([(h0, .inr (0, [.ref kt, .int (nI tl21), .ref ka, .int (nI al21), .ref kp, .int (nI pn21), .ref kks, .ref kds, .ref ksp, .ref kkm, .ref kda])), (a, .inl (g.2.1 2, 1, .inr (.inl fo21))), (h1, .inr (8, [.int th21, .int (nI tp21), .int (nI rs21), .int (nI ks21), .ref mt, .ref mr_, .ref mk, .ref mo, .ref mh, .ref mse, .ref mhs, .ref msp, .ref msc, .ref mha])), (mse, .inl (g.2.1 0, 8, .inl fS21))] ++ pl) := hD
      obtain ⟨hm24, hm25, hm26, hm27⟩ := hq22
      have hm24 : tp21 ≤ 16384 := hm24
      have hm25 : rs21 ≤ 8192 := hm25
      have hm26 : ks21 ≤ 8 := hm26
      refine W.widen (k := (380 + 3 * n0 + 1)) (n := (194479 + 7491 * n0 + 6)) (by omega) (by omega) ?_
      refine lv_istore (lv' := [(6, .int r22), (5, .int r21), (4, .int (nI i)), (3, .ref a), (2, .ref h1), (1, .ref h0), (0, .ref b)]) hx hb dL_law_427 hl (by decide) rfl (fun ls hl => ?_)
      refine lv_goto (tgt := 785) hx hb dL_law_429 (by decide) ?_
      have hP : va_P g.1 vcl ([(h0, .inr (0, [.ref kt, .int (nI tl21), .ref ka, .int (nI al21), .ref kp, .int (nI pn21), .ref kks, .ref kds, .ref ksp, .ref kkm, .ref kda])), (h1, .inr (8, [.int th21, .int (nI tp21), .int (nI rs21), .int (nI ks21), .ref mt, .ref mr_, .ref mk, .ref mo, .ref mh, .ref mse, .ref mhs, .ref msp, .ref msc, .ref mha])), (mse, .inl (g.2.1 0, 8, .inl fS21)), (a, .inl (g.2.1 2, 1, .inr (.inl fo21)))] ++ pl) _ := hP.part [0, 2, 3, 1] rfl
      have hD : va_D _ ([(h0, .inr (0, [.ref kt, .int (nI tl21), .ref ka, .int (nI al21), .ref kp, .int (nI pn21), .ref kks, .ref kds, .ref ksp, .ref kkm, .ref kda])), (h1, .inr (8, [.int th21, .int (nI tp21), .int (nI rs21), .int (nI ks21), .ref mt, .ref mr_, .ref mk, .ref mo, .ref mh, .ref mse, .ref mhs, .ref msp, .ref msc, .ref mha])), (mse, .inl (g.2.1 0, 8, .inl fS21)), (a, .inl (g.2.1 2, 1, .inr (.inl fo21)))] ++ pl) := hD.part [0, 2, 3, 1] (by decide) rfl
      exact W.widen (k := 380 + 3 * n0 + 3) (n := 194479 + 7491 * n0 + 7491) (by omega) (by omega) (next _ _ _ ⟨T, pl, h0, kt, ka, kp, kks, kds, ksp, kkm, kda, tl21, al21, pn21, h1, mt, mr_, mk, mo, mh, mse, mhs, msp, msc, mha, tp21, rs21, ks21, th21, fS21, a, fo21, hO, hU, ⟨by omega, by omega, by omega⟩, ⟨by omega, by omega, by omega⟩, hm27, k_kt, k_ka, k_kp, k_kks, k_kds, k_ksp, k_kkm, k_kda, k_mt, k_mr_, k_mk, k_mo, k_mh, k_mhs, k_msp, k_msc, k_mha, hP, hD, hS, lv_sub hl [2, 3, 4, 5, 6] rfl⟩)
    · refine lv_iconst (v := nI 1) hx hb dL_law_413 (by decide) ?_
      refine lv_goto (tgt := 418) hx hb dL_law_414 (by decide) ?_
      refine lv_aload_n hx hb dL_law_418 rfl (lv_at hl 5 rfl) ?_
      refine lv_iload hx hb dL_law_419 (lv_at hl 1 rfl) ?_
      refine lv_iconst (v := nI 3) hx hb dL_law_421 (by decide) ?_
      refine mi_iadd hx hb dL_law_422 ?_
      refine va_sld hx hb hXs hbl hbA hS (vp_in_nI (N := L) (by omega) (by omega)) dL_law_423 ?_
      refine mi_any (fun z27 => ?_)
      refine mp_i (cx := [(h1, .inr (8, [.int x0, .int (nI tp), .int (nI rs), .int (nI ks), .ref mt, .ref mr_, .ref mk, .ref mo, .ref mh, .ref mse, .ref mhs, .ref msp, .ref msc, .ref mha])), (mse, .inl (g.2.1 0, 8, .inl fS))]) (wr := [(h0, .inr (0, [.ref kt, .int (nI tl21), .ref ka, .int (nI al21), .ref kp, .int (nI pn21), .ref kks, .ref kds, .ref ksp, .ref kkm, .ref kda])), (a, .inl (g.2.1 2, 1, .inr (.inl fo21)))]) hP hD hS hA [0, 1] [2, 3] rfl rfl rfl (by decide) (va_runV (As := [.int z24, .int (nI 1), .int z27]) (rest := []) F (t_M_part l g _ T  pl hO hU  z24 (nI 1) z27 h1 mt mr_ mk mo mh mse mhs msp msc mha tp rs ks x0 fS k_mt k_mr_ k_mk k_mo k_mh k_mhs k_msp k_msc k_mha (by omega) hS5) (cwV 3 hts (wg_app (wg_c kw_1777 (wg_c kw_1778 (wg_c kw_1779 (wg_c kw_9 wg_n)))) kw_1780) rfl rfl rfl (by decide +kernel) ⟨by decide, by decide⟩) (pp_V (en_ok g) (q0 := 0) hK hP hD hS hA hE [0, 1] rfl rfl rfl rfl) rfl rfl hl.1 rfl (lv_room (Nat.le_of_ble_eq_true rfl)) dL_law_424 ⟨by omega, by omega⟩) (fun r23 u25 H locs hu23 hP hD hS => ?_)
      obtain ⟨u26, pl⟩ := u25
      obtain ⟨hq23, hO⟩ := hu23
      obtain ⟨th22, tp22, rs22, ks22, fS22⟩ := u26
      have hP : va_P g.1 vcl ([(h0, .inr (0, [.ref kt, .int (nI tl21), .ref ka, .int (nI al21), .ref kp, .int (nI pn21), .ref kks, .ref kds, .ref ksp, .ref kkm, .ref kda])), (a, .inl (g.2.1 2, 1, .inr (.inl fo21))), (h1, .inr (8, [.int th22, .int (nI tp22), .int (nI rs22), .int (nI ks22), .ref mt, .ref mr_, .ref mk, .ref mo, .ref mh, .ref mse, .ref mhs, .ref msp, .ref msc, .ref mha])), (mse, .inl (g.2.1 0, 8, .inl fS22))] ++ pl) _ := hP
      have hD : va_D _ ([(h0, .inr (0, [.ref kt, .int (nI tl21), .ref ka, .int (nI al21), .ref kp, .int (nI pn21), .ref kks, .ref kds, .ref ksp, .ref kkm, .ref kda])), (a, .inl (g.2.1 2, 1, .inr (.inl fo21))), (h1, .inr (8, [.int th22, .int (nI tp22), .int (nI rs22), .int (nI ks22), .ref mt, .ref mr_, .ref mk, .ref mo, .ref mh, .ref mse, .ref mhs, .ref msp, .ref msc, .ref mha])), (mse, .inl (g.2.1 0, 8, .inl fS22))] ++ pl) := hD
      obtain ⟨hm29, hm30, hm31, hm32⟩ := hq23
      have hm29 : tp22 ≤ 16384 := hm29
      have hm30 : rs22 ≤ 8192 := hm30
      have hm31 : ks22 ≤ 8 := hm31
      refine W.widen (k := (380 + 3 * n0 + 1)) (n := (194479 + 7491 * n0 + 6)) (by omega) (by omega) ?_
      refine lv_istore (lv' := [(6, .int r23), (5, .int r21), (4, .int (nI i)), (3, .ref a), (2, .ref h1), (1, .ref h0), (0, .ref b)]) hx hb dL_law_427 hl (by decide) rfl (fun ls hl => ?_)
      refine lv_goto (tgt := 785) hx hb dL_law_429 (by decide) ?_
      have hP : va_P g.1 vcl ([(h0, .inr (0, [.ref kt, .int (nI tl21), .ref ka, .int (nI al21), .ref kp, .int (nI pn21), .ref kks, .ref kds, .ref ksp, .ref kkm, .ref kda])), (h1, .inr (8, [.int th22, .int (nI tp22), .int (nI rs22), .int (nI ks22), .ref mt, .ref mr_, .ref mk, .ref mo, .ref mh, .ref mse, .ref mhs, .ref msp, .ref msc, .ref mha])), (mse, .inl (g.2.1 0, 8, .inl fS22)), (a, .inl (g.2.1 2, 1, .inr (.inl fo21)))] ++ pl) _ := hP.part [0, 2, 3, 1] rfl
      have hD : va_D _ ([(h0, .inr (0, [.ref kt, .int (nI tl21), .ref ka, .int (nI al21), .ref kp, .int (nI pn21), .ref kks, .ref kds, .ref ksp, .ref kkm, .ref kda])), (h1, .inr (8, [.int th22, .int (nI tp22), .int (nI rs22), .int (nI ks22), .ref mt, .ref mr_, .ref mk, .ref mo, .ref mh, .ref mse, .ref mhs, .ref msp, .ref msc, .ref mha])), (mse, .inl (g.2.1 0, 8, .inl fS22)), (a, .inl (g.2.1 2, 1, .inr (.inl fo21)))] ++ pl) := hD.part [0, 2, 3, 1] (by decide) rfl
      exact W.widen (k := 380 + 3 * n0 + 3) (n := 194479 + 7491 * n0 + 7491) (by omega) (by omega) (next _ _ _ ⟨T, pl, h0, kt, ka, kp, kks, kds, ksp, kkm, kda, tl21, al21, pn21, h1, mt, mr_, mk, mo, mh, mse, mhs, msp, msc, mha, tp22, rs22, ks22, th22, fS22, a, fo21, hO, hU, ⟨by omega, by omega, by omega⟩, ⟨by omega, by omega, by omega⟩, hm32, k_kt, k_ka, k_kp, k_kks, k_kds, k_ksp, k_kkm, k_kda, k_mt, k_mr_, k_mk, k_mo, k_mh, k_mhs, k_msp, k_msc, k_mha, hP, hD, hS, lv_sub hl [2, 3, 4, 5, 6] rfl⟩)
  · refine lv_iconst (v := nI 1) hx hb dL_law_380 (by decide) ?_
    refine lv_goto (tgt := 385) hx hb dL_law_381 (by decide) ?_
    refine lv_aload_n hx hb dL_law_385 rfl (lv_at hl 4 rfl) ?_
    refine lv_iload hx hb dL_law_386 (lv_at hl 0 rfl) ?_
    refine lv_iconst (v := nI 3) hx hb dL_law_388 (by decide) ?_
    refine mi_iadd hx hb dL_law_389 ?_
    refine va_sld hx hb hXs hbl hbA hS (vp_in_nI (N := L) (by omega) (by omega)) dL_law_390 ?_
    refine mi_any (fun z28 => ?_)
    refine lv_aload_n hx hb dL_law_391 rfl (lv_at hl 1 rfl) ?_
    refine mp_i (cx := [(h0, .inr (0, [.ref kt, .int (nI tl), .ref ka, .int (nI al), .ref kp, .int (nI pn), .ref kks, .ref kds, .ref ksp, .ref kkm, .ref kda])), (a, .inl (g.2.1 2, 1, .inr (.inl f)))]) (wr := [(h1, .inr (8, [.int x0, .int (nI tp), .int (nI rs), .int (nI ks), .ref mt, .ref mr_, .ref mk, .ref mo, .ref mh, .ref mse, .ref mhs, .ref msp, .ref msc, .ref mha])), (mse, .inl (g.2.1 0, 8, .inl fS))]) hP hD hS hA [0, 3] [1, 2] rfl rfl rfl (by decide) (lc_run (As := [.ref h0, .int z21, .int (nI 1), .int z28, .ref a]) (rest := []) F (lh_part l htr g _ T  pl hO hU  z21 (nI 1) z28 h0 kt ka kp kks kds ksp kkm kda tl al pn k_kt k_ka k_kp k_kks k_kds k_ksp k_kkm k_kda a f (by omega)) (lc_cw 5 hts (wg_app (wg_c kw_1048 (wg_c kw_1049 (wg_c kw_0 wg_n))) kw_1050) rfl rfl rfl (by decide +kernel) ⟨by decide, by decide⟩) (pp_S (ex_ok g) hP hD hS hA hX [0, 3] rfl rfl) rfl rfl hl.1 rfl (lv_room (Nat.le_of_ble_eq_true rfl)) dL_law_392 ⟨by omega, by omega⟩) (fun r24 u27 H locs hu24 hP hD hS => ?_)
    obtain ⟨u28, pl⟩ := u27
    obtain ⟨hq24, hO⟩ := hu24
    obtain ⟨T, tl22, al22, pn22, fo22⟩ := u28
    have hP : va_P g.1 vcl ([(h1, .inr (8, [.int x0, .int (nI tp), .int (nI rs), .int (nI ks), .ref mt, .ref mr_, .ref mk, .ref mo, .ref mh, .ref mse, .ref mhs, .ref msp, .ref msc, .ref mha])), (mse, .inl (g.2.1 0, 8, .inl fS)), (h0, .inr (0, [.ref kt, .int (nI tl22), .ref ka, .int (nI al22), .ref kp, .int (nI pn22), .ref kks, .ref kds, .ref ksp, .ref kkm, .ref kda])), (a, .inl (g.2.1 2, 1, .inr (.inl fo22)))] ++ pl) _ := hP
    have hD : va_D _ ([(h1, .inr (8, [.int x0, .int (nI tp), .int (nI rs), .int (nI ks), .ref mt, .ref mr_, .ref mk, .ref mo, .ref mh, .ref mse, .ref mhs, .ref msp, .ref msc, .ref mha])), (mse, .inl (g.2.1 0, 8, .inl fS)), (h0, .inr (0, [.ref kt, .int (nI tl22), .ref ka, .int (nI al22), .ref kp, .int (nI pn22), .ref kks, .ref kds, .ref ksp, .ref kkm, .ref kda])), (a, .inl (g.2.1 2, 1, .inr (.inl fo22)))] ++ pl) := hD
    obtain ⟨⟨hm34, hm35, hm36, hxt22, hU⟩, hpo22⟩ := hq24
    have hm34 : tl22 ≤ 16384 := hm34
    have hm35 : al22 ≤ 8192 := hm35
    have hm36 : pn22 ≤ 8 := hm36
    have hxt22 : ext _ T := hxt22
    have hU : uni T := hU
    have hO : okx g T [] pl := hO
    have k_kt := hxt22 _ _ k_kt
    have k_ka := hxt22 _ _ k_ka
    have k_kp := hxt22 _ _ k_kp
    have k_kks := hxt22 _ _ k_kks
    have k_kds := hxt22 _ _ k_kds
    have k_ksp := hxt22 _ _ k_ksp
    have k_kkm := hxt22 _ _ k_kkm
    have k_kda := hxt22 _ _ k_kda
    have k_mt := hxt22 _ _ k_mt
    have k_mr_ := hxt22 _ _ k_mr_
    have k_mk := hxt22 _ _ k_mk
    have k_mo := hxt22 _ _ k_mo
    have k_mh := hxt22 _ _ k_mh
    have k_mhs := hxt22 _ _ k_mhs
    have k_msp := hxt22 _ _ k_msp
    have k_msc := hxt22 _ _ k_msc
    have k_mha := hxt22 _ _ k_mha
    refine W.widen (k := (380 + 3 * n0 + 1)) (n := (194479 + 7491 * n0 + 6)) (by omega) (by omega) ?_
    refine lv_istore (lv' := [(5, .int r24), (4, .int (nI i)), (3, .ref a), (2, .ref h1), (1, .ref h0), (0, .ref b)]) hx hb dL_law_395 hl (by decide) rfl (fun ls hl => ?_)
    refine lv_aload_n hx hb dL_law_397 rfl (lv_at hl 3 rfl) ?_
    refine lv_aload_n hx hb dL_law_398 rfl (lv_at hl 5 rfl) ?_
    refine lv_iload hx hb dL_law_399 (lv_at hl 1 rfl) ?_
    refine lv_iconst (v := nI 1) hx hb dL_law_401 (by decide) ?_
    refine mi_iadd hx hb dL_law_402 ?_
    refine va_sld hx hb hXs hbl hbA hS (vp_in_nI (N := L) (by omega) (by omega)) dL_law_403 ?_
    refine mi_any (fun z29 => ?_)
    refine lv_aload_n hx hb dL_law_404 rfl (lv_at hl 5 rfl) ?_
    refine lv_iload hx hb dL_law_405 (lv_at hl 1 rfl) ?_
    refine lv_iconst (v := nI 2) hx hb dL_law_407 (by decide) ?_
    refine mi_iadd hx hb dL_law_408 ?_
    refine va_sld hx hb hXs hbl hbA hS (vp_in_nI (N := L) (by omega) (by omega)) dL_law_409 ?_
    refine mi_any (fun z30 => ?_)
    refine lv_if_eq (tgt := 417) hx hb dL_law_410 (by decide) (fun h23 => ?_) (fun h23 => ?_)
    · refine lv_iconst (v := nI 0) hx hb dL_law_417 (by decide) ?_
      refine lv_aload_n hx hb dL_law_418 rfl (lv_at hl 5 rfl) ?_
      refine lv_iload hx hb dL_law_419 (lv_at hl 1 rfl) ?_
      refine lv_iconst (v := nI 3) hx hb dL_law_421 (by decide) ?_
      refine mi_iadd hx hb dL_law_422 ?_
      refine va_sld hx hb hXs hbl hbA hS (vp_in_nI (N := L) (by omega) (by omega)) dL_law_423 ?_
      refine mi_any (fun z31 => ?_)
      refine mp_i (cx := [(h1, .inr (8, [.int x0, .int (nI tp), .int (nI rs), .int (nI ks), .ref mt, .ref mr_, .ref mk, .ref mo, .ref mh, .ref mse, .ref mhs, .ref msp, .ref msc, .ref mha])), (mse, .inl (g.2.1 0, 8, .inl fS))]) (wr := [(h0, .inr (0, [.ref kt, .int (nI tl22), .ref ka, .int (nI al22), .ref kp, .int (nI pn22), .ref kks, .ref kds, .ref ksp, .ref kkm, .ref kda])), (a, .inl (g.2.1 2, 1, .inr (.inl fo22)))]) hP hD hS hA [0, 1] [2, 3] rfl rfl rfl (by decide) (va_runV (As := [.int z29, .int (nI 0), .int z31]) (rest := []) F (t_M_part l g _ T  pl hO hU  z29 (nI 0) z31 h1 mt mr_ mk mo mh mse mhs msp msc mha tp rs ks x0 fS k_mt k_mr_ k_mk k_mo k_mh k_mhs k_msp k_msc k_mha (by omega) hS5) (cwV 3 hts (wg_app (wg_c kw_1777 (wg_c kw_1778 (wg_c kw_1779 (wg_c kw_9 wg_n)))) kw_1780) rfl rfl rfl (by decide +kernel) ⟨by decide, by decide⟩) (pp_V (en_ok g) (q0 := 0) hK hP hD hS hA hE [0, 1] rfl rfl rfl rfl) rfl rfl hl.1 rfl (lv_room (Nat.le_of_ble_eq_true rfl)) dL_law_424 ⟨by omega, by omega⟩) (fun r25 u29 H locs hu25 hP hD hS => ?_)
      obtain ⟨u30, pl⟩ := u29
      obtain ⟨hq25, hO⟩ := hu25
      obtain ⟨th23, tp23, rs23, ks23, fS23⟩ := u30
      have hP : va_P g.1 vcl ([(h0, .inr (0, [.ref kt, .int (nI tl22), .ref ka, .int (nI al22), .ref kp, .int (nI pn22), .ref kks, .ref kds, .ref ksp, .ref kkm, .ref kda])), (a, .inl (g.2.1 2, 1, .inr (.inl fo22))), (h1, .inr (8, [.int th23, .int (nI tp23), .int (nI rs23), .int (nI ks23), .ref mt, .ref mr_, .ref mk, .ref mo, .ref mh, .ref mse, .ref mhs, .ref msp, .ref msc, .ref mha])), (mse, .inl (g.2.1 0, 8, .inl fS23))] ++ pl) _ := hP
      have hD : va_D _ ([(h0, .inr (0, [.ref kt, .int (nI tl22), .ref ka, .int (nI al22), .ref kp, .int (nI pn22), .ref kks, .ref kds, .ref ksp, .ref kkm, .ref kda])), (a, .inl (g.2.1 2, 1, .inr (.inl fo22))), (h1, .inr (8, [.int th23, .int (nI tp23), .int (nI rs23), .int (nI ks23), .ref mt, .ref mr_, .ref mk, .ref mo, .ref mh, .ref mse, .ref mhs, .ref msp, .ref msc, .ref mha])), (mse, .inl (g.2.1 0, 8, .inl fS23))] ++ pl) := hD
      obtain ⟨hm37, hm38, hm39, hm40⟩ := hq25
      have hm37 : tp23 ≤ 16384 := hm37
      have hm38 : rs23 ≤ 8192 := hm38
      have hm39 : ks23 ≤ 8 := hm39
      refine W.widen (k := (380 + 3 * n0 + 1)) (n := (194479 + 7491 * n0 + 6)) (by omega) (by omega) ?_
      refine lv_istore (lv' := [(6, .int r25), (5, .int r24), (4, .int (nI i)), (3, .ref a), (2, .ref h1), (1, .ref h0), (0, .ref b)]) hx hb dL_law_427 hl (by decide) rfl (fun ls hl => ?_)
      refine lv_goto (tgt := 785) hx hb dL_law_429 (by decide) ?_
      have hP : va_P g.1 vcl ([(h0, .inr (0, [.ref kt, .int (nI tl22), .ref ka, .int (nI al22), .ref kp, .int (nI pn22), .ref kks, .ref kds, .ref ksp, .ref kkm, .ref kda])), (h1, .inr (8, [.int th23, .int (nI tp23), .int (nI rs23), .int (nI ks23), .ref mt, .ref mr_, .ref mk, .ref mo, .ref mh, .ref mse, .ref mhs, .ref msp, .ref msc, .ref mha])), (mse, .inl (g.2.1 0, 8, .inl fS23)), (a, .inl (g.2.1 2, 1, .inr (.inl fo22)))] ++ pl) _ := hP.part [0, 2, 3, 1] rfl
      have hD : va_D _ ([(h0, .inr (0, [.ref kt, .int (nI tl22), .ref ka, .int (nI al22), .ref kp, .int (nI pn22), .ref kks, .ref kds, .ref ksp, .ref kkm, .ref kda])), (h1, .inr (8, [.int th23, .int (nI tp23), .int (nI rs23), .int (nI ks23), .ref mt, .ref mr_, .ref mk, .ref mo, .ref mh, .ref mse, .ref mhs, .ref msp, .ref msc, .ref mha])), (mse, .inl (g.2.1 0, 8, .inl fS23)), (a, .inl (g.2.1 2, 1, .inr (.inl fo22)))] ++ pl) := hD.part [0, 2, 3, 1] (by decide) rfl
      exact W.widen (k := 380 + 3 * n0 + 3) (n := 194479 + 7491 * n0 + 7491) (by omega) (by omega) (next _ _ _ ⟨T, pl, h0, kt, ka, kp, kks, kds, ksp, kkm, kda, tl22, al22, pn22, h1, mt, mr_, mk, mo, mh, mse, mhs, msp, msc, mha, tp23, rs23, ks23, th23, fS23, a, fo22, hO, hU, ⟨by omega, by omega, by omega⟩, ⟨by omega, by omega, by omega⟩, hm40, k_kt, k_ka, k_kp, k_kks, k_kds, k_ksp, k_kkm, k_kda, k_mt, k_mr_, k_mk, k_mo, k_mh, k_mhs, k_msp, k_msc, k_mha, hP, hD, hS, lv_sub hl [2, 3, 4, 5, 6] rfl⟩)
    · refine lv_iconst (v := nI 1) hx hb dL_law_413 (by decide) ?_
      refine lv_goto (tgt := 418) hx hb dL_law_414 (by decide) ?_
      refine lv_aload_n hx hb dL_law_418 rfl (lv_at hl 5 rfl) ?_
      refine lv_iload hx hb dL_law_419 (lv_at hl 1 rfl) ?_
      refine lv_iconst (v := nI 3) hx hb dL_law_421 (by decide) ?_
      refine mi_iadd hx hb dL_law_422 ?_
      refine va_sld hx hb hXs hbl hbA hS (vp_in_nI (N := L) (by omega) (by omega)) dL_law_423 ?_
      refine mi_any (fun z32 => ?_)
      refine mp_i (cx := [(h1, .inr (8, [.int x0, .int (nI tp), .int (nI rs), .int (nI ks), .ref mt, .ref mr_, .ref mk, .ref mo, .ref mh, .ref mse, .ref mhs, .ref msp, .ref msc, .ref mha])), (mse, .inl (g.2.1 0, 8, .inl fS))]) (wr := [(h0, .inr (0, [.ref kt, .int (nI tl22), .ref ka, .int (nI al22), .ref kp, .int (nI pn22), .ref kks, .ref kds, .ref ksp, .ref kkm, .ref kda])), (a, .inl (g.2.1 2, 1, .inr (.inl fo22)))]) hP hD hS hA [0, 1] [2, 3] rfl rfl rfl (by decide) (va_runV (As := [.int z29, .int (nI 1), .int z32]) (rest := []) F (t_M_part l g _ T  pl hO hU  z29 (nI 1) z32 h1 mt mr_ mk mo mh mse mhs msp msc mha tp rs ks x0 fS k_mt k_mr_ k_mk k_mo k_mh k_mhs k_msp k_msc k_mha (by omega) hS5) (cwV 3 hts (wg_app (wg_c kw_1777 (wg_c kw_1778 (wg_c kw_1779 (wg_c kw_9 wg_n)))) kw_1780) rfl rfl rfl (by decide +kernel) ⟨by decide, by decide⟩) (pp_V (en_ok g) (q0 := 0) hK hP hD hS hA hE [0, 1] rfl rfl rfl rfl) rfl rfl hl.1 rfl (lv_room (Nat.le_of_ble_eq_true rfl)) dL_law_424 ⟨by omega, by omega⟩) (fun r26 u31 H locs hu26 hP hD hS => ?_)
      obtain ⟨u32, pl⟩ := u31
      obtain ⟨hq26, hO⟩ := hu26
      obtain ⟨th24, tp24, rs24, ks24, fS24⟩ := u32
      have hP : va_P g.1 vcl ([(h0, .inr (0, [.ref kt, .int (nI tl22), .ref ka, .int (nI al22), .ref kp, .int (nI pn22), .ref kks, .ref kds, .ref ksp, .ref kkm, .ref kda])), (a, .inl (g.2.1 2, 1, .inr (.inl fo22))), (h1, .inr (8, [.int th24, .int (nI tp24), .int (nI rs24), .int (nI ks24), .ref mt, .ref mr_, .ref mk, .ref mo, .ref mh, .ref mse, .ref mhs, .ref msp, .ref msc, .ref mha])), (mse, .inl (g.2.1 0, 8, .inl fS24))] ++ pl) _ := hP
      have hD : va_D _ ([(h0, .inr (0, [.ref kt, .int (nI tl22), .ref ka, .int (nI al22), .ref kp, .int (nI pn22), .ref kks, .ref kds, .ref ksp, .ref kkm, .ref kda])), (a, .inl (g.2.1 2, 1, .inr (.inl fo22))), (h1, .inr (8, [.int th24, .int (nI tp24), .int (nI rs24), .int (nI ks24), .ref mt, .ref mr_, .ref mk, .ref mo, .ref mh, .ref mse, .ref mhs, .ref msp, .ref msc, .ref mha])), (mse, .inl (g.2.1 0, 8, .inl fS24))] ++ pl) := hD
      obtain ⟨hm42, hm43, hm44, hm45⟩ := hq26
      have hm42 : tp24 ≤ 16384 := hm42
      have hm43 : rs24 ≤ 8192 := hm43
      have hm44 : ks24 ≤ 8 := hm44
      refine W.widen (k := (380 + 3 * n0 + 1)) (n := (194479 + 7491 * n0 + 6)) (by omega) (by omega) ?_
      refine lv_istore (lv' := [(6, .int r26), (5, .int r24), (4, .int (nI i)), (3, .ref a), (2, .ref h1), (1, .ref h0), (0, .ref b)]) hx hb dL_law_427 hl (by decide) rfl (fun ls hl => ?_)
      refine lv_goto (tgt := 785) hx hb dL_law_429 (by decide) ?_
      have hP : va_P g.1 vcl ([(h0, .inr (0, [.ref kt, .int (nI tl22), .ref ka, .int (nI al22), .ref kp, .int (nI pn22), .ref kks, .ref kds, .ref ksp, .ref kkm, .ref kda])), (h1, .inr (8, [.int th24, .int (nI tp24), .int (nI rs24), .int (nI ks24), .ref mt, .ref mr_, .ref mk, .ref mo, .ref mh, .ref mse, .ref mhs, .ref msp, .ref msc, .ref mha])), (mse, .inl (g.2.1 0, 8, .inl fS24)), (a, .inl (g.2.1 2, 1, .inr (.inl fo22)))] ++ pl) _ := hP.part [0, 2, 3, 1] rfl
      have hD : va_D _ ([(h0, .inr (0, [.ref kt, .int (nI tl22), .ref ka, .int (nI al22), .ref kp, .int (nI pn22), .ref kks, .ref kds, .ref ksp, .ref kkm, .ref kda])), (h1, .inr (8, [.int th24, .int (nI tp24), .int (nI rs24), .int (nI ks24), .ref mt, .ref mr_, .ref mk, .ref mo, .ref mh, .ref mse, .ref mhs, .ref msp, .ref msc, .ref mha])), (mse, .inl (g.2.1 0, 8, .inl fS24)), (a, .inl (g.2.1 2, 1, .inr (.inl fo22)))] ++ pl) := hD.part [0, 2, 3, 1] (by decide) rfl
      exact W.widen (k := 380 + 3 * n0 + 3) (n := 194479 + 7491 * n0 + 7491) (by omega) (by omega) (next _ _ _ ⟨T, pl, h0, kt, ka, kp, kks, kds, ksp, kkm, kda, tl22, al22, pn22, h1, mt, mr_, mk, mo, mh, mse, mhs, msp, msc, mha, tp24, rs24, ks24, th24, fS24, a, fo22, hO, hU, ⟨by omega, by omega, by omega⟩, ⟨by omega, by omega, by omega⟩, hm45, k_kt, k_ka, k_kp, k_kks, k_kds, k_ksp, k_kkm, k_kda, k_mt, k_mr_, k_mk, k_mo, k_mh, k_mhs, k_msp, k_msc, k_mha, hP, hD, hS, lv_sub hl [2, 3, 4, 5, 6] rfl⟩)
set_option maxHeartbeats 4000000 in
set_option maxRecDepth 100000 in
theorem law_show {p : Program} {e : Env} {s : State} {m : MethodId} {below : List Frame} {meth : Method} {c : Code} (l : Launch) (htr : l.stackTraces = false) {b L : Nat} {xs : Nat → Int32} (hL : L ≤ 3072) (C0 : lw_At p s m meth c b L xs) (g : Gd) (F : CallFix p m c c_L_law 7 s #[Value.ref b] wL "LatticeKeysLaw") (hX : ex g (Alaw s) s s.heap) {n0 i : Nat} (hn0 : n0 < 512) (hi : i = 6 * n0) (hi6 : i + 6 ≤ L) {H : Heap} {locs : List Loc} {ls : Array Slot} (hI : LI g s b i H locs ls) (next : ∀ (H : Heap) (locs : List Loc) (ls : Array Slot), LI g s b i H locs ls → W p l e room_1 s m #[Value.ref b] below meth c H locs (380 + 3 * n0 + 3) (194479 + 7491 * n0 + 7491) (lw_Z below #[Value.ref b] s) (F0 m 785 ls [])) : W p l e room_1 s m #[Value.ref b] below meth c H locs (380 + 3 * n0) (194479 + 7491 * n0) (lw_Z below #[Value.ref b] s) (F0 m 432 ls []) := by
  obtain ⟨hx, hb, hml, hown, hts⟩ := id F
  have hE := hX.1
  have hK := hE.1
  have hA : ∀ q, s.heap.size ≤ q → Alaw s q := fun _ h => h
  obtain ⟨-, -, hr, -, -, -, hXs, hbl, hlk, -⟩ := id C0
  have hbA : ¬ Alaw s b := fun h => Nat.not_lt.mpr h hbl
  obtain ⟨T, pl, h0, kt, ka, kp, kks, kds, ksp, kkm, kda, tl, al, pn, h1, mt, mr_, mk, mo, mh, mse, mhs, msp, msc, mha, tp, rs, ks, x0, fS, a, f, hO, hU, hkb, hmb, hS5, k_kt, k_ka, k_kp, k_kks, k_kds, k_ksp, k_kkm, k_kda, k_mt, k_mr_, k_mk, k_mo, k_mh, k_mhs, k_msp, k_msc, k_mha, hP, hD, hS, hl⟩ := hI
  have hRc : room_1.cells = 601024 := rfl
  have hRs : room_1.slots = 7293034 := rfl
  refine lv_aload_n hx hb dL_law_432 rfl (lv_at hl 3 rfl) ?_
  refine lv_aload_n hx hb dL_law_433 rfl (lv_at hl 4 rfl) ?_
  refine lv_iload hx hb dL_law_434 (lv_at hl 0 rfl) ?_
  refine lv_iconst (v := nI 1) hx hb dL_law_436 (by decide) ?_
  refine mi_iadd hx hb dL_law_437 ?_
  refine va_sld hx hb hXs hbl hbA hS (vp_in_nI (N := L) (by omega) (by omega)) dL_law_438 ?_
  refine mi_any (fun z21 => ?_)
  refine lv_aload_n hx hb dL_law_439 rfl (lv_at hl 4 rfl) ?_
  refine lv_iload hx hb dL_law_440 (lv_at hl 0 rfl) ?_
  refine lv_iconst (v := nI 2) hx hb dL_law_442 (by decide) ?_
  refine mi_iadd hx hb dL_law_443 ?_
  refine va_sld hx hb hXs hbl hbA hS (vp_in_nI (N := L) (by omega) (by omega)) dL_law_444 ?_
  refine mi_any (fun z22 => ?_)
  refine lv_if_eq (tgt := 452) hx hb dL_law_445 (by decide) (fun h21 => ?_) (fun h21 => ?_)
  · refine lv_iconst (v := nI 0) hx hb dL_law_452 (by decide) ?_
    refine lv_aload_n hx hb dL_law_453 rfl (lv_at hl 1 rfl) ?_
    refine mp_i (cx := [(h0, .inr (0, [.ref kt, .int (nI tl), .ref ka, .int (nI al), .ref kp, .int (nI pn), .ref kks, .ref kds, .ref ksp, .ref kkm, .ref kda])), (a, .inl (g.2.1 2, 1, .inr (.inl f)))]) (wr := [(h1, .inr (8, [.int x0, .int (nI tp), .int (nI rs), .int (nI ks), .ref mt, .ref mr_, .ref mk, .ref mo, .ref mh, .ref mse, .ref mhs, .ref msp, .ref msc, .ref mha])), (mse, .inl (g.2.1 0, 8, .inl fS))]) hP hD hS hA [0, 3] [1, 2] rfl rfl rfl (by decide) (lc_run (As := [.ref h0, .int z21, .int (nI 0), .ref a]) (rest := []) F (lh_show l htr g _ T  pl hO hU  z21 (nI 0) h0 kt ka kp kks kds ksp kkm kda tl al pn k_kt k_ka k_kp k_kks k_kds k_ksp k_kkm k_kda a f (by omega)) (lc_cw 4 hts (wg_app (wg_c kw_1081 (wg_c kw_1082 (wg_c kw_0 wg_n))) kw_1083) rfl rfl rfl (by decide +kernel) ⟨by decide, by decide⟩) (pp_S (ex_ok g) hP hD hS hA hX [0, 3] rfl rfl) rfl rfl hl.1 rfl (lv_room (Nat.le_of_ble_eq_true rfl)) dL_law_454 ⟨by omega, by omega⟩) (fun r21 u21 H locs hu21 hP hD hS => ?_)
    obtain ⟨u22, pl⟩ := u21
    obtain ⟨hq21, hO⟩ := hu21
    obtain ⟨T, tl21, al21, pn21, fo21⟩ := u22
    have hP : va_P g.1 vcl ([(h1, .inr (8, [.int x0, .int (nI tp), .int (nI rs), .int (nI ks), .ref mt, .ref mr_, .ref mk, .ref mo, .ref mh, .ref mse, .ref mhs, .ref msp, .ref msc, .ref mha])), (mse, .inl (g.2.1 0, 8, .inl fS)), (h0, .inr (0, [.ref kt, .int (nI tl21), .ref ka, .int (nI al21), .ref kp, .int (nI pn21), .ref kks, .ref kds, .ref ksp, .ref kkm, .ref kda])), (a, .inl (g.2.1 2, 1, .inr (.inl fo21)))] ++ pl) _ := hP
    have hD : va_D _ ([(h1, .inr (8, [.int x0, .int (nI tp), .int (nI rs), .int (nI ks), .ref mt, .ref mr_, .ref mk, .ref mo, .ref mh, .ref mse, .ref mhs, .ref msp, .ref msc, .ref mha])), (mse, .inl (g.2.1 0, 8, .inl fS)), (h0, .inr (0, [.ref kt, .int (nI tl21), .ref ka, .int (nI al21), .ref kp, .int (nI pn21), .ref kks, .ref kds, .ref ksp, .ref kkm, .ref kda])), (a, .inl (g.2.1 2, 1, .inr (.inl fo21)))] ++ pl) := hD
    obtain ⟨⟨hm21, hm22, hm23, hxt21, hU⟩, hpo21⟩ := hq21
    have hm21 : tl21 ≤ 16384 := hm21
    have hm22 : al21 ≤ 8192 := hm22
    have hm23 : pn21 ≤ 8 := hm23
    have hxt21 : ext _ T := hxt21
    have hU : uni T := hU
    have hO : okx g T [] pl := hO
    have k_kt := hxt21 _ _ k_kt
    have k_ka := hxt21 _ _ k_ka
    have k_kp := hxt21 _ _ k_kp
    have k_kks := hxt21 _ _ k_kks
    have k_kds := hxt21 _ _ k_kds
    have k_ksp := hxt21 _ _ k_ksp
    have k_kkm := hxt21 _ _ k_kkm
    have k_kda := hxt21 _ _ k_kda
    have k_mt := hxt21 _ _ k_mt
    have k_mr_ := hxt21 _ _ k_mr_
    have k_mk := hxt21 _ _ k_mk
    have k_mo := hxt21 _ _ k_mo
    have k_mh := hxt21 _ _ k_mh
    have k_mhs := hxt21 _ _ k_mhs
    have k_msp := hxt21 _ _ k_msp
    have k_msc := hxt21 _ _ k_msc
    have k_mha := hxt21 _ _ k_mha
    refine W.widen (k := (380 + 3 * n0 + 1)) (n := (194479 + 7491 * n0 + 6)) (by omega) (by omega) ?_
    refine lv_istore (lv' := [(5, .int r21), (4, .int (nI i)), (3, .ref a), (2, .ref h1), (1, .ref h0), (0, .ref b)]) hx hb dL_law_457 hl (by decide) rfl (fun ls hl => ?_)
    refine lv_aload_n hx hb dL_law_459 rfl (lv_at hl 3 rfl) ?_
    refine lv_aload_n hx hb dL_law_460 rfl (lv_at hl 5 rfl) ?_
    refine lv_iload hx hb dL_law_461 (lv_at hl 1 rfl) ?_
    refine lv_iconst (v := nI 1) hx hb dL_law_463 (by decide) ?_
    refine mi_iadd hx hb dL_law_464 ?_
    refine va_sld hx hb hXs hbl hbA hS (vp_in_nI (N := L) (by omega) (by omega)) dL_law_465 ?_
    refine mi_any (fun z23 => ?_)
    refine lv_aload_n hx hb dL_law_466 rfl (lv_at hl 5 rfl) ?_
    refine lv_iload hx hb dL_law_467 (lv_at hl 1 rfl) ?_
    refine lv_iconst (v := nI 2) hx hb dL_law_469 (by decide) ?_
    refine mi_iadd hx hb dL_law_470 ?_
    refine va_sld hx hb hXs hbl hbA hS (vp_in_nI (N := L) (by omega) (by omega)) dL_law_471 ?_
    refine mi_any (fun z24 => ?_)
    refine lv_if_eq (tgt := 479) hx hb dL_law_472 (by decide) (fun h22 => ?_) (fun h22 => ?_)
    · refine lv_iconst (v := nI 0) hx hb dL_law_479 (by decide) ?_
      refine mp_i (cx := [(h1, .inr (8, [.int x0, .int (nI tp), .int (nI rs), .int (nI ks), .ref mt, .ref mr_, .ref mk, .ref mo, .ref mh, .ref mse, .ref mhs, .ref msp, .ref msc, .ref mha])), (mse, .inl (g.2.1 0, 8, .inl fS))]) (wr := [(h0, .inr (0, [.ref kt, .int (nI tl21), .ref ka, .int (nI al21), .ref kp, .int (nI pn21), .ref kks, .ref kds, .ref ksp, .ref kkm, .ref kda])), (a, .inl (g.2.1 2, 1, .inr (.inl fo21)))]) hP hD hS hA [0, 1] [2, 3] rfl rfl rfl (by decide) (va_runV (As := [.int z23, .int (nI 0)]) (rest := []) F (t_M_show l g _ T  pl hO hU  z23 (nI 0) h1 mt mr_ mk mo mh mse mhs msp msc mha tp rs ks x0 fS k_mt k_mr_ k_mk k_mo k_mh k_mhs k_msp k_msc k_mha (by omega) hS5) (cwV 2 hts (wg_app (wg_c kw_1789 (wg_c kw_1790 (wg_c kw_1791 (wg_c kw_9 wg_n)))) kw_1792) rfl rfl rfl (by decide +kernel) ⟨by decide, by decide⟩) (pp_V (en_ok g) (q0 := 0) hK hP hD hS hA hE [0, 1] rfl rfl rfl rfl) rfl rfl hl.1 rfl (lv_room (Nat.le_of_ble_eq_true rfl)) dL_law_480 ⟨by omega, by omega⟩) (fun r22 u23 H locs hu22 hP hD hS => ?_)
      obtain ⟨u24, pl⟩ := u23
      obtain ⟨hq22, hO⟩ := hu22
      obtain ⟨th21, tp21, rs21, ks21, fS21⟩ := u24
      have hP : va_P g.1 vcl ([(h0, .inr (0, [.ref kt, .int (nI tl21), .ref ka, .int (nI al21), .ref kp, .int (nI pn21), .ref kks, .ref kds, .ref ksp, .ref kkm, .ref kda])), (a, .inl (g.2.1 2, 1, .inr (.inl fo21))), (h1, .inr (8, [.int th21, .int (nI tp21), .int (nI rs21), .int (nI ks21), .ref mt, .ref mr_, .ref mk, .ref mo, .ref mh, .ref mse, .ref mhs, .ref msp, .ref msc, .ref mha])), (mse, .inl (g.2.1 0, 8, .inl fS21))] ++ pl) _ := hP
      have hD : va_D _ ([(h0, .inr (0, [.ref kt, .int (nI tl21), .ref ka, .int (nI al21), .ref kp, .int (nI pn21), .ref kks, .ref kds, .ref ksp, .ref kkm, .ref kda])), (a, .inl (g.2.1 2, 1, .inr (.inl fo21))), (h1, .inr (8, [.int th21, .int (nI tp21), .int (nI rs21), .int (nI ks21), .ref mt, .ref mr_, .ref mk, .ref mo, .ref mh, .ref mse, .ref mhs, .ref msp, .ref msc, .ref mha])), (mse, .inl (g.2.1 0, 8, .inl fS21))] ++ pl) := hD
      obtain ⟨hm24, hm25, hm26, hm27⟩ := hq22
      have hm24 : tp21 ≤ 16384 := hm24
      have hm25 : rs21 ≤ 8192 := hm25
      have hm26 : ks21 ≤ 8 := hm26
      refine W.widen (k := (380 + 3 * n0 + 1)) (n := (194479 + 7491 * n0 + 6)) (by omega) (by omega) ?_
      refine lv_istore (lv' := [(6, .int r22), (5, .int r21), (4, .int (nI i)), (3, .ref a), (2, .ref h1), (1, .ref h0), (0, .ref b)]) hx hb dL_law_483 hl (by decide) rfl (fun ls hl => ?_)
      refine lv_goto (tgt := 785) hx hb dL_law_485 (by decide) ?_
      have hP : va_P g.1 vcl ([(h0, .inr (0, [.ref kt, .int (nI tl21), .ref ka, .int (nI al21), .ref kp, .int (nI pn21), .ref kks, .ref kds, .ref ksp, .ref kkm, .ref kda])), (h1, .inr (8, [.int th21, .int (nI tp21), .int (nI rs21), .int (nI ks21), .ref mt, .ref mr_, .ref mk, .ref mo, .ref mh, .ref mse, .ref mhs, .ref msp, .ref msc, .ref mha])), (mse, .inl (g.2.1 0, 8, .inl fS21)), (a, .inl (g.2.1 2, 1, .inr (.inl fo21)))] ++ pl) _ := hP.part [0, 2, 3, 1] rfl
      have hD : va_D _ ([(h0, .inr (0, [.ref kt, .int (nI tl21), .ref ka, .int (nI al21), .ref kp, .int (nI pn21), .ref kks, .ref kds, .ref ksp, .ref kkm, .ref kda])), (h1, .inr (8, [.int th21, .int (nI tp21), .int (nI rs21), .int (nI ks21), .ref mt, .ref mr_, .ref mk, .ref mo, .ref mh, .ref mse, .ref mhs, .ref msp, .ref msc, .ref mha])), (mse, .inl (g.2.1 0, 8, .inl fS21)), (a, .inl (g.2.1 2, 1, .inr (.inl fo21)))] ++ pl) := hD.part [0, 2, 3, 1] (by decide) rfl
      exact W.widen (k := 380 + 3 * n0 + 3) (n := 194479 + 7491 * n0 + 7491) (by omega) (by omega) (next _ _ _ ⟨T, pl, h0, kt, ka, kp, kks, kds, ksp, kkm, kda, tl21, al21, pn21, h1, mt, mr_, mk, mo, mh, mse, mhs, msp, msc, mha, tp21, rs21, ks21, th21, fS21, a, fo21, hO, hU, ⟨by omega, by omega, by omega⟩, ⟨by omega, by omega, by omega⟩, hm27, k_kt, k_ka, k_kp, k_kks, k_kds, k_ksp, k_kkm, k_kda, k_mt, k_mr_, k_mk, k_mo, k_mh, k_mhs, k_msp, k_msc, k_mha, hP, hD, hS, lv_sub hl [2, 3, 4, 5, 6] rfl⟩)
    · refine lv_iconst (v := nI 1) hx hb dL_law_475 (by decide) ?_
      refine lv_goto (tgt := 480) hx hb dL_law_476 (by decide) ?_
      refine mp_i (cx := [(h1, .inr (8, [.int x0, .int (nI tp), .int (nI rs), .int (nI ks), .ref mt, .ref mr_, .ref mk, .ref mo, .ref mh, .ref mse, .ref mhs, .ref msp, .ref msc, .ref mha])), (mse, .inl (g.2.1 0, 8, .inl fS))]) (wr := [(h0, .inr (0, [.ref kt, .int (nI tl21), .ref ka, .int (nI al21), .ref kp, .int (nI pn21), .ref kks, .ref kds, .ref ksp, .ref kkm, .ref kda])), (a, .inl (g.2.1 2, 1, .inr (.inl fo21)))]) hP hD hS hA [0, 1] [2, 3] rfl rfl rfl (by decide) (va_runV (As := [.int z23, .int (nI 1)]) (rest := []) F (t_M_show l g _ T  pl hO hU  z23 (nI 1) h1 mt mr_ mk mo mh mse mhs msp msc mha tp rs ks x0 fS k_mt k_mr_ k_mk k_mo k_mh k_mhs k_msp k_msc k_mha (by omega) hS5) (cwV 2 hts (wg_app (wg_c kw_1789 (wg_c kw_1790 (wg_c kw_1791 (wg_c kw_9 wg_n)))) kw_1792) rfl rfl rfl (by decide +kernel) ⟨by decide, by decide⟩) (pp_V (en_ok g) (q0 := 0) hK hP hD hS hA hE [0, 1] rfl rfl rfl rfl) rfl rfl hl.1 rfl (lv_room (Nat.le_of_ble_eq_true rfl)) dL_law_480 ⟨by omega, by omega⟩) (fun r23 u25 H locs hu23 hP hD hS => ?_)
      obtain ⟨u26, pl⟩ := u25
      obtain ⟨hq23, hO⟩ := hu23
      obtain ⟨th22, tp22, rs22, ks22, fS22⟩ := u26
      have hP : va_P g.1 vcl ([(h0, .inr (0, [.ref kt, .int (nI tl21), .ref ka, .int (nI al21), .ref kp, .int (nI pn21), .ref kks, .ref kds, .ref ksp, .ref kkm, .ref kda])), (a, .inl (g.2.1 2, 1, .inr (.inl fo21))), (h1, .inr (8, [.int th22, .int (nI tp22), .int (nI rs22), .int (nI ks22), .ref mt, .ref mr_, .ref mk, .ref mo, .ref mh, .ref mse, .ref mhs, .ref msp, .ref msc, .ref mha])), (mse, .inl (g.2.1 0, 8, .inl fS22))] ++ pl) _ := hP
      have hD : va_D _ ([(h0, .inr (0, [.ref kt, .int (nI tl21), .ref ka, .int (nI al21), .ref kp, .int (nI pn21), .ref kks, .ref kds, .ref ksp, .ref kkm, .ref kda])), (a, .inl (g.2.1 2, 1, .inr (.inl fo21))), (h1, .inr (8, [.int th22, .int (nI tp22), .int (nI rs22), .int (nI ks22), .ref mt, .ref mr_, .ref mk, .ref mo, .ref mh, .ref mse, .ref mhs, .ref msp, .ref msc, .ref mha])), (mse, .inl (g.2.1 0, 8, .inl fS22))] ++ pl) := hD
      obtain ⟨hm29, hm30, hm31, hm32⟩ := hq23
      have hm29 : tp22 ≤ 16384 := hm29
      have hm30 : rs22 ≤ 8192 := hm30
      have hm31 : ks22 ≤ 8 := hm31
      refine W.widen (k := (380 + 3 * n0 + 1)) (n := (194479 + 7491 * n0 + 6)) (by omega) (by omega) ?_
      refine lv_istore (lv' := [(6, .int r23), (5, .int r21), (4, .int (nI i)), (3, .ref a), (2, .ref h1), (1, .ref h0), (0, .ref b)]) hx hb dL_law_483 hl (by decide) rfl (fun ls hl => ?_)
      refine lv_goto (tgt := 785) hx hb dL_law_485 (by decide) ?_
      have hP : va_P g.1 vcl ([(h0, .inr (0, [.ref kt, .int (nI tl21), .ref ka, .int (nI al21), .ref kp, .int (nI pn21), .ref kks, .ref kds, .ref ksp, .ref kkm, .ref kda])), (h1, .inr (8, [.int th22, .int (nI tp22), .int (nI rs22), .int (nI ks22), .ref mt, .ref mr_, .ref mk, .ref mo, .ref mh, .ref mse, .ref mhs, .ref msp, .ref msc, .ref mha])), (mse, .inl (g.2.1 0, 8, .inl fS22)), (a, .inl (g.2.1 2, 1, .inr (.inl fo21)))] ++ pl) _ := hP.part [0, 2, 3, 1] rfl
      have hD : va_D _ ([(h0, .inr (0, [.ref kt, .int (nI tl21), .ref ka, .int (nI al21), .ref kp, .int (nI pn21), .ref kks, .ref kds, .ref ksp, .ref kkm, .ref kda])), (h1, .inr (8, [.int th22, .int (nI tp22), .int (nI rs22), .int (nI ks22), .ref mt, .ref mr_, .ref mk, .ref mo, .ref mh, .ref mse, .ref mhs, .ref msp, .ref msc, .ref mha])), (mse, .inl (g.2.1 0, 8, .inl fS22)), (a, .inl (g.2.1 2, 1, .inr (.inl fo21)))] ++ pl) := hD.part [0, 2, 3, 1] (by decide) rfl
      exact W.widen (k := 380 + 3 * n0 + 3) (n := 194479 + 7491 * n0 + 7491) (by omega) (by omega) (next _ _ _ ⟨T, pl, h0, kt, ka, kp, kks, kds, ksp, kkm, kda, tl21, al21, pn21, h1, mt, mr_, mk, mo, mh, mse, mhs, msp, msc, mha, tp22, rs22, ks22, th22, fS22, a, fo21, hO, hU, ⟨by omega, by omega, by omega⟩, ⟨by omega, by omega, by omega⟩, hm32, k_kt, k_ka, k_kp, k_kks, k_kds, k_ksp, k_kkm, k_kda, k_mt, k_mr_, k_mk, k_mo, k_mh, k_mhs, k_msp, k_msc, k_mha, hP, hD, hS, lv_sub hl [2, 3, 4, 5, 6] rfl⟩)
  · refine lv_iconst (v := nI 1) hx hb dL_law_448 (by decide) ?_
    refine lv_goto (tgt := 453) hx hb dL_law_449 (by decide) ?_
    refine lv_aload_n hx hb dL_law_453 rfl (lv_at hl 1 rfl) ?_
    refine mp_i (cx := [(h0, .inr (0, [.ref kt, .int (nI tl), .ref ka, .int (nI al), .ref kp, .int (nI pn), .ref kks, .ref kds, .ref ksp, .ref kkm, .ref kda])), (a, .inl (g.2.1 2, 1, .inr (.inl f)))]) (wr := [(h1, .inr (8, [.int x0, .int (nI tp), .int (nI rs), .int (nI ks), .ref mt, .ref mr_, .ref mk, .ref mo, .ref mh, .ref mse, .ref mhs, .ref msp, .ref msc, .ref mha])), (mse, .inl (g.2.1 0, 8, .inl fS))]) hP hD hS hA [0, 3] [1, 2] rfl rfl rfl (by decide) (lc_run (As := [.ref h0, .int z21, .int (nI 1), .ref a]) (rest := []) F (lh_show l htr g _ T  pl hO hU  z21 (nI 1) h0 kt ka kp kks kds ksp kkm kda tl al pn k_kt k_ka k_kp k_kks k_kds k_ksp k_kkm k_kda a f (by omega)) (lc_cw 4 hts (wg_app (wg_c kw_1081 (wg_c kw_1082 (wg_c kw_0 wg_n))) kw_1083) rfl rfl rfl (by decide +kernel) ⟨by decide, by decide⟩) (pp_S (ex_ok g) hP hD hS hA hX [0, 3] rfl rfl) rfl rfl hl.1 rfl (lv_room (Nat.le_of_ble_eq_true rfl)) dL_law_454 ⟨by omega, by omega⟩) (fun r24 u27 H locs hu24 hP hD hS => ?_)
    obtain ⟨u28, pl⟩ := u27
    obtain ⟨hq24, hO⟩ := hu24
    obtain ⟨T, tl22, al22, pn22, fo22⟩ := u28
    have hP : va_P g.1 vcl ([(h1, .inr (8, [.int x0, .int (nI tp), .int (nI rs), .int (nI ks), .ref mt, .ref mr_, .ref mk, .ref mo, .ref mh, .ref mse, .ref mhs, .ref msp, .ref msc, .ref mha])), (mse, .inl (g.2.1 0, 8, .inl fS)), (h0, .inr (0, [.ref kt, .int (nI tl22), .ref ka, .int (nI al22), .ref kp, .int (nI pn22), .ref kks, .ref kds, .ref ksp, .ref kkm, .ref kda])), (a, .inl (g.2.1 2, 1, .inr (.inl fo22)))] ++ pl) _ := hP
    have hD : va_D _ ([(h1, .inr (8, [.int x0, .int (nI tp), .int (nI rs), .int (nI ks), .ref mt, .ref mr_, .ref mk, .ref mo, .ref mh, .ref mse, .ref mhs, .ref msp, .ref msc, .ref mha])), (mse, .inl (g.2.1 0, 8, .inl fS)), (h0, .inr (0, [.ref kt, .int (nI tl22), .ref ka, .int (nI al22), .ref kp, .int (nI pn22), .ref kks, .ref kds, .ref ksp, .ref kkm, .ref kda])), (a, .inl (g.2.1 2, 1, .inr (.inl fo22)))] ++ pl) := hD
    obtain ⟨⟨hm34, hm35, hm36, hxt22, hU⟩, hpo22⟩ := hq24
    have hm34 : tl22 ≤ 16384 := hm34
    have hm35 : al22 ≤ 8192 := hm35
    have hm36 : pn22 ≤ 8 := hm36
    have hxt22 : ext _ T := hxt22
    have hU : uni T := hU
    have hO : okx g T [] pl := hO
    have k_kt := hxt22 _ _ k_kt
    have k_ka := hxt22 _ _ k_ka
    have k_kp := hxt22 _ _ k_kp
    have k_kks := hxt22 _ _ k_kks
    have k_kds := hxt22 _ _ k_kds
    have k_ksp := hxt22 _ _ k_ksp
    have k_kkm := hxt22 _ _ k_kkm
    have k_kda := hxt22 _ _ k_kda
    have k_mt := hxt22 _ _ k_mt
    have k_mr_ := hxt22 _ _ k_mr_
    have k_mk := hxt22 _ _ k_mk
    have k_mo := hxt22 _ _ k_mo
    have k_mh := hxt22 _ _ k_mh
    have k_mhs := hxt22 _ _ k_mhs
    have k_msp := hxt22 _ _ k_msp
    have k_msc := hxt22 _ _ k_msc
    have k_mha := hxt22 _ _ k_mha
    refine W.widen (k := (380 + 3 * n0 + 1)) (n := (194479 + 7491 * n0 + 6)) (by omega) (by omega) ?_
    refine lv_istore (lv' := [(5, .int r24), (4, .int (nI i)), (3, .ref a), (2, .ref h1), (1, .ref h0), (0, .ref b)]) hx hb dL_law_457 hl (by decide) rfl (fun ls hl => ?_)
    refine lv_aload_n hx hb dL_law_459 rfl (lv_at hl 3 rfl) ?_
    refine lv_aload_n hx hb dL_law_460 rfl (lv_at hl 5 rfl) ?_
    refine lv_iload hx hb dL_law_461 (lv_at hl 1 rfl) ?_
    refine lv_iconst (v := nI 1) hx hb dL_law_463 (by decide) ?_
    refine mi_iadd hx hb dL_law_464 ?_
    refine va_sld hx hb hXs hbl hbA hS (vp_in_nI (N := L) (by omega) (by omega)) dL_law_465 ?_
    refine mi_any (fun z25 => ?_)
    refine lv_aload_n hx hb dL_law_466 rfl (lv_at hl 5 rfl) ?_
    refine lv_iload hx hb dL_law_467 (lv_at hl 1 rfl) ?_
    refine lv_iconst (v := nI 2) hx hb dL_law_469 (by decide) ?_
    refine mi_iadd hx hb dL_law_470 ?_
    refine va_sld hx hb hXs hbl hbA hS (vp_in_nI (N := L) (by omega) (by omega)) dL_law_471 ?_
    refine mi_any (fun z26 => ?_)
    refine lv_if_eq (tgt := 479) hx hb dL_law_472 (by decide) (fun h23 => ?_) (fun h23 => ?_)
    · refine lv_iconst (v := nI 0) hx hb dL_law_479 (by decide) ?_
      refine mp_i (cx := [(h1, .inr (8, [.int x0, .int (nI tp), .int (nI rs), .int (nI ks), .ref mt, .ref mr_, .ref mk, .ref mo, .ref mh, .ref mse, .ref mhs, .ref msp, .ref msc, .ref mha])), (mse, .inl (g.2.1 0, 8, .inl fS))]) (wr := [(h0, .inr (0, [.ref kt, .int (nI tl22), .ref ka, .int (nI al22), .ref kp, .int (nI pn22), .ref kks, .ref kds, .ref ksp, .ref kkm, .ref kda])), (a, .inl (g.2.1 2, 1, .inr (.inl fo22)))]) hP hD hS hA [0, 1] [2, 3] rfl rfl rfl (by decide) (va_runV (As := [.int z25, .int (nI 0)]) (rest := []) F (t_M_show l g _ T  pl hO hU  z25 (nI 0) h1 mt mr_ mk mo mh mse mhs msp msc mha tp rs ks x0 fS k_mt k_mr_ k_mk k_mo k_mh k_mhs k_msp k_msc k_mha (by omega) hS5) (cwV 2 hts (wg_app (wg_c kw_1789 (wg_c kw_1790 (wg_c kw_1791 (wg_c kw_9 wg_n)))) kw_1792) rfl rfl rfl (by decide +kernel) ⟨by decide, by decide⟩) (pp_V (en_ok g) (q0 := 0) hK hP hD hS hA hE [0, 1] rfl rfl rfl rfl) rfl rfl hl.1 rfl (lv_room (Nat.le_of_ble_eq_true rfl)) dL_law_480 ⟨by omega, by omega⟩) (fun r25 u29 H locs hu25 hP hD hS => ?_)
      obtain ⟨u30, pl⟩ := u29
      obtain ⟨hq25, hO⟩ := hu25
      obtain ⟨th23, tp23, rs23, ks23, fS23⟩ := u30
      have hP : va_P g.1 vcl ([(h0, .inr (0, [.ref kt, .int (nI tl22), .ref ka, .int (nI al22), .ref kp, .int (nI pn22), .ref kks, .ref kds, .ref ksp, .ref kkm, .ref kda])), (a, .inl (g.2.1 2, 1, .inr (.inl fo22))), (h1, .inr (8, [.int th23, .int (nI tp23), .int (nI rs23), .int (nI ks23), .ref mt, .ref mr_, .ref mk, .ref mo, .ref mh, .ref mse, .ref mhs, .ref msp, .ref msc, .ref mha])), (mse, .inl (g.2.1 0, 8, .inl fS23))] ++ pl) _ := hP
      have hD : va_D _ ([(h0, .inr (0, [.ref kt, .int (nI tl22), .ref ka, .int (nI al22), .ref kp, .int (nI pn22), .ref kks, .ref kds, .ref ksp, .ref kkm, .ref kda])), (a, .inl (g.2.1 2, 1, .inr (.inl fo22))), (h1, .inr (8, [.int th23, .int (nI tp23), .int (nI rs23), .int (nI ks23), .ref mt, .ref mr_, .ref mk, .ref mo, .ref mh, .ref mse, .ref mhs, .ref msp, .ref msc, .ref mha])), (mse, .inl (g.2.1 0, 8, .inl fS23))] ++ pl) := hD
      obtain ⟨hm37, hm38, hm39, hm40⟩ := hq25
      have hm37 : tp23 ≤ 16384 := hm37
      have hm38 : rs23 ≤ 8192 := hm38
      have hm39 : ks23 ≤ 8 := hm39
      refine W.widen (k := (380 + 3 * n0 + 1)) (n := (194479 + 7491 * n0 + 6)) (by omega) (by omega) ?_
      refine lv_istore (lv' := [(6, .int r25), (5, .int r24), (4, .int (nI i)), (3, .ref a), (2, .ref h1), (1, .ref h0), (0, .ref b)]) hx hb dL_law_483 hl (by decide) rfl (fun ls hl => ?_)
      refine lv_goto (tgt := 785) hx hb dL_law_485 (by decide) ?_
      have hP : va_P g.1 vcl ([(h0, .inr (0, [.ref kt, .int (nI tl22), .ref ka, .int (nI al22), .ref kp, .int (nI pn22), .ref kks, .ref kds, .ref ksp, .ref kkm, .ref kda])), (h1, .inr (8, [.int th23, .int (nI tp23), .int (nI rs23), .int (nI ks23), .ref mt, .ref mr_, .ref mk, .ref mo, .ref mh, .ref mse, .ref mhs, .ref msp, .ref msc, .ref mha])), (mse, .inl (g.2.1 0, 8, .inl fS23)), (a, .inl (g.2.1 2, 1, .inr (.inl fo22)))] ++ pl) _ := hP.part [0, 2, 3, 1] rfl
      have hD : va_D _ ([(h0, .inr (0, [.ref kt, .int (nI tl22), .ref ka, .int (nI al22), .ref kp, .int (nI pn22), .ref kks, .ref kds, .ref ksp, .ref kkm, .ref kda])), (h1, .inr (8, [.int th23, .int (nI tp23), .int (nI rs23), .int (nI ks23), .ref mt, .ref mr_, .ref mk, .ref mo, .ref mh, .ref mse, .ref mhs, .ref msp, .ref msc, .ref mha])), (mse, .inl (g.2.1 0, 8, .inl fS23)), (a, .inl (g.2.1 2, 1, .inr (.inl fo22)))] ++ pl) := hD.part [0, 2, 3, 1] (by decide) rfl
      exact W.widen (k := 380 + 3 * n0 + 3) (n := 194479 + 7491 * n0 + 7491) (by omega) (by omega) (next _ _ _ ⟨T, pl, h0, kt, ka, kp, kks, kds, ksp, kkm, kda, tl22, al22, pn22, h1, mt, mr_, mk, mo, mh, mse, mhs, msp, msc, mha, tp23, rs23, ks23, th23, fS23, a, fo22, hO, hU, ⟨by omega, by omega, by omega⟩, ⟨by omega, by omega, by omega⟩, hm40, k_kt, k_ka, k_kp, k_kks, k_kds, k_ksp, k_kkm, k_kda, k_mt, k_mr_, k_mk, k_mo, k_mh, k_mhs, k_msp, k_msc, k_mha, hP, hD, hS, lv_sub hl [2, 3, 4, 5, 6] rfl⟩)
    · refine lv_iconst (v := nI 1) hx hb dL_law_475 (by decide) ?_
      refine lv_goto (tgt := 480) hx hb dL_law_476 (by decide) ?_
      refine mp_i (cx := [(h1, .inr (8, [.int x0, .int (nI tp), .int (nI rs), .int (nI ks), .ref mt, .ref mr_, .ref mk, .ref mo, .ref mh, .ref mse, .ref mhs, .ref msp, .ref msc, .ref mha])), (mse, .inl (g.2.1 0, 8, .inl fS))]) (wr := [(h0, .inr (0, [.ref kt, .int (nI tl22), .ref ka, .int (nI al22), .ref kp, .int (nI pn22), .ref kks, .ref kds, .ref ksp, .ref kkm, .ref kda])), (a, .inl (g.2.1 2, 1, .inr (.inl fo22)))]) hP hD hS hA [0, 1] [2, 3] rfl rfl rfl (by decide) (va_runV (As := [.int z25, .int (nI 1)]) (rest := []) F (t_M_show l g _ T  pl hO hU  z25 (nI 1) h1 mt mr_ mk mo mh mse mhs msp msc mha tp rs ks x0 fS k_mt k_mr_ k_mk k_mo k_mh k_mhs k_msp k_msc k_mha (by omega) hS5) (cwV 2 hts (wg_app (wg_c kw_1789 (wg_c kw_1790 (wg_c kw_1791 (wg_c kw_9 wg_n)))) kw_1792) rfl rfl rfl (by decide +kernel) ⟨by decide, by decide⟩) (pp_V (en_ok g) (q0 := 0) hK hP hD hS hA hE [0, 1] rfl rfl rfl rfl) rfl rfl hl.1 rfl (lv_room (Nat.le_of_ble_eq_true rfl)) dL_law_480 ⟨by omega, by omega⟩) (fun r26 u31 H locs hu26 hP hD hS => ?_)
      obtain ⟨u32, pl⟩ := u31
      obtain ⟨hq26, hO⟩ := hu26
      obtain ⟨th24, tp24, rs24, ks24, fS24⟩ := u32
      have hP : va_P g.1 vcl ([(h0, .inr (0, [.ref kt, .int (nI tl22), .ref ka, .int (nI al22), .ref kp, .int (nI pn22), .ref kks, .ref kds, .ref ksp, .ref kkm, .ref kda])), (a, .inl (g.2.1 2, 1, .inr (.inl fo22))), (h1, .inr (8, [.int th24, .int (nI tp24), .int (nI rs24), .int (nI ks24), .ref mt, .ref mr_, .ref mk, .ref mo, .ref mh, .ref mse, .ref mhs, .ref msp, .ref msc, .ref mha])), (mse, .inl (g.2.1 0, 8, .inl fS24))] ++ pl) _ := hP
      have hD : va_D _ ([(h0, .inr (0, [.ref kt, .int (nI tl22), .ref ka, .int (nI al22), .ref kp, .int (nI pn22), .ref kks, .ref kds, .ref ksp, .ref kkm, .ref kda])), (a, .inl (g.2.1 2, 1, .inr (.inl fo22))), (h1, .inr (8, [.int th24, .int (nI tp24), .int (nI rs24), .int (nI ks24), .ref mt, .ref mr_, .ref mk, .ref mo, .ref mh, .ref mse, .ref mhs, .ref msp, .ref msc, .ref mha])), (mse, .inl (g.2.1 0, 8, .inl fS24))] ++ pl) := hD
      obtain ⟨hm42, hm43, hm44, hm45⟩ := hq26
      have hm42 : tp24 ≤ 16384 := hm42
      have hm43 : rs24 ≤ 8192 := hm43
      have hm44 : ks24 ≤ 8 := hm44
      refine W.widen (k := (380 + 3 * n0 + 1)) (n := (194479 + 7491 * n0 + 6)) (by omega) (by omega) ?_
      refine lv_istore (lv' := [(6, .int r26), (5, .int r24), (4, .int (nI i)), (3, .ref a), (2, .ref h1), (1, .ref h0), (0, .ref b)]) hx hb dL_law_483 hl (by decide) rfl (fun ls hl => ?_)
      refine lv_goto (tgt := 785) hx hb dL_law_485 (by decide) ?_
      have hP : va_P g.1 vcl ([(h0, .inr (0, [.ref kt, .int (nI tl22), .ref ka, .int (nI al22), .ref kp, .int (nI pn22), .ref kks, .ref kds, .ref ksp, .ref kkm, .ref kda])), (h1, .inr (8, [.int th24, .int (nI tp24), .int (nI rs24), .int (nI ks24), .ref mt, .ref mr_, .ref mk, .ref mo, .ref mh, .ref mse, .ref mhs, .ref msp, .ref msc, .ref mha])), (mse, .inl (g.2.1 0, 8, .inl fS24)), (a, .inl (g.2.1 2, 1, .inr (.inl fo22)))] ++ pl) _ := hP.part [0, 2, 3, 1] rfl
      have hD : va_D _ ([(h0, .inr (0, [.ref kt, .int (nI tl22), .ref ka, .int (nI al22), .ref kp, .int (nI pn22), .ref kks, .ref kds, .ref ksp, .ref kkm, .ref kda])), (h1, .inr (8, [.int th24, .int (nI tp24), .int (nI rs24), .int (nI ks24), .ref mt, .ref mr_, .ref mk, .ref mo, .ref mh, .ref mse, .ref mhs, .ref msp, .ref msc, .ref mha])), (mse, .inl (g.2.1 0, 8, .inl fS24)), (a, .inl (g.2.1 2, 1, .inr (.inl fo22)))] ++ pl) := hD.part [0, 2, 3, 1] (by decide) rfl
      exact W.widen (k := 380 + 3 * n0 + 3) (n := 194479 + 7491 * n0 + 7491) (by omega) (by omega) (next _ _ _ ⟨T, pl, h0, kt, ka, kp, kks, kds, ksp, kkm, kda, tl22, al22, pn22, h1, mt, mr_, mk, mo, mh, mse, mhs, msp, msc, mha, tp24, rs24, ks24, th24, fS24, a, fo22, hO, hU, ⟨by omega, by omega, by omega⟩, ⟨by omega, by omega, by omega⟩, hm45, k_kt, k_ka, k_kp, k_kks, k_kds, k_ksp, k_kkm, k_kda, k_mt, k_mr_, k_mk, k_mo, k_mh, k_mhs, k_msp, k_msc, k_mha, hP, hD, hS, lv_sub hl [2, 3, 4, 5, 6] rfl⟩)
