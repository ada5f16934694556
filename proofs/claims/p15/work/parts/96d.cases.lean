set_option maxHeartbeats 4000000 in
set_option maxRecDepth 100000 in
theorem law_hash {p : Program} {e : Env} {s : State} {m : MethodId} {below : List Frame} {meth : Method} {c : Code} (l : Launch) (htr : l.stackTraces = false) {b L : Nat} {xs : Nat → Int32} (hL : L ≤ 3072) (C0 : lw_At p s m meth c b L xs) (g : Gd) (F : CallFix p m c c_L_law 7 s #[Value.ref b] wL "LatticeKeysLaw") (hX : ex g (Alaw s) s s.heap) {n0 i : Nat} (hn0 : n0 < 512) (hi : i = 6 * n0) (hi6 : i + 6 ≤ L) {H : Heap} {locs : List Loc} {ls : Array Slot} (hI : LI g s b i H locs ls) (next : ∀ (H : Heap) (locs : List Loc) (ls : Array Slot), LI g s b i H locs ls → W p l e room_1 s m #[Value.ref b] below meth c H locs (380 + 3 * n0 + 3) (194479 + 7491 * n0 + 7491) (lw_Z below #[Value.ref b] s) (F0 m 785 ls [])) : W p l e room_1 s m #[Value.ref b] below meth c H locs (380 + 3 * n0) (194479 + 7491 * n0) (lw_Z below #[Value.ref b] s) (F0 m 664 ls []) := by
  obtain ⟨hx, hb, hml, hown, hts⟩ := id F
  have hE := hX.1
  have hK := hE.1
  have hA : ∀ q, s.heap.size ≤ q → Alaw s q := fun _ h => h
  obtain ⟨-, -, hr, -, -, -, hXs, hbl, hlk, -⟩ := id C0
  have hbA : ¬ Alaw s b := fun h => Nat.not_lt.mpr h hbl
  obtain ⟨T, pl, h0, kt, ka, kp, kks, kds, ksp, kkm, kda, tl, al, pn, h1, mt, mr_, mk, mo, mh, mse, mhs, msp, msc, mha, tp, rs, ks, x0, fS, a, f, hO, hU, hkb, hmb, hS5, k_kt, k_ka, k_kp, k_kks, k_kds, k_ksp, k_kkm, k_kda, k_mt, k_mr_, k_mk, k_mo, k_mh, k_mhs, k_msp, k_msc, k_mha, hP, hD, hS, hl⟩ := hI
  have hRc : room_1.cells = 601024 := rfl
  have hRs : room_1.slots = 7293034 := rfl
  obtain ⟨v1, hv1⟩ : ∃ z, xs (nI (i + 1)).toNatClampNeg = z := ⟨_, rfl⟩
  obtain ⟨v2, hv2⟩ : ∃ z, xs (nI (i + 2)).toNatClampNeg = z := ⟨_, rfl⟩
  refine lv_aload_n hx hb dL_law_664 rfl (lv_at hl 3 rfl) ?_
  refine lv_aload_n hx hb dL_law_665 rfl (lv_at hl 4 rfl) ?_
  refine lv_iload hx hb dL_law_666 (lv_at hl 0 rfl) ?_
  refine lv_iconst (v := nI 1) hx hb dL_law_668 (by decide) ?_
  refine mi_iadd hx hb dL_law_669 ?_
  refine va_sld hx hb hXs hbl hbA hS (vp_in_nI (N := L) (by omega) (by omega)) dL_law_670 ?_
  refine mi_as hv1 ?_
  refine lv_aload_n hx hb dL_law_671 rfl (lv_at hl 4 rfl) ?_
  refine lv_iload hx hb dL_law_672 (lv_at hl 0 rfl) ?_
  refine lv_iconst (v := nI 2) hx hb dL_law_674 (by decide) ?_
  refine mi_iadd hx hb dL_law_675 ?_
  refine va_sld hx hb hXs hbl hbA hS (vp_in_nI (N := L) (by omega) (by omega)) dL_law_676 ?_
  refine mi_as hv2 ?_
  refine lv_aload_n hx hb dL_law_677 rfl (lv_at hl 1 rfl) ?_
  refine mp_i (cx := [(h0, .inr (0, [.ref kt, .int (nI tl), .ref ka, .int (nI al), .ref kp, .int (nI pn), .ref kks, .ref kds, .ref ksp, .ref kkm, .ref kda])), (a, .inl (g.2.1 2, 1, .inr (.inl f)))]) (wr := [(h1, .inr (8, [.int x0, .int (nI tp), .int (nI rs), .int (nI ks), .ref mt, .ref mr_, .ref mk, .ref mo, .ref mh, .ref mse, .ref mhs, .ref msp, .ref msc, .ref mha])), (mse, .inl (g.2.1 0, 8, .inl fS))]) hP hD hS hA [0, 3] [1, 2] rfl rfl rfl (by decide) (lc_run (As := [.ref h0, .int v1, .int v2, .ref a]) (rest := []) F (lh_hash l htr g _ T  pl hO hU  v1 v2 h0 kt ka kp kks kds ksp kkm kda tl al pn k_kt k_ka k_kp k_kks k_kds k_ksp k_kkm k_kda a f (by omega)) (lc_cw 4 hts (wg_app (wg_c kw_1291 (wg_c kw_1292 (wg_c kw_0 wg_n))) kw_1293) rfl rfl rfl (by decide +kernel) ⟨by decide, by decide⟩) (pp_S (ex_ok g) hP hD hS hA hX [0, 3] rfl rfl) rfl rfl hl.1 rfl (lv_room (Nat.le_of_ble_eq_true rfl)) dL_law_678 ⟨by omega, by omega⟩) (fun r21 u21 H locs hu21 hP hD hS => ?_)
  obtain ⟨u22, pl⟩ := u21
  obtain ⟨hq21, hO⟩ := hu21
  obtain ⟨T, tl21, al21, pn21, fo21⟩ := u22
  have hP : va_P g.1 vcl ([(h1, .inr (8, [.int x0, .int (nI tp), .int (nI rs), .int (nI ks), .ref mt, .ref mr_, .ref mk, .ref mo, .ref mh, .ref mse, .ref mhs, .ref msp, .ref msc, .ref mha])), (mse, .inl (g.2.1 0, 8, .inl fS)), (h0, .inr (0, [.ref kt, .int (nI tl21), .ref ka, .int (nI al21), .ref kp, .int (nI pn21), .ref kks, .ref kds, .ref ksp, .ref kkm, .ref kda])), (a, .inl (g.2.1 2, 1, .inr (.inl fo21)))] ++ pl) _ := hP
  have hD : va_D _ ([(h1, .inr (8, [.int x0, .int (nI tp), .int (nI rs), .int (nI ks), .ref mt, .ref mr_, .ref mk, .ref mo, .ref mh, .ref mse, .ref mhs, .ref msp, .ref msc, .ref mha])), (mse, .inl (g.2.1 0, 8, .inl fS)), (h0, .inr (0, [.ref kt, .int (nI tl21), .ref ka, .int (nI al21), .ref kp, .int (nI pn21), .ref kks, .ref kds, .ref ksp, .ref kkm, .ref kda])), (a, .inl (g.2.1 2, 1, .inr (.inl fo21)))] ++ pl) := hD
  obtain ⟨⟨hm21, hm22, hm23, hxt21, hU⟩, hpo21⟩ := hq21
  have hm21 : tl21 ≤ 16384 := hm21
  have hm22 : al21 ≤ 8192 := hm22
  have hm23 : pn21 ≤ 8 := hm23
  have hxt21 : ext _ T := hxt21
  have hU : uni T := hU
  have hO : okx g T [] pl := hO
  have k_kt := hxt21 _ _ k_kt
  have k_ka := hxt21 _ _ k_ka
  have k_kp := hxt21 _ _ k_kp
  have k_kks := hxt21 _ _ k_kks
  have k_kds := hxt21 _ _ k_kds
  have k_ksp := hxt21 _ _ k_ksp
  have k_kkm := hxt21 _ _ k_kkm
  have k_kda := hxt21 _ _ k_kda
  have k_mt := hxt21 _ _ k_mt
  have k_mr_ := hxt21 _ _ k_mr_
  have k_mk := hxt21 _ _ k_mk
  have k_mo := hxt21 _ _ k_mo
  have k_mh := hxt21 _ _ k_mh
  have k_mhs := hxt21 _ _ k_mhs
  have k_msp := hxt21 _ _ k_msp
  have k_msc := hxt21 _ _ k_msc
  have k_mha := hxt21 _ _ k_mha
  refine W.widen (k := (380 + 3 * n0 + 1)) (n := (194479 + 7491 * n0 + 6)) (by omega) (by omega) ?_
  refine lv_istore (lv' := [(5, .int r21), (4, .int (nI i)), (3, .ref a), (2, .ref h1), (1, .ref h0), (0, .ref b)]) hx hb dL_law_681 hl (by decide) rfl (fun ls hl => ?_)
  refine lv_aload_n hx hb dL_law_683 rfl (lv_at hl 3 rfl) ?_
  refine lv_aload_n hx hb dL_law_684 rfl (lv_at hl 5 rfl) ?_
  refine lv_iload hx hb dL_law_685 (lv_at hl 1 rfl) ?_
  refine lv_iconst (v := nI 1) hx hb dL_law_687 (by decide) ?_
  refine mi_iadd hx hb dL_law_688 ?_
  refine va_sld hx hb hXs hbl hbA hS (vp_in_nI (N := L) (by omega) (by omega)) dL_law_689 ?_
  refine mi_as hv1 ?_
  refine lv_aload_n hx hb dL_law_690 rfl (lv_at hl 5 rfl) ?_
  refine lv_iload hx hb dL_law_691 (lv_at hl 1 rfl) ?_
  refine lv_iconst (v := nI 2) hx hb dL_law_693 (by decide) ?_
  refine mi_iadd hx hb dL_law_694 ?_
  refine va_sld hx hb hXs hbl hbA hS (vp_in_nI (N := L) (by omega) (by omega)) dL_law_695 ?_
  refine mi_as hv2 ?_
  refine mp_i (cx := [(h1, .inr (8, [.int x0, .int (nI tp), .int (nI rs), .int (nI ks), .ref mt, .ref mr_, .ref mk, .ref mo, .ref mh, .ref mse, .ref mhs, .ref msp, .ref msc, .ref mha])), (mse, .inl (g.2.1 0, 8, .inl fS))]) (wr := [(h0, .inr (0, [.ref kt, .int (nI tl21), .ref ka, .int (nI al21), .ref kp, .int (nI pn21), .ref kks, .ref kds, .ref ksp, .ref kkm, .ref kda])), (a, .inl (g.2.1 2, 1, .inr (.inl fo21)))]) hP hD hS hA [0, 1] [2, 3] rfl rfl rfl (by decide) (va_runV (As := [.int v1, .int v2]) (rest := []) F (t_M_hash l g _ T  pl hO hU  v1 v2 h1 mt mr_ mk mo mh mse mhs msp msc mha tp rs ks x0 fS k_mt k_mr_ k_mk k_mo k_mh k_mhs k_msp k_msc k_mha (by omega) hS5) (cwV 2 hts (wg_app (wg_c kw_1934 (wg_c kw_1935 (wg_c kw_1936 (wg_c kw_9 wg_n)))) kw_1937) rfl rfl rfl (by decide +kernel) ⟨by decide, by decide⟩) (pp_V (en_ok g) (q0 := 0) hK hP hD hS hA hE [0, 1] rfl rfl rfl rfl) rfl rfl hl.1 rfl (lv_room (Nat.le_of_ble_eq_true rfl)) dL_law_696 ⟨by omega, by omega⟩) (fun r22 u23 H locs hu22 hP hD hS => ?_)
  obtain ⟨u24, pl⟩ := u23
  obtain ⟨hq22, hO⟩ := hu22
  obtain ⟨th21, tp21, rs21, ks21, fS21⟩ := u24
  have hP : va_P g.1 vcl ([(h0, .inr (0, [.ref kt, .int (nI tl21), .ref ka, .int (nI al21), .ref kp, .int (nI pn21), .ref kks, .ref kds, .ref ksp, .ref kkm, .ref kda])), (a, .inl (g.2.1 2, 1, .inr (.inl fo21))), (h1, .inr (8, [.int th21, .int (nI tp21), .int (nI rs21), .int (nI ks21), .ref mt, .ref mr_, .ref mk, .ref mo, .ref mh, .ref mse, .ref mhs, .ref msp, .ref msc, .ref mha])), (mse, .inl (g.2.1 0, 8, .inl fS21))] ++ pl) _ := hP
  have hD : va_D _ ([(h0, .inr (0, [.ref kt, .int (nI tl21), .ref ka, .int (nI al21), .ref kp, .int (nI pn21), .ref kks, .ref kds, .ref ksp, .ref kkm, .ref kda])), (a, .inl (g.2.1 2, 1, .inr (.inl fo21))), (h1, .inr (8, [.int th21, .int (nI tp21), .int (nI rs21), .int (nI ks21), .ref mt, .ref mr_, .ref mk, .ref mo, .ref mh, .ref mse, .ref mhs, .ref msp, .ref msc, .ref mha])), (mse, .inl (g.2.1 0, 8, .inl fS21))] ++ pl) := hD
  obtain ⟨hm24, hm25, hm26, hm27, hm28⟩ := hq22
  have hm24 : tp21 ≤ 16384 := hm24
  have hm25 : rs21 ≤ 8192 := hm25
  have hm26 : ks21 ≤ 8 := hm26
  refine W.widen (k := (380 + 3 * n0 + 1)) (n := (194479 + 7491 * n0 + 6)) (by omega) (by omega) ?_
  refine lv_istore (lv' := [(6, .int r22), (5, .int r21), (4, .int (nI i)), (3, .ref a), (2, .ref h1), (1, .ref h0), (0, .ref b)]) hx hb dL_law_699 hl (by decide) rfl (fun ls hl => ?_)
  refine lv_aload_n hx hb dL_law_701 rfl (lv_at hl 4 rfl) ?_
  refine mp_i (cx := [(h1, .inr (8, [.int th21, .int (nI tp21), .int (nI rs21), .int (nI ks21), .ref mt, .ref mr_, .ref mk, .ref mo, .ref mh, .ref mse, .ref mhs, .ref msp, .ref msc, .ref mha])), (mse, .inl (g.2.1 0, 8, .inl fS21))]) (wr := [(h0, .inr (0, [.ref kt, .int (nI tl21), .ref ka, .int (nI al21), .ref kp, .int (nI pn21), .ref kks, .ref kds, .ref ksp, .ref kkm, .ref kda])), (a, .inl (g.2.1 2, 1, .inr (.inl fo21)))]) hP hD hS hA [2, 3] [0, 1] rfl rfl rfl (by decide) (va_runV (As := []) (rest := []) F (t_M_thrown l g _ T  pl hO hU  h1 mt mr_ mk mo mh mse mhs msp msc mha tp21 rs21 ks21 th21 fS21 k_mt k_mr_ k_mk k_mo k_mh k_mhs k_msp k_msc k_mha (by omega) hm27) (cwV 0 hts (wg_app (wg_c kw_1569 (wg_c kw_1570 (wg_c kw_1571 (wg_c kw_9 wg_n)))) kw_1572) rfl rfl rfl (by decide +kernel) ⟨by decide, by decide⟩) (pp_V (en_ok g) (q0 := 2) hK hP hD hS hA hE [2, 3] rfl rfl rfl rfl) rfl rfl hl.1 rfl (lv_room (Nat.le_of_ble_eq_true rfl)) dL_law_702 ⟨by omega, by omega⟩) (fun r23 pl H locs hu23 hP hD hS => ?_)
  obtain ⟨hq23, hO⟩ := hu23
  have hP : va_P g.1 vcl ([(h0, .inr (0, [.ref kt, .int (nI tl21), .ref ka, .int (nI al21), .ref kp, .int (nI pn21), .ref kks, .ref kds, .ref ksp, .ref kkm, .ref kda])), (a, .inl (g.2.1 2, 1, .inr (.inl fo21))), (h1, .inr (8, [.int th21, .int (nI tp21), .int (nI rs21), .int (nI ks21), .ref mt, .ref mr_, .ref mk, .ref mo, .ref mh, .ref mse, .ref mhs, .ref msp, .ref msc, .ref mha])), (mse, .inl (g.2.1 0, 8, .inl fS21))] ++ pl) _ := hP
  have hD : va_D _ ([(h0, .inr (0, [.ref kt, .int (nI tl21), .ref ka, .int (nI al21), .ref kp, .int (nI pn21), .ref kks, .ref kds, .ref ksp, .ref kkm, .ref kda])), (a, .inl (g.2.1 2, 1, .inr (.inl fo21))), (h1, .inr (8, [.int th21, .int (nI tp21), .int (nI rs21), .int (nI ks21), .ref mt, .ref mr_, .ref mk, .ref mo, .ref mh, .ref mse, .ref mhs, .ref msp, .ref msc, .ref mha])), (mse, .inl (g.2.1 0, 8, .inl fS21))] ++ pl) := hD
  refine mi_as (show r23 = th21 from hq23) ?_
  refine W.widen (k := (380 + 3 * n0 + 1)) (n := (194479 + 7491 * n0 + 6)) (by omega) (by omega) ?_
  refine lv_iload hx hb dL_law_705 (lv_at hl 1 rfl) ?_
  refine lv_icmp_eq (tgt := 712) hx hb dL_law_707 (by decide) (fun _ => ?_) (fun h9 => absurd (show th21 = r21 from hm28.1.trans hpo21.1.symm) h9)
  refine lv_iload hx hb dL_law_712 (lv_at hl 1 rfl) ?_
  refine lv_if_ne (tgt := 729) hx hb dL_law_714 (by decide) (fun h21 => ?_) (fun h21 => ?_)
  · refine lv_goto (tgt := 785) hx hb dL_law_729 (by decide) ?_
    have hP : va_P g.1 vcl ([(h0, .inr (0, [.ref kt, .int (nI tl21), .ref ka, .int (nI al21), .ref kp, .int (nI pn21), .ref kks, .ref kds, .ref ksp, .ref kkm, .ref kda])), (h1, .inr (8, [.int th21, .int (nI tp21), .int (nI rs21), .int (nI ks21), .ref mt, .ref mr_, .ref mk, .ref mo, .ref mh, .ref mse, .ref mhs, .ref msp, .ref msc, .ref mha])), (mse, .inl (g.2.1 0, 8, .inl fS21)), (a, .inl (g.2.1 2, 1, .inr (.inl fo21)))] ++ pl) _ := hP.part [0, 2, 3, 1] rfl
    have hD : va_D _ ([(h0, .inr (0, [.ref kt, .int (nI tl21), .ref ka, .int (nI al21), .ref kp, .int (nI pn21), .ref kks, .ref kds, .ref ksp, .ref kkm, .ref kda])), (h1, .inr (8, [.int th21, .int (nI tp21), .int (nI rs21), .int (nI ks21), .ref mt, .ref mr_, .ref mk, .ref mo, .ref mh, .ref mse, .ref mhs, .ref msp, .ref msc, .ref mha])), (mse, .inl (g.2.1 0, 8, .inl fS21)), (a, .inl (g.2.1 2, 1, .inr (.inl fo21)))] ++ pl) := hD.part [0, 2, 3, 1] (by decide) rfl
    exact W.widen (k := 380 + 3 * n0 + 3) (n := 194479 + 7491 * n0 + 7491) (by omega) (by omega) (next _ _ _ ⟨T, pl, h0, kt, ka, kp, kks, kds, ksp, kkm, kda, tl21, al21, pn21, h1, mt, mr_, mk, mo, mh, mse, mhs, msp, msc, mha, tp21, rs21, ks21, th21, fS21, a, fo21, hO, hU, ⟨by omega, by omega, by omega⟩, ⟨by omega, by omega, by omega⟩, hm27, k_kt, k_ka, k_kp, k_kks, k_kds, k_ksp, k_kkm, k_kda, k_mt, k_mr_, k_mk, k_mo, k_mh, k_mhs, k_msp, k_msc, k_mha, hP, hD, hS, lv_sub hl [2, 3, 4, 5, 6] rfl⟩)
  · refine lv_aload_n hx hb dL_law_717 rfl (lv_at hl 3 rfl) ?_
    refine lv_iconst (v := nI 0) hx hb dL_law_718 (by decide) ?_
    have hz9 : (hval v1 v2).1 = nI 0 := hpo21.1.symm.trans h21
    refine va_lald hx hb hK hP 1 2 rfl rfl (vp_in_nI (by decide) (by decide)) dL_law_719 ?_
    refine ml_as (show fo21 (nI 0).toNatClampNeg = ((hval v1 v2).2).toInt64 from hpo21.2 hz9) ?_
    refine lv_iload hx hb dL_law_720 (lv_at hl 0 rfl) ?_
    refine mi_as (show r22 = (hval v1 v2).2 from hm28.2 (hm28.1.trans hz9)) ?_
    refine lv_i2l (v := ((hval v1 v2).2).toInt64) hx hb dL_law_722 rfl ?_
    refine W.lcmp hx hb dL_law_723 ?_
    refine mi_as (lc_cmp _) ?_
    refine lv_if_eq (tgt := 729) hx hb dL_law_724 (by decide) (fun h22 => ?_) (fun h22 => absurd h22 (by decide))
    refine lv_goto (tgt := 785) hx hb dL_law_729 (by decide) ?_
    have hP : va_P g.1 vcl ([(h0, .inr (0, [.ref kt, .int (nI tl21), .ref ka, .int (nI al21), .ref kp, .int (nI pn21), .ref kks, .ref kds, .ref ksp, .ref kkm, .ref kda])), (h1, .inr (8, [.int th21, .int (nI tp21), .int (nI rs21), .int (nI ks21), .ref mt, .ref mr_, .ref mk, .ref mo, .ref mh, .ref mse, .ref mhs, .ref msp, .ref msc, .ref mha])), (mse, .inl (g.2.1 0, 8, .inl fS21)), (a, .inl (g.2.1 2, 1, .inr (.inl fo21)))] ++ pl) _ := hP.part [0, 2, 3, 1] rfl
    have hD : va_D _ ([(h0, .inr (0, [.ref kt, .int (nI tl21), .ref ka, .int (nI al21), .ref kp, .int (nI pn21), .ref kks, .ref kds, .ref ksp, .ref kkm, .ref kda])), (h1, .inr (8, [.int th21, .int (nI tp21), .int (nI rs21), .int (nI ks21), .ref mt, .ref mr_, .ref mk, .ref mo, .ref mh, .ref mse, .ref mhs, .ref msp, .ref msc, .ref mha])), (mse, .inl (g.2.1 0, 8, .inl fS21)), (a, .inl (g.2.1 2, 1, .inr (.inl fo21)))] ++ pl) := hD.part [0, 2, 3, 1] (by decide) rfl
    exact W.widen (k := 380 + 3 * n0 + 3) (n := 194479 + 7491 * n0 + 7491) (by omega) (by omega) (next _ _ _ ⟨T, pl, h0, kt, ka, kp, kks, kds, ksp, kkm, kda, tl21, al21, pn21, h1, mt, mr_, mk, mo, mh, mse, mhs, msp, msc, mha, tp21, rs21, ks21, th21, fS21, a, fo21, hO, hU, ⟨by omega, by omega, by omega⟩, ⟨by omega, by omega, by omega⟩, hm27, k_kt, k_ka, k_kp, k_kks, k_kds, k_ksp, k_kkm, k_kda, k_mt, k_mr_, k_mk, k_mo, k_mh, k_mhs, k_msp, k_msc, k_mha, hP, hD, hS, lv_sub hl [2, 3, 4, 5, 6] rfl⟩)
set_option maxHeartbeats 4000000 in
set_option maxRecDepth 100000 in
theorem law_result {p : Program} {e : Env} {s : State} {m : MethodId} {below : List Frame} {meth : Method} {c : Code} (l : Launch) (htr : l.stackTraces = false) {b L : Nat} {xs : Nat → Int32} (hL : L ≤ 3072) (C0 : lw_At p s m meth c b L xs) (g : Gd) (F : CallFix p m c c_L_law 7 s #[Value.ref b] wL "LatticeKeysLaw") (hX : ex g (Alaw s) s s.heap) {n0 i : Nat} (hn0 : n0 < 512) (hi : i = 6 * n0) (hi6 : i + 6 ≤ L) {H : Heap} {locs : List Loc} {ls : Array Slot} (hI : LI g s b i H locs ls) (next : ∀ (H : Heap) (locs : List Loc) (ls : Array Slot), LI g s b i H locs ls → W p l e room_1 s m #[Value.ref b] below meth c H locs (380 + 3 * n0 + 3) (194479 + 7491 * n0 + 7491) (lw_Z below #[Value.ref b] s) (F0 m 785 ls [])) : W p l e room_1 s m #[Value.ref b] below meth c H locs (380 + 3 * n0) (194479 + 7491 * n0) (lw_Z below #[Value.ref b] s) (F0 m 732 ls []) := by
  obtain ⟨hx, hb, hml, hown, hts⟩ := id F
  have hE := hX.1
  have hK := hE.1
  have hA : ∀ q, s.heap.size ≤ q → Alaw s q := fun _ h => h
  obtain ⟨-, -, hr, -, -, -, hXs, hbl, hlk, -⟩ := id C0
  have hbA : ¬ Alaw s b := fun h => Nat.not_lt.mpr h hbl
  obtain ⟨T, pl, h0, kt, ka, kp, kks, kds, ksp, kkm, kda, tl, al, pn, h1, mt, mr_, mk, mo, mh, mse, mhs, msp, msc, mha, tp, rs, ks, x0, fS, a, f, hO, hU, hkb, hmb, hS5, k_kt, k_ka, k_kp, k_kks, k_kds, k_ksp, k_kkm, k_kda, k_mt, k_mr_, k_mk, k_mo, k_mh, k_mhs, k_msp, k_msc, k_mha, hP, hD, hS, hl⟩ := hI
  have hRc : room_1.cells = 601024 := rfl
  have hRs : room_1.slots = 7293034 := rfl
  refine lv_aload_n hx hb dL_law_732 rfl (lv_at hl 3 rfl) ?_
  refine lv_aload_n hx hb dL_law_733 rfl (lv_at hl 4 rfl) ?_
  refine lv_iload hx hb dL_law_734 (lv_at hl 0 rfl) ?_
  refine lv_iconst (v := nI 1) hx hb dL_law_736 (by decide) ?_
  refine mi_iadd hx hb dL_law_737 ?_
  refine va_sld hx hb hXs hbl hbA hS (vp_in_nI (N := L) (by omega) (by omega)) dL_law_738 ?_
  refine mi_any (fun z21 => ?_)
  refine lv_aload_n hx hb dL_law_739 rfl (lv_at hl 1 rfl) ?_
  refine mp_i (cx := [(h0, .inr (0, [.ref kt, .int (nI tl), .ref ka, .int (nI al), .ref kp, .int (nI pn), .ref kks, .ref kds, .ref ksp, .ref kkm, .ref kda])), (a, .inl (g.2.1 2, 1, .inr (.inl f)))]) (wr := [(h1, .inr (8, [.int x0, .int (nI tp), .int (nI rs), .int (nI ks), .ref mt, .ref mr_, .ref mk, .ref mo, .ref mh, .ref mse, .ref mhs, .ref msp, .ref msc, .ref mha])), (mse, .inl (g.2.1 0, 8, .inl fS))]) hP hD hS hA [0, 3] [1, 2] rfl rfl rfl (by decide) (lc_run (As := [.ref h0, .int z21, .ref a]) (rest := []) F (lh_result l htr g _ T  pl hO hU  z21 h0 kt ka kp kks kds ksp kkm kda tl al pn k_kt k_ka k_kp k_kks k_kds k_ksp k_kkm k_kda a f (by omega)) (lc_cw 3 hts (wg_app (wg_c kw_1303 (wg_c kw_1304 (wg_c kw_0 wg_n))) kw_1305) rfl rfl rfl (by decide +kernel) ⟨by decide, by decide⟩) (pp_S (ex_ok g) hP hD hS hA hX [0, 3] rfl rfl) rfl rfl hl.1 rfl (lv_room (Nat.le_of_ble_eq_true rfl)) dL_law_740 ⟨by omega, by omega⟩) (fun r21 u21 H locs hu21 hP hD hS => ?_)
  obtain ⟨u22, pl⟩ := u21
  obtain ⟨hq21, hO⟩ := hu21
  obtain ⟨T, tl21, al21, pn21, fo21⟩ := u22
  have hP : va_P g.1 vcl ([(h1, .inr (8, [.int x0, .int (nI tp), .int (nI rs), .int (nI ks), .ref mt, .ref mr_, .ref mk, .ref mo, .ref mh, .ref mse, .ref mhs, .ref msp, .ref msc, .ref mha])), (mse, .inl (g.2.1 0, 8, .inl fS)), (h0, .inr (0, [.ref kt, .int (nI tl21), .ref ka, .int (nI al21), .ref kp, .int (nI pn21), .ref kks, .ref kds, .ref ksp, .ref kkm, .ref kda])), (a, .inl (g.2.1 2, 1, .inr (.inl fo21)))] ++ pl) _ := hP
  have hD : va_D _ ([(h1, .inr (8, [.int x0, .int (nI tp), .int (nI rs), .int (nI ks), .ref mt, .ref mr_, .ref mk, .ref mo, .ref mh, .ref mse, .ref mhs, .ref msp, .ref msc, .ref mha])), (mse, .inl (g.2.1 0, 8, .inl fS)), (h0, .inr (0, [.ref kt, .int (nI tl21), .ref ka, .int (nI al21), .ref kp, .int (nI pn21), .ref kks, .ref kds, .ref ksp, .ref kkm, .ref kda])), (a, .inl (g.2.1 2, 1, .inr (.inl fo21)))] ++ pl) := hD
  obtain ⟨⟨hm21, hm22, hm23, hxt21, hU⟩, hpo21⟩ := hq21
  have hm21 : tl21 ≤ 16384 := hm21
  have hm22 : al21 ≤ 8192 := hm22
  have hm23 : pn21 ≤ 8 := hm23
  have hxt21 : ext _ T := hxt21
  have hU : uni T := hU
  have hO : okx g T [] pl := hO
  have k_kt := hxt21 _ _ k_kt
  have k_ka := hxt21 _ _ k_ka
  have k_kp := hxt21 _ _ k_kp
  have k_kks := hxt21 _ _ k_kks
  have k_kds := hxt21 _ _ k_kds
  have k_ksp := hxt21 _ _ k_ksp
  have k_kkm := hxt21 _ _ k_kkm
  have k_kda := hxt21 _ _ k_kda
  have k_mt := hxt21 _ _ k_mt
  have k_mr_ := hxt21 _ _ k_mr_
  have k_mk := hxt21 _ _ k_mk
  have k_mo := hxt21 _ _ k_mo
  have k_mh := hxt21 _ _ k_mh
  have k_mhs := hxt21 _ _ k_mhs
  have k_msp := hxt21 _ _ k_msp
  have k_msc := hxt21 _ _ k_msc
  have k_mha := hxt21 _ _ k_mha
  refine W.widen (k := (380 + 3 * n0 + 1)) (n := (194479 + 7491 * n0 + 6)) (by omega) (by omega) ?_
  refine lv_istore (lv' := [(5, .int r21), (4, .int (nI i)), (3, .ref a), (2, .ref h1), (1, .ref h0), (0, .ref b)]) hx hb dL_law_743 hl (by decide) rfl (fun ls hl => ?_)
  refine lv_aload_n hx hb dL_law_745 rfl (lv_at hl 3 rfl) ?_
  refine lv_aload_n hx hb dL_law_746 rfl (lv_at hl 5 rfl) ?_
  refine lv_iload hx hb dL_law_747 (lv_at hl 1 rfl) ?_
  refine lv_iconst (v := nI 1) hx hb dL_law_749 (by decide) ?_
  refine mi_iadd hx hb dL_law_750 ?_
  refine va_sld hx hb hXs hbl hbA hS (vp_in_nI (N := L) (by omega) (by omega)) dL_law_751 ?_
  refine mi_any (fun z22 => ?_)
  refine mp_i (cx := [(h1, .inr (8, [.int x0, .int (nI tp), .int (nI rs), .int (nI ks), .ref mt, .ref mr_, .ref mk, .ref mo, .ref mh, .ref mse, .ref mhs, .ref msp, .ref msc, .ref mha])), (mse, .inl (g.2.1 0, 8, .inl fS))]) (wr := [(h0, .inr (0, [.ref kt, .int (nI tl21), .ref ka, .int (nI al21), .ref kp, .int (nI pn21), .ref kks, .ref kds, .ref ksp, .ref kkm, .ref kda])), (a, .inl (g.2.1 2, 1, .inr (.inl fo21)))]) hP hD hS hA [0, 1] [2, 3] rfl rfl rfl (by decide) (va_runV (As := [.int z22]) (rest := []) F (t_M_result l g _ T  pl hO hU  z22 h1 mt mr_ mk mo mh mse mhs msp msc mha tp rs ks x0 fS k_mt k_mr_ k_mk k_mo k_mh k_mhs k_msp k_msc k_mha (by omega) hS5) (cwV 1 hts (wg_app (wg_c kw_1942 (wg_c kw_1943 (wg_c kw_1944 (wg_c kw_9 wg_n)))) kw_1945) rfl rfl rfl (by decide +kernel) ⟨by decide, by decide⟩) (pp_V (en_ok g) (q0 := 0) hK hP hD hS hA hE [0, 1] rfl rfl rfl rfl) rfl rfl hl.1 rfl (lv_room (Nat.le_of_ble_eq_true rfl)) dL_law_752 ⟨by omega, by omega⟩) (fun r22 u23 H locs hu22 hP hD hS => ?_)
  obtain ⟨u24, pl⟩ := u23
  obtain ⟨hq22, hO⟩ := hu22
  obtain ⟨th21, tp21, rs21, ks21, fS21⟩ := u24
  have hP : va_P g.1 vcl ([(h0, .inr (0, [.ref kt, .int (nI tl21), .ref ka, .int (nI al21), .ref kp, .int (nI pn21), .ref kks, .ref kds, .ref ksp, .ref kkm, .ref kda])), (a, .inl (g.2.1 2, 1, .inr (.inl fo21))), (h1, .inr (8, [.int th21, .int (nI tp21), .int (nI rs21), .int (nI ks21), .ref mt, .ref mr_, .ref mk, .ref mo, .ref mh, .ref mse, .ref mhs, .ref msp, .ref msc, .ref mha])), (mse, .inl (g.2.1 0, 8, .inl fS21))] ++ pl) _ := hP
  have hD : va_D _ ([(h0, .inr (0, [.ref kt, .int (nI tl21), .ref ka, .int (nI al21), .ref kp, .int (nI pn21), .ref kks, .ref kds, .ref ksp, .ref kkm, .ref kda])), (a, .inl (g.2.1 2, 1, .inr (.inl fo21))), (h1, .inr (8, [.int th21, .int (nI tp21), .int (nI rs21), .int (nI ks21), .ref mt, .ref mr_, .ref mk, .ref mo, .ref mh, .ref mse, .ref mhs, .ref msp, .ref msc, .ref mha])), (mse, .inl (g.2.1 0, 8, .inl fS21))] ++ pl) := hD
  obtain ⟨hm24, hm25, hm26, hm27⟩ := hq22
  have hm24 : tp21 ≤ 16384 := hm24
  have hm25 : rs21 ≤ 8192 := hm25
  have hm26 : ks21 ≤ 8 := hm26
  refine W.widen (k := (380 + 3 * n0 + 1)) (n := (194479 + 7491 * n0 + 6)) (by omega) (by omega) ?_
  refine lv_istore (lv' := [(6, .int r22), (5, .int r21), (4, .int (nI i)), (3, .ref a), (2, .ref h1), (1, .ref h0), (0, .ref b)]) hx hb dL_law_755 hl (by decide) rfl (fun ls hl => ?_)
  refine lv_goto (tgt := 785) hx hb dL_law_757 (by decide) ?_
  have hP : va_P g.1 vcl ([(h0, .inr (0, [.ref kt, .int (nI tl21), .ref ka, .int (nI al21), .ref kp, .int (nI pn21), .ref kks, .ref kds, .ref ksp, .ref kkm, .ref kda])), (h1, .inr (8, [.int th21, .int (nI tp21), .int (nI rs21), .int (nI ks21), .ref mt, .ref mr_, .ref mk, .ref mo, .ref mh, .ref mse, .ref mhs, .ref msp, .ref msc, .ref mha])), (mse, .inl (g.2.1 0, 8, .inl fS21)), (a, .inl (g.2.1 2, 1, .inr (.inl fo21)))] ++ pl) _ := hP.part [0, 2, 3, 1] rfl
  have hD : va_D _ ([(h0, .inr (0, [.ref kt, .int (nI tl21), .ref ka, .int (nI al21), .ref kp, .int (nI pn21), .ref kks, .ref kds, .ref ksp, .ref kkm, .ref kda])), (h1, .inr (8, [.int th21, .int (nI tp21), .int (nI rs21), .int (nI ks21), .ref mt, .ref mr_, .ref mk, .ref mo, .ref mh, .ref mse, .ref mhs, .ref msp, .ref msc, .ref mha])), (mse, .inl (g.2.1 0, 8, .inl fS21)), (a, .inl (g.2.1 2, 1, .inr (.inl fo21)))] ++ pl) := hD.part [0, 2, 3, 1] (by decide) rfl
  exact W.widen (k := 380 + 3 * n0 + 3) (n := 194479 + 7491 * n0 + 7491) (by omega) (by omega) (next _ _ _ ⟨T, pl, h0, kt, ka, kp, kks, kds, ksp, kkm, kda, tl21, al21, pn21, h1, mt, mr_, mk, mo, mh, mse, mhs, msp, msc, mha, tp21, rs21, ks21, th21, fS21, a, fo21, hO, hU, ⟨by omega, by omega, by omega⟩, ⟨by omega, by omega, by omega⟩, hm27, k_kt, k_ka, k_kp, k_kks, k_kds, k_ksp, k_kkm, k_kda, k_mt, k_mr_, k_mk, k_mo, k_mh, k_mhs, k_msp, k_msc, k_mha, hP, hD, hS, lv_sub hl [2, 3, 4, 5, 6] rfl⟩)
set_option maxHeartbeats 4000000 in
set_option maxRecDepth 100000 in
theorem law_count {p : Program} {e : Env} {s : State} {m : MethodId} {below : List Frame} {meth : Method} {c : Code} (l : Launch) (htr : l.stackTraces = false) {b L : Nat} {xs : Nat → Int32} (hL : L ≤ 3072) (C0 : lw_At p s m meth c b L xs) (g : Gd) (F : CallFix p m c c_L_law 7 s #[Value.ref b] wL "LatticeKeysLaw") (hX : ex g (Alaw s) s s.heap) {n0 i : Nat} (hn0 : n0 < 512) (hi : i = 6 * n0) (hi6 : i + 6 ≤ L) {H : Heap} {locs : List Loc} {ls : Array Slot} (hI : LI g s b i H locs ls) (next : ∀ (H : Heap) (locs : List Loc) (ls : Array Slot), LI g s b i H locs ls → W p l e room_1 s m #[Value.ref b] below meth c H locs (380 + 3 * n0 + 3) (194479 + 7491 * n0 + 7491) (lw_Z below #[Value.ref b] s) (F0 m 785 ls [])) : W p l e room_1 s m #[Value.ref b] below meth c H locs (380 + 3 * n0) (194479 + 7491 * n0) (lw_Z below #[Value.ref b] s) (F0 m 760 ls []) := by
  obtain ⟨hx, hb, hml, hown, hts⟩ := id F
  have hE := hX.1
  have hK := hE.1
  have hA : ∀ q, s.heap.size ≤ q → Alaw s q := fun _ h => h
  obtain ⟨-, -, hr, -, -, -, hXs, hbl, hlk, -⟩ := id C0
  have hbA : ¬ Alaw s b := fun h => Nat.not_lt.mpr h hbl
  obtain ⟨T, pl, h0, kt, ka, kp, kks, kds, ksp, kkm, kda, tl, al, pn, h1, mt, mr_, mk, mo, mh, mse, mhs, msp, msc, mha, tp, rs, ks, x0, fS, a, f, hO, hU, hkb, hmb, hS5, k_kt, k_ka, k_kp, k_kks, k_kds, k_ksp, k_kkm, k_kda, k_mt, k_mr_, k_mk, k_mo, k_mh, k_mhs, k_msp, k_msc, k_mha, hP, hD, hS, hl⟩ := hI
  have hRc : room_1.cells = 601024 := rfl
  have hRs : room_1.slots = 7293034 := rfl
  refine lv_aload_n hx hb dL_law_760 rfl (lv_at hl 3 rfl) ?_
  refine lv_aload_n hx hb dL_law_761 rfl (lv_at hl 4 rfl) ?_
  refine lv_iload hx hb dL_law_762 (lv_at hl 0 rfl) ?_
  refine lv_iconst (v := nI 1) hx hb dL_law_764 (by decide) ?_
  refine mi_iadd hx hb dL_law_765 ?_
  refine va_sld hx hb hXs hbl hbA hS (vp_in_nI (N := L) (by omega) (by omega)) dL_law_766 ?_
  refine mi_any (fun z21 => ?_)
  refine mp_i (cx := [(h0, .inr (0, [.ref kt, .int (nI tl), .ref ka, .int (nI al), .ref kp, .int (nI pn), .ref kks, .ref kds, .ref ksp, .ref kkm, .ref kda]))]) (wr := [(h1, .inr (8, [.int x0, .int (nI tp), .int (nI rs), .int (nI ks), .ref mt, .ref mr_, .ref mk, .ref mo, .ref mh, .ref mse, .ref mhs, .ref msp, .ref msc, .ref mha])), (mse, .inl (g.2.1 0, 8, .inl fS)), (a, .inl (g.2.1 2, 1, .inr (.inl f)))]) hP hD hS hA [0] [1, 2, 3] rfl rfl rfl (by decide) (va_runV (As := [.int z21]) (rest := []) F (t_K_count l g _ T  pl hO hU  z21 h0 kt ka kp kks kds ksp kkm kda tl al pn k_kt k_ka k_kp k_kks k_kds k_ksp k_kkm k_kda (by omega)) (cwV 1 hts (wg_app (wg_c kw_408 (wg_c kw_409 (wg_c kw_410 (wg_c kw_1 wg_n)))) kw_411) rfl rfl rfl (by decide +kernel) ⟨by decide, by decide⟩) (pp_V (en_ok g) (q0 := 0) hK hP hD hS hA hE [0] rfl rfl rfl rfl) rfl rfl hl.1 rfl (lv_room (Nat.le_of_ble_eq_true rfl)) dL_law_767 ⟨by omega, by omega⟩) (fun r21 pl H locs hu21 hP hD hS => ?_)
  obtain ⟨hq21, hO⟩ := hu21
  have hP : va_P g.1 vcl ([(h1, .inr (8, [.int x0, .int (nI tp), .int (nI rs), .int (nI ks), .ref mt, .ref mr_, .ref mk, .ref mo, .ref mh, .ref mse, .ref mhs, .ref msp, .ref msc, .ref mha])), (mse, .inl (g.2.1 0, 8, .inl fS)), (a, .inl (g.2.1 2, 1, .inr (.inl f))), (h0, .inr (0, [.ref kt, .int (nI tl), .ref ka, .int (nI al), .ref kp, .int (nI pn), .ref kks, .ref kds, .ref ksp, .ref kkm, .ref kda]))] ++ pl) _ := hP
  have hD : va_D _ ([(h1, .inr (8, [.int x0, .int (nI tp), .int (nI rs), .int (nI ks), .ref mt, .ref mr_, .ref mk, .ref mo, .ref mh, .ref mse, .ref mhs, .ref msp, .ref msc, .ref mha])), (mse, .inl (g.2.1 0, 8, .inl fS)), (a, .inl (g.2.1 2, 1, .inr (.inl f))), (h0, .inr (0, [.ref kt, .int (nI tl), .ref ka, .int (nI al), .ref kp, .int (nI pn), .ref kks, .ref kds, .ref ksp, .ref kkm, .ref kda]))] ++ pl) := hD
  refine W.widen (k := (380 + 3 * n0)) (n := (194479 + 7491 * n0)) (by omega) (by omega) ?_
  refine lv_pop hx hb dL_law_770 rfl ?_
  refine lv_aload_n hx hb dL_law_771 rfl (lv_at hl 2 rfl) ?_
  refine lv_aload_n hx hb dL_law_772 rfl (lv_at hl 4 rfl) ?_
  refine lv_iload hx hb dL_law_773 (lv_at hl 0 rfl) ?_
  refine lv_iconst (v := nI 1) hx hb dL_law_775 (by decide) ?_
  refine mi_iadd hx hb dL_law_776 ?_
  refine va_sld hx hb hXs hbl hbA hS (vp_in_nI (N := L) (by omega) (by omega)) dL_law_777 ?_
  refine mi_any (fun z22 => ?_)
  refine mp_i (cx := [(h1, .inr (8, [.int x0, .int (nI tp), .int (nI rs), .int (nI ks), .ref mt, .ref mr_, .ref mk, .ref mo, .ref mh, .ref mse, .ref mhs, .ref msp, .ref msc, .ref mha])), (mse, .inl (g.2.1 0, 8, .inl fS))]) (wr := [(a, .inl (g.2.1 2, 1, .inr (.inl f))), (h0, .inr (0, [.ref kt, .int (nI tl), .ref ka, .int (nI al), .ref kp, .int (nI pn), .ref kks, .ref kds, .ref ksp, .ref kkm, .ref kda]))]) hP hD hS hA [0, 1] [2, 3] rfl rfl rfl (by decide) (va_runV (As := [.int z22]) (rest := []) F (t_M_count l g _ T  pl hO hU  z22 h1 mt mr_ mk mo mh mse mhs msp msc mha tp rs ks x0 fS k_mt k_mr_ k_mk k_mo k_mh k_mhs k_msp k_msc k_mha (by omega) hS5) (cwV 1 hts (wg_app (wg_c kw_1946 (wg_c kw_1947 (wg_c kw_1948 (wg_c kw_9 wg_n)))) kw_1949) rfl rfl rfl (by decide +kernel) ⟨by decide, by decide⟩) (pp_V (en_ok g) (q0 := 0) hK hP hD hS hA hE [0, 1] rfl rfl rfl rfl) rfl rfl hl.1 rfl (lv_room (Nat.le_of_ble_eq_true rfl)) dL_law_778 ⟨by omega, by omega⟩) (fun r22 u21 H locs hu22 hP hD hS => ?_)
  obtain ⟨u22, pl⟩ := u21
  obtain ⟨hq22, hO⟩ := hu22
  obtain ⟨th21, tp21, rs21, ks21, fS21⟩ := u22
  have hP : va_P g.1 vcl ([(a, .inl (g.2.1 2, 1, .inr (.inl f))), (h0, .inr (0, [.ref kt, .int (nI tl), .ref ka, .int (nI al), .ref kp, .int (nI pn), .ref kks, .ref kds, .ref ksp, .ref kkm, .ref kda])), (h1, .inr (8, [.int th21, .int (nI tp21), .int (nI rs21), .int (nI ks21), .ref mt, .ref mr_, .ref mk, .ref mo, .ref mh, .ref mse, .ref mhs, .ref msp, .ref msc, .ref mha])), (mse, .inl (g.2.1 0, 8, .inl fS21))] ++ pl) _ := hP
  have hD : va_D _ ([(a, .inl (g.2.1 2, 1, .inr (.inl f))), (h0, .inr (0, [.ref kt, .int (nI tl), .ref ka, .int (nI al), .ref kp, .int (nI pn), .ref kks, .ref kds, .ref ksp, .ref kkm, .ref kda])), (h1, .inr (8, [.int th21, .int (nI tp21), .int (nI rs21), .int (nI ks21), .ref mt, .ref mr_, .ref mk, .ref mo, .ref mh, .ref mse, .ref mhs, .ref msp, .ref msc, .ref mha])), (mse, .inl (g.2.1 0, 8, .inl fS21))] ++ pl) := hD
  obtain ⟨hm21, hm22, hm23, hm24⟩ := hq22
  have hm21 : tp21 ≤ 16384 := hm21
  have hm22 : rs21 ≤ 8192 := hm22
  have hm23 : ks21 ≤ 8 := hm23
  refine W.widen (k := (380 + 3 * n0)) (n := (194479 + 7491 * n0)) (by omega) (by omega) ?_
  refine lv_pop hx hb dL_law_781 rfl ?_
  refine lv_goto (tgt := 785) hx hb dL_law_782 (by decide) ?_
  have hP : va_P g.1 vcl ([(h0, .inr (0, [.ref kt, .int (nI tl), .ref ka, .int (nI al), .ref kp, .int (nI pn), .ref kks, .ref kds, .ref ksp, .ref kkm, .ref kda])), (h1, .inr (8, [.int th21, .int (nI tp21), .int (nI rs21), .int (nI ks21), .ref mt, .ref mr_, .ref mk, .ref mo, .ref mh, .ref mse, .ref mhs, .ref msp, .ref msc, .ref mha])), (mse, .inl (g.2.1 0, 8, .inl fS21)), (a, .inl (g.2.1 2, 1, .inr (.inl f)))] ++ pl) _ := hP.part [1, 2, 3, 0] rfl
  have hD : va_D _ ([(h0, .inr (0, [.ref kt, .int (nI tl), .ref ka, .int (nI al), .ref kp, .int (nI pn), .ref kks, .ref kds, .ref ksp, .ref kkm, .ref kda])), (h1, .inr (8, [.int th21, .int (nI tp21), .int (nI rs21), .int (nI ks21), .ref mt, .ref mr_, .ref mk, .ref mo, .ref mh, .ref mse, .ref mhs, .ref msp, .ref msc, .ref mha])), (mse, .inl (g.2.1 0, 8, .inl fS21)), (a, .inl (g.2.1 2, 1, .inr (.inl f)))] ++ pl) := hD.part [1, 2, 3, 0] (by decide) rfl
  exact W.widen (k := 380 + 3 * n0 + 3) (n := 194479 + 7491 * n0 + 7491) (by omega) (by omega) (next _ _ _ ⟨T, pl, h0, kt, ka, kp, kks, kds, ksp, kkm, kda, tl, al, pn, h1, mt, mr_, mk, mo, mh, mse, mhs, msp, msc, mha, tp21, rs21, ks21, th21, fS21, a, f, hO, hU, ⟨by omega, by omega, by omega⟩, ⟨by omega, by omega, by omega⟩, hm24, k_kt, k_ka, k_kp, k_kks, k_kds, k_ksp, k_kkm, k_kda, k_mt, k_mr_, k_mk, k_mo, k_mh, k_mhs, k_msp, k_msc, k_mha, hP, hD, hS, lv_sub hl [0, 1, 2, 3, 4] rfl⟩)
