set_option maxHeartbeats 4000000 in
set_option maxRecDepth 100000 in
theorem law_feed {p : Program} {e : Env} {s : State} {m : MethodId} {below : List Frame} {meth : Method} {c : Code} (l : Launch) (htr : l.stackTraces = false) {b L : Nat} {xs : Nat → Int32} (hL : L ≤ 3072) (C0 : lw_At p s m meth c b L xs) (g : Gd) (F : CallFix p m c c_L_law 7 s #[Value.ref b] wL "LatticeKeysLaw") (hX : ex g (Alaw s) s s.heap) {n0 i : Nat} (hn0 : n0 < 512) (hi : i = 6 * n0) (hi6 : i + 6 ≤ L) {H : Heap} {locs : List Loc} {ls : Array Slot} (hI : LI g s b i H locs ls) (next : ∀ (H : Heap) (locs : List Loc) (ls : Array Slot), LI g s b i H locs ls → W p l e room_1 s m #[Value.ref b] below meth c H locs (380 + 3 * n0 + 3) (194479 + 7491 * n0 + 7491) (lw_Z below #[Value.ref b] s) (F0 m 785 ls [])) : W p l e room_1 s m #[Value.ref b] below meth c H locs (380 + 3 * n0) (194479 + 7491 * n0) (lw_Z below #[Value.ref b] s) (F0 m 120 ls []) := by
  obtain ⟨hx, hb, hml, hown, hts⟩ := id F
  have hE := hX.1
  have hK := hE.1
  have hA : ∀ q, s.heap.size ≤ q → Alaw s q := fun _ h => h
  obtain ⟨-, -, hr, -, -, -, hXs, hbl, hlk, -⟩ := id C0
  have hbA : ¬ Alaw s b := fun h => Nat.not_lt.mpr h hbl
  obtain ⟨T, pl, h0, kt, ka, kp, kks, kds, ksp, kkm, kda, tl, al, pn, h1, mt, mr_, mk, mo, mh, mse, mhs, msp, msc, mha, tp, rs, ks, x0, fS, a, f, hO, hU, hkb, hmb, hS5, k_kt, k_ka, k_kp, k_kks, k_kds, k_ksp, k_kkm, k_kda, k_mt, k_mr_, k_mk, k_mo, k_mh, k_mhs, k_msp, k_msc, k_mha, hP, hD, hS, hl⟩ := hI
  have hRc : room_1.cells = 601024 := rfl
  have hRs : room_1.slots = 7293034 := rfl
  refine lv_aload_n hx hb dL_law_120 rfl (lv_at hl 3 rfl) ?_
  refine lv_aload_n hx hb dL_law_121 rfl (lv_at hl 4 rfl) ?_
  refine lv_iload hx hb dL_law_122 (lv_at hl 0 rfl) ?_
  refine lv_iconst (v := nI 1) hx hb dL_law_124 (by decide) ?_
  refine mi_iadd hx hb dL_law_125 ?_
  refine va_sld hx hb hXs hbl hbA hS (vp_in_nI (N := L) (by omega) (by omega)) dL_law_126 ?_
  refine mi_any (fun z21 => ?_)
  refine lv_aload_n hx hb dL_law_127 rfl (lv_at hl 4 rfl) ?_
  refine lv_iload hx hb dL_law_128 (lv_at hl 0 rfl) ?_
  refine lv_iconst (v := nI 2) hx hb dL_law_130 (by decide) ?_
  refine mi_iadd hx hb dL_law_131 ?_
  refine va_sld hx hb hXs hbl hbA hS (vp_in_nI (N := L) (by omega) (by omega)) dL_law_132 ?_
  refine mi_any (fun z22 => ?_)
  refine lv_aload_n hx hb dL_law_133 rfl (lv_at hl 4 rfl) ?_
  refine lv_iload hx hb dL_law_134 (lv_at hl 0 rfl) ?_
  refine lv_iconst (v := nI 3) hx hb dL_law_136 (by decide) ?_
  refine mi_iadd hx hb dL_law_137 ?_
  refine va_sld hx hb hXs hbl hbA hS (vp_in_nI (N := L) (by omega) (by omega)) dL_law_138 ?_
  refine mi_any (fun z23 => ?_)
  refine lv_aload_n hx hb dL_law_139 rfl (lv_at hl 4 rfl) ?_
  refine lv_iload hx hb dL_law_140 (lv_at hl 0 rfl) ?_
  refine lv_iconst (v := nI 4) hx hb dL_law_142 (by decide) ?_
  refine mi_iadd hx hb dL_law_143 ?_
  refine va_sld hx hb hXs hbl hbA hS (vp_in_nI (N := L) (by omega) (by omega)) dL_law_144 ?_
  refine mi_any (fun z24 => ?_)
  refine lv_aload_n hx hb dL_law_145 rfl (lv_at hl 4 rfl) ?_
  refine lv_iload hx hb dL_law_146 (lv_at hl 0 rfl) ?_
  refine lv_iconst (v := nI 5) hx hb dL_law_148 (by decide) ?_
  refine mi_iadd hx hb dL_law_149 ?_
  refine va_sld hx hb hXs hbl hbA hS (vp_in_nI (N := L) (by omega) (by omega)) dL_law_150 ?_
  refine mi_any (fun z25 => ?_)
  refine lv_aload_n hx hb dL_law_151 rfl (lv_at hl 1 rfl) ?_
  refine mp_i (cx := [(h0, .inr (0, [.ref kt, .int (nI tl), .ref ka, .int (nI al), .ref kp, .int (nI pn), .ref kks, .ref kds, .ref ksp, .ref kkm, .ref kda])), (a, .inl (g.2.1 2, 1, .inr (.inl f)))]) (wr := [(h1, .inr (8, [.int x0, .int (nI tp), .int (nI rs), .int (nI ks), .ref mt, .ref mr_, .ref mk, .ref mo, .ref mh, .ref mse, .ref mhs, .ref msp, .ref msc, .ref mha])), (mse, .inl (g.2.1 0, 8, .inl fS))]) hP hD hS hA [0, 3] [1, 2] rfl rfl rfl (by decide) (lc_run (As := [.ref h0, .int z21, .int z22, .int z23, .int z24, .int z25, .ref a]) (rest := []) F (lh_feed l htr g _ T  pl hO hU  z21 z22 z23 z24 z25 h0 kt ka kp kks kds ksp kkm kda tl al pn k_kt k_ka k_kp k_kks k_kds k_ksp k_kkm k_kda a f (by omega)) (lc_cw 7 hts (wg_app (wg_c kw_412 (wg_c kw_413 (wg_c kw_0 wg_n))) kw_414) rfl rfl rfl (by decide +kernel) ⟨by decide, by decide⟩) (pp_S (ex_ok g) hP hD hS hA hX [0, 3] rfl rfl) rfl rfl hl.1 rfl (lv_room (Nat.le_of_ble_eq_true rfl)) dL_law_152 ⟨by omega, by omega⟩) (fun r21 u21 H locs hu21 hP hD hS => ?_)
  obtain ⟨u22, pl⟩ := u21
  obtain ⟨hq21, hO⟩ := hu21
  obtain ⟨T, tl21, al21, pn21, fo21⟩ := u22
  have hP : va_P g.1 vcl ([(h1, .inr (8, [.int x0, .int (nI tp), .int (nI rs), .int (nI ks), .ref mt, .ref mr_, .ref mk, .ref mo, .ref mh, .ref mse, .ref mhs, .ref msp, .ref msc, .ref mha])), (mse, .inl (g.2.1 0, 8, .inl fS)), (h0, .inr (0, [.ref kt, .int (nI tl21), .ref ka, .int (nI al21), .ref kp, .int (nI pn21), .ref kks, .ref kds, .ref ksp, .ref kkm, .ref kda])), (a, .inl (g.2.1 2, 1, .inr (.inl fo21)))] ++ pl) _ := hP
  have hD : va_D _ ([(h1, .inr (8, [.int x0, .int (nI tp), .int (nI rs), .int (nI ks), .ref mt, .ref mr_, .ref mk, .ref mo, .ref mh, .ref mse, .ref mhs, .ref msp, .ref msc, .ref mha])), (mse, .inl (g.2.1 0, 8, .inl fS)), (h0, .inr (0, [.ref kt, .int (nI tl21), .ref ka, .int (nI al21), .ref kp, .int (nI pn21), .ref kks, .ref kds, .ref ksp, .ref kkm, .ref kda])), (a, .inl (g.2.1 2, 1, .inr (.inl fo21)))] ++ pl) := hD
  obtain ⟨⟨hm21, hm22, hm23, hxt21, hU⟩, hpo21⟩ := hq21
  have hm21 : tl21 ≤ 16384 := hm21
  have hm22 : al21 ≤ 8192 := hm22
  have hm23 : pn21 ≤ 8 := hm23
  have hxt21 : ext _ T := hxt21
  have hU : uni T := hU
  have hO : okx g T [] pl := hO
  have k_kt := hxt21 _ _ k_kt
  have k_ka := hxt21 _ _ k_ka
  have k_kp := hxt21 _ _ k_kp
  have k_kks := hxt21 _ _ k_kks
  have k_kds := hxt21 _ _ k_kds
  have k_ksp := hxt21 _ _ k_ksp
  have k_kkm := hxt21 _ _ k_kkm
  have k_kda := hxt21 _ _ k_kda
  have k_mt := hxt21 _ _ k_mt
  have k_mr_ := hxt21 _ _ k_mr_
  have k_mk := hxt21 _ _ k_mk
  have k_mo := hxt21 _ _ k_mo
  have k_mh := hxt21 _ _ k_mh
  have k_mhs := hxt21 _ _ k_mhs
  have k_msp := hxt21 _ _ k_msp
  have k_msc := hxt21 _ _ k_msc
  have k_mha := hxt21 _ _ k_mha
  refine W.widen (k := (380 + 3 * n0 + 1)) (n := (194479 + 7491 * n0 + 6)) (by omega) (by omega) ?_
  refine lv_istore (lv' := [(5, .int r21), (4, .int (nI i)), (3, .ref a), (2, .ref h1), (1, .ref h0), (0, .ref b)]) hx hb dL_law_155 hl (by decide) rfl (fun ls hl => ?_)
  refine lv_aload_n hx hb dL_law_157 rfl (lv_at hl 3 rfl) ?_
  refine lv_aload_n hx hb dL_law_158 rfl (lv_at hl 5 rfl) ?_
  refine lv_iload hx hb dL_law_159 (lv_at hl 1 rfl) ?_
  refine lv_iconst (v := nI 1) hx hb dL_law_161 (by decide) ?_
  refine mi_iadd hx hb dL_law_162 ?_
  refine va_sld hx hb hXs hbl hbA hS (vp_in_nI (N := L) (by omega) (by omega)) dL_law_163 ?_
  refine mi_any (fun z26 => ?_)
  refine lv_aload_n hx hb dL_law_164 rfl (lv_at hl 5 rfl) ?_
  refine lv_iload hx hb dL_law_165 (lv_at hl 1 rfl) ?_
  refine lv_iconst (v := nI 2) hx hb dL_law_167 (by decide) ?_
  refine mi_iadd hx hb dL_law_168 ?_
  refine va_sld hx hb hXs hbl hbA hS (vp_in_nI (N := L) (by omega) (by omega)) dL_law_169 ?_
  refine mi_any (fun z27 => ?_)
  refine lv_aload_n hx hb dL_law_170 rfl (lv_at hl 5 rfl) ?_
  refine lv_iload hx hb dL_law_171 (lv_at hl 1 rfl) ?_
  refine lv_iconst (v := nI 3) hx hb dL_law_173 (by decide) ?_
  refine mi_iadd hx hb dL_law_174 ?_
  refine va_sld hx hb hXs hbl hbA hS (vp_in_nI (N := L) (by omega) (by omega)) dL_law_175 ?_
  refine mi_any (fun z28 => ?_)
  refine lv_aload_n hx hb dL_law_176 rfl (lv_at hl 5 rfl) ?_
  refine lv_iload hx hb dL_law_177 (lv_at hl 1 rfl) ?_
  refine lv_iconst (v := nI 4) hx hb dL_law_179 (by decide) ?_
  refine mi_iadd hx hb dL_law_180 ?_
  refine va_sld hx hb hXs hbl hbA hS (vp_in_nI (N := L) (by omega) (by omega)) dL_law_181 ?_
  refine mi_any (fun z29 => ?_)
  refine lv_aload_n hx hb dL_law_182 rfl (lv_at hl 5 rfl) ?_
  refine lv_iload hx hb dL_law_183 (lv_at hl 1 rfl) ?_
  refine lv_iconst (v := nI 5) hx hb dL_law_185 (by decide) ?_
  refine mi_iadd hx hb dL_law_186 ?_
  refine va_sld hx hb hXs hbl hbA hS (vp_in_nI (N := L) (by omega) (by omega)) dL_law_187 ?_
  refine mi_any (fun z30 => ?_)
  refine mp_i (cx := [(h1, .inr (8, [.int x0, .int (nI tp), .int (nI rs), .int (nI ks), .ref mt, .ref mr_, .ref mk, .ref mo, .ref mh, .ref mse, .ref mhs, .ref msp, .ref msc, .ref mha])), (mse, .inl (g.2.1 0, 8, .inl fS))]) (wr := [(h0, .inr (0, [.ref kt, .int (nI tl21), .ref ka, .int (nI al21), .ref kp, .int (nI pn21), .ref kks, .ref kds, .ref ksp, .ref kkm, .ref kda])), (a, .inl (g.2.1 2, 1, .inr (.inl fo21)))]) hP hD hS hA [0, 1] [2, 3] rfl rfl rfl (by decide) (va_runV (As := [.int z26, .int z27, .int z28, .int z29, .int z30]) (rest := []) F (t_M_feed l g _ T  pl hO hU  z26 z27 z28 z29 z30 h1 mt mr_ mk mo mh mse mhs msp msc mha tp rs ks x0 fS k_mt k_mr_ k_mk k_mo k_mh k_mhs k_msp k_msc k_mha (by omega) hS5) (cwV 5 hts (wg_app (wg_c kw_1573 (wg_c kw_1574 (wg_c kw_1575 (wg_c kw_9 wg_n)))) kw_1576) rfl rfl rfl (by decide +kernel) ⟨by decide, by decide⟩) (pp_V (en_ok g) (q0 := 0) hK hP hD hS hA hE [0, 1] rfl rfl rfl rfl) rfl rfl hl.1 rfl (lv_room (Nat.le_of_ble_eq_true rfl)) dL_law_188 ⟨by omega, by omega⟩) (fun r22 u23 H locs hu22 hP hD hS => ?_)
  obtain ⟨u24, pl⟩ := u23
  obtain ⟨hq22, hO⟩ := hu22
  obtain ⟨th21, tp21, rs21, ks21, fS21⟩ := u24
  have hP : va_P g.1 vcl ([(h0, .inr (0, [.ref kt, .int (nI tl21), .ref ka, .int (nI al21), .ref kp, .int (nI pn21), .ref kks, .ref kds, .ref ksp, .ref kkm, .ref kda])), (a, .inl (g.2.1 2, 1, .inr (.inl fo21))), (h1, .inr (8, [.int th21, .int (nI tp21), .int (nI rs21), .int (nI ks21), .ref mt, .ref mr_, .ref mk, .ref mo, .ref mh, .ref mse, .ref mhs, .ref msp, .ref msc, .ref mha])), (mse, .inl (g.2.1 0, 8, .inl fS21))] ++ pl) _ := hP
  have hD : va_D _ ([(h0, .inr (0, [.ref kt, .int (nI tl21), .ref ka, .int (nI al21), .ref kp, .int (nI pn21), .ref kks, .ref kds, .ref ksp, .ref kkm, .ref kda])), (a, .inl (g.2.1 2, 1, .inr (.inl fo21))), (h1, .inr (8, [.int th21, .int (nI tp21), .int (nI rs21), .int (nI ks21), .ref mt, .ref mr_, .ref mk, .ref mo, .ref mh, .ref mse, .ref mhs, .ref msp, .ref msc, .ref mha])), (mse, .inl (g.2.1 0, 8, .inl fS21))] ++ pl) := hD
  obtain ⟨hm24, hm25, hm26, hm27⟩ := hq22
  have hm24 : tp21 ≤ 16384 := hm24
  have hm25 : rs21 ≤ 8192 := hm25
  have hm26 : ks21 ≤ 8 := hm26
  refine W.widen (k := (380 + 3 * n0 + 1)) (n := (194479 + 7491 * n0 + 6)) (by omega) (by omega) ?_
  refine lv_istore (lv' := [(6, .int r22), (5, .int r21), (4, .int (nI i)), (3, .ref a), (2, .ref h1), (1, .ref h0), (0, .ref b)]) hx hb dL_law_191 hl (by decide) rfl (fun ls hl => ?_)
  refine lv_goto (tgt := 785) hx hb dL_law_193 (by decide) ?_
  have hP : va_P g.1 vcl ([(h0, .inr (0, [.ref kt, .int (nI tl21), .ref ka, .int (nI al21), .ref kp, .int (nI pn21), .ref kks, .ref kds, .ref ksp, .ref kkm, .ref kda])), (h1, .inr (8, [.int th21, .int (nI tp21), .int (nI rs21), .int (nI ks21), .ref mt, .ref mr_, .ref mk, .ref mo, .ref mh, .ref mse, .ref mhs, .ref msp, .ref msc, .ref mha])), (mse, .inl (g.2.1 0, 8, .inl fS21)), (a, .inl (g.2.1 2, 1, .inr (.inl fo21)))] ++ pl) _ := hP.part [0, 2, 3, 1] rfl
  have hD : va_D _ ([(h0, .inr (0, [.ref kt, .int (nI tl21), .ref ka, .int (nI al21), .ref kp, .int (nI pn21), .ref kks, .ref kds, .ref ksp, .ref kkm, .ref kda])), (h1, .inr (8, [.int th21, .int (nI tp21), .int (nI rs21), .int (nI ks21), .ref mt, .ref mr_, .ref mk, .ref mo, .ref mh, .ref mse, .ref mhs, .ref msp, .ref msc, .ref mha])), (mse, .inl (g.2.1 0, 8, .inl fS21)), (a, .inl (g.2.1 2, 1, .inr (.inl fo21)))] ++ pl) := hD.part [0, 2, 3, 1] (by decide) rfl
  exact W.widen (k := 380 + 3 * n0 + 3) (n := 194479 + 7491 * n0 + 7491) (by omega) (by omega) (next _ _ _ ⟨T, pl, h0, kt, ka, kp, kks, kds, ksp, kkm, kda, tl21, al21, pn21, h1, mt, mr_, mk, mo, mh, mse, mhs, msp, msc, mha, tp21, rs21, ks21, th21, fS21, a, fo21, hO, hU, ⟨by omega, by omega, by omega⟩, ⟨by omega, by omega, by omega⟩, hm27, k_kt, k_ka, k_kp, k_kks, k_kds, k_ksp, k_kkm, k_kda, k_mt, k_mr_, k_mk, k_mo, k_mh, k_mhs, k_msp, k_msc, k_mha, hP, hD, hS, lv_sub hl [2, 3, 4, 5, 6] rfl⟩)
set_option maxHeartbeats 4000000 in
set_option maxRecDepth 100000 in
theorem law_end {p : Program} {e : Env} {s : State} {m : MethodId} {below : List Frame} {meth : Method} {c : Code} (l : Launch) (htr : l.stackTraces = false) {b L : Nat} {xs : Nat → Int32} (hL : L ≤ 3072) (C0 : lw_At p s m meth c b L xs) (g : Gd) (F : CallFix p m c c_L_law 7 s #[Value.ref b] wL "LatticeKeysLaw") (hX : ex g (Alaw s) s s.heap) {n0 i : Nat} (hn0 : n0 < 512) (hi : i = 6 * n0) (hi6 : i + 6 ≤ L) {H : Heap} {locs : List Loc} {ls : Array Slot} (hI : LI g s b i H locs ls) (next : ∀ (H : Heap) (locs : List Loc) (ls : Array Slot), LI g s b i H locs ls → W p l e room_1 s m #[Value.ref b] below meth c H locs (380 + 3 * n0 + 3) (194479 + 7491 * n0 + 7491) (lw_Z below #[Value.ref b] s) (F0 m 785 ls [])) : W p l e room_1 s m #[Value.ref b] below meth c H locs (380 + 3 * n0) (194479 + 7491 * n0) (lw_Z below #[Value.ref b] s) (F0 m 196 ls []) := by
  obtain ⟨hx, hb, hml, hown, hts⟩ := id F
  have hE := hX.1
  have hK := hE.1
  have hA : ∀ q, s.heap.size ≤ q → Alaw s q := fun _ h => h
  obtain ⟨-, -, hr, -, -, -, hXs, hbl, hlk, -⟩ := id C0
  have hbA : ¬ Alaw s b := fun h => Nat.not_lt.mpr h hbl
  obtain ⟨T, pl, h0, kt, ka, kp, kks, kds, ksp, kkm, kda, tl, al, pn, h1, mt, mr_, mk, mo, mh, mse, mhs, msp, msc, mha, tp, rs, ks, x0, fS, a, f, hO, hU, hkb, hmb, hS5, k_kt, k_ka, k_kp, k_kks, k_kds, k_ksp, k_kkm, k_kda, k_mt, k_mr_, k_mk, k_mo, k_mh, k_mhs, k_msp, k_msc, k_mha, hP, hD, hS, hl⟩ := hI
  have hRc : room_1.cells = 601024 := rfl
  have hRs : room_1.slots = 7293034 := rfl
  refine lv_aload_n hx hb dL_law_196 rfl (lv_at hl 3 rfl) ?_
  refine lv_aload_n hx hb dL_law_197 rfl (lv_at hl 4 rfl) ?_
  refine lv_iload hx hb dL_law_198 (lv_at hl 0 rfl) ?_
  refine lv_iconst (v := nI 1) hx hb dL_law_200 (by decide) ?_
  refine mi_iadd hx hb dL_law_201 ?_
  refine va_sld hx hb hXs hbl hbA hS (vp_in_nI (N := L) (by omega) (by omega)) dL_law_202 ?_
  refine mi_any (fun z21 => ?_)
  refine lv_aload_n hx hb dL_law_203 rfl (lv_at hl 1 rfl) ?_
  refine mp_i (cx := [(h0, .inr (0, [.ref kt, .int (nI tl), .ref ka, .int (nI al), .ref kp, .int (nI pn), .ref kks, .ref kds, .ref ksp, .ref kkm, .ref kda])), (a, .inl (g.2.1 2, 1, .inr (.inl f)))]) (wr := [(h1, .inr (8, [.int x0, .int (nI tp), .int (nI rs), .int (nI ks), .ref mt, .ref mr_, .ref mk, .ref mo, .ref mh, .ref mse, .ref mhs, .ref msp, .ref msc, .ref mha])), (mse, .inl (g.2.1 0, 8, .inl fS))]) hP hD hS hA [0, 3] [1, 2] rfl rfl rfl (by decide) (lc_run (As := [.ref h0, .int z21, .ref a]) (rest := []) F (lh_end l htr g _ T  pl hO hU  z21 h0 kt ka kp kks kds ksp kkm kda tl al pn k_kt k_ka k_kp k_kks k_kds k_ksp k_kkm k_kda a f (by omega)) (lc_cw 3 hts (wg_app (wg_c kw_493 (wg_c kw_494 (wg_c kw_0 wg_n))) kw_495) rfl rfl rfl (by decide +kernel) ⟨by decide, by decide⟩) (pp_S (ex_ok g) hP hD hS hA hX [0, 3] rfl rfl) rfl rfl hl.1 rfl (lv_room (Nat.le_of_ble_eq_true rfl)) dL_law_204 ⟨by omega, by omega⟩) (fun r21 u21 H locs hu21 hP hD hS => ?_)
  obtain ⟨u22, pl⟩ := u21
  obtain ⟨hq21, hO⟩ := hu21
  obtain ⟨T, tl21, al21, pn21, fo21⟩ := u22
  have hP : va_P g.1 vcl ([(h1, .inr (8, [.int x0, .int (nI tp), .int (nI rs), .int (nI ks), .ref mt, .ref mr_, .ref mk, .ref mo, .ref mh, .ref mse, .ref mhs, .ref msp, .ref msc, .ref mha])), (mse, .inl (g.2.1 0, 8, .inl fS)), (h0, .inr (0, [.ref kt, .int (nI tl21), .ref ka, .int (nI al21), .ref kp, .int (nI pn21), .ref kks, .ref kds, .ref ksp, .ref kkm, .ref kda])), (a, .inl (g.2.1 2, 1, .inr (.inl fo21)))] ++ pl) _ := hP
  have hD : va_D _ ([(h1, .inr (8, [.int x0, .int (nI tp), .int (nI rs), .int (nI ks), .ref mt, .ref mr_, .ref mk, .ref mo, .ref mh, .ref mse, .ref mhs, .ref msp, .ref msc, .ref mha])), (mse, .inl (g.2.1 0, 8, .inl fS)), (h0, .inr (0, [.ref kt, .int (nI tl21), .ref ka, .int (nI al21), .ref kp, .int (nI pn21), .ref kks, .ref kds, .ref ksp, .ref kkm, .ref kda])), (a, .inl (g.2.1 2, 1, .inr (.inl fo21)))] ++ pl) := hD
  obtain ⟨⟨hm21, hm22, hm23, hxt21, hU⟩, hpo21⟩ := hq21
  have hm21 : tl21 ≤ 16384 := hm21
  have hm22 : al21 ≤ 8192 := hm22
  have hm23 : pn21 ≤ 8 := hm23
  have hxt21 : ext _ T := hxt21
  have hU : uni T := hU
  have hO : okx g T [] pl := hO
  have k_kt := hxt21 _ _ k_kt
  have k_ka := hxt21 _ _ k_ka
  have k_kp := hxt21 _ _ k_kp
  have k_kks := hxt21 _ _ k_kks
  have k_kds := hxt21 _ _ k_kds
  have k_ksp := hxt21 _ _ k_ksp
  have k_kkm := hxt21 _ _ k_kkm
  have k_kda := hxt21 _ _ k_kda
  have k_mt := hxt21 _ _ k_mt
  have k_mr_ := hxt21 _ _ k_mr_
  have k_mk := hxt21 _ _ k_mk
  have k_mo := hxt21 _ _ k_mo
  have k_mh := hxt21 _ _ k_mh
  have k_mhs := hxt21 _ _ k_mhs
  have k_msp := hxt21 _ _ k_msp
  have k_msc := hxt21 _ _ k_msc
  have k_mha := hxt21 _ _ k_mha
  refine W.widen (k := (380 + 3 * n0 + 1)) (n := (194479 + 7491 * n0 + 6)) (by omega) (by omega) ?_
  refine lv_istore (lv' := [(5, .int r21), (4, .int (nI i)), (3, .ref a), (2, .ref h1), (1, .ref h0), (0, .ref b)]) hx hb dL_law_207 hl (by decide) rfl (fun ls hl => ?_)
  refine lv_aload_n hx hb dL_law_209 rfl (lv_at hl 3 rfl) ?_
  refine lv_aload_n hx hb dL_law_210 rfl (lv_at hl 5 rfl) ?_
  refine lv_iload hx hb dL_law_211 (lv_at hl 1 rfl) ?_
  refine lv_iconst (v := nI 1) hx hb dL_law_213 (by decide) ?_
  refine mi_iadd hx hb dL_law_214 ?_
  refine va_sld hx hb hXs hbl hbA hS (vp_in_nI (N := L) (by omega) (by omega)) dL_law_215 ?_
  refine mi_any (fun z22 => ?_)
  refine mp_i (cx := [(h1, .inr (8, [.int x0, .int (nI tp), .int (nI rs), .int (nI ks), .ref mt, .ref mr_, .ref mk, .ref mo, .ref mh, .ref mse, .ref mhs, .ref msp, .ref msc, .ref mha])), (mse, .inl (g.2.1 0, 8, .inl fS))]) (wr := [(h0, .inr (0, [.ref kt, .int (nI tl21), .ref ka, .int (nI al21), .ref kp, .int (nI pn21), .ref kks, .ref kds, .ref ksp, .ref kkm, .ref kda])), (a, .inl (g.2.1 2, 1, .inr (.inl fo21)))]) hP hD hS hA [0, 1] [2, 3] rfl rfl rfl (by decide) (va_runV (As := [.int z22]) (rest := []) F (t_M_end l g _ T  pl hO hU  z22 h1 mt mr_ mk mo mh mse mhs msp msc mha tp rs ks x0 fS k_mt k_mr_ k_mk k_mo k_mh k_mhs k_msp k_msc k_mha (by omega) hS5) (cwV 1 hts (wg_app (wg_c kw_1585 (wg_c kw_1586 (wg_c kw_1587 (wg_c kw_9 wg_n)))) kw_1588) rfl rfl rfl (by decide +kernel) ⟨by decide, by decide⟩) (pp_V (en_ok g) (q0 := 0) hK hP hD hS hA hE [0, 1] rfl rfl rfl rfl) rfl rfl hl.1 rfl (lv_room (Nat.le_of_ble_eq_true rfl)) dL_law_216 ⟨by omega, by omega⟩) (fun r22 u23 H locs hu22 hP hD hS => ?_)
  obtain ⟨u24, pl⟩ := u23
  obtain ⟨hq22, hO⟩ := hu22
  obtain ⟨th21, tp21, rs21, ks21, fS21⟩ := u24
  have hP : va_P g.1 vcl ([(h0, .inr (0, [.ref kt, .int (nI tl21), .ref ka, .int (nI al21), .ref kp, .int (nI pn21), .ref kks, .ref kds, .ref ksp, .ref kkm, .ref kda])), (a, .inl (g.2.1 2, 1, .inr (.inl fo21))), (h1, .inr (8, [.int th21, .int (nI tp21), .int (nI rs21), .int (nI ks21), .ref mt, .ref mr_, .ref mk, .ref mo, .ref mh, .ref mse, .ref mhs, .ref msp, .ref msc, .ref mha])), (mse, .inl (g.2.1 0, 8, .inl fS21))] ++ pl) _ := hP
  have hD : va_D _ ([(h0, .inr (0, [.ref kt, .int (nI tl21), .ref ka, .int (nI al21), .ref kp, .int (nI pn21), .ref kks, .ref kds, .ref ksp, .ref kkm, .ref kda])), (a, .inl (g.2.1 2, 1, .inr (.inl fo21))), (h1, .inr (8, [.int th21, .int (nI tp21), .int (nI rs21), .int (nI ks21), .ref mt, .ref mr_, .ref mk, .ref mo, .ref mh, .ref mse, .ref mhs, .ref msp, .ref msc, .ref mha])), (mse, .inl (g.2.1 0, 8, .inl fS21))] ++ pl) := hD
  obtain ⟨hm24, hm25, hm26, hm27⟩ := hq22
  have hm24 : tp21 ≤ 16384 := hm24
  have hm25 : rs21 ≤ 8192 := hm25
  have hm26 : ks21 ≤ 8 := hm26
  refine W.widen (k := (380 + 3 * n0 + 1)) (n := (194479 + 7491 * n0 + 6)) (by omega) (by omega) ?_
  refine lv_istore (lv' := [(6, .int r22), (5, .int r21), (4, .int (nI i)), (3, .ref a), (2, .ref h1), (1, .ref h0), (0, .ref b)]) hx hb dL_law_219 hl (by decide) rfl (fun ls hl => ?_)
  refine lv_goto (tgt := 785) hx hb dL_law_221 (by decide) ?_
  have hP : va_P g.1 vcl ([(h0, .inr (0, [.ref kt, .int (nI tl21), .ref ka, .int (nI al21), .ref kp, .int (nI pn21), .ref kks, .ref kds, .ref ksp, .ref kkm, .ref kda])), (h1, .inr (8, [.int th21, .int (nI tp21), .int (nI rs21), .int (nI ks21), .ref mt, .ref mr_, .ref mk, .ref mo, .ref mh, .ref mse, .ref mhs, .ref msp, .ref msc, .ref mha])), (mse, .inl (g.2.1 0, 8, .inl fS21)), (a, .inl (g.2.1 2, 1, .inr (.inl fo21)))] ++ pl) _ := hP.part [0, 2, 3, 1] rfl
  have hD : va_D _ ([(h0, .inr (0, [.ref kt, .int (nI tl21), .ref ka, .int (nI al21), .ref kp, .int (nI pn21), .ref kks, .ref kds, .ref ksp, .ref kkm, .ref kda])), (h1, .inr (8, [.int th21, .int (nI tp21), .int (nI rs21), .int (nI ks21), .ref mt, .ref mr_, .ref mk, .ref mo, .ref mh, .ref mse, .ref mhs, .ref msp, .ref msc, .ref mha])), (mse, .inl (g.2.1 0, 8, .inl fS21)), (a, .inl (g.2.1 2, 1, .inr (.inl fo21)))] ++ pl) := hD.part [0, 2, 3, 1] (by decide) rfl
  exact W.widen (k := 380 + 3 * n0 + 3) (n := 194479 + 7491 * n0 + 7491) (by omega) (by omega) (next _ _ _ ⟨T, pl, h0, kt, ka, kp, kks, kds, ksp, kkm, kda, tl21, al21, pn21, h1, mt, mr_, mk, mo, mh, mse, mhs, msp, msc, mha, tp21, rs21, ks21, th21, fS21, a, fo21, hO, hU, ⟨by omega, by omega, by omega⟩, ⟨by omega, by omega, by omega⟩, hm27, k_kt, k_ka, k_kp, k_kks, k_kds, k_ksp, k_kkm, k_kda, k_mt, k_mr_, k_mk, k_mo, k_mh, k_mhs, k_msp, k_msc, k_mha, hP, hD, hS, lv_sub hl [2, 3, 4, 5, 6] rfl⟩)
set_option maxHeartbeats 4000000 in
set_option maxRecDepth 100000 in
theorem law_again {p : Program} {e : Env} {s : State} {m : MethodId} {below : List Frame} {meth : Method} {c : Code} (l : Launch) (htr : l.stackTraces = false) {b L : Nat} {xs : Nat → Int32} (hL : L ≤ 3072) (C0 : lw_At p s m meth c b L xs) (g : Gd) (F : CallFix p m c c_L_law 7 s #[Value.ref b] wL "LatticeKeysLaw") (hX : ex g (Alaw s) s s.heap) {n0 i : Nat} (hn0 : n0 < 512) (hi : i = 6 * n0) (hi6 : i + 6 ≤ L) {H : Heap} {locs : List Loc} {ls : Array Slot} (hI : LI g s b i H locs ls) (next : ∀ (H : Heap) (locs : List Loc) (ls : Array Slot), LI g s b i H locs ls → W p l e room_1 s m #[Value.ref b] below meth c H locs (380 + 3 * n0 + 3) (194479 + 7491 * n0 + 7491) (lw_Z below #[Value.ref b] s) (F0 m 785 ls [])) : W p l e room_1 s m #[Value.ref b] below meth c H locs (380 + 3 * n0) (194479 + 7491 * n0) (lw_Z below #[Value.ref b] s) (F0 m 224 ls []) := by
  obtain ⟨hx, hb, hml, hown, hts⟩ := id F
  have hE := hX.1
  have hK := hE.1
  have hA : ∀ q, s.heap.size ≤ q → Alaw s q := fun _ h => h
  obtain ⟨-, -, hr, -, -, -, hXs, hbl, hlk, -⟩ := id C0
  have hbA : ¬ Alaw s b := fun h => Nat.not_lt.mpr h hbl
  obtain ⟨T, pl, h0, kt, ka, kp, kks, kds, ksp, kkm, kda, tl, al, pn, h1, mt, mr_, mk, mo, mh, mse, mhs, msp, msc, mha, tp, rs, ks, x0, fS, a, f, hO, hU, hkb, hmb, hS5, k_kt, k_ka, k_kp, k_kks, k_kds, k_ksp, k_kkm, k_kda, k_mt, k_mr_, k_mk, k_mo, k_mh, k_mhs, k_msp, k_msc, k_mha, hP, hD, hS, hl⟩ := hI
  have hRc : room_1.cells = 601024 := rfl
  have hRs : room_1.slots = 7293034 := rfl
  refine lv_aload_n hx hb dL_law_224 rfl (lv_at hl 3 rfl) ?_
  refine lv_aload_n hx hb dL_law_225 rfl (lv_at hl 1 rfl) ?_
  refine mp_i (cx := [(h0, .inr (0, [.ref kt, .int (nI tl), .ref ka, .int (nI al), .ref kp, .int (nI pn), .ref kks, .ref kds, .ref ksp, .ref kkm, .ref kda])), (a, .inl (g.2.1 2, 1, .inr (.inl f)))]) (wr := [(h1, .inr (8, [.int x0, .int (nI tp), .int (nI rs), .int (nI ks), .ref mt, .ref mr_, .ref mk, .ref mo, .ref mh, .ref mse, .ref mhs, .ref msp, .ref msc, .ref mha])), (mse, .inl (g.2.1 0, 8, .inl fS))]) hP hD hS hA [0, 3] [1, 2] rfl rfl rfl (by decide) (lc_run (As := [.ref h0, .ref a]) (rest := []) F (lh_again l htr g _ T  pl hO hU  h0 kt ka kp kks kds ksp kkm kda tl al pn k_kt k_ka k_kp k_kks k_kds k_ksp k_kkm k_kda a f (by omega)) (lc_cw 2 hts (wg_app (wg_c kw_517 (wg_c kw_518 (wg_c kw_0 wg_n))) kw_519) rfl rfl rfl (by decide +kernel) ⟨by decide, by decide⟩) (pp_S (ex_ok g) hP hD hS hA hX [0, 3] rfl rfl) rfl rfl hl.1 rfl (lv_room (Nat.le_of_ble_eq_true rfl)) dL_law_226 ⟨by omega, by omega⟩) (fun r21 u21 H locs hu21 hP hD hS => ?_)
  obtain ⟨u22, pl⟩ := u21
  obtain ⟨hq21, hO⟩ := hu21
  obtain ⟨T, tl21, al21, pn21, fo21⟩ := u22
  have hP : va_P g.1 vcl ([(h1, .inr (8, [.int x0, .int (nI tp), .int (nI rs), .int (nI ks), .ref mt, .ref mr_, .ref mk, .ref mo, .ref mh, .ref mse, .ref mhs, .ref msp, .ref msc, .ref mha])), (mse, .inl (g.2.1 0, 8, .inl fS)), (h0, .inr (0, [.ref kt, .int (nI tl21), .ref ka, .int (nI al21), .ref kp, .int (nI pn21), .ref kks, .ref kds, .ref ksp, .ref kkm, .ref kda])), (a, .inl (g.2.1 2, 1, .inr (.inl fo21)))] ++ pl) _ := hP
  have hD : va_D _ ([(h1, .inr (8, [.int x0, .int (nI tp), .int (nI rs), .int (nI ks), .ref mt, .ref mr_, .ref mk, .ref mo, .ref mh, .ref mse, .ref mhs, .ref msp, .ref msc, .ref mha])), (mse, .inl (g.2.1 0, 8, .inl fS)), (h0, .inr (0, [.ref kt, .int (nI tl21), .ref ka, .int (nI al21), .ref kp, .int (nI pn21), .ref kks, .ref kds, .ref ksp, .ref kkm, .ref kda])), (a, .inl (g.2.1 2, 1, .inr (.inl fo21)))] ++ pl) := hD
  obtain ⟨⟨hm21, hm22, hm23, hxt21, hU⟩, hpo21⟩ := hq21
  have hm21 : tl21 ≤ 16384 := hm21
  have hm22 : al21 ≤ 8192 := hm22
  have hm23 : pn21 ≤ 8 := hm23
  have hxt21 : ext _ T := hxt21
  have hU : uni T := hU
  have hO : okx g T [] pl := hO
  have k_kt := hxt21 _ _ k_kt
  have k_ka := hxt21 _ _ k_ka
  have k_kp := hxt21 _ _ k_kp
  have k_kks := hxt21 _ _ k_kks
  have k_kds := hxt21 _ _ k_kds
  have k_ksp := hxt21 _ _ k_ksp
  have k_kkm := hxt21 _ _ k_kkm
  have k_kda := hxt21 _ _ k_kda
  have k_mt := hxt21 _ _ k_mt
  have k_mr_ := hxt21 _ _ k_mr_
  have k_mk := hxt21 _ _ k_mk
  have k_mo := hxt21 _ _ k_mo
  have k_mh := hxt21 _ _ k_mh
  have k_mhs := hxt21 _ _ k_mhs
  have k_msp := hxt21 _ _ k_msp
  have k_msc := hxt21 _ _ k_msc
  have k_mha := hxt21 _ _ k_mha
  refine W.widen (k := (380 + 3 * n0 + 1)) (n := (194479 + 7491 * n0 + 6)) (by omega) (by omega) ?_
  refine lv_istore (lv' := [(5, .int r21), (4, .int (nI i)), (3, .ref a), (2, .ref h1), (1, .ref h0), (0, .ref b)]) hx hb dL_law_229 hl (by decide) rfl (fun ls hl => ?_)
  refine lv_aload_n hx hb dL_law_231 rfl (lv_at hl 3 rfl) ?_
  refine mp_i (cx := [(h1, .inr (8, [.int x0, .int (nI tp), .int (nI rs), .int (nI ks), .ref mt, .ref mr_, .ref mk, .ref mo, .ref mh, .ref mse, .ref mhs, .ref msp, .ref msc, .ref mha])), (mse, .inl (g.2.1 0, 8, .inl fS))]) (wr := [(h0, .inr (0, [.ref kt, .int (nI tl21), .ref ka, .int (nI al21), .ref kp, .int (nI pn21), .ref kks, .ref kds, .ref ksp, .ref kkm, .ref kda])), (a, .inl (g.2.1 2, 1, .inr (.inl fo21)))]) hP hD hS hA [0, 1] [2, 3] rfl rfl rfl (by decide) (va_runV (As := []) (rest := []) F (t_M_again l g _ T  pl hO hU  h1 mt mr_ mk mo mh mse mhs msp msc mha tp rs ks x0 fS k_mt k_mr_ k_mk k_mo k_mh k_mhs k_msp k_msc k_mha (by omega) hS5) (cwV 0 hts (wg_app (wg_c kw_1589 (wg_c kw_1590 (wg_c kw_1591 (wg_c kw_9 wg_n)))) kw_1592) rfl rfl rfl (by decide +kernel) ⟨by decide, by decide⟩) (pp_V (en_ok g) (q0 := 0) hK hP hD hS hA hE [0, 1] rfl rfl rfl rfl) rfl rfl hl.1 rfl (lv_room (Nat.le_of_ble_eq_true rfl)) dL_law_232 ⟨by omega, by omega⟩) (fun r22 u23 H locs hu22 hP hD hS => ?_)
  obtain ⟨u24, pl⟩ := u23
  obtain ⟨hq22, hO⟩ := hu22
  obtain ⟨th21, tp21, rs21, ks21, fS21⟩ := u24
  have hP : va_P g.1 vcl ([(h0, .inr (0, [.ref kt, .int (nI tl21), .ref ka, .int (nI al21), .ref kp, .int (nI pn21), .ref kks, .ref kds, .ref ksp, .ref kkm, .ref kda])), (a, .inl (g.2.1 2, 1, .inr (.inl fo21))), (h1, .inr (8, [.int th21, .int (nI tp21), .int (nI rs21), .int (nI ks21), .ref mt, .ref mr_, .ref mk, .ref mo, .ref mh, .ref mse, .ref mhs, .ref msp, .ref msc, .ref mha])), (mse, .inl (g.2.1 0, 8, .inl fS21))] ++ pl) _ := hP
  have hD : va_D _ ([(h0, .inr (0, [.ref kt, .int (nI tl21), .ref ka, .int (nI al21), .ref kp, .int (nI pn21), .ref kks, .ref kds, .ref ksp, .ref kkm, .ref kda])), (a, .inl (g.2.1 2, 1, .inr (.inl fo21))), (h1, .inr (8, [.int th21, .int (nI tp21), .int (nI rs21), .int (nI ks21), .ref mt, .ref mr_, .ref mk, .ref mo, .ref mh, .ref mse, .ref mhs, .ref msp, .ref msc, .ref mha])), (mse, .inl (g.2.1 0, 8, .inl fS21))] ++ pl) := hD
  obtain ⟨hm24, hm25, hm26, hm27⟩ := hq22
  have hm24 : tp21 ≤ 16384 := hm24
  have hm25 : rs21 ≤ 8192 := hm25
  have hm26 : ks21 ≤ 8 := hm26
  refine W.widen (k := (380 + 3 * n0 + 1)) (n := (194479 + 7491 * n0 + 6)) (by omega) (by omega) ?_
  refine lv_istore (lv' := [(6, .int r22), (5, .int r21), (4, .int (nI i)), (3, .ref a), (2, .ref h1), (1, .ref h0), (0, .ref b)]) hx hb dL_law_235 hl (by decide) rfl (fun ls hl => ?_)
  refine lv_goto (tgt := 785) hx hb dL_law_237 (by decide) ?_
  have hP : va_P g.1 vcl ([(h0, .inr (0, [.ref kt, .int (nI tl21), .ref ka, .int (nI al21), .ref kp, .int (nI pn21), .ref kks, .ref kds, .ref ksp, .ref kkm, .ref kda])), (h1, .inr (8, [.int th21, .int (nI tp21), .int (nI rs21), .int (nI ks21), .ref mt, .ref mr_, .ref mk, .ref mo, .ref mh, .ref mse, .ref mhs, .ref msp, .ref msc, .ref mha])), (mse, .inl (g.2.1 0, 8, .inl fS21)), (a, .inl (g.2.1 2, 1, .inr (.inl fo21)))] ++ pl) _ := hP.part [0, 2, 3, 1] rfl
  have hD : va_D _ ([(h0, .inr (0, [.ref kt, .int (nI tl21), .ref ka, .int (nI al21), .ref kp, .int (nI pn21), .ref kks, .ref kds, .ref ksp, .ref kkm, .ref kda])), (h1, .inr (8, [.int th21, .int (nI tp21), .int (nI rs21), .int (nI ks21), .ref mt, .ref mr_, .ref mk, .ref mo, .ref mh, .ref mse, .ref mhs, .ref msp, .ref msc, .ref mha])), (mse, .inl (g.2.1 0, 8, .inl fS21)), (a, .inl (g.2.1 2, 1, .inr (.inl fo21)))] ++ pl) := hD.part [0, 2, 3, 1] (by decide) rfl
  exact W.widen (k := 380 + 3 * n0 + 3) (n := 194479 + 7491 * n0 + 7491) (by omega) (by omega) (next _ _ _ ⟨T, pl, h0, kt, ka, kp, kks, kds, ksp, kkm, kda, tl21, al21, pn21, h1, mt, mr_, mk, mo, mh, mse, mhs, msp, msc, mha, tp21, rs21, ks21, th21, fS21, a, fo21, hO, hU, ⟨by omega, by omega, by omega⟩, ⟨by omega, by omega, by omega⟩, hm27, k_kt, k_ka, k_kp, k_kks, k_kds, k_ksp, k_kkm, k_kda, k_mt, k_mr_, k_mk, k_mo, k_mh, k_mhs, k_msp, k_msc, k_mha, hP, hD, hS, lv_sub hl [2, 3, 4, 5, 6] rfl⟩)
set_option maxHeartbeats 4000000 in
set_option maxRecDepth 100000 in
theorem law_alter {p : Program} {e : Env} {s : State} {m : MethodId} {below : List Frame} {meth : Method} {c : Code} (l : Launch) (htr : l.stackTraces = false) {b L : Nat} {xs : Nat → Int32} (hL : L ≤ 3072) (C0 : lw_At p s m meth c b L xs) (g : Gd) (F : CallFix p m c c_L_law 7 s #[Value.ref b] wL "LatticeKeysLaw") (hX : ex g (Alaw s) s s.heap) {n0 i : Nat} (hn0 : n0 < 512) (hi : i = 6 * n0) (hi6 : i + 6 ≤ L) {H : Heap} {locs : List Loc} {ls : Array Slot} (hI : LI g s b i H locs ls) (next : ∀ (H : Heap) (locs : List Loc) (ls : Array Slot), LI g s b i H locs ls → W p l e room_1 s m #[Value.ref b] below meth c H locs (380 + 3 * n0 + 3) (194479 + 7491 * n0 + 7491) (lw_Z below #[Value.ref b] s) (F0 m 785 ls [])) : W p l e room_1 s m #[Value.ref b] below meth c H locs (380 + 3 * n0) (194479 + 7491 * n0) (lw_Z below #[Value.ref b] s) (F0 m 240 ls []) := by
  obtain ⟨hx, hb, hml, hown, hts⟩ := id F
  have hE := hX.1
  have hK := hE.1
  have hA : ∀ q, s.heap.size ≤ q → Alaw s q := fun _ h => h
  obtain ⟨-, -, hr, -, -, -, hXs, hbl, hlk, -⟩ := id C0
  have hbA : ¬ Alaw s b := fun h => Nat.not_lt.mpr h hbl
  obtain ⟨T, pl, h0, kt, ka, kp, kks, kds, ksp, kkm, kda, tl, al, pn, h1, mt, mr_, mk, mo, mh, mse, mhs, msp, msc, mha, tp, rs, ks, x0, fS, a, f, hO, hU, hkb, hmb, hS5, k_kt, k_ka, k_kp, k_kks, k_kds, k_ksp, k_kkm, k_kda, k_mt, k_mr_, k_mk, k_mo, k_mh, k_mhs, k_msp, k_msc, k_mha, hP, hD, hS, hl⟩ := hI
  have hRc : room_1.cells = 601024 := rfl
  have hRs : room_1.slots = 7293034 := rfl
  refine lv_aload_n hx hb dL_law_240 rfl (lv_at hl 3 rfl) ?_
  refine lv_aload_n hx hb dL_law_241 rfl (lv_at hl 4 rfl) ?_
  refine lv_iload hx hb dL_law_242 (lv_at hl 0 rfl) ?_
  refine lv_iconst (v := nI 1) hx hb dL_law_244 (by decide) ?_
  refine mi_iadd hx hb dL_law_245 ?_
  refine va_sld hx hb hXs hbl hbA hS (vp_in_nI (N := L) (by omega) (by omega)) dL_law_246 ?_
  refine mi_any (fun z21 => ?_)
  refine lv_aload_n hx hb dL_law_247 rfl (lv_at hl 4 rfl) ?_
  refine lv_iload hx hb dL_law_248 (lv_at hl 0 rfl) ?_
  refine lv_iconst (v := nI 2) hx hb dL_law_250 (by decide) ?_
  refine mi_iadd hx hb dL_law_251 ?_
  refine va_sld hx hb hXs hbl hbA hS (vp_in_nI (N := L) (by omega) (by omega)) dL_law_252 ?_
  refine mi_any (fun z22 => ?_)
  refine lv_aload_n hx hb dL_law_253 rfl (lv_at hl 1 rfl) ?_
  refine mp_i (cx := [(h0, .inr (0, [.ref kt, .int (nI tl), .ref ka, .int (nI al), .ref kp, .int (nI pn), .ref kks, .ref kds, .ref ksp, .ref kkm, .ref kda])), (a, .inl (g.2.1 2, 1, .inr (.inl f)))]) (wr := [(h1, .inr (8, [.int x0, .int (nI tp), .int (nI rs), .int (nI ks), .ref mt, .ref mr_, .ref mk, .ref mo, .ref mh, .ref mse, .ref mhs, .ref msp, .ref msc, .ref mha])), (mse, .inl (g.2.1 0, 8, .inl fS))]) hP hD hS hA [0, 3] [1, 2] rfl rfl rfl (by decide) (lc_run (As := [.ref h0, .int z21, .int z22, .ref a]) (rest := []) F (lh_alter l htr g _ T  pl hO hU  z21 z22 h0 kt ka kp kks kds ksp kkm kda tl al pn k_kt k_ka k_kp k_kks k_kds k_ksp k_kkm k_kda a f (by omega)) (lc_cw 4 hts (wg_app (wg_c kw_527 (wg_c kw_528 (wg_c kw_0 wg_n))) kw_529) rfl rfl rfl (by decide +kernel) ⟨by decide, by decide⟩) (pp_S (ex_ok g) hP hD hS hA hX [0, 3] rfl rfl) rfl rfl hl.1 rfl (lv_room (Nat.le_of_ble_eq_true rfl)) dL_law_254 ⟨by omega, by omega⟩) (fun r21 u21 H locs hu21 hP hD hS => ?_)
  obtain ⟨u22, pl⟩ := u21
  obtain ⟨hq21, hO⟩ := hu21
  obtain ⟨T, tl21, al21, pn21, fo21⟩ := u22
  have hP : va_P g.1 vcl ([(h1, .inr (8, [.int x0, .int (nI tp), .int (nI rs), .int (nI ks), .ref mt, .ref mr_, .ref mk, .ref mo, .ref mh, .ref mse, .ref mhs, .ref msp, .ref msc, .ref mha])), (mse, .inl (g.2.1 0, 8, .inl fS)), (h0, .inr (0, [.ref kt, .int (nI tl21), .ref ka, .int (nI al21), .ref kp, .int (nI pn21), .ref kks, .ref kds, .ref ksp, .ref kkm, .ref kda])), (a, .inl (g.2.1 2, 1, .inr (.inl fo21)))] ++ pl) _ := hP
  have hD : va_D _ ([(h1, .inr (8, [.int x0, .int (nI tp), .int (nI rs), .int (nI ks), .ref mt, .ref mr_, .ref mk, .ref mo, .ref mh, .ref mse, .ref mhs, .ref msp, .ref msc, .ref mha])), (mse, .inl (g.2.1 0, 8, .inl fS)), (h0, .inr (0, [.ref kt, .int (nI tl21), .ref ka, .int (nI al21), .ref kp, .int (nI pn21), .ref kks, .ref kds, .ref ksp, .ref kkm, .ref kda])), (a, .inl (g.2.1 2, 1, .inr (.inl fo21)))] ++ pl) := hD
  obtain ⟨⟨hm21, hm22, hm23, hxt21, hU⟩, hpo21⟩ := hq21
  have hm21 : tl21 ≤ 16384 := hm21
  have hm22 : al21 ≤ 8192 := hm22
  have hm23 : pn21 ≤ 8 := hm23
  have hxt21 : ext _ T := hxt21
  have hU : uni T := hU
  have hO : okx g T [] pl := hO
  have k_kt := hxt21 _ _ k_kt
  have k_ka := hxt21 _ _ k_ka
  have k_kp := hxt21 _ _ k_kp
  have k_kks := hxt21 _ _ k_kks
  have k_kds := hxt21 _ _ k_kds
  have k_ksp := hxt21 _ _ k_ksp
  have k_kkm := hxt21 _ _ k_kkm
  have k_kda := hxt21 _ _ k_kda
  have k_mt := hxt21 _ _ k_mt
  have k_mr_ := hxt21 _ _ k_mr_
  have k_mk := hxt21 _ _ k_mk
  have k_mo := hxt21 _ _ k_mo
  have k_mh := hxt21 _ _ k_mh
  have k_mhs := hxt21 _ _ k_mhs
  have k_msp := hxt21 _ _ k_msp
  have k_msc := hxt21 _ _ k_msc
  have k_mha := hxt21 _ _ k_mha
  refine W.widen (k := (380 + 3 * n0 + 1)) (n := (194479 + 7491 * n0 + 6)) (by omega) (by omega) ?_
  refine lv_istore (lv' := [(5, .int r21), (4, .int (nI i)), (3, .ref a), (2, .ref h1), (1, .ref h0), (0, .ref b)]) hx hb dL_law_257 hl (by decide) rfl (fun ls hl => ?_)
  refine lv_aload_n hx hb dL_law_259 rfl (lv_at hl 3 rfl) ?_
  refine lv_aload_n hx hb dL_law_260 rfl (lv_at hl 5 rfl) ?_
  refine lv_iload hx hb dL_law_261 (lv_at hl 1 rfl) ?_
  refine lv_iconst (v := nI 1) hx hb dL_law_263 (by decide) ?_
  refine mi_iadd hx hb dL_law_264 ?_
  refine va_sld hx hb hXs hbl hbA hS (vp_in_nI (N := L) (by omega) (by omega)) dL_law_265 ?_
  refine mi_any (fun z23 => ?_)
  refine lv_aload_n hx hb dL_law_266 rfl (lv_at hl 5 rfl) ?_
  refine lv_iload hx hb dL_law_267 (lv_at hl 1 rfl) ?_
  refine lv_iconst (v := nI 2) hx hb dL_law_269 (by decide) ?_
  refine mi_iadd hx hb dL_law_270 ?_
  refine va_sld hx hb hXs hbl hbA hS (vp_in_nI (N := L) (by omega) (by omega)) dL_law_271 ?_
  refine mi_any (fun z24 => ?_)
  refine mp_i (cx := [(h1, .inr (8, [.int x0, .int (nI tp), .int (nI rs), .int (nI ks), .ref mt, .ref mr_, .ref mk, .ref mo, .ref mh, .ref mse, .ref mhs, .ref msp, .ref msc, .ref mha])), (mse, .inl (g.2.1 0, 8, .inl fS))]) (wr := [(h0, .inr (0, [.ref kt, .int (nI tl21), .ref ka, .int (nI al21), .ref kp, .int (nI pn21), .ref kks, .ref kds, .ref ksp, .ref kkm, .ref kda])), (a, .inl (g.2.1 2, 1, .inr (.inl fo21)))]) hP hD hS hA [0, 1] [2, 3] rfl rfl rfl (by decide) (va_runV (As := [.int z23, .int z24]) (rest := []) F (t_M_alter l g _ T  pl hO hU  z23 z24 h1 mt mr_ mk mo mh mse mhs msp msc mha tp rs ks x0 fS k_mt k_mr_ k_mk k_mo k_mh k_mhs k_msp k_msc k_mha (by omega) hS5) (cwV 2 hts (wg_app (wg_c kw_1593 (wg_c kw_1594 (wg_c kw_1595 (wg_c kw_9 wg_n)))) kw_1596) rfl rfl rfl (by decide +kernel) ⟨by decide, by decide⟩) (pp_V (en_ok g) (q0 := 0) hK hP hD hS hA hE [0, 1] rfl rfl rfl rfl) rfl rfl hl.1 rfl (lv_room (Nat.le_of_ble_eq_true rfl)) dL_law_272 ⟨by omega, by omega⟩) (fun r22 u23 H locs hu22 hP hD hS => ?_)
  obtain ⟨u24, pl⟩ := u23
  obtain ⟨hq22, hO⟩ := hu22
  obtain ⟨th21, tp21, rs21, ks21, fS21⟩ := u24
  have hP : va_P g.1 vcl ([(h0, .inr (0, [.ref kt, .int (nI tl21), .ref ka, .int (nI al21), .ref kp, .int (nI pn21), .ref kks, .ref kds, .ref ksp, .ref kkm, .ref kda])), (a, .inl (g.2.1 2, 1, .inr (.inl fo21))), (h1, .inr (8, [.int th21, .int (nI tp21), .int (nI rs21), .int (nI ks21), .ref mt, .ref mr_, .ref mk, .ref mo, .ref mh, .ref mse, .ref mhs, .ref msp, .ref msc, .ref mha])), (mse, .inl (g.2.1 0, 8, .inl fS21))] ++ pl) _ := hP
  have hD : va_D _ ([(h0, .inr (0, [.ref kt, .int (nI tl21), .ref ka, .int (nI al21), .ref kp, .int (nI pn21), .ref kks, .ref kds, .ref ksp, .ref kkm, .ref kda])), (a, .inl (g.2.1 2, 1, .inr (.inl fo21))), (h1, .inr (8, [.int th21, .int (nI tp21), .int (nI rs21), .int (nI ks21), .ref mt, .ref mr_, .ref mk, .ref mo, .ref mh, .ref mse, .ref mhs, .ref msp, .ref msc, .ref mha])), (mse, .inl (g.2.1 0, 8, .inl fS21))] ++ pl) := hD
  obtain ⟨hm24, hm25, hm26, hm27⟩ := hq22
  have hm24 : tp21 ≤ 16384 := hm24
  have hm25 : rs21 ≤ 8192 := hm25
  have hm26 : ks21 ≤ 8 := hm26
  refine W.widen (k := (380 + 3 * n0 + 1)) (n := (194479 + 7491 * n0 + 6)) (by omega) (by omega) ?_
  refine lv_istore (lv' := [(6, .int r22), (5, .int r21), (4, .int (nI i)), (3, .ref a), (2, .ref h1), (1, .ref h0), (0, .ref b)]) hx hb dL_law_275 hl (by decide) rfl (fun ls hl => ?_)
  refine lv_goto (tgt := 785) hx hb dL_law_277 (by decide) ?_
  have hP : va_P g.1 vcl ([(h0, .inr (0, [.ref kt, .int (nI tl21), .ref ka, .int (nI al21), .ref kp, .int (nI pn21), .ref kks, .ref kds, .ref ksp, .ref kkm, .ref kda])), (h1, .inr (8, [.int th21, .int (nI tp21), .int (nI rs21), .int (nI ks21), .ref mt, .ref mr_, .ref mk, .ref mo, .ref mh, .ref mse, .ref mhs, .ref msp, .ref msc, .ref mha])), (mse, .inl (g.2.1 0, 8, .inl fS21)), (a, .inl (g.2.1 2, 1, .inr (.inl fo21)))] ++ pl) _ := hP.part [0, 2, 3, 1] rfl
  have hD : va_D _ ([(h0, .inr (0, [.ref kt, .int (nI tl21), .ref ka, .int (nI al21), .ref kp, .int (nI pn21), .ref kks, .ref kds, .ref ksp, .ref kkm, .ref kda])), (h1, .inr (8, [.int th21, .int (nI tp21), .int (nI rs21), .int (nI ks21), .ref mt, .ref mr_, .ref mk, .ref mo, .ref mh, .ref mse, .ref mhs, .ref msp, .ref msc, .ref mha])), (mse, .inl (g.2.1 0, 8, .inl fS21)), (a, .inl (g.2.1 2, 1, .inr (.inl fo21)))] ++ pl) := hD.part [0, 2, 3, 1] (by decide) rfl
  exact W.widen (k := 380 + 3 * n0 + 3) (n := 194479 + 7491 * n0 + 7491) (by omega) (by omega) (next _ _ _ ⟨T, pl, h0, kt, ka, kp, kks, kds, ksp, kkm, kda, tl21, al21, pn21, h1, mt, mr_, mk, mo, mh, mse, mhs, msp, msc, mha, tp21, rs21, ks21, th21, fS21, a, fo21, hO, hU, ⟨by omega, by omega, by omega⟩, ⟨by omega, by omega, by omega⟩, hm27, k_kt, k_ka, k_kp, k_kks, k_kds, k_ksp, k_kkm, k_kda, k_mt, k_mr_, k_mk, k_mo, k_mh, k_mhs, k_msp, k_msc, k_mha, hP, hD, hS, lv_sub hl [2, 3, 4, 5, 6] rfl⟩)
set_option maxHeartbeats 4000000 in
set_option maxRecDepth 100000 in
theorem law_keys {p : Program} {e : Env} {s : State} {m : MethodId} {below : List Frame} {meth : Method} {c : Code} (l : Launch) (htr : l.stackTraces = false) {b L : Nat} {xs : Nat → Int32} (hL : L ≤ 3072) (C0 : lw_At p s m meth c b L xs) (g : Gd) (F : CallFix p m c c_L_law 7 s #[Value.ref b] wL "LatticeKeysLaw") (hX : ex g (Alaw s) s s.heap) {n0 i : Nat} (hn0 : n0 < 512) (hi : i = 6 * n0) (hi6 : i + 6 ≤ L) {H : Heap} {locs : List Loc} {ls : Array Slot} (hI : LI g s b i H locs ls) (next : ∀ (H : Heap) (locs : List Loc) (ls : Array Slot), LI g s b i H locs ls → W p l e room_1 s m #[Value.ref b] below meth c H locs (380 + 3 * n0 + 3) (194479 + 7491 * n0 + 7491) (lw_Z below #[Value.ref b] s) (F0 m 785 ls [])) : W p l e room_1 s m #[Value.ref b] below meth c H locs (380 + 3 * n0) (194479 + 7491 * n0) (lw_Z below #[Value.ref b] s) (F0 m 280 ls []) := by
  obtain ⟨hx, hb, hml, hown, hts⟩ := id F
  have hE := hX.1
  have hK := hE.1
  have hA : ∀ q, s.heap.size ≤ q → Alaw s q := fun _ h => h
  obtain ⟨-, -, hr, -, -, -, hXs, hbl, hlk, -⟩ := id C0
  have hbA : ¬ Alaw s b := fun h => Nat.not_lt.mpr h hbl
  obtain ⟨T, pl, h0, kt, ka, kp, kks, kds, ksp, kkm, kda, tl, al, pn, h1, mt, mr_, mk, mo, mh, mse, mhs, msp, msc, mha, tp, rs, ks, x0, fS, a, f, hO, hU, hkb, hmb, hS5, k_kt, k_ka, k_kp, k_kks, k_kds, k_ksp, k_kkm, k_kda, k_mt, k_mr_, k_mk, k_mo, k_mh, k_mhs, k_msp, k_msc, k_mha, hP, hD, hS, hl⟩ := hI
  have hRc : room_1.cells = 601024 := rfl
  have hRs : room_1.slots = 7293034 := rfl
  refine lv_aload_n hx hb dL_law_280 rfl (lv_at hl 3 rfl) ?_
  refine lv_aload_n hx hb dL_law_281 rfl (lv_at hl 4 rfl) ?_
  refine lv_iload hx hb dL_law_282 (lv_at hl 0 rfl) ?_
  refine lv_iconst (v := nI 1) hx hb dL_law_284 (by decide) ?_
  refine mi_iadd hx hb dL_law_285 ?_
  refine va_sld hx hb hXs hbl hbA hS (vp_in_nI (N := L) (by omega) (by omega)) dL_law_286 ?_
  refine mi_any (fun z21 => ?_)
  refine lv_aload_n hx hb dL_law_287 rfl (lv_at hl 1 rfl) ?_
  refine mp_i (cx := [(h0, .inr (0, [.ref kt, .int (nI tl), .ref ka, .int (nI al), .ref kp, .int (nI pn), .ref kks, .ref kds, .ref ksp, .ref kkm, .ref kda])), (a, .inl (g.2.1 2, 1, .inr (.inl f)))]) (wr := [(h1, .inr (8, [.int x0, .int (nI tp), .int (nI rs), .int (nI ks), .ref mt, .ref mr_, .ref mk, .ref mo, .ref mh, .ref mse, .ref mhs, .ref msp, .ref msc, .ref mha])), (mse, .inl (g.2.1 0, 8, .inl fS))]) hP hD hS hA [0, 3] [1, 2] rfl rfl rfl (by decide) (lc_run (As := [.ref h0, .int z21, .ref a]) (rest := []) F (lh_keys l htr g _ T  pl hO hU  z21 h0 kt ka kp kks kds ksp kkm kda tl al pn k_kt k_ka k_kp k_kks k_kds k_ksp k_kkm k_kda a f (by omega)) (lc_cw 3 hts (wg_app (wg_c kw_551 (wg_c kw_552 (wg_c kw_0 wg_n))) kw_553) rfl rfl rfl (by decide +kernel) ⟨by decide, by decide⟩) (pp_S (ex_ok g) hP hD hS hA hX [0, 3] rfl rfl) rfl rfl hl.1 rfl (lv_room (Nat.le_of_ble_eq_true rfl)) dL_law_288 ⟨by omega, by omega⟩) (fun r21 u21 H locs hu21 hP hD hS => ?_)
  obtain ⟨u22, pl⟩ := u21
  obtain ⟨hq21, hO⟩ := hu21
  obtain ⟨T, tl21, al21, pn21, fo21⟩ := u22
  have hP : va_P g.1 vcl ([(h1, .inr (8, [.int x0, .int (nI tp), .int (nI rs), .int (nI ks), .ref mt, .ref mr_, .ref mk, .ref mo, .ref mh, .ref mse, .ref mhs, .ref msp, .ref msc, .ref mha])), (mse, .inl (g.2.1 0, 8, .inl fS)), (h0, .inr (0, [.ref kt, .int (nI tl21), .ref ka, .int (nI al21), .ref kp, .int (nI pn21), .ref kks, .ref kds, .ref ksp, .ref kkm, .ref kda])), (a, .inl (g.2.1 2, 1, .inr (.inl fo21)))] ++ pl) _ := hP
  have hD : va_D _ ([(h1, .inr (8, [.int x0, .int (nI tp), .int (nI rs), .int (nI ks), .ref mt, .ref mr_, .ref mk, .ref mo, .ref mh, .ref mse, .ref mhs, .ref msp, .ref msc, .ref mha])), (mse, .inl (g.2.1 0, 8, .inl fS)), (h0, .inr (0, [.ref kt, .int (nI tl21), .ref ka, .int (nI al21), .ref kp, .int (nI pn21), .ref kks, .ref kds, .ref ksp, .ref kkm, .ref kda])), (a, .inl (g.2.1 2, 1, .inr (.inl fo21)))] ++ pl) := hD
  obtain ⟨⟨hm21, hm22, hm23, hxt21, hU⟩, hpo21⟩ := hq21
  have hm21 : tl21 ≤ 16384 := hm21
  have hm22 : al21 ≤ 8192 := hm22
  have hm23 : pn21 ≤ 8 := hm23
  have hxt21 : ext _ T := hxt21
  have hU : uni T := hU
  have hO : okx g T [] pl := hO
  have k_kt := hxt21 _ _ k_kt
  have k_ka := hxt21 _ _ k_ka
  have k_kp := hxt21 _ _ k_kp
  have k_kks := hxt21 _ _ k_kks
  have k_kds := hxt21 _ _ k_kds
  have k_ksp := hxt21 _ _ k_ksp
  have k_kkm := hxt21 _ _ k_kkm
  have k_kda := hxt21 _ _ k_kda
  have k_mt := hxt21 _ _ k_mt
  have k_mr_ := hxt21 _ _ k_mr_
  have k_mk := hxt21 _ _ k_mk
  have k_mo := hxt21 _ _ k_mo
  have k_mh := hxt21 _ _ k_mh
  have k_mhs := hxt21 _ _ k_mhs
  have k_msp := hxt21 _ _ k_msp
  have k_msc := hxt21 _ _ k_msc
  have k_mha := hxt21 _ _ k_mha
  refine W.widen (k := (380 + 3 * n0 + 3)) (n := (194479 + 7491 * n0 + 7491)) (by omega) (by omega) ?_
  refine lv_istore (lv' := [(5, .int r21), (4, .int (nI i)), (3, .ref a), (2, .ref h1), (1, .ref h0), (0, .ref b)]) hx hb dL_law_291 hl (by decide) rfl (fun ls hl => ?_)
  refine lv_aload_n hx hb dL_law_293 rfl (lv_at hl 3 rfl) ?_
  refine lv_aload_n hx hb dL_law_294 rfl (lv_at hl 5 rfl) ?_
  refine lv_iload hx hb dL_law_295 (lv_at hl 1 rfl) ?_
  refine lv_iconst (v := nI 1) hx hb dL_law_297 (by decide) ?_
  refine mi_iadd hx hb dL_law_298 ?_
  refine va_sld hx hb hXs hbl hbA hS (vp_in_nI (N := L) (by omega) (by omega)) dL_law_299 ?_
  refine mi_any (fun z22 => ?_)
  refine mp_i (cx := [(h1, .inr (8, [.int x0, .int (nI tp), .int (nI rs), .int (nI ks), .ref mt, .ref mr_, .ref mk, .ref mo, .ref mh, .ref mse, .ref mhs, .ref msp, .ref msc, .ref mha])), (mse, .inl (g.2.1 0, 8, .inl fS))]) (wr := [(h0, .inr (0, [.ref kt, .int (nI tl21), .ref ka, .int (nI al21), .ref kp, .int (nI pn21), .ref kks, .ref kds, .ref ksp, .ref kkm, .ref kda])), (a, .inl (g.2.1 2, 1, .inr (.inl fo21)))]) hP hD hS hA [0, 1] [2, 3] rfl rfl rfl (by decide) (va_runV (As := [.int z22]) (rest := []) F (t_M_keys l g _ T  pl hO hU  z22 h1 mt mr_ mk mo mh mse mhs msp msc mha tp rs ks x0 fS k_mt k_mr_ k_mk k_mo k_mh k_mhs k_msp k_msc k_mha (by omega) hS5) (cwV 1 hts (wg_app (wg_c kw_1597 (wg_c kw_1598 (wg_c kw_1599 (wg_c kw_9 wg_n)))) kw_1600) rfl rfl rfl (by decide +kernel) ⟨by decide, by decide⟩) (pp_V (en_ok g) (q0 := 0) hK hP hD hS hA hE [0, 1] rfl rfl rfl rfl) rfl rfl hl.1 rfl (lv_room (Nat.le_of_ble_eq_true rfl)) dL_law_300 ⟨by omega, by omega⟩) (fun r22 u23 H locs hu22 hP hD hS => ?_)
  obtain ⟨u24, pl⟩ := u23
  obtain ⟨hq22, hO⟩ := hu22
  obtain ⟨th21, tp21, rs21, ks21, fS21⟩ := u24
  have hP : va_P g.1 vcl ([(h0, .inr (0, [.ref kt, .int (nI tl21), .ref ka, .int (nI al21), .ref kp, .int (nI pn21), .ref kks, .ref kds, .ref ksp, .ref kkm, .ref kda])), (a, .inl (g.2.1 2, 1, .inr (.inl fo21))), (h1, .inr (8, [.int th21, .int (nI tp21), .int (nI rs21), .int (nI ks21), .ref mt, .ref mr_, .ref mk, .ref mo, .ref mh, .ref mse, .ref mhs, .ref msp, .ref msc, .ref mha])), (mse, .inl (g.2.1 0, 8, .inl fS21))] ++ pl) _ := hP
  have hD : va_D _ ([(h0, .inr (0, [.ref kt, .int (nI tl21), .ref ka, .int (nI al21), .ref kp, .int (nI pn21), .ref kks, .ref kds, .ref ksp, .ref kkm, .ref kda])), (a, .inl (g.2.1 2, 1, .inr (.inl fo21))), (h1, .inr (8, [.int th21, .int (nI tp21), .int (nI rs21), .int (nI ks21), .ref mt, .ref mr_, .ref mk, .ref mo, .ref mh, .ref mse, .ref mhs, .ref msp, .ref msc, .ref mha])), (mse, .inl (g.2.1 0, 8, .inl fS21))] ++ pl) := hD
  obtain ⟨hm24, hm25, hm26, hm27⟩ := hq22
  have hm24 : tp21 ≤ 16384 := hm24
  have hm25 : rs21 ≤ 8192 := hm25
  have hm26 : ks21 ≤ 8 := hm26
  refine W.widen (k := (380 + 3 * n0 + 3)) (n := (194479 + 7491 * n0 + 7491)) (by omega) (by omega) ?_
  refine lv_istore (lv' := [(6, .int r22), (5, .int r21), (4, .int (nI i)), (3, .ref a), (2, .ref h1), (1, .ref h0), (0, .ref b)]) hx hb dL_law_303 hl (by decide) rfl (fun ls hl => ?_)
  refine lv_goto (tgt := 785) hx hb dL_law_305 (by decide) ?_
  have hP : va_P g.1 vcl ([(h0, .inr (0, [.ref kt, .int (nI tl21), .ref ka, .int (nI al21), .ref kp, .int (nI pn21), .ref kks, .ref kds, .ref ksp, .ref kkm, .ref kda])), (h1, .inr (8, [.int th21, .int (nI tp21), .int (nI rs21), .int (nI ks21), .ref mt, .ref mr_, .ref mk, .ref mo, .ref mh, .ref mse, .ref mhs, .ref msp, .ref msc, .ref mha])), (mse, .inl (g.2.1 0, 8, .inl fS21)), (a, .inl (g.2.1 2, 1, .inr (.inl fo21)))] ++ pl) _ := hP.part [0, 2, 3, 1] rfl
  have hD : va_D _ ([(h0, .inr (0, [.ref kt, .int (nI tl21), .ref ka, .int (nI al21), .ref kp, .int (nI pn21), .ref kks, .ref kds, .ref ksp, .ref kkm, .ref kda])), (h1, .inr (8, [.int th21, .int (nI tp21), .int (nI rs21), .int (nI ks21), .ref mt, .ref mr_, .ref mk, .ref mo, .ref mh, .ref mse, .ref mhs, .ref msp, .ref msc, .ref mha])), (mse, .inl (g.2.1 0, 8, .inl fS21)), (a, .inl (g.2.1 2, 1, .inr (.inl fo21)))] ++ pl) := hD.part [0, 2, 3, 1] (by decide) rfl
  exact W.widen (k := 380 + 3 * n0 + 3) (n := 194479 + 7491 * n0 + 7491) (by omega) (by omega) (next _ _ _ ⟨T, pl, h0, kt, ka, kp, kks, kds, ksp, kkm, kda, tl21, al21, pn21, h1, mt, mr_, mk, mo, mh, mse, mhs, msp, msc, mha, tp21, rs21, ks21, th21, fS21, a, fo21, hO, hU, ⟨by omega, by omega, by omega⟩, ⟨by omega, by omega, by omega⟩, hm27, k_kt, k_ka, k_kp, k_kks, k_kds, k_ksp, k_kkm, k_kda, k_mt, k_mr_, k_mk, k_mo, k_mh, k_mhs, k_msp, k_msc, k_mha, hP, hD, hS, lv_sub hl [2, 3, 4, 5, 6] rfl⟩)
