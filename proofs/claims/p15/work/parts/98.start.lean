set_option maxHeartbeats 4000000 in
set_option maxRecDepth 100000 in
theorem whole_start {p : Program} {e : Env} {s : State} {m : MethodId} {below : List Frame} {meth : Method} {c : Code} (l : Launch) (htr : l.stackTraces = false) {b L : Nat} {xs : Nat → Int32} (hL : L ≤ 3072) (C0 : lw_At p s m meth c b L xs) : W p l e room_1 s m #[Value.ref b] below meth c s.heap [] 0 0 (lw_Z below #[Value.ref b] s) (entryFrame m ([Value.ref b] : List Value).toArray 7) := by
  obtain ⟨hx, hb, hr, hml, hown, htl, hXs, hbl, hlk, hgv⟩ := id C0
  have hw : ∀ w ∈ WG, w.before #[Value.ref b] s = true := fun w h => htl w (List.mem_filter.mp h).1
  have hts : ∀ w ∈ wL, w.before #[Value.ref b] s = true := fun w h => (List.mem_cons.mp h).elim (fun e => by rw [e]; exact hw _ kobj) (hw w)
  have hown : s.vm.findClass "LatticeKeysLaw" = some m.cls := hown
  have F : CallFix p m c c_L_law 7 s #[Value.ref b] wL "LatticeKeysLaw" := ⟨hx, hb, hml, hown, hts⟩
  obtain ⟨g, hX⟩ := le_env (A := Alaw s) (fun a h z => Nat.not_lt.mpr z h) htl (flat_of_before _ hgv)
  have hE := hX.1
  have hK := hE.1
  have hA : ∀ q, s.heap.size ≤ q → Alaw s q := fun _ h => h
  have hbA : ¬ Alaw s b := fun h => Nat.not_lt.mpr h hbl
  have hl := lv_entry [Value.ref b] (n := 7) (Nat.le_of_ble_eq_true rfl)
  rw [lg_entry_eq]
  have hl : lv_has _ 7 [(0, .ref b)] := hl
  obtain ⟨T, pl, hO, hU, hN, hP, hD⟩ : ∃ (T : Ty) (pl : va_W), okx g T [] pl ∧ uni T ∧ (∀ k, nk T k) ∧ va_P g.1 vcl ([] ++ pl) s.heap ∧ va_D (Alaw s) ([] ++ pl) := ⟨fun _ => none, [], (fun a k h => nomatch h), (fun a b k _ h => nomatch h), (fun k a h => nomatch h), (fun k q h => by simp at h), ⟨fun i j x y h => by simp at h, fun k q h => by simp at h⟩⟩
  have hS : va_S (Alaw s) s.heap s.heap [] := va_S.rf
  have n_10_0 := hN (10, 0)
  have n_19_0 := hN (19, 0)
  have n_10_1 := hN (10, 1)
  have n_19_1 := hN (19, 1)
  have n_10_2 := hN (10, 2)
  have n_19_2 := hN (19, 2)
  have n_10_3 := hN (10, 3)
  have n_19_3 := hN (19, 3)
  have n_8_84 := hN (8, 84)
  have n_20_0 := hN (20, 0)
  have n_30_25 := hN (30, 25)
  have n_31_25 := hN (31, 25)
  have n_32_5 := hN (32, 5)
  have n_33_24 := hN (33, 24)
  have n_34_25 := hN (34, 25)
  have n_49_0 := hN (49, 0)
  refine va_new (ws := [] ++ pl) (ci := 0) (fs := [.null, .int 0, .null, .int 0, .null, .int 0, .null, .null, .null, .null, .null]) (C := "LatticeKeys") (T := T_K) (N := 11) hx hb hts (wg_ft i_K) ty_K k_K hown (hts _ (wg_t kw_35)) (hts _ (wg_t kw_36)) (hts _ (wg_t kw_1)) hK hP hD hS hA rfl z_K (Nat.le_of_ble_eq_true rfl) (Nat.le_of_ble_eq_true rfl) dL_law_0 (fun q21 H hP hD hS => ?_)
  obtain ⟨hP, hD⟩ := mv_first hP hD
  have hP : va_P g.1 vcl ([(q21, .inr (0, [.null, .int 0, .null, .int 0, .null, .int 0, .null, .null, .null, .null, .null]))] ++ pl) _ := hP
  have hD : va_D _ ([(q21, .inr (0, [.null, .int 0, .null, .int 0, .null, .int 0, .null, .null, .null, .null, .null]))] ++ pl) := hD
  refine W.widen (k := 1) (n := 11) (by omega) (by omega) ?_
  refine lv_dup hx hb dL_law_3 rfl ?_
  refine mp_v (cx := [(q21, .inr (0, [.null, .int 0, .null, .int 0, .null, .int 0, .null, .null, .null, .null, .null]))]) (wr := []) hP hD hS hA [0] [] rfl rfl rfl (by decide) (va_runI (As := []) (rest := [.ref q21]) F (t_K_init l g _ T  pl hO hU  q21 n_10_0 n_19_0 n_10_1 n_19_1 n_10_2 n_19_2 n_10_3 n_19_3 n_8_84) (cwI 0 hts (wg_in kw_39) rfl rfl rfl (hts _ (wg_t kw_1)) (hts _ (wg_t kw_37)) (hts _ (wg_t kw_38)) rfl (by decide +kernel) ⟨by decide, by decide⟩) (pp_S (en_ok g) hP hD hS hA hE [0] rfl rfl) rfl rfl hl.1 rfl (lv_room (Nat.le_of_ble_eq_true rfl)) dL_law_4 ⟨Nat.le_of_ble_eq_true rfl, Nat.le_of_ble_eq_true rfl⟩) (fun  u21 H locs hu21 hP hD hS => ?_)
  obtain ⟨u22, pl⟩ := u21
  obtain ⟨hq21, hO⟩ := hu21
  obtain ⟨T, uK⟩ := u22
  have hP : va_P g.1 vcl ([(q21, .inr (0, [.ref ((uK 0)), .int (nI 0), .ref ((uK 1)), .int (nI 0), .ref ((uK 2)), .int (nI 0), .ref ((uK 3)), .ref ((uK 4)), .ref ((uK 5)), .ref ((uK 6)), .ref ((uK 7))]))] ++ pl) _ := hP
  have hD : va_D _ ([(q21, .inr (0, [.ref ((uK 0)), .int (nI 0), .ref ((uK 1)), .int (nI 0), .ref ((uK 2)), .int (nI 0), .ref ((uK 3)), .ref ((uK 4)), .ref ((uK 5)), .ref ((uK 6)), .ref ((uK 7))]))] ++ pl) := hD
  obtain ⟨hxt21, hU, hps21, k_kt, k_ka, k_kp, k_kks, k_kds, k_ksp, k_kkm, k_kda⟩ := hq21
  have hxt21 : ext _ T := hxt21
  have hU : uni T := hU
  have hO : okx g T [] pl := hO
  have hps21 : pass _ T _ := hps21
  have k_kt : T (uK 0) = some (1, 16384) := k_kt
  have k_ka : T (uK 1) = some (1, 8192) := k_ka
  have k_kp : T (uK 2) = some (6, 0) := k_kp
  have k_kks : T (uK 3) = some (50, 0) := k_kks
  have k_kds : T (uK 4) = some (51, 0) := k_kds
  have k_ksp : T (uK 5) = some (10, 0) := k_ksp
  have k_kkm : T (uK 6) = some (13, 0) := k_kkm
  have k_kda : T (uK 7) = some (15, 0) := k_kda
  have n_20_0 := hps21 _ (by decide) n_20_0
  have n_30_25 := hps21 _ (by decide) n_30_25
  have n_31_25 := hps21 _ (by decide) n_31_25
  have n_32_5 := hps21 _ (by decide) n_32_5
  have n_33_24 := hps21 _ (by decide) n_33_24
  have n_34_25 := hps21 _ (by decide) n_34_25
  have n_49_0 := hps21 _ (by decide) n_49_0
  refine W.widen (k := 148) (n := 54553) (by omega) (by omega) ?_
  refine lv_astore_n (lv' := [(1, .ref q21), (0, .ref b)]) hx hb dL_law_7 rfl hl (by decide) rfl (fun ls hl => ?_)
  refine va_new (ws := [(q21, .inr (0, [.ref ((uK 0)), .int (nI 0), .ref ((uK 1)), .int (nI 0), .ref ((uK 2)), .int (nI 0), .ref ((uK 3)), .ref ((uK 4)), .ref ((uK 5)), .ref ((uK 6)), .ref ((uK 7))]))] ++ pl) (ci := 8) (fs := [.int 0, .int 0, .int 0, .int 0, .null, .null, .null, .null, .null, .null, .null, .null, .null, .null]) (C := "LatticeKeysModel") (T := T_M) (N := 14) hx hb hts (wg_ft i_M) ty_M k_M hown (hts _ (wg_t kw_1311)) (hts _ (wg_t kw_1312)) (hts _ (wg_t kw_9)) hK hP hD hS hA rfl z_M (Nat.le_of_ble_eq_true rfl) (Nat.le_of_ble_eq_true rfl) dL_law_8 (fun q22 H hP hD hS => ?_)
  obtain ⟨hP, hD⟩ := mv_first hP hD
  have hP : va_P g.1 vcl ([(q21, .inr (0, [.ref ((uK 0)), .int (nI 0), .ref ((uK 1)), .int (nI 0), .ref ((uK 2)), .int (nI 0), .ref ((uK 3)), .ref ((uK 4)), .ref ((uK 5)), .ref ((uK 6)), .ref ((uK 7))])), (q22, .inr (8, [.int 0, .int 0, .int 0, .int 0, .null, .null, .null, .null, .null, .null, .null, .null, .null, .null]))] ++ pl) _ := hP
  have hD : va_D _ ([(q21, .inr (0, [.ref ((uK 0)), .int (nI 0), .ref ((uK 1)), .int (nI 0), .ref ((uK 2)), .int (nI 0), .ref ((uK 3)), .ref ((uK 4)), .ref ((uK 5)), .ref ((uK 6)), .ref ((uK 7))])), (q22, .inr (8, [.int 0, .int 0, .int 0, .int 0, .null, .null, .null, .null, .null, .null, .null, .null, .null, .null]))] ++ pl) := hD
  refine W.widen (k := 149) (n := 54567) (by omega) (by omega) ?_
  refine lv_dup hx hb dL_law_11 rfl ?_
  refine mp_v (cx := [(q22, .inr (8, [.int 0, .int 0, .int 0, .int 0, .null, .null, .null, .null, .null, .null, .null, .null, .null, .null]))]) (wr := [(q21, .inr (0, [.ref ((uK 0)), .int (nI 0), .ref ((uK 1)), .int (nI 0), .ref ((uK 2)), .int (nI 0), .ref ((uK 3)), .ref ((uK 4)), .ref ((uK 5)), .ref ((uK 6)), .ref ((uK 7))]))]) hP hD hS hA [1] [0] rfl rfl rfl (by decide) (va_runI (As := []) (rest := [.ref q22]) F (t_M_init l g _ T  pl hO hU  q22 n_20_0 n_30_25 n_31_25 n_32_5 n_33_24 n_34_25 n_49_0) (cwI 0 hts (wg_in kw_1315) rfl rfl rfl (hts _ (wg_t kw_9)) (hts _ (wg_t kw_1313)) (hts _ (wg_t kw_1314)) rfl (by decide +kernel) ⟨by decide, by decide⟩) (pp_S (en_ok g) hP hD hS hA hE [1] rfl rfl) rfl rfl hl.1 rfl (lv_room (Nat.le_of_ble_eq_true rfl)) dL_law_12 ⟨Nat.le_of_ble_eq_true rfl, Nat.le_of_ble_eq_true rfl⟩) (fun  u23 H locs hu22 hP hD hS => ?_)
  obtain ⟨u24, pl⟩ := u23
  obtain ⟨hq22, hO⟩ := hu22
  obtain ⟨T, uM⟩ := u24
  have hP : va_P g.1 vcl ([(q21, .inr (0, [.ref ((uK 0)), .int (nI 0), .ref ((uK 1)), .int (nI 0), .ref ((uK 2)), .int (nI 0), .ref ((uK 3)), .ref ((uK 4)), .ref ((uK 5)), .ref ((uK 6)), .ref ((uK 7))])), (q22, .inr (8, [.int (nI 0), .int (nI 0), .int (nI 0), .int (nI 0), .ref ((uM 0)), .ref ((uM 1)), .ref ((uM 2)), .ref ((uM 3)), .ref ((uM 4)), .ref ((uM 5)), .ref ((uM 6)), .ref ((uM 7)), .ref ((uM 8)), .ref ((uM 9))])), ((uM 5), .inl (g.2.1 0, 8, .inl ((fun _ => 0))))] ++ pl) _ := hP
  have hD : va_D _ ([(q21, .inr (0, [.ref ((uK 0)), .int (nI 0), .ref ((uK 1)), .int (nI 0), .ref ((uK 2)), .int (nI 0), .ref ((uK 3)), .ref ((uK 4)), .ref ((uK 5)), .ref ((uK 6)), .ref ((uK 7))])), (q22, .inr (8, [.int (nI 0), .int (nI 0), .int (nI 0), .int (nI 0), .ref ((uM 0)), .ref ((uM 1)), .ref ((uM 2)), .ref ((uM 3)), .ref ((uM 4)), .ref ((uM 5)), .ref ((uM 6)), .ref ((uM 7)), .ref ((uM 8)), .ref ((uM 9))])), ((uM 5), .inl (g.2.1 0, 8, .inl ((fun _ => 0))))] ++ pl) := hD
  obtain ⟨hxt22, hU, hps22, k_mt, k_mr_, k_mk, k_mo, k_mh, k_mhs, k_msp, k_msc, k_mha⟩ := hq22
  have hxt22 : ext _ T := hxt22
  have hU : uni T := hU
  have hO : okx g T [] pl := hO
  have hps22 : pass _ T _ := hps22
  have k_mt : T (uM 0) = some (1, 16384) := k_mt
  have k_mr_ : T (uM 1) = some (1, 8192) := k_mr_
  have k_mk : T (uM 2) = some (1, 8192) := k_mk
  have k_mo : T (uM 3) = some (4, 2592) := k_mo
  have k_mh : T (uM 4) = some (4, 4896) := k_mh
  have k_mhs : T (uM 6) = some (5, 4896) := k_mhs
  have k_msp : T (uM 7) = some (20, 0) := k_msp
  have k_msc : T (uM 8) = some (23, 0) := k_msc
  have k_mha : T (uM 9) = some (49, 0) := k_mha
  have k_kt := hxt22 _ _ k_kt
  have k_ka := hxt22 _ _ k_ka
  have k_kp := hxt22 _ _ k_kp
  have k_kks := hxt22 _ _ k_kks
  have k_kds := hxt22 _ _ k_kds
  have k_ksp := hxt22 _ _ k_ksp
  have k_kkm := hxt22 _ _ k_kkm
  have k_kda := hxt22 _ _ k_kda
  refine W.widen (k := 379) (n := 194478) (by omega) (by omega) ?_
  refine lv_astore_n (lv' := [(2, .ref q22), (1, .ref q21), (0, .ref b)]) hx hb dL_law_15 rfl hl (by decide) rfl (fun ls hl => ?_)
  refine lv_iconst (v := nI 1) hx hb dL_law_16 (by decide) ?_
  refine ma_newa (ws := [(q21, .inr (0, [.ref ((uK 0)), .int (nI 0), .ref ((uK 1)), .int (nI 0), .ref ((uK 2)), .int (nI 0), .ref ((uK 3)), .ref ((uK 4)), .ref ((uK 5)), .ref ((uK 6)), .ref ((uK 7))])), (q22, .inr (8, [.int (nI 0), .int (nI 0), .int (nI 0), .int (nI 0), .ref ((uM 0)), .ref ((uM 1)), .ref ((uM 2)), .ref ((uM 3)), .ref ((uM 4)), .ref ((uM 5)), .ref ((uM 6)), .ref ((uM 7)), .ref ((uM 8)), .ref ((uM 9))])), ((uM 5), .inl (g.2.1 0, 8, .inl ((fun _ => 0))))] ++ pl) (atype := .long) hx hb (hts _ (wg_t kw_73)) rfl hK hP hD hS hA 2 rfl (N' := 1) (a0 := (1, .inr (.inl (fun _ => 0)))) (fun _ => rfl) (by decide) (by decide) (by decide) (Nat.le_of_ble_eq_true rfl) (Nat.le_of_ble_eq_true rfl) dL_law_17 (fun q23 H hP hD hS => ?_)
  refine W.widen (k := 380) (n := 194479) (by omega) (by omega) ?_
  obtain ⟨hP, hD⟩ := mv_first hP hD
  have hP : va_P g.1 vcl ([(q21, .inr (0, [.ref ((uK 0)), .int (nI 0), .ref ((uK 1)), .int (nI 0), .ref ((uK 2)), .int (nI 0), .ref ((uK 3)), .ref ((uK 4)), .ref ((uK 5)), .ref ((uK 6)), .ref ((uK 7))])), (q22, .inr (8, [.int (nI 0), .int (nI 0), .int (nI 0), .int (nI 0), .ref ((uM 0)), .ref ((uM 1)), .ref ((uM 2)), .ref ((uM 3)), .ref ((uM 4)), .ref ((uM 5)), .ref ((uM 6)), .ref ((uM 7)), .ref ((uM 8)), .ref ((uM 9))])), ((uM 5), .inl (g.2.1 0, 8, .inl ((fun _ => 0)))), (q23, .inl (g.2.1 2, 1, .inr (.inl ((fun _ => 0)))))] ++ pl) _ := hP
  have hD : va_D _ ([(q21, .inr (0, [.ref ((uK 0)), .int (nI 0), .ref ((uK 1)), .int (nI 0), .ref ((uK 2)), .int (nI 0), .ref ((uK 3)), .ref ((uK 4)), .ref ((uK 5)), .ref ((uK 6)), .ref ((uK 7))])), (q22, .inr (8, [.int (nI 0), .int (nI 0), .int (nI 0), .int (nI 0), .ref ((uM 0)), .ref ((uM 1)), .ref ((uM 2)), .ref ((uM 3)), .ref ((uM 4)), .ref ((uM 5)), .ref ((uM 6)), .ref ((uM 7)), .ref ((uM 8)), .ref ((uM 9))])), ((uM 5), .inl (g.2.1 0, 8, .inl ((fun _ => 0)))), (q23, .inl (g.2.1 2, 1, .inr (.inl ((fun _ => 0)))))] ++ pl) := hD
  refine lv_astore_n (lv' := [(3, .ref q23), (2, .ref q22), (1, .ref q21), (0, .ref b)]) hx hb dL_law_19 rfl hl (by decide) rfl (fun ls hl => ?_)
  refine lv_iconst (v := nI 0) hx hb dL_law_20 (by decide) ?_
  refine lv_istore (lv' := [(4, .int (nI 0)), (3, .ref q23), (2, .ref q22), (1, .ref q21), (0, .ref b)]) hx hb dL_law_21 hl (by decide) rfl (fun ls hl => ?_)
  exact W.widen (k := 380 + 3 * 0) (n := 194479 + 7491 * 0) (by decide) (by decide) (law_loop l htr hL C0 g F hX 512 0 0 _ _ _ (by omega) (by omega) ⟨T, pl, q21, (uK 0), (uK 1), (uK 2), (uK 3), (uK 4), (uK 5), (uK 6), (uK 7), 0, 0, 0, q22, (uM 0), (uM 1), (uM 2), (uM 3), (uM 4), (uM 5), (uM 6), (uM 7), (uM 8), (uM 9), 0, 0, 0, nI 0, (fun _ => 0), q23, (fun _ => 0), hO, hU, ⟨by omega, by omega, by omega⟩, ⟨by omega, by omega, by omega⟩, (fun j _ => ⟨0, by omega, rfl⟩), k_kt, k_ka, k_kp, k_kks, k_kds, k_ksp, k_kkm, k_kda, k_mt, k_mr_, k_mk, k_mo, k_mh, k_mhs, k_msp, k_msc, k_mha, hP, hD, hS, lv_sub hl [0, 1, 2, 3, 4] rfl⟩)
