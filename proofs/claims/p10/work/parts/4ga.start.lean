set_option linter.all false
/-- on every script, from the store that the constructors leave, the draws of the reference end in time: surely true, but no proof is known, see REPORT.md -/
def EALL : Prop := ∀ xs : Nat → Int32, runE xs 512 0 Z0
set_option maxHeartbeats 4000000 in
set_option maxRecDepth 100000 in
theorem start_if (hEA : EALL) {p : Program} {e : Env} {s : State} {m : MethodId} {below : List Frame} {meth : Method} {c : Code} (l : Launch) (htr : l.stackTraces = false) {b L : Nat} {xs : Nat → Int32} (hL0 : L ≤ 3072) (C0 : lw_At p s m meth c b L xs) : W p l e room_1 s m #[Value.ref b] below meth c s.heap [] 0 0 (lw_Z below #[Value.ref b] s) (entryFrame m ([Value.ref b] : List Value).toArray 7) := by
  obtain ⟨hx, hb, hr, hml, hown, htl, hXs, hbl, hlk, hgv⟩ := id C0
  have hw : ∀ w ∈ WG, w.before #[Value.ref b] s = true := fun w h => htl w (List.mem_filter.mp h).1
  have hts : ∀ w ∈ wL, w.before #[Value.ref b] s = true := fun w h => (List.mem_cons.mp h).elim (fun e => by rw [e]; exact hw _ kobj) (hw w)
  have hown : s.vm.findClass "LatticeKeysLaw" = some m.cls := hown
  have F : CallFix p m c c_L_law 7 s #[Value.ref b] wL "LatticeKeysLaw" := ⟨hx, hb, hml, hown, hts⟩
  obtain ⟨g, hX⟩ := le_env (A := Alaw s) (fun a h z => Nat.not_lt.mpr z h) htl (flat_of_before _ hgv)
  have hE := hX.1
  have hK := hE.1
  have hA : ∀ q, s.heap.size ≤ q → Alaw s q := fun _ h => h
  have hbA : ¬ Alaw s b := fun h => Nat.not_lt.mpr h hbl
  have hl := lv_entry [Value.ref b] (n := 7) (Nat.le_of_ble_eq_true rfl)
  rw [lg_entry_eq]
  have hl : lv_has _ 7 [(0, .ref b)] := hl
  obtain ⟨T, pl, hXT, hO, hU, hL, hP, hD⟩ : ∃ (T : TyN) (pl : va_W), extN T T ∧ okn g T Z0 pl ∧ inj T ∧ nmL T [] ∧ va_P g.1 vcl ([] ++ pl) s.heap ∧ va_D (Alaw s) ([] ++ pl) := ⟨fun _ => none, [], extN_rf, (fun a k h => nomatch h), (fun a b k h => nomatch h), ⟨(fun a k h => nomatch h), (fun k h => absurd (show (false : Bool) = true from h) (by decide))⟩, (fun k q h => by simp at h), ⟨fun i j x y h => by simp at h, fun k q h => by simp at h⟩⟩
  have hS : va_S (Alaw s) s.heap s.heap [] := va_S.rf
  refine va_new (ws := [] ++ pl) (ci := 0) (fs := [.null, .int 0, .null, .int 0, .null, .int 0, .null, .null, .null, .null, .null]) (C := "LatticeKeys") (T := T_K) (N := 11) hx hb hts (wg_ft i_K) ty_K k_K hown (hts _ (wg_t kw_35)) (hts _ (wg_t kw_36)) (hts _ (wg_t kw_1)) hK hP hD hS hA rfl z_K (Nat.le_of_ble_eq_true rfl) (Nat.le_of_ble_eq_true rfl) dL_law_0 (fun q21 H hP hD hS => ?_)
  obtain ⟨hP, hD⟩ := mv_first hP hD
  have hP : va_P g.1 vcl ([(q21, .inr (0, [.null, .int 0, .null, .int 0, .null, .int 0, .null, .null, .null, .null, .null]))] ++ pl) _ := hP
  have hD : va_D _ ([(q21, .inr (0, [.null, .int 0, .null, .int 0, .null, .int 0, .null, .null, .null, .null, .null]))] ++ pl) := hD
  refine W.widen (k := 1) (n := 11) (by omega) (by omega) ?_
  refine lv_dup hx hb dL_law_3 rfl ?_
  refine mp_v (cx := [(q21, .inr (0, [.null, .int 0, .null, .int 0, .null, .int 0, .null, .null, .null, .null, .null]))]) (wr := []) hP hD hS hA [0] [] rfl rfl rfl (by decide) (va_runI (As := []) (rest := [.ref q21]) F (z_K_init l g _ T pl hO hU hL q21) (cwI 0 hts (wg_in kw_39) rfl rfl rfl (hts _ (wg_t kw_1)) (hts _ (wg_t kw_37)) (hts _ (wg_t kw_38)) rfl (by decide +kernel) ⟨by decide, by decide⟩) (pp_S (en_ok g) hP hD hS hA hE [0] rfl rfl) rfl rfl hl.1 rfl (lv_room (Nat.le_of_ble_eq_true rfl)) dL_law_4 ⟨Nat.le_of_ble_eq_true rfl, Nat.le_of_ble_eq_true rfl⟩) (fun u21 H locs hu21 hP hD hS => ?_)
  obtain ⟨T, pl⟩ := u21
  obtain ⟨⟨hxt21, hU, hL, kr21⟩, hO⟩ := hu21
  have hO : okn g T Z0 pl := hO
  have hU : inj T := hU
  have hxt21 : extN _ T := hxt21
  have hXT := extN_tr hXT hxt21
  have hL : nmL T [(0, 1), (8, 9), (11, 12), (10, 11), (9, 10), (4, 5), (7, 8), (6, 7), (5, 6), (39, 40), (147, 148), (146, 147), (145, 146), (144, 145), (143, 144), (142, 143), (141, 142), (140, 141), (131, 140), (123, 131), (114, 123), (105, 114), (97, 105), (40, 97), (37, 38), (38, 39), (18, 19), (19, 20), (22, 23), (23, 24), (16, 17), (17, 18), (24, 25), (36, 37), (35, 36), (34, 35), (33, 34), (32, 33), (31, 32), (30, 31), (25, 30), (20, 21), (21, 22), (14, 15), (15, 16), (12, 13), (13, 14), (3, 4), (2, 3), (1, 2)] := hL
  have kr21 : T q21 = some 0 := kr21
  have hP : va_P g.1 vcl ([] ++ pl) _ := hP
  have hD : va_D _ ([] ++ pl) := hD
  refine W.widen (k := 148) (n := 54553) (by omega) (by omega) ?_
  refine lv_astore_n (lv' := [(1, .ref q21), (0, .ref b)]) hx hb dL_law_7 rfl hl (by decide) rfl (fun ls hl => ?_)
  refine va_new (ws := [] ++ pl) (ci := 8) (fs := [.int 0, .int 0, .int 0, .int 0, .null, .null, .null, .null, .null, .null, .null, .null, .null, .null]) (C := "LatticeKeysModel") (T := T_M) (N := 14) hx hb hts (wg_ft i_M) ty_M k_M hown (hts _ (wg_t kw_1311)) (hts _ (wg_t kw_1312)) (hts _ (wg_t kw_9)) hK hP hD hS hA rfl z_M (Nat.le_of_ble_eq_true rfl) (Nat.le_of_ble_eq_true rfl) dL_law_8 (fun q22 H hP hD hS => ?_)
  obtain ⟨hP, hD⟩ := mv_first hP hD
  have hP : va_P g.1 vcl ([(q22, .inr (8, [.int 0, .int 0, .int 0, .int 0, .null, .null, .null, .null, .null, .null, .null, .null, .null, .null]))] ++ pl) _ := hP
  have hD : va_D _ ([(q22, .inr (8, [.int 0, .int 0, .int 0, .int 0, .null, .null, .null, .null, .null, .null, .null, .null, .null, .null]))] ++ pl) := hD
  refine W.widen (k := 149) (n := 54567) (by omega) (by omega) ?_
  refine lv_dup hx hb dL_law_11 rfl ?_
  refine mp_v (cx := [(q22, .inr (8, [.int 0, .int 0, .int 0, .int 0, .null, .null, .null, .null, .null, .null, .null, .null, .null, .null]))]) (wr := []) hP hD hS hA [0] [] rfl rfl rfl (by decide) (va_runI (As := []) (rest := [.ref q22]) F (z_M_init l g _ T pl hO hU hL q22) (cwI 0 hts (wg_in kw_1315) rfl rfl rfl (hts _ (wg_t kw_9)) (hts _ (wg_t kw_1313)) (hts _ (wg_t kw_1314)) rfl (by decide +kernel) ⟨by decide, by decide⟩) (pp_S (en_ok g) hP hD hS hA hE [0] rfl rfl) rfl rfl hl.1 rfl (lv_room (Nat.le_of_ble_eq_true rfl)) dL_law_12 ⟨Nat.le_of_ble_eq_true rfl, Nat.le_of_ble_eq_true rfl⟩) (fun u22 H locs hu22 hP hD hS => ?_)
  obtain ⟨T, pl⟩ := u22
  obtain ⟨⟨hxt22, hU, hL, kr22⟩, hO⟩ := hu22
  have hO : okn g T Z0 pl := hO
  have hU : inj T := hU
  have hxt22 : extN _ T := hxt22
  have kr23 := hxt22 _ _ kr21
  have hXT := extN_tr hXT hxt22
  have hL : nmL T [(148, 149), (225, 226), (378, 379), (377, 378), (376, 377), (375, 376), (374, 375), (373, 374), (372, 373), (371, 372), (370, 371), (369, 370), (368, 369), (359, 368), (350, 359), (342, 350), (334, 342), (326, 334), (317, 326), (308, 317), (299, 308), (291, 299), (226, 291), (181, 182), (183, 184), (182, 183), (184, 185), (224, 225), (223, 224), (222, 223), (221, 222), (220, 221), (219, 220), (218, 219), (217, 218), (212, 217), (207, 212), (202, 207), (185, 202), (178, 179), (180, 181), (179, 180), (172, 173), (177, 178), (176, 177), (175, 176), (174, 175), (173, 174), (171, 172), (170, 171), (161, 170), (152, 161), (151, 152), (150, 151), (149, 150), (0, 1), (8, 9), (11, 12), (10, 11), (9, 10), (4, 5), (7, 8), (6, 7), (5, 6), (39, 40), (147, 148), (146, 147), (145, 146), (144, 145), (143, 144), (142, 143), (141, 142), (140, 141), (131, 140), (123, 131), (114, 123), (105, 114), (97, 105), (40, 97), (37, 38), (38, 39), (18, 19), (19, 20), (22, 23), (23, 24), (16, 17), (17, 18), (24, 25), (36, 37), (35, 36), (34, 35), (33, 34), (32, 33), (31, 32), (30, 31), (25, 30), (20, 21), (21, 22), (14, 15), (15, 16), (12, 13), (13, 14), (3, 4), (2, 3), (1, 2)] := hL
  have kr22 : T q22 = some 148 := kr22
  have hP : va_P g.1 vcl ([] ++ pl) _ := hP
  have hD : va_D _ ([] ++ pl) := hD
  refine W.widen (k := 379) (n := 194478) (by omega) (by omega) ?_
  refine lv_astore_n (lv' := [(2, .ref q22), (1, .ref q21), (0, .ref b)]) hx hb dL_law_15 rfl hl (by decide) rfl (fun ls hl => ?_)
  refine lv_iconst (v := nI 1) hx hb dL_law_16 (by decide) ?_
  refine ma_newa (ws := [] ++ pl) (atype := .long) hx hb (hts _ (wg_t kw_73)) rfl hK hP hD hS hA 2 rfl (N' := 1) (a0 := (1, .inr (.inl (fun _ => 0)))) (fun _ => rfl) (by decide) (by decide) (by decide) (Nat.le_of_ble_eq_true rfl) (Nat.le_of_ble_eq_true rfl) dL_law_17 (fun q23 H hP hD hS => ?_)
  refine W.widen (k := 380) (n := 194479) (by omega) (by omega) ?_
  obtain ⟨hP, hD⟩ := mv_first hP hD
  have hP : va_P g.1 vcl ([(q23, .inl (g.2.1 2, 1, .inr (.inl ((fun _ => 0)))))] ++ pl) _ := hP
  have hD : va_D _ ([(q23, .inl (g.2.1 2, 1, .inr (.inl ((fun _ => 0)))))] ++ pl) := hD
  refine lv_astore_n (lv' := [(3, .ref q23), (2, .ref q22), (1, .ref q21), (0, .ref b)]) hx hb dL_law_19 rfl hl (by decide) rfl (fun ls hl => ?_)
  refine lv_iconst (v := nI 0) hx hb dL_law_20 (by decide) ?_
  refine lv_istore (lv' := [(4, .int (nI 0)), (3, .ref q23), (2, .ref q22), (1, .ref q21), (0, .ref b)]) hx hb dL_law_21 hl (by decide) rfl (fun ls hl => ?_)
  exact W.widen (k := 380 + 3 * 0) (n := 194479 + 7491 * 0) (by decide) (by decide) (lw_loop l htr hL0 C0 g F hX 512 0 0 Z0 _ _ _ (by omega) (by omega) ⟨T, pl, q21, q22, q23, (fun _ => 0), 0, 0, 0, hO, hU, nmL_full hL (by decide +kernel), nmL_low hL (by decide +kernel), SAME_0 rfl rfl rfl rfl rfl rfl, kr23, kr22, hP, hD, hS, lv_sub hl [0, 1, 2, 3, 4] rfl⟩ (hEA xs))
