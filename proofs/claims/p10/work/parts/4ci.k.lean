set_option linter.all false
abbrev c_K_show : ByteArray := prog_1_method_9_code
abbrev y_K_show : MethodName := ⟨"LatticeKeys", "show", "(IZ)I"⟩
abbrev w_K_show : List Cond := Cond.code y_K_show c_K_show 4 (some .int) :: WG
theorem dK_show_0 : decode c_K_show 0 = .ok (.aload_n 0, 1) := by decide +kernel
theorem dK_show_1 : decode c_K_show 1 = .ok (.iload_n 1, 1) := by decide +kernel
theorem dK_show_2 : decode c_K_show 2 = .ok (.iload_n 2, 1) := by decide +kernel
theorem dK_show_3 : decode c_K_show 3 = .ok (.invokevirtual 152, 3) := by decide +kernel
theorem dK_show_6 : decode c_K_show 6 = .ok (.astore_n 3, 1) := by decide +kernel
theorem dK_show_7 : decode c_K_show 7 = .ok (.aload_n 3, 1) := by decide +kernel
theorem dK_show_8 : decode c_K_show 8 = .ok (.ifnonnull 13, 3) := by decide +kernel
theorem dK_show_11 : decode c_K_show 11 = .ok (.new 156, 3) := by decide +kernel
theorem dK_show_14 : decode c_K_show 14 = .ok (.dup, 1) := by decide +kernel
theorem dK_show_15 : decode c_K_show 15 = .ok (.ldc 158, 2) := by decide +kernel
theorem dK_show_17 : decode c_K_show 17 = .ok (.invokespecial 160, 3) := by decide +kernel
theorem dK_show_20 : decode c_K_show 20 = .ok (.athrow, 1) := by decide +kernel
theorem dK_show_21 : decode c_K_show 21 = .ok (.aload_n 3, 1) := by decide +kernel
theorem dK_show_22 : decode c_K_show 22 = .ok (.iconst 0, 1) := by decide +kernel
theorem dK_show_23 : decode c_K_show 23 = .ok (.aload_n 0, 1) := by decide +kernel
theorem dK_show_24 : decode c_K_show 24 = .ok (.getfield 17, 3) := by decide +kernel
theorem dK_show_27 : decode c_K_show 27 = .ok (.iconst 0, 1) := by decide +kernel
theorem dK_show_28 : decode c_K_show 28 = .ok (.aload_n 3, 1) := by decide +kernel
theorem dK_show_29 : decode c_K_show 29 = .ok (.arraylength, 1) := by decide +kernel
theorem dK_show_30 : decode c_K_show 30 = .ok (.invokestatic 84, 3) := by decide +kernel
theorem dK_show_33 : decode c_K_show 33 = .ok (.aload_n 0, 1) := by decide +kernel
theorem dK_show_34 : decode c_K_show 34 = .ok (.aload_n 3, 1) := by decide +kernel
theorem dK_show_35 : decode c_K_show 35 = .ok (.arraylength, 1) := by decide +kernel
theorem dK_show_36 : decode c_K_show 36 = .ok (.putfield 20, 3) := by decide +kernel
theorem dK_show_39 : decode c_K_show 39 = .ok (.aload_n 0, 1) := by decide +kernel
theorem dK_show_40 : decode c_K_show 40 = .ok (.getfield 20, 3) := by decide +kernel
theorem dK_show_43 : decode c_K_show 43 = .ok (.ireturn, 1) := by decide +kernel
def M_K_show (k : Nat) : Prop := k = 0 ∨ k = 2 ∨ (0 : Nat) = 1
noncomputable def F_K_show (v : Int32) (sc : Int32) (s : Sto) : Int32 × Int32 × Sto := bnd (F_K_partOf v sc s) fun q21 => if sc = 0 then if q21.1 = nI 0 then (nI 1, nI 0, q21.2) else if q21.1 = nI 1 then bnd (v.toNatClampNeg) fun z21 => bnd (sC q21.2 ((379 + 36 * z21 + 1)) 2 0 0 800) fun s21 => bnd (sI s21 0 3 (nI 800)) fun s22 => bnd ((s22.1 0 3).toNatClampNeg) fun z22 => (nI 0, nI z22, s22) else if q21.1 = nI 2 then bnd (v.toNatClampNeg) fun z23 => bnd (sC q21.2 ((379 + 36 * z23 + 4)) 2 0 0 1184) fun s23 => bnd (sI s23 0 3 (nI 1184)) fun s24 => bnd ((s24.1 0 3).toNatClampNeg) fun z24 => (nI 0, nI z24, s24) else if q21.1 = nI 3 then bnd (v.toNatClampNeg) fun z25 => bnd (sC q21.2 ((379 + 36 * z25 + 7)) 2 0 0 1568) fun s25 => bnd (sI s25 0 3 (nI 1568)) fun s26 => bnd ((s26.1 0 3).toNatClampNeg) fun z26 => (nI 0, nI z26, s26) else if q21.1 = nI 4 then bnd (v.toNatClampNeg) fun z27 => bnd (sC q21.2 ((379 + 36 * z27 + 10)) 2 0 0 1312) fun s27 => bnd (sI s27 0 3 (nI 1312)) fun s28 => bnd ((s28.1 0 3).toNatClampNeg) fun z28 => (nI 0, nI z28, s28) else if q21.1 = nI 5 then bnd (v.toNatClampNeg) fun z29 => bnd (sC q21.2 ((379 + 36 * z29 + 13)) 2 0 0 1952) fun s29 => bnd (sI s29 0 3 (nI 1952)) fun s30 => bnd ((s30.1 0 3).toNatClampNeg) fun z30 => (nI 0, nI z30, s30) else if q21.1 = nI 6 then bnd (v.toNatClampNeg) fun z31 => bnd (sC q21.2 ((379 + 36 * z31 + 16)) 2 0 0 2592) fun s31 => bnd (sI s31 0 3 (nI 2592)) fun s32 => bnd ((s32.1 0 3).toNatClampNeg) fun z32 => (nI 0, nI z32, s32) else if q21.1 = nI 7 then bnd (v.toNatClampNeg) fun z33 => bnd (sC q21.2 ((379 + 36 * z33 + 19)) 2 0 0 800) fun s33 => bnd (sI s33 0 3 (nI 800)) fun s34 => bnd ((s34.1 0 3).toNatClampNeg) fun z34 => (nI 0, nI z34, s34) else if q21.1 = nI 8 then bnd (v.toNatClampNeg) fun z35 => bnd (sC q21.2 ((379 + 36 * z35 + 22)) 2 0 0 1184) fun s35 => bnd (sI s35 0 3 (nI 1184)) fun s36 => bnd ((s36.1 0 3).toNatClampNeg) fun z36 => (nI 0, nI z36, s36) else if q21.1 = nI 9 then bnd (v.toNatClampNeg) fun z37 => bnd (sC q21.2 ((379 + 36 * z37 + 25)) 2 0 0 1568) fun s37 => bnd (sI s37 0 3 (nI 1568)) fun s38 => bnd ((s38.1 0 3).toNatClampNeg) fun z38 => (nI 0, nI z38, s38) else if q21.1 = nI 10 then bnd (v.toNatClampNeg) fun z39 => bnd (sC q21.2 ((379 + 36 * z39 + 28)) 2 0 0 1312) fun s39 => bnd (sI s39 0 3 (nI 1312)) fun s40 => bnd ((s40.1 0 3).toNatClampNeg) fun z40 => (nI 0, nI z40, s40) else if q21.1 = nI 11 then bnd (v.toNatClampNeg) fun z41 => bnd (sC q21.2 ((379 + 36 * z41 + 31)) 2 0 0 1952) fun s41 => bnd (sI s41 0 3 (nI 1952)) fun s42 => bnd ((s42.1 0 3).toNatClampNeg) fun z42 => (nI 0, nI z42, s42) else if q21.1 = nI 12 then bnd (v.toNatClampNeg) fun z43 => bnd (sC q21.2 ((379 + 36 * z43 + 34)) 2 0 0 2592) fun s43 => bnd (sI s43 0 3 (nI 2592)) fun s44 => bnd ((s44.1 0 3).toNatClampNeg) fun z44 => (nI 0, nI z44, s44) else (nI 0, nI 0, q21.2) else if q21.1 = nI 0 then (nI 1, nI 0, q21.2) else if q21.1 = nI 1 then bnd (v.toNatClampNeg) fun z45 => bnd (sC q21.2 ((379 + 36 * z45 + 2)) 2 0 0 1632) fun s45 => bnd (sI s45 0 3 (nI 1632)) fun s46 => bnd ((s46.1 0 3).toNatClampNeg) fun z46 => (nI 0, nI z46, s46) else if q21.1 = nI 2 then bnd (v.toNatClampNeg) fun z47 => bnd (sC q21.2 ((379 + 36 * z47 + 5)) 2 0 0 2400) fun s47 => bnd (sI s47 0 3 (nI 2400)) fun s48 => bnd ((s48.1 0 3).toNatClampNeg) fun z48 => (nI 0, nI z48, s48) else if q21.1 = nI 3 then bnd (v.toNatClampNeg) fun z49 => bnd (sC q21.2 ((379 + 36 * z49 + 8)) 2 0 0 3168) fun s49 => bnd (sI s49 0 3 (nI 3168)) fun s50 => bnd ((s50.1 0 3).toNatClampNeg) fun z50 => (nI 0, nI z50, s50) else if q21.1 = nI 4 then bnd (v.toNatClampNeg) fun z51 => bnd (sC q21.2 ((379 + 36 * z51 + 11)) 2 0 0 2560) fun s51 => bnd (sI s51 0 3 (nI 2560)) fun s52 => bnd ((s52.1 0 3).toNatClampNeg) fun z52 => (nI 0, nI z52, s52) else if q21.1 = nI 5 then bnd (v.toNatClampNeg) fun z53 => bnd (sC q21.2 ((379 + 36 * z53 + 14)) 2 0 0 4032) fun s53 => bnd (sI s53 0 3 (nI 4032)) fun s54 => bnd ((s54.1 0 3).toNatClampNeg) fun z54 => (nI 0, nI z54, s54) else if q21.1 = nI 6 then bnd (v.toNatClampNeg) fun z55 => bnd (sC q21.2 ((379 + 36 * z55 + 17)) 2 0 0 4896) fun s55 => bnd (sI s55 0 3 (nI 4896)) fun s56 => bnd ((s56.1 0 3).toNatClampNeg) fun z56 => (nI 0, nI z56, s56) else (nI 0, nI 0, q21.2)
set_option maxHeartbeats 2000000 in
set_option maxRecDepth 100000 in
theorem N_K_show (l : Launch) (htr : l.stackTraces = false) (g : Gd) (sz : Nat) (T : TyN) (s : Sto) (pl : va_W) (hO : okn g T s pl) (hU : inj T) (h0 : Nat) (v : Int32) (sc : Int32) (tl : Nat) (al : Nat) (pn : Nat) (k_h0 : T h0 = some 0) (e_tl : s.1 0 1 = nI tl) (e_al : s.1 0 3 = nI al) (e_pn : s.1 0 5 = nI pn) (h1 : tl ≤ 16384) (h2 : al ≤ 8192) (h3 : pn ≤ 8)  : etMet l y_K_show w_K_show ({ frames := 6, cells := 1, slots := 6, locals := 90 } : Room) (va_Pc [.ref h0, .int v, .int sc] (pr (ex g) g.1 vcl sz ([] ++ pl))) (xls ["java/util/NoSuchElementException"] (F_K_show v sc s).1) (va_Qi (fun (r : Int32) (u : (Int32 × Int32 × Sto) × va_W) => (u.1 = F_K_show v sc s ∧ r = u.1.2.1 ∧ u.1.1 = nI 0 ∧ frm (M_K_show) s u.1.2.2 ∧ (∃ x : Nat, u.1.2.2.1 0 1 = nI x ∧ x ≤ 16384) ∧ (∃ x : Nat, u.1.2.2.1 0 3 = nI x ∧ x ≤ 8192) ∧ (∃ x : Nat, u.1.2.2.1 0 5 = nI x ∧ x = pn) ∧ True) ∧ okn g T u.1.2.2 u.2) (po g.1 vcl (va_A ([] ++ pl) sz) (fun (u : (Int32 × Int32 × Sto) × va_W) => [] ++ u.2)) (va_A ([] ++ pl) sz)) (xtP (fun (u : (Int32 × Int32 × Sto) × va_W) => (u.1 = F_K_show v sc s ∧ frm (M_K_show) s u.1.2.2 ∧ (∃ x : Nat, u.1.2.2.1 0 1 = nI x ∧ x ≤ 16384) ∧ (∃ x : Nat, u.1.2.2.1 0 3 = nI x ∧ x ≤ 8192) ∧ (∃ x : Nat, u.1.2.2.1 0 5 = nI x ∧ x = pn) ∧ True) ∧ okn g T u.1.2.2 u.2) (po g.1 vcl (va_A ([] ++ pl) sz) (fun (u : (Int32 × Int32 × Sto) × va_W) => [] ++ u.2)) (va_A ([] ++ pl) sz)) 1 6 (va_A ([] ++ pl) sz) := by
  refine et_entry (cc := c_K_show) (maxL := 4) (ret := (some .int)) (by decide) rfl (Nat.le_of_ble_eq_true rfl) ?_
  intro p e s0 m args below meth c ls F hr hlk htab hsz hP hD hX hA hl
  obtain ⟨hx, hb, hml, hown, hts⟩ := id F
  have hE := hX.1
  have hK := hE.1
  generalize va_A ([] ++ pl) sz = A at hD hX hE hA ⊢
  have hS : va_S A s0.heap s0.heap [] := va_S.rf
  have hl : lv_has ls 4 [(0, .ref h0), (1, .int v), (2, .int sc)] := hl
  have hR : F_K_show v sc s = F_K_show v sc s := rfl
  have hF : frm (M_K_show) s s := frm_rf
  refine lv_aload_n hx hb dK_show_0 rfl (lv_at hl 0 rfl) ?_
  refine lv_iload_n hx hb dK_show_1 rfl (lv_at hl 1 rfl) ?_
  refine lv_iload_n hx hb dK_show_2 rfl (lv_at hl 2 rfl) ?_
  refine mp_q (cx := []) (wr := []) hP hD hS hA [] [] rfl rfl rfl (by decide) (va_runV (As := [.int v, .int sc]) (rest := []) F (N_K_partOf l g _ T s pl hO hU h0 v sc tl al pn k_h0 e_tl e_al e_pn (by omega)) (cwV 2 hts (wg_app (wg_c kw_1056 (wg_c kw_1058 (wg_c ks_23 (wg_c kw_1 wg_n)))) kw_1059) rfl rfl rfl (by decide +kernel) ⟨by decide, by decide⟩) (pn_W "LatticeKeys" (en_ok g) (ci := 0) (kn := 0) (fl := [(3, 1), (0, 0), (3, 2), (0, 0), (3, 3), (0, 0), (3, 4), (3, 8), (3, 12), (3, 24), (3, 39)]) hK hO k_h0 rfl hP hD hS hA hE [] rfl rfl rfl) rfl rfl hl.1 rfl (lv_room (Nat.le_of_ble_eq_true rfl)) dK_show_3 ⟨Nat.le_of_ble_eq_true rfl, Nat.le_of_ble_eq_true rfl⟩) (fun r21 u21 H locs hu21 hP hD hS => ?_)
  obtain ⟨q21, pl⟩ := u21
  obtain ⟨⟨eq21, hq21, hFc21, -⟩, hO⟩ := hu21
  have hO : okn g T q21.2 pl := hO
  have hP : va_P g.1 vcl ([] ++ pl) _ := hP
  have hD : va_D _ ([] ++ pl) := hD
  have hFc21 : frm (M_K_partOf) s q21.2 := hFc21
  replace hR := bnd_step hR eq21
  have hF := frm_tr hF hFc21 (fun k hk => by unfold M_K_partOf at hk; unfold M_K_show; omega)
  have hf21 : q21.2.1 0 1 = nI tl := fc_F e_tl hFc21 (by unfold M_K_partOf; omega)
  have hf22 : q21.2.1 0 3 = nI al := fc_F e_al hFc21 (by unfold M_K_partOf; omega)
  have hf23 : q21.2.1 0 5 = nI pn := fc_F e_pn hFc21 (by unfold M_K_partOf; omega)
  refine W.widen (k := 0) (n := 0) (by omega) (by omega) ?_
  by_cases hs21 : sc = 0
  · replace hR := hR.trans (if_pos hs21)
    have hq21 := hq21.1 hs21
    by_cases hs22 : q21.1 = nI 0
    · replace hR := hR.trans (if_pos hs22)
      obtain rfl : r21 = none := pfd_none hq21 hs22
      refine lv_astore_nN (lv' := [(3, .null), (0, .ref h0), (1, .int v), (2, .int sc)]) hx hb dK_show_6 rfl hl (by decide) rfl (fun ls hl => ?_)
      refine lv_aload_nN hx hb dK_show_7 rfl (lv_at hl 0 rfl) ?_
      refine lv_ifnonnullN hx hb dK_show_8 ?_
      exact et_throw (own := "LatticeKeys") (cls := "java/util/NoSuchElementException") (text := "no such keys or part") (names := ["java/lang/RuntimeException", "java/lang/Exception"]) (ik := 156) (is := 158) (ic := 160) hx hb htr ctr_NSE_0 ctr_NSE_1 ctr_NSE_2 ctr_NSE_5 hown (by decide) (by decide) (hts _ (wg_t kw_1064)) (hts _ (wg_t kw_34)) (hX.2.2.2.2.2.1 7 ("LatticeKeys", 158, "no such keys or part") rfl) (hat_NSE hts hX.2) hS.1 (hl.1.trans hml.symm) dK_show_11 dK_show_14 dK_show_15 dK_show_17 dK_show_20 htab (Nat.le_of_ble_eq_true rfl) (Nat.le_of_ble_eq_true rfl) (Nat.le_of_ble_eq_true rfl) (Nat.le_of_ble_eq_true rfl) hlk (Nat.le_of_ble_eq_true rfl) (Nat.le_of_ble_eq_true rfl) (xls_at 0 (congrArg Prod.fst hR) (by decide) rfl) hS.2.2 (thr_st hX.2) (fun t hz9 hk9 => ⟨⟨((nI 1, nI 0, q21.2), pl), ⟨⟨hR.symm, hF, ⟨tl, hf21, by omega⟩, ⟨al, hf22, by omega⟩, ⟨pn, hf23, by omega⟩, trivial⟩, hO⟩, lc_P hP hk9, hD⟩, (lc_S hS hz9 hk9).F rfl⟩)
    replace hR := hR.trans (if_neg hs22)
    by_cases hs23 : q21.1 = nI 1
    · replace hR := hR.trans (if_pos hs23)
      obtain ⟨z21, q22, hz21, hv21, rfl, kr21⟩ := pfd_at (c := 0) hq21 (by decide) hs23
      have kr21 : T q22 = some (379 + 36 * z21 + 1) := kr21
      have ez21 : z21 = v.toNatClampNeg := by rw [hv21]; exact (nI_clamp (by omega)).symm
      replace hR := bnd_step hR ez21
      refine lv_astore_n (lv' := [(3, .ref q22), (0, .ref h0), (1, .int v), (2, .int sc)]) hx hb dK_show_6 rfl hl (by decide) rfl (fun ls hl => ?_)
      refine lv_aload_n hx hb dK_show_7 rfl (lv_at hl 0 rfl) ?_
      refine lv_ifnonnull (tgt := 21) hx hb dK_show_8 (by decide) ?_
      refine lv_aload_n hx hb dK_show_21 rfl (lv_at hl 0 rfl) ?_
      refine lv_iconst (v := nI 0) hx hb dK_show_22 (by decide) ?_
      refine lv_aload_n hx hb dK_show_23 rfl (lv_at hl 1 rfl) ?_
      refine nw_get (C := "LatticeKeys") (TT := T_K) (N := 11) hx hb hts (wg_ft i_K) hown hK hO k_h0 (kn := 0) (ci := 0) (fl := [(3, 1), (0, 0), (3, 2), (0, 0), (3, 3), (0, 0), (3, 4), (3, 8), (3, 12), (3, 24), (3, 39)]) rfl hP rfl 2 (by decide) (hts _ (wg_t kw_376)) (fun _ h9 => h9) (cd := (3, 2)) rfl dK_show_24 (fun v21 hv22 => ?_)
      obtain ⟨r22, rfl, kr22⟩ := (show ∃ r : Nat, v21 = .ref r ∧ T r = some 2 from hv22)
      refine lv_iconst (v := nI 0) hx hb dK_show_27 (by decide) ?_
      refine lv_aload_n hx hb dK_show_28 rfl (lv_at hl 0 rfl) ?_
      refine nw_alen1 hx hb hK hO kr21 (k := (379 + 36 * z21 + 1)) (pr_p0 (z := z21) (by omega)) hP dK_show_29 ?_
      refine nw_copyb hx hb (hml.trans hl.1.symm) hown (hts _ (wg_t kw_524)) (hts _ (wg_t kw_526)) (hts _ (wg_t kw_525)) (hts _ (wg_t kw_19)) hK hO hU kr21 (k0 := (379 + 36 * z21 + 1)) (pr_p0 (z := z21) (by omega)) kr22 (k1 := 2) rfl hP hD hS (sp := 0) (dp := 0) (n := 800) (by omega) (by omega) (by omega) (by decide) (Nat.le_of_ble_eq_true rfl) dK_show_30 (fun s21 pl H locs es21 hO hP hD hS => ?_)
      replace hR := bnd_step hR es21
      have hF := frm_sC hF es21 (by unfold M_K_show; omega)
      have hf24 : s21.1 0 1 = nI tl := fc_C hf21 es21 (by omega)
      have hf25 : s21.1 0 3 = nI al := fc_C hf22 es21 (by omega)
      have hf26 : s21.1 0 5 = nI pn := fc_C hf23 es21 (by omega)
      refine lv_aload_n hx hb dK_show_33 rfl (lv_at hl 1 rfl) ?_
      refine lv_aload_n hx hb dK_show_34 rfl (lv_at hl 0 rfl) ?_
      refine nw_alen1 hx hb hK hO kr21 (k := (379 + 36 * z21 + 1)) (pr_p0 (z := z21) (by omega)) hP dK_show_35 ?_
      refine nw_put (C := "LatticeKeys") (TT := T_K) (N := 11) hx hb hts (wg_ft i_K) ty_K k_K n_K hown hK hO hU k_h0 (kn := 0) (ci := 0) (fl := [(3, 1), (0, 0), (3, 2), (0, 0), (3, 3), (0, 0), (3, 4), (3, 8), (3, 12), (3, 24), (3, 39)]) rfl hP hD hS rfl 3 (by decide) (hts _ (wg_t kw_377)) (fun _ h9 => h9) rfl (by decide +kernel) rfl dK_show_36 (fun s22 pl H locs es22 hO hP hD hS => ?_)
      replace hR := bnd_step hR es22
      have hF := frm_sI hF es22 (by unfold M_K_show; omega)
      have hf27 : s22.1 0 1 = nI tl := fc_ne hf24 es22 (by omega)
      have hf29 : s22.1 0 5 = nI pn := fc_ne hf26 es22 (by omega)
      have hf30 : s22.1 0 3 = nI 800 := fc_eq es22
      refine lv_aload_n hx hb dK_show_39 rfl (lv_at hl 1 rfl) ?_
      refine nw_get (C := "LatticeKeys") (TT := T_K) (N := 11) hx hb hts (wg_ft i_K) hown hK hO k_h0 (kn := 0) (ci := 0) (fl := [(3, 1), (0, 0), (3, 2), (0, 0), (3, 3), (0, 0), (3, 4), (3, 8), (3, 12), (3, 24), (3, 39)]) rfl hP rfl 3 (by decide) (hts _ (wg_t kw_377)) (fun _ h9 => h9) (cd := (0, 0)) rfl dK_show_40 (fun v22 hv23 => ?_)
      obtain rfl := (show v22 = .int (s22.1 0 3) from hv23)
      obtain ⟨z22, ez22, hz22, hz23⟩ := cl_of (b := 2147483648) hf30 (by omega) (by decide)
      replace hR := bnd_step hR ez22
      refine mi_as hz22 ?_
      refine et_ret ?_
      exact mp_iret hx hb hr hlk hP hD hS ((nI 0, nI z22, s22), pl) ⟨⟨hR.symm, rfl, rfl, hF, ⟨tl, hf27, by omega⟩, ⟨800, hf30, by omega⟩, ⟨pn, hf29, by omega⟩, trivial⟩, hO⟩ [] rfl rfl rfl (by omega) (by omega) dK_show_43
    replace hR := hR.trans (if_neg hs23)
    by_cases hs24 : q21.1 = nI 2
    · replace hR := hR.trans (if_pos hs24)
      obtain ⟨z23, q23, hz24, hv24, rfl, kr23⟩ := pfd_at (c := 1) hq21 (by decide) hs24
      have kr23 : T q23 = some (379 + 36 * z23 + 4) := kr23
      have ez23 : z23 = v.toNatClampNeg := by rw [hv24]; exact (nI_clamp (by omega)).symm
      replace hR := bnd_step hR ez23
      refine lv_astore_n (lv' := [(3, .ref q23), (0, .ref h0), (1, .int v), (2, .int sc)]) hx hb dK_show_6 rfl hl (by decide) rfl (fun ls hl => ?_)
      refine lv_aload_n hx hb dK_show_7 rfl (lv_at hl 0 rfl) ?_
      refine lv_ifnonnull (tgt := 21) hx hb dK_show_8 (by decide) ?_
      refine lv_aload_n hx hb dK_show_21 rfl (lv_at hl 0 rfl) ?_
      refine lv_iconst (v := nI 0) hx hb dK_show_22 (by decide) ?_
      refine lv_aload_n hx hb dK_show_23 rfl (lv_at hl 1 rfl) ?_
      refine nw_get (C := "LatticeKeys") (TT := T_K) (N := 11) hx hb hts (wg_ft i_K) hown hK hO k_h0 (kn := 0) (ci := 0) (fl := [(3, 1), (0, 0), (3, 2), (0, 0), (3, 3), (0, 0), (3, 4), (3, 8), (3, 12), (3, 24), (3, 39)]) rfl hP rfl 2 (by decide) (hts _ (wg_t kw_376)) (fun _ h9 => h9) (cd := (3, 2)) rfl dK_show_24 (fun v23 hv25 => ?_)
      obtain ⟨r23, rfl, kr24⟩ := (show ∃ r : Nat, v23 = .ref r ∧ T r = some 2 from hv25)
      refine lv_iconst (v := nI 0) hx hb dK_show_27 (by decide) ?_
      refine lv_aload_n hx hb dK_show_28 rfl (lv_at hl 0 rfl) ?_
      refine nw_alen1 hx hb hK hO kr23 (k := (379 + 36 * z23 + 4)) (pr_p1 (z := z23) (by omega)) hP dK_show_29 ?_
      refine nw_copyb hx hb (hml.trans hl.1.symm) hown (hts _ (wg_t kw_524)) (hts _ (wg_t kw_526)) (hts _ (wg_t kw_525)) (hts _ (wg_t kw_19)) hK hO hU kr23 (k0 := (379 + 36 * z23 + 4)) (pr_p1 (z := z23) (by omega)) kr24 (k1 := 2) rfl hP hD hS (sp := 0) (dp := 0) (n := 1184) (by omega) (by omega) (by omega) (by decide) (Nat.le_of_ble_eq_true rfl) dK_show_30 (fun s23 pl H locs es23 hO hP hD hS => ?_)
      replace hR := bnd_step hR es23
      have hF := frm_sC hF es23 (by unfold M_K_show; omega)
      have hf31 : s23.1 0 1 = nI tl := fc_C hf21 es23 (by omega)
      have hf32 : s23.1 0 3 = nI al := fc_C hf22 es23 (by omega)
      have hf33 : s23.1 0 5 = nI pn := fc_C hf23 es23 (by omega)
      refine lv_aload_n hx hb dK_show_33 rfl (lv_at hl 1 rfl) ?_
      refine lv_aload_n hx hb dK_show_34 rfl (lv_at hl 0 rfl) ?_
      refine nw_alen1 hx hb hK hO kr23 (k := (379 + 36 * z23 + 4)) (pr_p1 (z := z23) (by omega)) hP dK_show_35 ?_
      refine nw_put (C := "LatticeKeys") (TT := T_K) (N := 11) hx hb hts (wg_ft i_K) ty_K k_K n_K hown hK hO hU k_h0 (kn := 0) (ci := 0) (fl := [(3, 1), (0, 0), (3, 2), (0, 0), (3, 3), (0, 0), (3, 4), (3, 8), (3, 12), (3, 24), (3, 39)]) rfl hP hD hS rfl 3 (by decide) (hts _ (wg_t kw_377)) (fun _ h9 => h9) rfl (by decide +kernel) rfl dK_show_36 (fun s24 pl H locs es24 hO hP hD hS => ?_)
      replace hR := bnd_step hR es24
      have hF := frm_sI hF es24 (by unfold M_K_show; omega)
      have hf34 : s24.1 0 1 = nI tl := fc_ne hf31 es24 (by omega)
      have hf36 : s24.1 0 5 = nI pn := fc_ne hf33 es24 (by omega)
      have hf37 : s24.1 0 3 = nI 1184 := fc_eq es24
      refine lv_aload_n hx hb dK_show_39 rfl (lv_at hl 1 rfl) ?_
      refine nw_get (C := "LatticeKeys") (TT := T_K) (N := 11) hx hb hts (wg_ft i_K) hown hK hO k_h0 (kn := 0) (ci := 0) (fl := [(3, 1), (0, 0), (3, 2), (0, 0), (3, 3), (0, 0), (3, 4), (3, 8), (3, 12), (3, 24), (3, 39)]) rfl hP rfl 3 (by decide) (hts _ (wg_t kw_377)) (fun _ h9 => h9) (cd := (0, 0)) rfl dK_show_40 (fun v24 hv26 => ?_)
      obtain rfl := (show v24 = .int (s24.1 0 3) from hv26)
      obtain ⟨z24, ez24, hz25, hz26⟩ := cl_of (b := 2147483648) hf37 (by omega) (by decide)
      replace hR := bnd_step hR ez24
      refine mi_as hz25 ?_
      refine et_ret ?_
      exact mp_iret hx hb hr hlk hP hD hS ((nI 0, nI z24, s24), pl) ⟨⟨hR.symm, rfl, rfl, hF, ⟨tl, hf34, by omega⟩, ⟨1184, hf37, by omega⟩, ⟨pn, hf36, by omega⟩, trivial⟩, hO⟩ [] rfl rfl rfl (by omega) (by omega) dK_show_43
    replace hR := hR.trans (if_neg hs24)
    by_cases hs25 : q21.1 = nI 3
    · replace hR := hR.trans (if_pos hs25)
      obtain ⟨z25, q24, hz27, hv27, rfl, kr25⟩ := pfd_at (c := 2) hq21 (by decide) hs25
      have kr25 : T q24 = some (379 + 36 * z25 + 7) := kr25
      have ez25 : z25 = v.toNatClampNeg := by rw [hv27]; exact (nI_clamp (by omega)).symm
      replace hR := bnd_step hR ez25
      refine lv_astore_n (lv' := [(3, .ref q24), (0, .ref h0), (1, .int v), (2, .int sc)]) hx hb dK_show_6 rfl hl (by decide) rfl (fun ls hl => ?_)
      refine lv_aload_n hx hb dK_show_7 rfl (lv_at hl 0 rfl) ?_
      refine lv_ifnonnull (tgt := 21) hx hb dK_show_8 (by decide) ?_
      refine lv_aload_n hx hb dK_show_21 rfl (lv_at hl 0 rfl) ?_
      refine lv_iconst (v := nI 0) hx hb dK_show_22 (by decide) ?_
      refine lv_aload_n hx hb dK_show_23 rfl (lv_at hl 1 rfl) ?_
      refine nw_get (C := "LatticeKeys") (TT := T_K) (N := 11) hx hb hts (wg_ft i_K) hown hK hO k_h0 (kn := 0) (ci := 0) (fl := [(3, 1), (0, 0), (3, 2), (0, 0), (3, 3), (0, 0), (3, 4), (3, 8), (3, 12), (3, 24), (3, 39)]) rfl hP rfl 2 (by decide) (hts _ (wg_t kw_376)) (fun _ h9 => h9) (cd := (3, 2)) rfl dK_show_24 (fun v25 hv28 => ?_)
      obtain ⟨r24, rfl, kr26⟩ := (show ∃ r : Nat, v25 = .ref r ∧ T r = some 2 from hv28)
      refine lv_iconst (v := nI 0) hx hb dK_show_27 (by decide) ?_
      refine lv_aload_n hx hb dK_show_28 rfl (lv_at hl 0 rfl) ?_
      refine nw_alen1 hx hb hK hO kr25 (k := (379 + 36 * z25 + 7)) (pr_p2 (z := z25) (by omega)) hP dK_show_29 ?_
      refine nw_copyb hx hb (hml.trans hl.1.symm) hown (hts _ (wg_t kw_524)) (hts _ (wg_t kw_526)) (hts _ (wg_t kw_525)) (hts _ (wg_t kw_19)) hK hO hU kr25 (k0 := (379 + 36 * z25 + 7)) (pr_p2 (z := z25) (by omega)) kr26 (k1 := 2) rfl hP hD hS (sp := 0) (dp := 0) (n := 1568) (by omega) (by omega) (by omega) (by decide) (Nat.le_of_ble_eq_true rfl) dK_show_30 (fun s25 pl H locs es25 hO hP hD hS => ?_)
      replace hR := bnd_step hR es25
      have hF := frm_sC hF es25 (by unfold M_K_show; omega)
      have hf38 : s25.1 0 1 = nI tl := fc_C hf21 es25 (by omega)
      have hf39 : s25.1 0 3 = nI al := fc_C hf22 es25 (by omega)
      have hf40 : s25.1 0 5 = nI pn := fc_C hf23 es25 (by omega)
      refine lv_aload_n hx hb dK_show_33 rfl (lv_at hl 1 rfl) ?_
      refine lv_aload_n hx hb dK_show_34 rfl (lv_at hl 0 rfl) ?_
      refine nw_alen1 hx hb hK hO kr25 (k := (379 + 36 * z25 + 7)) (pr_p2 (z := z25) (by omega)) hP dK_show_35 ?_
      refine nw_put (C := "LatticeKeys") (TT := T_K) (N := 11) hx hb hts (wg_ft i_K) ty_K k_K n_K hown hK hO hU k_h0 (kn := 0) (ci := 0) (fl := [(3, 1), (0, 0), (3, 2), (0, 0), (3, 3), (0, 0), (3, 4), (3, 8), (3, 12), (3, 24), (3, 39)]) rfl hP hD hS rfl 3 (by decide) (hts _ (wg_t kw_377)) (fun _ h9 => h9) rfl (by decide +kernel) rfl dK_show_36 (fun s26 pl H locs es26 hO hP hD hS => ?_)
      replace hR := bnd_step hR es26
      have hF := frm_sI hF es26 (by unfold M_K_show; omega)
      have hf41 : s26.1 0 1 = nI tl := fc_ne hf38 es26 (by omega)
      have hf43 : s26.1 0 5 = nI pn := fc_ne hf40 es26 (by omega)
      have hf44 : s26.1 0 3 = nI 1568 := fc_eq es26
      refine lv_aload_n hx hb dK_show_39 rfl (lv_at hl 1 rfl) ?_
      refine nw_get (C := "LatticeKeys") (TT := T_K) (N := 11) hx hb hts (wg_ft i_K) hown hK hO k_h0 (kn := 0) (ci := 0) (fl := [(3, 1), (0, 0), (3, 2), (0, 0), (3, 3), (0, 0), (3, 4), (3, 8), (3, 12), (3, 24), (3, 39)]) rfl hP rfl 3 (by decide) (hts _ (wg_t kw_377)) (fun _ h9 => h9) (cd := (0, 0)) rfl dK_show_40 (fun v26 hv29 => ?_)
      obtain rfl := (show v26 = .int (s26.1 0 3) from hv29)
      obtain ⟨z26, ez26, hz28, hz29⟩ := cl_of (b := 2147483648) hf44 (by omega) (by decide)
      replace hR := bnd_step hR ez26
      refine mi_as hz28 ?_
      refine et_ret ?_
      exact mp_iret hx hb hr hlk hP hD hS ((nI 0, nI z26, s26), pl) ⟨⟨hR.symm, rfl, rfl, hF, ⟨tl, hf41, by omega⟩, ⟨1568, hf44, by omega⟩, ⟨pn, hf43, by omega⟩, trivial⟩, hO⟩ [] rfl rfl rfl (by omega) (by omega) dK_show_43
    replace hR := hR.trans (if_neg hs25)
    by_cases hs26 : q21.1 = nI 4
    · replace hR := hR.trans (if_pos hs26)
      obtain ⟨z27, q25, hz30, hv30, rfl, kr27⟩ := pfd_at (c := 3) hq21 (by decide) hs26
      have kr27 : T q25 = some (379 + 36 * z27 + 10) := kr27
      have ez27 : z27 = v.toNatClampNeg := by rw [hv30]; exact (nI_clamp (by omega)).symm
      replace hR := bnd_step hR ez27
      refine lv_astore_n (lv' := [(3, .ref q25), (0, .ref h0), (1, .int v), (2, .int sc)]) hx hb dK_show_6 rfl hl (by decide) rfl (fun ls hl => ?_)
      refine lv_aload_n hx hb dK_show_7 rfl (lv_at hl 0 rfl) ?_
      refine lv_ifnonnull (tgt := 21) hx hb dK_show_8 (by decide) ?_
      refine lv_aload_n hx hb dK_show_21 rfl (lv_at hl 0 rfl) ?_
      refine lv_iconst (v := nI 0) hx hb dK_show_22 (by decide) ?_
      refine lv_aload_n hx hb dK_show_23 rfl (lv_at hl 1 rfl) ?_
      refine nw_get (C := "LatticeKeys") (TT := T_K) (N := 11) hx hb hts (wg_ft i_K) hown hK hO k_h0 (kn := 0) (ci := 0) (fl := [(3, 1), (0, 0), (3, 2), (0, 0), (3, 3), (0, 0), (3, 4), (3, 8), (3, 12), (3, 24), (3, 39)]) rfl hP rfl 2 (by decide) (hts _ (wg_t kw_376)) (fun _ h9 => h9) (cd := (3, 2)) rfl dK_show_24 (fun v27 hv31 => ?_)
      obtain ⟨r25, rfl, kr28⟩ := (show ∃ r : Nat, v27 = .ref r ∧ T r = some 2 from hv31)
      refine lv_iconst (v := nI 0) hx hb dK_show_27 (by decide) ?_
      refine lv_aload_n hx hb dK_show_28 rfl (lv_at hl 0 rfl) ?_
      refine nw_alen1 hx hb hK hO kr27 (k := (379 + 36 * z27 + 10)) (pr_p3 (z := z27) (by omega)) hP dK_show_29 ?_
      refine nw_copyb hx hb (hml.trans hl.1.symm) hown (hts _ (wg_t kw_524)) (hts _ (wg_t kw_526)) (hts _ (wg_t kw_525)) (hts _ (wg_t kw_19)) hK hO hU kr27 (k0 := (379 + 36 * z27 + 10)) (pr_p3 (z := z27) (by omega)) kr28 (k1 := 2) rfl hP hD hS (sp := 0) (dp := 0) (n := 1312) (by omega) (by omega) (by omega) (by decide) (Nat.le_of_ble_eq_true rfl) dK_show_30 (fun s27 pl H locs es27 hO hP hD hS => ?_)
      replace hR := bnd_step hR es27
      have hF := frm_sC hF es27 (by unfold M_K_show; omega)
      have hf45 : s27.1 0 1 = nI tl := fc_C hf21 es27 (by omega)
      have hf46 : s27.1 0 3 = nI al := fc_C hf22 es27 (by omega)
      have hf47 : s27.1 0 5 = nI pn := fc_C hf23 es27 (by omega)
      refine lv_aload_n hx hb dK_show_33 rfl (lv_at hl 1 rfl) ?_
      refine lv_aload_n hx hb dK_show_34 rfl (lv_at hl 0 rfl) ?_
      refine nw_alen1 hx hb hK hO kr27 (k := (379 + 36 * z27 + 10)) (pr_p3 (z := z27) (by omega)) hP dK_show_35 ?_
      refine nw_put (C := "LatticeKeys") (TT := T_K) (N := 11) hx hb hts (wg_ft i_K) ty_K k_K n_K hown hK hO hU k_h0 (kn := 0) (ci := 0) (fl := [(3, 1), (0, 0), (3, 2), (0, 0), (3, 3), (0, 0), (3, 4), (3, 8), (3, 12), (3, 24), (3, 39)]) rfl hP hD hS rfl 3 (by decide) (hts _ (wg_t kw_377)) (fun _ h9 => h9) rfl (by decide +kernel) rfl dK_show_36 (fun s28 pl H locs es28 hO hP hD hS => ?_)
      replace hR := bnd_step hR es28
      have hF := frm_sI hF es28 (by unfold M_K_show; omega)
      have hf48 : s28.1 0 1 = nI tl := fc_ne hf45 es28 (by omega)
      have hf50 : s28.1 0 5 = nI pn := fc_ne hf47 es28 (by omega)
      have hf51 : s28.1 0 3 = nI 1312 := fc_eq es28
      refine lv_aload_n hx hb dK_show_39 rfl (lv_at hl 1 rfl) ?_
      refine nw_get (C := "LatticeKeys") (TT := T_K) (N := 11) hx hb hts (wg_ft i_K) hown hK hO k_h0 (kn := 0) (ci := 0) (fl := [(3, 1), (0, 0), (3, 2), (0, 0), (3, 3), (0, 0), (3, 4), (3, 8), (3, 12), (3, 24), (3, 39)]) rfl hP rfl 3 (by decide) (hts _ (wg_t kw_377)) (fun _ h9 => h9) (cd := (0, 0)) rfl dK_show_40 (fun v28 hv32 => ?_)
      obtain rfl := (show v28 = .int (s28.1 0 3) from hv32)
      obtain ⟨z28, ez28, hz31, hz32⟩ := cl_of (b := 2147483648) hf51 (by omega) (by decide)
      replace hR := bnd_step hR ez28
      refine mi_as hz31 ?_
      refine et_ret ?_
      exact mp_iret hx hb hr hlk hP hD hS ((nI 0, nI z28, s28), pl) ⟨⟨hR.symm, rfl, rfl, hF, ⟨tl, hf48, by omega⟩, ⟨1312, hf51, by omega⟩, ⟨pn, hf50, by omega⟩, trivial⟩, hO⟩ [] rfl rfl rfl (by omega) (by omega) dK_show_43
    replace hR := hR.trans (if_neg hs26)
    by_cases hs27 : q21.1 = nI 5
    · replace hR := hR.trans (if_pos hs27)
      obtain ⟨z29, q26, hz33, hv33, rfl, kr29⟩ := pfd_at (c := 4) hq21 (by decide) hs27
      have kr29 : T q26 = some (379 + 36 * z29 + 13) := kr29
      have ez29 : z29 = v.toNatClampNeg := by rw [hv33]; exact (nI_clamp (by omega)).symm
      replace hR := bnd_step hR ez29
      refine lv_astore_n (lv' := [(3, .ref q26), (0, .ref h0), (1, .int v), (2, .int sc)]) hx hb dK_show_6 rfl hl (by decide) rfl (fun ls hl => ?_)
      refine lv_aload_n hx hb dK_show_7 rfl (lv_at hl 0 rfl) ?_
      refine lv_ifnonnull (tgt := 21) hx hb dK_show_8 (by decide) ?_
      refine lv_aload_n hx hb dK_show_21 rfl (lv_at hl 0 rfl) ?_
      refine lv_iconst (v := nI 0) hx hb dK_show_22 (by decide) ?_
      refine lv_aload_n hx hb dK_show_23 rfl (lv_at hl 1 rfl) ?_
      refine nw_get (C := "LatticeKeys") (TT := T_K) (N := 11) hx hb hts (wg_ft i_K) hown hK hO k_h0 (kn := 0) (ci := 0) (fl := [(3, 1), (0, 0), (3, 2), (0, 0), (3, 3), (0, 0), (3, 4), (3, 8), (3, 12), (3, 24), (3, 39)]) rfl hP rfl 2 (by decide) (hts _ (wg_t kw_376)) (fun _ h9 => h9) (cd := (3, 2)) rfl dK_show_24 (fun v29 hv34 => ?_)
      obtain ⟨r26, rfl, kr30⟩ := (show ∃ r : Nat, v29 = .ref r ∧ T r = some 2 from hv34)
      refine lv_iconst (v := nI 0) hx hb dK_show_27 (by decide) ?_
      refine lv_aload_n hx hb dK_show_28 rfl (lv_at hl 0 rfl) ?_
      refine nw_alen1 hx hb hK hO kr29 (k := (379 + 36 * z29 + 13)) (pr_p4 (z := z29) (by omega)) hP dK_show_29 ?_
      refine nw_copyb hx hb (hml.trans hl.1.symm) hown (hts _ (wg_t kw_524)) (hts _ (wg_t kw_526)) (hts _ (wg_t kw_525)) (hts _ (wg_t kw_19)) hK hO hU kr29 (k0 := (379 + 36 * z29 + 13)) (pr_p4 (z := z29) (by omega)) kr30 (k1 := 2) rfl hP hD hS (sp := 0) (dp := 0) (n := 1952) (by omega) (by omega) (by omega) (by decide) (Nat.le_of_ble_eq_true rfl) dK_show_30 (fun s29 pl H locs es29 hO hP hD hS => ?_)
      replace hR := bnd_step hR es29
      have hF := frm_sC hF es29 (by unfold M_K_show; omega)
      have hf52 : s29.1 0 1 = nI tl := fc_C hf21 es29 (by omega)
      have hf53 : s29.1 0 3 = nI al := fc_C hf22 es29 (by omega)
      have hf54 : s29.1 0 5 = nI pn := fc_C hf23 es29 (by omega)
      refine lv_aload_n hx hb dK_show_33 rfl (lv_at hl 1 rfl) ?_
      refine lv_aload_n hx hb dK_show_34 rfl (lv_at hl 0 rfl) ?_
      refine nw_alen1 hx hb hK hO kr29 (k := (379 + 36 * z29 + 13)) (pr_p4 (z := z29) (by omega)) hP dK_show_35 ?_
      refine nw_put (C := "LatticeKeys") (TT := T_K) (N := 11) hx hb hts (wg_ft i_K) ty_K k_K n_K hown hK hO hU k_h0 (kn := 0) (ci := 0) (fl := [(3, 1), (0, 0), (3, 2), (0, 0), (3, 3), (0, 0), (3, 4), (3, 8), (3, 12), (3, 24), (3, 39)]) rfl hP hD hS rfl 3 (by decide) (hts _ (wg_t kw_377)) (fun _ h9 => h9) rfl (by decide +kernel) rfl dK_show_36 (fun s30 pl H locs es30 hO hP hD hS => ?_)
      replace hR := bnd_step hR es30
      have hF := frm_sI hF es30 (by unfold M_K_show; omega)
      have hf55 : s30.1 0 1 = nI tl := fc_ne hf52 es30 (by omega)
      have hf57 : s30.1 0 5 = nI pn := fc_ne hf54 es30 (by omega)
      have hf58 : s30.1 0 3 = nI 1952 := fc_eq es30
      refine lv_aload_n hx hb dK_show_39 rfl (lv_at hl 1 rfl) ?_
      refine nw_get (C := "LatticeKeys") (TT := T_K) (N := 11) hx hb hts (wg_ft i_K) hown hK hO k_h0 (kn := 0) (ci := 0) (fl := [(3, 1), (0, 0), (3, 2), (0, 0), (3, 3), (0, 0), (3, 4), (3, 8), (3, 12), (3, 24), (3, 39)]) rfl hP rfl 3 (by decide) (hts _ (wg_t kw_377)) (fun _ h9 => h9) (cd := (0, 0)) rfl dK_show_40 (fun v30 hv35 => ?_)
      obtain rfl := (show v30 = .int (s30.1 0 3) from hv35)
      obtain ⟨z30, ez30, hz34, hz35⟩ := cl_of (b := 2147483648) hf58 (by omega) (by decide)
      replace hR := bnd_step hR ez30
      refine mi_as hz34 ?_
      refine et_ret ?_
      exact mp_iret hx hb hr hlk hP hD hS ((nI 0, nI z30, s30), pl) ⟨⟨hR.symm, rfl, rfl, hF, ⟨tl, hf55, by omega⟩, ⟨1952, hf58, by omega⟩, ⟨pn, hf57, by omega⟩, trivial⟩, hO⟩ [] rfl rfl rfl (by omega) (by omega) dK_show_43
    replace hR := hR.trans (if_neg hs27)
    by_cases hs28 : q21.1 = nI 6
    · replace hR := hR.trans (if_pos hs28)
      obtain ⟨z31, q27, hz36, hv36, rfl, kr31⟩ := pfd_at (c := 5) hq21 (by decide) hs28
      have kr31 : T q27 = some (379 + 36 * z31 + 16) := kr31
      have ez31 : z31 = v.toNatClampNeg := by rw [hv36]; exact (nI_clamp (by omega)).symm
      replace hR := bnd_step hR ez31
      refine lv_astore_n (lv' := [(3, .ref q27), (0, .ref h0), (1, .int v), (2, .int sc)]) hx hb dK_show_6 rfl hl (by decide) rfl (fun ls hl => ?_)
      refine lv_aload_n hx hb dK_show_7 rfl (lv_at hl 0 rfl) ?_
      refine lv_ifnonnull (tgt := 21) hx hb dK_show_8 (by decide) ?_
      refine lv_aload_n hx hb dK_show_21 rfl (lv_at hl 0 rfl) ?_
      refine lv_iconst (v := nI 0) hx hb dK_show_22 (by decide) ?_
      refine lv_aload_n hx hb dK_show_23 rfl (lv_at hl 1 rfl) ?_
      refine nw_get (C := "LatticeKeys") (TT := T_K) (N := 11) hx hb hts (wg_ft i_K) hown hK hO k_h0 (kn := 0) (ci := 0) (fl := [(3, 1), (0, 0), (3, 2), (0, 0), (3, 3), (0, 0), (3, 4), (3, 8), (3, 12), (3, 24), (3, 39)]) rfl hP rfl 2 (by decide) (hts _ (wg_t kw_376)) (fun _ h9 => h9) (cd := (3, 2)) rfl dK_show_24 (fun v31 hv37 => ?_)
      obtain ⟨r27, rfl, kr32⟩ := (show ∃ r : Nat, v31 = .ref r ∧ T r = some 2 from hv37)
      refine lv_iconst (v := nI 0) hx hb dK_show_27 (by decide) ?_
      refine lv_aload_n hx hb dK_show_28 rfl (lv_at hl 0 rfl) ?_
      refine nw_alen1 hx hb hK hO kr31 (k := (379 + 36 * z31 + 16)) (pr_p5 (z := z31) (by omega)) hP dK_show_29 ?_
      refine nw_copyb hx hb (hml.trans hl.1.symm) hown (hts _ (wg_t kw_524)) (hts _ (wg_t kw_526)) (hts _ (wg_t kw_525)) (hts _ (wg_t kw_19)) hK hO hU kr31 (k0 := (379 + 36 * z31 + 16)) (pr_p5 (z := z31) (by omega)) kr32 (k1 := 2) rfl hP hD hS (sp := 0) (dp := 0) (n := 2592) (by omega) (by omega) (by omega) (by decide) (Nat.le_of_ble_eq_true rfl) dK_show_30 (fun s31 pl H locs es31 hO hP hD hS => ?_)
      replace hR := bnd_step hR es31
      have hF := frm_sC hF es31 (by unfold M_K_show; omega)
      have hf59 : s31.1 0 1 = nI tl := fc_C hf21 es31 (by omega)
      have hf60 : s31.1 0 3 = nI al := fc_C hf22 es31 (by omega)
      have hf61 : s31.1 0 5 = nI pn := fc_C hf23 es31 (by omega)
      refine lv_aload_n hx hb dK_show_33 rfl (lv_at hl 1 rfl) ?_
      refine lv_aload_n hx hb dK_show_34 rfl (lv_at hl 0 rfl) ?_
      refine nw_alen1 hx hb hK hO kr31 (k := (379 + 36 * z31 + 16)) (pr_p5 (z := z31) (by omega)) hP dK_show_35 ?_
      refine nw_put (C := "LatticeKeys") (TT := T_K) (N := 11) hx hb hts (wg_ft i_K) ty_K k_K n_K hown hK hO hU k_h0 (kn := 0) (ci := 0) (fl := [(3, 1), (0, 0), (3, 2), (0, 0), (3, 3), (0, 0), (3, 4), (3, 8), (3, 12), (3, 24), (3, 39)]) rfl hP hD hS rfl 3 (by decide) (hts _ (wg_t kw_377)) (fun _ h9 => h9) rfl (by decide +kernel) rfl dK_show_36 (fun s32 pl H locs es32 hO hP hD hS => ?_)
      replace hR := bnd_step hR es32
      have hF := frm_sI hF es32 (by unfold M_K_show; omega)
      have hf62 : s32.1 0 1 = nI tl := fc_ne hf59 es32 (by omega)
      have hf64 : s32.1 0 5 = nI pn := fc_ne hf61 es32 (by omega)
      have hf65 : s32.1 0 3 = nI 2592 := fc_eq es32
      refine lv_aload_n hx hb dK_show_39 rfl (lv_at hl 1 rfl) ?_
      refine nw_get (C := "LatticeKeys") (TT := T_K) (N := 11) hx hb hts (wg_ft i_K) hown hK hO k_h0 (kn := 0) (ci := 0) (fl := [(3, 1), (0, 0), (3, 2), (0, 0), (3, 3), (0, 0), (3, 4), (3, 8), (3, 12), (3, 24), (3, 39)]) rfl hP rfl 3 (by decide) (hts _ (wg_t kw_377)) (fun _ h9 => h9) (cd := (0, 0)) rfl dK_show_40 (fun v32 hv38 => ?_)
      obtain rfl := (show v32 = .int (s32.1 0 3) from hv38)
      obtain ⟨z32, ez32, hz37, hz38⟩ := cl_of (b := 2147483648) hf65 (by omega) (by decide)
      replace hR := bnd_step hR ez32
      refine mi_as hz37 ?_
      refine et_ret ?_
      exact mp_iret hx hb hr hlk hP hD hS ((nI 0, nI z32, s32), pl) ⟨⟨hR.symm, rfl, rfl, hF, ⟨tl, hf62, by omega⟩, ⟨2592, hf65, by omega⟩, ⟨pn, hf64, by omega⟩, trivial⟩, hO⟩ [] rfl rfl rfl (by omega) (by omega) dK_show_43
    replace hR := hR.trans (if_neg hs28)
    by_cases hs29 : q21.1 = nI 7
    · replace hR := hR.trans (if_pos hs29)
      obtain ⟨z33, q28, hz39, hv39, rfl, kr33⟩ := pfd_at (c := 6) hq21 (by decide) hs29
      have kr33 : T q28 = some (379 + 36 * z33 + 19) := kr33
      have ez33 : z33 = v.toNatClampNeg := by rw [hv39]; exact (nI_clamp (by omega)).symm
      replace hR := bnd_step hR ez33
      refine lv_astore_n (lv' := [(3, .ref q28), (0, .ref h0), (1, .int v), (2, .int sc)]) hx hb dK_show_6 rfl hl (by decide) rfl (fun ls hl => ?_)
      refine lv_aload_n hx hb dK_show_7 rfl (lv_at hl 0 rfl) ?_
      refine lv_ifnonnull (tgt := 21) hx hb dK_show_8 (by decide) ?_
      refine lv_aload_n hx hb dK_show_21 rfl (lv_at hl 0 rfl) ?_
      refine lv_iconst (v := nI 0) hx hb dK_show_22 (by decide) ?_
      refine lv_aload_n hx hb dK_show_23 rfl (lv_at hl 1 rfl) ?_
      refine nw_get (C := "LatticeKeys") (TT := T_K) (N := 11) hx hb hts (wg_ft i_K) hown hK hO k_h0 (kn := 0) (ci := 0) (fl := [(3, 1), (0, 0), (3, 2), (0, 0), (3, 3), (0, 0), (3, 4), (3, 8), (3, 12), (3, 24), (3, 39)]) rfl hP rfl 2 (by decide) (hts _ (wg_t kw_376)) (fun _ h9 => h9) (cd := (3, 2)) rfl dK_show_24 (fun v33 hv40 => ?_)
      obtain ⟨r28, rfl, kr34⟩ := (show ∃ r : Nat, v33 = .ref r ∧ T r = some 2 from hv40)
      refine lv_iconst (v := nI 0) hx hb dK_show_27 (by decide) ?_
      refine lv_aload_n hx hb dK_show_28 rfl (lv_at hl 0 rfl) ?_
      refine nw_alen1 hx hb hK hO kr33 (k := (379 + 36 * z33 + 19)) (pr_p6 (z := z33) (by omega)) hP dK_show_29 ?_
      refine nw_copyb hx hb (hml.trans hl.1.symm) hown (hts _ (wg_t kw_524)) (hts _ (wg_t kw_526)) (hts _ (wg_t kw_525)) (hts _ (wg_t kw_19)) hK hO hU kr33 (k0 := (379 + 36 * z33 + 19)) (pr_p6 (z := z33) (by omega)) kr34 (k1 := 2) rfl hP hD hS (sp := 0) (dp := 0) (n := 800) (by omega) (by omega) (by omega) (by decide) (Nat.le_of_ble_eq_true rfl) dK_show_30 (fun s33 pl H locs es33 hO hP hD hS => ?_)
      replace hR := bnd_step hR es33
      have hF := frm_sC hF es33 (by unfold M_K_show; omega)
      have hf66 : s33.1 0 1 = nI tl := fc_C hf21 es33 (by omega)
      have hf67 : s33.1 0 3 = nI al := fc_C hf22 es33 (by omega)
      have hf68 : s33.1 0 5 = nI pn := fc_C hf23 es33 (by omega)
      refine lv_aload_n hx hb dK_show_33 rfl (lv_at hl 1 rfl) ?_
      refine lv_aload_n hx hb dK_show_34 rfl (lv_at hl 0 rfl) ?_
      refine nw_alen1 hx hb hK hO kr33 (k := (379 + 36 * z33 + 19)) (pr_p6 (z := z33) (by omega)) hP dK_show_35 ?_
      refine nw_put (C := "LatticeKeys") (TT := T_K) (N := 11) hx hb hts (wg_ft i_K) ty_K k_K n_K hown hK hO hU k_h0 (kn := 0) (ci := 0) (fl := [(3, 1), (0, 0), (3, 2), (0, 0), (3, 3), (0, 0), (3, 4), (3, 8), (3, 12), (3, 24), (3, 39)]) rfl hP hD hS rfl 3 (by decide) (hts _ (wg_t kw_377)) (fun _ h9 => h9) rfl (by decide +kernel) rfl dK_show_36 (fun s34 pl H locs es34 hO hP hD hS => ?_)
      replace hR := bnd_step hR es34
      have hF := frm_sI hF es34 (by unfold M_K_show; omega)
      have hf69 : s34.1 0 1 = nI tl := fc_ne hf66 es34 (by omega)
      have hf71 : s34.1 0 5 = nI pn := fc_ne hf68 es34 (by omega)
      have hf72 : s34.1 0 3 = nI 800 := fc_eq es34
      refine lv_aload_n hx hb dK_show_39 rfl (lv_at hl 1 rfl) ?_
      refine nw_get (C := "LatticeKeys") (TT := T_K) (N := 11) hx hb hts (wg_ft i_K) hown hK hO k_h0 (kn := 0) (ci := 0) (fl := [(3, 1), (0, 0), (3, 2), (0, 0), (3, 3), (0, 0), (3, 4), (3, 8), (3, 12), (3, 24), (3, 39)]) rfl hP rfl 3 (by decide) (hts _ (wg_t kw_377)) (fun _ h9 => h9) (cd := (0, 0)) rfl dK_show_40 (fun v34 hv41 => ?_)
      obtain rfl := (show v34 = .int (s34.1 0 3) from hv41)
      obtain ⟨z34, ez34, hz40, hz41⟩ := cl_of (b := 2147483648) hf72 (by omega) (by decide)
      replace hR := bnd_step hR ez34
      refine mi_as hz40 ?_
      refine et_ret ?_
      exact mp_iret hx hb hr hlk hP hD hS ((nI 0, nI z34, s34), pl) ⟨⟨hR.symm, rfl, rfl, hF, ⟨tl, hf69, by omega⟩, ⟨800, hf72, by omega⟩, ⟨pn, hf71, by omega⟩, trivial⟩, hO⟩ [] rfl rfl rfl (by omega) (by omega) dK_show_43
    replace hR := hR.trans (if_neg hs29)
    by_cases hs30 : q21.1 = nI 8
    · replace hR := hR.trans (if_pos hs30)
      obtain ⟨z35, q29, hz42, hv42, rfl, kr35⟩ := pfd_at (c := 7) hq21 (by decide) hs30
      have kr35 : T q29 = some (379 + 36 * z35 + 22) := kr35
      have ez35 : z35 = v.toNatClampNeg := by rw [hv42]; exact (nI_clamp (by omega)).symm
      replace hR := bnd_step hR ez35
      refine lv_astore_n (lv' := [(3, .ref q29), (0, .ref h0), (1, .int v), (2, .int sc)]) hx hb dK_show_6 rfl hl (by decide) rfl (fun ls hl => ?_)
      refine lv_aload_n hx hb dK_show_7 rfl (lv_at hl 0 rfl) ?_
      refine lv_ifnonnull (tgt := 21) hx hb dK_show_8 (by decide) ?_
      refine lv_aload_n hx hb dK_show_21 rfl (lv_at hl 0 rfl) ?_
      refine lv_iconst (v := nI 0) hx hb dK_show_22 (by decide) ?_
      refine lv_aload_n hx hb dK_show_23 rfl (lv_at hl 1 rfl) ?_
      refine nw_get (C := "LatticeKeys") (TT := T_K) (N := 11) hx hb hts (wg_ft i_K) hown hK hO k_h0 (kn := 0) (ci := 0) (fl := [(3, 1), (0, 0), (3, 2), (0, 0), (3, 3), (0, 0), (3, 4), (3, 8), (3, 12), (3, 24), (3, 39)]) rfl hP rfl 2 (by decide) (hts _ (wg_t kw_376)) (fun _ h9 => h9) (cd := (3, 2)) rfl dK_show_24 (fun v35 hv43 => ?_)
      obtain ⟨r29, rfl, kr36⟩ := (show ∃ r : Nat, v35 = .ref r ∧ T r = some 2 from hv43)
      refine lv_iconst (v := nI 0) hx hb dK_show_27 (by decide) ?_
      refine lv_aload_n hx hb dK_show_28 rfl (lv_at hl 0 rfl) ?_
      refine nw_alen1 hx hb hK hO kr35 (k := (379 + 36 * z35 + 22)) (pr_p7 (z := z35) (by omega)) hP dK_show_29 ?_
      refine nw_copyb hx hb (hml.trans hl.1.symm) hown (hts _ (wg_t kw_524)) (hts _ (wg_t kw_526)) (hts _ (wg_t kw_525)) (hts _ (wg_t kw_19)) hK hO hU kr35 (k0 := (379 + 36 * z35 + 22)) (pr_p7 (z := z35) (by omega)) kr36 (k1 := 2) rfl hP hD hS (sp := 0) (dp := 0) (n := 1184) (by omega) (by omega) (by omega) (by decide) (Nat.le_of_ble_eq_true rfl) dK_show_30 (fun s35 pl H locs es35 hO hP hD hS => ?_)
      replace hR := bnd_step hR es35
      have hF := frm_sC hF es35 (by unfold M_K_show; omega)
      have hf73 : s35.1 0 1 = nI tl := fc_C hf21 es35 (by omega)
      have hf74 : s35.1 0 3 = nI al := fc_C hf22 es35 (by omega)
      have hf75 : s35.1 0 5 = nI pn := fc_C hf23 es35 (by omega)
      refine lv_aload_n hx hb dK_show_33 rfl (lv_at hl 1 rfl) ?_
      refine lv_aload_n hx hb dK_show_34 rfl (lv_at hl 0 rfl) ?_
      refine nw_alen1 hx hb hK hO kr35 (k := (379 + 36 * z35 + 22)) (pr_p7 (z := z35) (by omega)) hP dK_show_35 ?_
      refine nw_put (C := "LatticeKeys") (TT := T_K) (N := 11) hx hb hts (wg_ft i_K) ty_K k_K n_K hown hK hO hU k_h0 (kn := 0) (ci := 0) (fl := [(3, 1), (0, 0), (3, 2), (0, 0), (3, 3), (0, 0), (3, 4), (3, 8), (3, 12), (3, 24), (3, 39)]) rfl hP hD hS rfl 3 (by decide) (hts _ (wg_t kw_377)) (fun _ h9 => h9) rfl (by decide +kernel) rfl dK_show_36 (fun s36 pl H locs es36 hO hP hD hS => ?_)
      replace hR := bnd_step hR es36
      have hF := frm_sI hF es36 (by unfold M_K_show; omega)
      have hf76 : s36.1 0 1 = nI tl := fc_ne hf73 es36 (by omega)
      have hf78 : s36.1 0 5 = nI pn := fc_ne hf75 es36 (by omega)
      have hf79 : s36.1 0 3 = nI 1184 := fc_eq es36
      refine lv_aload_n hx hb dK_show_39 rfl (lv_at hl 1 rfl) ?_
      refine nw_get (C := "LatticeKeys") (TT := T_K) (N := 11) hx hb hts (wg_ft i_K) hown hK hO k_h0 (kn := 0) (ci := 0) (fl := [(3, 1), (0, 0), (3, 2), (0, 0), (3, 3), (0, 0), (3, 4), (3, 8), (3, 12), (3, 24), (3, 39)]) rfl hP rfl 3 (by decide) (hts _ (wg_t kw_377)) (fun _ h9 => h9) (cd := (0, 0)) rfl dK_show_40 (fun v36 hv44 => ?_)
      obtain rfl := (show v36 = .int (s36.1 0 3) from hv44)
      obtain ⟨z36, ez36, hz43, hz44⟩ := cl_of (b := 2147483648) hf79 (by omega) (by decide)
      replace hR := bnd_step hR ez36
      refine mi_as hz43 ?_
      refine et_ret ?_
      exact mp_iret hx hb hr hlk hP hD hS ((nI 0, nI z36, s36), pl) ⟨⟨hR.symm, rfl, rfl, hF, ⟨tl, hf76, by omega⟩, ⟨1184, hf79, by omega⟩, ⟨pn, hf78, by omega⟩, trivial⟩, hO⟩ [] rfl rfl rfl (by omega) (by omega) dK_show_43
    replace hR := hR.trans (if_neg hs30)
    by_cases hs31 : q21.1 = nI 9
    · replace hR := hR.trans (if_pos hs31)
      obtain ⟨z37, q30, hz45, hv45, rfl, kr37⟩ := pfd_at (c := 8) hq21 (by decide) hs31
      have kr37 : T q30 = some (379 + 36 * z37 + 25) := kr37
      have ez37 : z37 = v.toNatClampNeg := by rw [hv45]; exact (nI_clamp (by omega)).symm
      replace hR := bnd_step hR ez37
      refine lv_astore_n (lv' := [(3, .ref q30), (0, .ref h0), (1, .int v), (2, .int sc)]) hx hb dK_show_6 rfl hl (by decide) rfl (fun ls hl => ?_)
      refine lv_aload_n hx hb dK_show_7 rfl (lv_at hl 0 rfl) ?_
      refine lv_ifnonnull (tgt := 21) hx hb dK_show_8 (by decide) ?_
      refine lv_aload_n hx hb dK_show_21 rfl (lv_at hl 0 rfl) ?_
      refine lv_iconst (v := nI 0) hx hb dK_show_22 (by decide) ?_
      refine lv_aload_n hx hb dK_show_23 rfl (lv_at hl 1 rfl) ?_
      refine nw_get (C := "LatticeKeys") (TT := T_K) (N := 11) hx hb hts (wg_ft i_K) hown hK hO k_h0 (kn := 0) (ci := 0) (fl := [(3, 1), (0, 0), (3, 2), (0, 0), (3, 3), (0, 0), (3, 4), (3, 8), (3, 12), (3, 24), (3, 39)]) rfl hP rfl 2 (by decide) (hts _ (wg_t kw_376)) (fun _ h9 => h9) (cd := (3, 2)) rfl dK_show_24 (fun v37 hv46 => ?_)
      obtain ⟨r30, rfl, kr38⟩ := (show ∃ r : Nat, v37 = .ref r ∧ T r = some 2 from hv46)
      refine lv_iconst (v := nI 0) hx hb dK_show_27 (by decide) ?_
      refine lv_aload_n hx hb dK_show_28 rfl (lv_at hl 0 rfl) ?_
      refine nw_alen1 hx hb hK hO kr37 (k := (379 + 36 * z37 + 25)) (pr_p8 (z := z37) (by omega)) hP dK_show_29 ?_
      refine nw_copyb hx hb (hml.trans hl.1.symm) hown (hts _ (wg_t kw_524)) (hts _ (wg_t kw_526)) (hts _ (wg_t kw_525)) (hts _ (wg_t kw_19)) hK hO hU kr37 (k0 := (379 + 36 * z37 + 25)) (pr_p8 (z := z37) (by omega)) kr38 (k1 := 2) rfl hP hD hS (sp := 0) (dp := 0) (n := 1568) (by omega) (by omega) (by omega) (by decide) (Nat.le_of_ble_eq_true rfl) dK_show_30 (fun s37 pl H locs es37 hO hP hD hS => ?_)
      replace hR := bnd_step hR es37
      have hF := frm_sC hF es37 (by unfold M_K_show; omega)
      have hf80 : s37.1 0 1 = nI tl := fc_C hf21 es37 (by omega)
      have hf81 : s37.1 0 3 = nI al := fc_C hf22 es37 (by omega)
      have hf82 : s37.1 0 5 = nI pn := fc_C hf23 es37 (by omega)
      refine lv_aload_n hx hb dK_show_33 rfl (lv_at hl 1 rfl) ?_
      refine lv_aload_n hx hb dK_show_34 rfl (lv_at hl 0 rfl) ?_
      refine nw_alen1 hx hb hK hO kr37 (k := (379 + 36 * z37 + 25)) (pr_p8 (z := z37) (by omega)) hP dK_show_35 ?_
      refine nw_put (C := "LatticeKeys") (TT := T_K) (N := 11) hx hb hts (wg_ft i_K) ty_K k_K n_K hown hK hO hU k_h0 (kn := 0) (ci := 0) (fl := [(3, 1), (0, 0), (3, 2), (0, 0), (3, 3), (0, 0), (3, 4), (3, 8), (3, 12), (3, 24), (3, 39)]) rfl hP hD hS rfl 3 (by decide) (hts _ (wg_t kw_377)) (fun _ h9 => h9) rfl (by decide +kernel) rfl dK_show_36 (fun s38 pl H locs es38 hO hP hD hS => ?_)
      replace hR := bnd_step hR es38
      have hF := frm_sI hF es38 (by unfold M_K_show; omega)
      have hf83 : s38.1 0 1 = nI tl := fc_ne hf80 es38 (by omega)
      have hf85 : s38.1 0 5 = nI pn := fc_ne hf82 es38 (by omega)
      have hf86 : s38.1 0 3 = nI 1568 := fc_eq es38
      refine lv_aload_n hx hb dK_show_39 rfl (lv_at hl 1 rfl) ?_
      refine nw_get (C := "LatticeKeys") (TT := T_K) (N := 11) hx hb hts (wg_ft i_K) hown hK hO k_h0 (kn := 0) (ci := 0) (fl := [(3, 1), (0, 0), (3, 2), (0, 0), (3, 3), (0, 0), (3, 4), (3, 8), (3, 12), (3, 24), (3, 39)]) rfl hP rfl 3 (by decide) (hts _ (wg_t kw_377)) (fun _ h9 => h9) (cd := (0, 0)) rfl dK_show_40 (fun v38 hv47 => ?_)
      obtain rfl := (show v38 = .int (s38.1 0 3) from hv47)
      obtain ⟨z38, ez38, hz46, hz47⟩ := cl_of (b := 2147483648) hf86 (by omega) (by decide)
      replace hR := bnd_step hR ez38
      refine mi_as hz46 ?_
      refine et_ret ?_
      exact mp_iret hx hb hr hlk hP hD hS ((nI 0, nI z38, s38), pl) ⟨⟨hR.symm, rfl, rfl, hF, ⟨tl, hf83, by omega⟩, ⟨1568, hf86, by omega⟩, ⟨pn, hf85, by omega⟩, trivial⟩, hO⟩ [] rfl rfl rfl (by omega) (by omega) dK_show_43
    replace hR := hR.trans (if_neg hs31)
    by_cases hs32 : q21.1 = nI 10
    · replace hR := hR.trans (if_pos hs32)
      obtain ⟨z39, q31, hz48, hv48, rfl, kr39⟩ := pfd_at (c := 9) hq21 (by decide) hs32
      have kr39 : T q31 = some (379 + 36 * z39 + 28) := kr39
      have ez39 : z39 = v.toNatClampNeg := by rw [hv48]; exact (nI_clamp (by omega)).symm
      replace hR := bnd_step hR ez39
      refine lv_astore_n (lv' := [(3, .ref q31), (0, .ref h0), (1, .int v), (2, .int sc)]) hx hb dK_show_6 rfl hl (by decide) rfl (fun ls hl => ?_)
      refine lv_aload_n hx hb dK_show_7 rfl (lv_at hl 0 rfl) ?_
      refine lv_ifnonnull (tgt := 21) hx hb dK_show_8 (by decide) ?_
      refine lv_aload_n hx hb dK_show_21 rfl (lv_at hl 0 rfl) ?_
      refine lv_iconst (v := nI 0) hx hb dK_show_22 (by decide) ?_
      refine lv_aload_n hx hb dK_show_23 rfl (lv_at hl 1 rfl) ?_
      refine nw_get (C := "LatticeKeys") (TT := T_K) (N := 11) hx hb hts (wg_ft i_K) hown hK hO k_h0 (kn := 0) (ci := 0) (fl := [(3, 1), (0, 0), (3, 2), (0, 0), (3, 3), (0, 0), (3, 4), (3, 8), (3, 12), (3, 24), (3, 39)]) rfl hP rfl 2 (by decide) (hts _ (wg_t kw_376)) (fun _ h9 => h9) (cd := (3, 2)) rfl dK_show_24 (fun v39 hv49 => ?_)
      obtain ⟨r31, rfl, kr40⟩ := (show ∃ r : Nat, v39 = .ref r ∧ T r = some 2 from hv49)
      refine lv_iconst (v := nI 0) hx hb dK_show_27 (by decide) ?_
      refine lv_aload_n hx hb dK_show_28 rfl (lv_at hl 0 rfl) ?_
      refine nw_alen1 hx hb hK hO kr39 (k := (379 + 36 * z39 + 28)) (pr_p9 (z := z39) (by omega)) hP dK_show_29 ?_
      refine nw_copyb hx hb (hml.trans hl.1.symm) hown (hts _ (wg_t kw_524)) (hts _ (wg_t kw_526)) (hts _ (wg_t kw_525)) (hts _ (wg_t kw_19)) hK hO hU kr39 (k0 := (379 + 36 * z39 + 28)) (pr_p9 (z := z39) (by omega)) kr40 (k1 := 2) rfl hP hD hS (sp := 0) (dp := 0) (n := 1312) (by omega) (by omega) (by omega) (by decide) (Nat.le_of_ble_eq_true rfl) dK_show_30 (fun s39 pl H locs es39 hO hP hD hS => ?_)
      replace hR := bnd_step hR es39
      have hF := frm_sC hF es39 (by unfold M_K_show; omega)
      have hf87 : s39.1 0 1 = nI tl := fc_C hf21 es39 (by omega)
      have hf88 : s39.1 0 3 = nI al := fc_C hf22 es39 (by omega)
      have hf89 : s39.1 0 5 = nI pn := fc_C hf23 es39 (by omega)
      refine lv_aload_n hx hb dK_show_33 rfl (lv_at hl 1 rfl) ?_
      refine lv_aload_n hx hb dK_show_34 rfl (lv_at hl 0 rfl) ?_
      refine nw_alen1 hx hb hK hO kr39 (k := (379 + 36 * z39 + 28)) (pr_p9 (z := z39) (by omega)) hP dK_show_35 ?_
      refine nw_put (C := "LatticeKeys") (TT := T_K) (N := 11) hx hb hts (wg_ft i_K) ty_K k_K n_K hown hK hO hU k_h0 (kn := 0) (ci := 0) (fl := [(3, 1), (0, 0), (3, 2), (0, 0), (3, 3), (0, 0), (3, 4), (3, 8), (3, 12), (3, 24), (3, 39)]) rfl hP hD hS rfl 3 (by decide) (hts _ (wg_t kw_377)) (fun _ h9 => h9) rfl (by decide +kernel) rfl dK_show_36 (fun s40 pl H locs es40 hO hP hD hS => ?_)
      replace hR := bnd_step hR es40
      have hF := frm_sI hF es40 (by unfold M_K_show; omega)
      have hf90 : s40.1 0 1 = nI tl := fc_ne hf87 es40 (by omega)
      have hf92 : s40.1 0 5 = nI pn := fc_ne hf89 es40 (by omega)
      have hf93 : s40.1 0 3 = nI 1312 := fc_eq es40
      refine lv_aload_n hx hb dK_show_39 rfl (lv_at hl 1 rfl) ?_
      refine nw_get (C := "LatticeKeys") (TT := T_K) (N := 11) hx hb hts (wg_ft i_K) hown hK hO k_h0 (kn := 0) (ci := 0) (fl := [(3, 1), (0, 0), (3, 2), (0, 0), (3, 3), (0, 0), (3, 4), (3, 8), (3, 12), (3, 24), (3, 39)]) rfl hP rfl 3 (by decide) (hts _ (wg_t kw_377)) (fun _ h9 => h9) (cd := (0, 0)) rfl dK_show_40 (fun v40 hv50 => ?_)
      obtain rfl := (show v40 = .int (s40.1 0 3) from hv50)
      obtain ⟨z40, ez40, hz49, hz50⟩ := cl_of (b := 2147483648) hf93 (by omega) (by decide)
      replace hR := bnd_step hR ez40
      refine mi_as hz49 ?_
      refine et_ret ?_
      exact mp_iret hx hb hr hlk hP hD hS ((nI 0, nI z40, s40), pl) ⟨⟨hR.symm, rfl, rfl, hF, ⟨tl, hf90, by omega⟩, ⟨1312, hf93, by omega⟩, ⟨pn, hf92, by omega⟩, trivial⟩, hO⟩ [] rfl rfl rfl (by omega) (by omega) dK_show_43
    replace hR := hR.trans (if_neg hs32)
    by_cases hs33 : q21.1 = nI 11
    · replace hR := hR.trans (if_pos hs33)
      obtain ⟨z41, q32, hz51, hv51, rfl, kr41⟩ := pfd_at (c := 10) hq21 (by decide) hs33
      have kr41 : T q32 = some (379 + 36 * z41 + 31) := kr41
      have ez41 : z41 = v.toNatClampNeg := by rw [hv51]; exact (nI_clamp (by omega)).symm
      replace hR := bnd_step hR ez41
      refine lv_astore_n (lv' := [(3, .ref q32), (0, .ref h0), (1, .int v), (2, .int sc)]) hx hb dK_show_6 rfl hl (by decide) rfl (fun ls hl => ?_)
      refine lv_aload_n hx hb dK_show_7 rfl (lv_at hl 0 rfl) ?_
      refine lv_ifnonnull (tgt := 21) hx hb dK_show_8 (by decide) ?_
      refine lv_aload_n hx hb dK_show_21 rfl (lv_at hl 0 rfl) ?_
      refine lv_iconst (v := nI 0) hx hb dK_show_22 (by decide) ?_
      refine lv_aload_n hx hb dK_show_23 rfl (lv_at hl 1 rfl) ?_
      refine nw_get (C := "LatticeKeys") (TT := T_K) (N := 11) hx hb hts (wg_ft i_K) hown hK hO k_h0 (kn := 0) (ci := 0) (fl := [(3, 1), (0, 0), (3, 2), (0, 0), (3, 3), (0, 0), (3, 4), (3, 8), (3, 12), (3, 24), (3, 39)]) rfl hP rfl 2 (by decide) (hts _ (wg_t kw_376)) (fun _ h9 => h9) (cd := (3, 2)) rfl dK_show_24 (fun v41 hv52 => ?_)
      obtain ⟨r32, rfl, kr42⟩ := (show ∃ r : Nat, v41 = .ref r ∧ T r = some 2 from hv52)
      refine lv_iconst (v := nI 0) hx hb dK_show_27 (by decide) ?_
      refine lv_aload_n hx hb dK_show_28 rfl (lv_at hl 0 rfl) ?_
      refine nw_alen1 hx hb hK hO kr41 (k := (379 + 36 * z41 + 31)) (pr_p10 (z := z41) (by omega)) hP dK_show_29 ?_
      refine nw_copyb hx hb (hml.trans hl.1.symm) hown (hts _ (wg_t kw_524)) (hts _ (wg_t kw_526)) (hts _ (wg_t kw_525)) (hts _ (wg_t kw_19)) hK hO hU kr41 (k0 := (379 + 36 * z41 + 31)) (pr_p10 (z := z41) (by omega)) kr42 (k1 := 2) rfl hP hD hS (sp := 0) (dp := 0) (n := 1952) (by omega) (by omega) (by omega) (by decide) (Nat.le_of_ble_eq_true rfl) dK_show_30 (fun s41 pl H locs es41 hO hP hD hS => ?_)
      replace hR := bnd_step hR es41
      have hF := frm_sC hF es41 (by unfold M_K_show; omega)
      have hf94 : s41.1 0 1 = nI tl := fc_C hf21 es41 (by omega)
      have hf95 : s41.1 0 3 = nI al := fc_C hf22 es41 (by omega)
      have hf96 : s41.1 0 5 = nI pn := fc_C hf23 es41 (by omega)
      refine lv_aload_n hx hb dK_show_33 rfl (lv_at hl 1 rfl) ?_
      refine lv_aload_n hx hb dK_show_34 rfl (lv_at hl 0 rfl) ?_
      refine nw_alen1 hx hb hK hO kr41 (k := (379 + 36 * z41 + 31)) (pr_p10 (z := z41) (by omega)) hP dK_show_35 ?_
      refine nw_put (C := "LatticeKeys") (TT := T_K) (N := 11) hx hb hts (wg_ft i_K) ty_K k_K n_K hown hK hO hU k_h0 (kn := 0) (ci := 0) (fl := [(3, 1), (0, 0), (3, 2), (0, 0), (3, 3), (0, 0), (3, 4), (3, 8), (3, 12), (3, 24), (3, 39)]) rfl hP hD hS rfl 3 (by decide) (hts _ (wg_t kw_377)) (fun _ h9 => h9) rfl (by decide +kernel) rfl dK_show_36 (fun s42 pl H locs es42 hO hP hD hS => ?_)
      replace hR := bnd_step hR es42
      have hF := frm_sI hF es42 (by unfold M_K_show; omega)
      have hf97 : s42.1 0 1 = nI tl := fc_ne hf94 es42 (by omega)
      have hf99 : s42.1 0 5 = nI pn := fc_ne hf96 es42 (by omega)
      have hf100 : s42.1 0 3 = nI 1952 := fc_eq es42
      refine lv_aload_n hx hb dK_show_39 rfl (lv_at hl 1 rfl) ?_
      refine nw_get (C := "LatticeKeys") (TT := T_K) (N := 11) hx hb hts (wg_ft i_K) hown hK hO k_h0 (kn := 0) (ci := 0) (fl := [(3, 1), (0, 0), (3, 2), (0, 0), (3, 3), (0, 0), (3, 4), (3, 8), (3, 12), (3, 24), (3, 39)]) rfl hP rfl 3 (by decide) (hts _ (wg_t kw_377)) (fun _ h9 => h9) (cd := (0, 0)) rfl dK_show_40 (fun v42 hv53 => ?_)
      obtain rfl := (show v42 = .int (s42.1 0 3) from hv53)
      obtain ⟨z42, ez42, hz52, hz53⟩ := cl_of (b := 2147483648) hf100 (by omega) (by decide)
      replace hR := bnd_step hR ez42
      refine mi_as hz52 ?_
      refine et_ret ?_
      exact mp_iret hx hb hr hlk hP hD hS ((nI 0, nI z42, s42), pl) ⟨⟨hR.symm, rfl, rfl, hF, ⟨tl, hf97, by omega⟩, ⟨1952, hf100, by omega⟩, ⟨pn, hf99, by omega⟩, trivial⟩, hO⟩ [] rfl rfl rfl (by omega) (by omega) dK_show_43
    replace hR := hR.trans (if_neg hs33)
    by_cases hs34 : q21.1 = nI 12
    · replace hR := hR.trans (if_pos hs34)
      obtain ⟨z43, q33, hz54, hv54, rfl, kr43⟩ := pfd_at (c := 11) hq21 (by decide) hs34
      have kr43 : T q33 = some (379 + 36 * z43 + 34) := kr43
      have ez43 : z43 = v.toNatClampNeg := by rw [hv54]; exact (nI_clamp (by omega)).symm
      replace hR := bnd_step hR ez43
      refine lv_astore_n (lv' := [(3, .ref q33), (0, .ref h0), (1, .int v), (2, .int sc)]) hx hb dK_show_6 rfl hl (by decide) rfl (fun ls hl => ?_)
      refine lv_aload_n hx hb dK_show_7 rfl (lv_at hl 0 rfl) ?_
      refine lv_ifnonnull (tgt := 21) hx hb dK_show_8 (by decide) ?_
      refine lv_aload_n hx hb dK_show_21 rfl (lv_at hl 0 rfl) ?_
      refine lv_iconst (v := nI 0) hx hb dK_show_22 (by decide) ?_
      refine lv_aload_n hx hb dK_show_23 rfl (lv_at hl 1 rfl) ?_
      refine nw_get (C := "LatticeKeys") (TT := T_K) (N := 11) hx hb hts (wg_ft i_K) hown hK hO k_h0 (kn := 0) (ci := 0) (fl := [(3, 1), (0, 0), (3, 2), (0, 0), (3, 3), (0, 0), (3, 4), (3, 8), (3, 12), (3, 24), (3, 39)]) rfl hP rfl 2 (by decide) (hts _ (wg_t kw_376)) (fun _ h9 => h9) (cd := (3, 2)) rfl dK_show_24 (fun v43 hv55 => ?_)
      obtain ⟨r33, rfl, kr44⟩ := (show ∃ r : Nat, v43 = .ref r ∧ T r = some 2 from hv55)
      refine lv_iconst (v := nI 0) hx hb dK_show_27 (by decide) ?_
      refine lv_aload_n hx hb dK_show_28 rfl (lv_at hl 0 rfl) ?_
      refine nw_alen1 hx hb hK hO kr43 (k := (379 + 36 * z43 + 34)) (pr_p11 (z := z43) (by omega)) hP dK_show_29 ?_
      refine nw_copyb hx hb (hml.trans hl.1.symm) hown (hts _ (wg_t kw_524)) (hts _ (wg_t kw_526)) (hts _ (wg_t kw_525)) (hts _ (wg_t kw_19)) hK hO hU kr43 (k0 := (379 + 36 * z43 + 34)) (pr_p11 (z := z43) (by omega)) kr44 (k1 := 2) rfl hP hD hS (sp := 0) (dp := 0) (n := 2592) (by omega) (by omega) (by omega) (by decide) (Nat.le_of_ble_eq_true rfl) dK_show_30 (fun s43 pl H locs es43 hO hP hD hS => ?_)
      replace hR := bnd_step hR es43
      have hF := frm_sC hF es43 (by unfold M_K_show; omega)
      have hf101 : s43.1 0 1 = nI tl := fc_C hf21 es43 (by omega)
      have hf102 : s43.1 0 3 = nI al := fc_C hf22 es43 (by omega)
      have hf103 : s43.1 0 5 = nI pn := fc_C hf23 es43 (by omega)
      refine lv_aload_n hx hb dK_show_33 rfl (lv_at hl 1 rfl) ?_
      refine lv_aload_n hx hb dK_show_34 rfl (lv_at hl 0 rfl) ?_
      refine nw_alen1 hx hb hK hO kr43 (k := (379 + 36 * z43 + 34)) (pr_p11 (z := z43) (by omega)) hP dK_show_35 ?_
      refine nw_put (C := "LatticeKeys") (TT := T_K) (N := 11) hx hb hts (wg_ft i_K) ty_K k_K n_K hown hK hO hU k_h0 (kn := 0) (ci := 0) (fl := [(3, 1), (0, 0), (3, 2), (0, 0), (3, 3), (0, 0), (3, 4), (3, 8), (3, 12), (3, 24), (3, 39)]) rfl hP hD hS rfl 3 (by decide) (hts _ (wg_t kw_377)) (fun _ h9 => h9) rfl (by decide +kernel) rfl dK_show_36 (fun s44 pl H locs es44 hO hP hD hS => ?_)
      replace hR := bnd_step hR es44
      have hF := frm_sI hF es44 (by unfold M_K_show; omega)
      have hf104 : s44.1 0 1 = nI tl := fc_ne hf101 es44 (by omega)
      have hf106 : s44.1 0 5 = nI pn := fc_ne hf103 es44 (by omega)
      have hf107 : s44.1 0 3 = nI 2592 := fc_eq es44
      refine lv_aload_n hx hb dK_show_39 rfl (lv_at hl 1 rfl) ?_
      refine nw_get (C := "LatticeKeys") (TT := T_K) (N := 11) hx hb hts (wg_ft i_K) hown hK hO k_h0 (kn := 0) (ci := 0) (fl := [(3, 1), (0, 0), (3, 2), (0, 0), (3, 3), (0, 0), (3, 4), (3, 8), (3, 12), (3, 24), (3, 39)]) rfl hP rfl 3 (by decide) (hts _ (wg_t kw_377)) (fun _ h9 => h9) (cd := (0, 0)) rfl dK_show_40 (fun v44 hv56 => ?_)
      obtain rfl := (show v44 = .int (s44.1 0 3) from hv56)
      obtain ⟨z44, ez44, hz55, hz56⟩ := cl_of (b := 2147483648) hf107 (by omega) (by decide)
      replace hR := bnd_step hR ez44
      refine mi_as hz55 ?_
      refine et_ret ?_
      exact mp_iret hx hb hr hlk hP hD hS ((nI 0, nI z44, s44), pl) ⟨⟨hR.symm, rfl, rfl, hF, ⟨tl, hf104, by omega⟩, ⟨2592, hf107, by omega⟩, ⟨pn, hf106, by omega⟩, trivial⟩, hO⟩ [] rfl rfl rfl (by omega) (by omega) dK_show_43
    replace hR := hR.trans (if_neg hs34)
    obtain ⟨c9, hc9, e9⟩ := pfd_mem hq21 hs22
    simp only [List.mem_cons, List.not_mem_nil, or_false] at hc9
    rcases hc9 with rfl | rfl | rfl | rfl | rfl | rfl | rfl | rfl | rfl | rfl | rfl | rfl
    · exact absurd e9 hs23
    · exact absurd e9 hs24
    · exact absurd e9 hs25
    · exact absurd e9 hs26
    · exact absurd e9 hs27
    · exact absurd e9 hs28
    · exact absurd e9 hs29
    · exact absurd e9 hs30
    · exact absurd e9 hs31
    · exact absurd e9 hs32
    · exact absurd e9 hs33
    · exact absurd e9 hs34
  replace hR := hR.trans (if_neg hs21)
  have hq21 := hq21.2 hs21
  by_cases hs35 : q21.1 = nI 0
  · replace hR := hR.trans (if_pos hs35)
    obtain rfl : r21 = none := pfd_none hq21 hs35
    refine lv_astore_nN (lv' := [(3, .null), (0, .ref h0), (1, .int v), (2, .int sc)]) hx hb dK_show_6 rfl hl (by decide) rfl (fun ls hl => ?_)
    refine lv_aload_nN hx hb dK_show_7 rfl (lv_at hl 0 rfl) ?_
    refine lv_ifnonnullN hx hb dK_show_8 ?_
    exact et_throw (own := "LatticeKeys") (cls := "java/util/NoSuchElementException") (text := "no such keys or part") (names := ["java/lang/RuntimeException", "java/lang/Exception"]) (ik := 156) (is := 158) (ic := 160) hx hb htr ctr_NSE_0 ctr_NSE_1 ctr_NSE_2 ctr_NSE_5 hown (by decide) (by decide) (hts _ (wg_t kw_1064)) (hts _ (wg_t kw_34)) (hX.2.2.2.2.2.1 7 ("LatticeKeys", 158, "no such keys or part") rfl) (hat_NSE hts hX.2) hS.1 (hl.1.trans hml.symm) dK_show_11 dK_show_14 dK_show_15 dK_show_17 dK_show_20 htab (Nat.le_of_ble_eq_true rfl) (Nat.le_of_ble_eq_true rfl) (Nat.le_of_ble_eq_true rfl) (Nat.le_of_ble_eq_true rfl) hlk (Nat.le_of_ble_eq_true rfl) (Nat.le_of_ble_eq_true rfl) (xls_at 0 (congrArg Prod.fst hR) (by decide) rfl) hS.2.2 (thr_st hX.2) (fun t hz9 hk9 => ⟨⟨((nI 1, nI 0, q21.2), pl), ⟨⟨hR.symm, hF, ⟨tl, hf21, by omega⟩, ⟨al, hf22, by omega⟩, ⟨pn, hf23, by omega⟩, trivial⟩, hO⟩, lc_P hP hk9, hD⟩, (lc_S hS hz9 hk9).F rfl⟩)
  replace hR := hR.trans (if_neg hs35)
  by_cases hs36 : q21.1 = nI 1
  · replace hR := hR.trans (if_pos hs36)
    obtain ⟨z45, q34, hz57, hv57, rfl, kr45⟩ := pfd_at (c := 0) hq21 (by decide) hs36
    have kr45 : T q34 = some (379 + 36 * z45 + 2) := kr45
    have ez45 : z45 = v.toNatClampNeg := by rw [hv57]; exact (nI_clamp (by omega)).symm
    replace hR := bnd_step hR ez45
    refine lv_astore_n (lv' := [(3, .ref q34), (0, .ref h0), (1, .int v), (2, .int sc)]) hx hb dK_show_6 rfl hl (by decide) rfl (fun ls hl => ?_)
    refine lv_aload_n hx hb dK_show_7 rfl (lv_at hl 0 rfl) ?_
    refine lv_ifnonnull (tgt := 21) hx hb dK_show_8 (by decide) ?_
    refine lv_aload_n hx hb dK_show_21 rfl (lv_at hl 0 rfl) ?_
    refine lv_iconst (v := nI 0) hx hb dK_show_22 (by decide) ?_
    refine lv_aload_n hx hb dK_show_23 rfl (lv_at hl 1 rfl) ?_
    refine nw_get (C := "LatticeKeys") (TT := T_K) (N := 11) hx hb hts (wg_ft i_K) hown hK hO k_h0 (kn := 0) (ci := 0) (fl := [(3, 1), (0, 0), (3, 2), (0, 0), (3, 3), (0, 0), (3, 4), (3, 8), (3, 12), (3, 24), (3, 39)]) rfl hP rfl 2 (by decide) (hts _ (wg_t kw_376)) (fun _ h9 => h9) (cd := (3, 2)) rfl dK_show_24 (fun v45 hv58 => ?_)
    obtain ⟨r34, rfl, kr46⟩ := (show ∃ r : Nat, v45 = .ref r ∧ T r = some 2 from hv58)
    refine lv_iconst (v := nI 0) hx hb dK_show_27 (by decide) ?_
    refine lv_aload_n hx hb dK_show_28 rfl (lv_at hl 0 rfl) ?_
    refine nw_alen1 hx hb hK hO kr45 (k := (379 + 36 * z45 + 2)) (pr_s0 (z := z45) (by omega)) hP dK_show_29 ?_
    refine nw_copyb hx hb (hml.trans hl.1.symm) hown (hts _ (wg_t kw_524)) (hts _ (wg_t kw_526)) (hts _ (wg_t kw_525)) (hts _ (wg_t kw_19)) hK hO hU kr45 (k0 := (379 + 36 * z45 + 2)) (pr_s0 (z := z45) (by omega)) kr46 (k1 := 2) rfl hP hD hS (sp := 0) (dp := 0) (n := 1632) (by omega) (by omega) (by omega) (by decide) (Nat.le_of_ble_eq_true rfl) dK_show_30 (fun s45 pl H locs es45 hO hP hD hS => ?_)
    replace hR := bnd_step hR es45
    have hF := frm_sC hF es45 (by unfold M_K_show; omega)
    have hf108 : s45.1 0 1 = nI tl := fc_C hf21 es45 (by omega)
    have hf109 : s45.1 0 3 = nI al := fc_C hf22 es45 (by omega)
    have hf110 : s45.1 0 5 = nI pn := fc_C hf23 es45 (by omega)
    refine lv_aload_n hx hb dK_show_33 rfl (lv_at hl 1 rfl) ?_
    refine lv_aload_n hx hb dK_show_34 rfl (lv_at hl 0 rfl) ?_
    refine nw_alen1 hx hb hK hO kr45 (k := (379 + 36 * z45 + 2)) (pr_s0 (z := z45) (by omega)) hP dK_show_35 ?_
    refine nw_put (C := "LatticeKeys") (TT := T_K) (N := 11) hx hb hts (wg_ft i_K) ty_K k_K n_K hown hK hO hU k_h0 (kn := 0) (ci := 0) (fl := [(3, 1), (0, 0), (3, 2), (0, 0), (3, 3), (0, 0), (3, 4), (3, 8), (3, 12), (3, 24), (3, 39)]) rfl hP hD hS rfl 3 (by decide) (hts _ (wg_t kw_377)) (fun _ h9 => h9) rfl (by decide +kernel) rfl dK_show_36 (fun s46 pl H locs es46 hO hP hD hS => ?_)
    replace hR := bnd_step hR es46
    have hF := frm_sI hF es46 (by unfold M_K_show; omega)
    have hf111 : s46.1 0 1 = nI tl := fc_ne hf108 es46 (by omega)
    have hf113 : s46.1 0 5 = nI pn := fc_ne hf110 es46 (by omega)
    have hf114 : s46.1 0 3 = nI 1632 := fc_eq es46
    refine lv_aload_n hx hb dK_show_39 rfl (lv_at hl 1 rfl) ?_
    refine nw_get (C := "LatticeKeys") (TT := T_K) (N := 11) hx hb hts (wg_ft i_K) hown hK hO k_h0 (kn := 0) (ci := 0) (fl := [(3, 1), (0, 0), (3, 2), (0, 0), (3, 3), (0, 0), (3, 4), (3, 8), (3, 12), (3, 24), (3, 39)]) rfl hP rfl 3 (by decide) (hts _ (wg_t kw_377)) (fun _ h9 => h9) (cd := (0, 0)) rfl dK_show_40 (fun v46 hv59 => ?_)
    obtain rfl := (show v46 = .int (s46.1 0 3) from hv59)
    obtain ⟨z46, ez46, hz58, hz59⟩ := cl_of (b := 2147483648) hf114 (by omega) (by decide)
    replace hR := bnd_step hR ez46
    refine mi_as hz58 ?_
    refine et_ret ?_
    exact mp_iret hx hb hr hlk hP hD hS ((nI 0, nI z46, s46), pl) ⟨⟨hR.symm, rfl, rfl, hF, ⟨tl, hf111, by omega⟩, ⟨1632, hf114, by omega⟩, ⟨pn, hf113, by omega⟩, trivial⟩, hO⟩ [] rfl rfl rfl (by omega) (by omega) dK_show_43
  replace hR := hR.trans (if_neg hs36)
  by_cases hs37 : q21.1 = nI 2
  · replace hR := hR.trans (if_pos hs37)
    obtain ⟨z47, q35, hz60, hv60, rfl, kr47⟩ := pfd_at (c := 1) hq21 (by decide) hs37
    have kr47 : T q35 = some (379 + 36 * z47 + 5) := kr47
    have ez47 : z47 = v.toNatClampNeg := by rw [hv60]; exact (nI_clamp (by omega)).symm
    replace hR := bnd_step hR ez47
    refine lv_astore_n (lv' := [(3, .ref q35), (0, .ref h0), (1, .int v), (2, .int sc)]) hx hb dK_show_6 rfl hl (by decide) rfl (fun ls hl => ?_)
    refine lv_aload_n hx hb dK_show_7 rfl (lv_at hl 0 rfl) ?_
    refine lv_ifnonnull (tgt := 21) hx hb dK_show_8 (by decide) ?_
    refine lv_aload_n hx hb dK_show_21 rfl (lv_at hl 0 rfl) ?_
    refine lv_iconst (v := nI 0) hx hb dK_show_22 (by decide) ?_
    refine lv_aload_n hx hb dK_show_23 rfl (lv_at hl 1 rfl) ?_
    refine nw_get (C := "LatticeKeys") (TT := T_K) (N := 11) hx hb hts (wg_ft i_K) hown hK hO k_h0 (kn := 0) (ci := 0) (fl := [(3, 1), (0, 0), (3, 2), (0, 0), (3, 3), (0, 0), (3, 4), (3, 8), (3, 12), (3, 24), (3, 39)]) rfl hP rfl 2 (by decide) (hts _ (wg_t kw_376)) (fun _ h9 => h9) (cd := (3, 2)) rfl dK_show_24 (fun v47 hv61 => ?_)
    obtain ⟨r35, rfl, kr48⟩ := (show ∃ r : Nat, v47 = .ref r ∧ T r = some 2 from hv61)
    refine lv_iconst (v := nI 0) hx hb dK_show_27 (by decide) ?_
    refine lv_aload_n hx hb dK_show_28 rfl (lv_at hl 0 rfl) ?_
    refine nw_alen1 hx hb hK hO kr47 (k := (379 + 36 * z47 + 5)) (pr_s1 (z := z47) (by omega)) hP dK_show_29 ?_
    refine nw_copyb hx hb (hml.trans hl.1.symm) hown (hts _ (wg_t kw_524)) (hts _ (wg_t kw_526)) (hts _ (wg_t kw_525)) (hts _ (wg_t kw_19)) hK hO hU kr47 (k0 := (379 + 36 * z47 + 5)) (pr_s1 (z := z47) (by omega)) kr48 (k1 := 2) rfl hP hD hS (sp := 0) (dp := 0) (n := 2400) (by omega) (by omega) (by omega) (by decide) (Nat.le_of_ble_eq_true rfl) dK_show_30 (fun s47 pl H locs es47 hO hP hD hS => ?_)
    replace hR := bnd_step hR es47
    have hF := frm_sC hF es47 (by unfold M_K_show; omega)
    have hf115 : s47.1 0 1 = nI tl := fc_C hf21 es47 (by omega)
    have hf116 : s47.1 0 3 = nI al := fc_C hf22 es47 (by omega)
    have hf117 : s47.1 0 5 = nI pn := fc_C hf23 es47 (by omega)
    refine lv_aload_n hx hb dK_show_33 rfl (lv_at hl 1 rfl) ?_
    refine lv_aload_n hx hb dK_show_34 rfl (lv_at hl 0 rfl) ?_
    refine nw_alen1 hx hb hK hO kr47 (k := (379 + 36 * z47 + 5)) (pr_s1 (z := z47) (by omega)) hP dK_show_35 ?_
    refine nw_put (C := "LatticeKeys") (TT := T_K) (N := 11) hx hb hts (wg_ft i_K) ty_K k_K n_K hown hK hO hU k_h0 (kn := 0) (ci := 0) (fl := [(3, 1), (0, 0), (3, 2), (0, 0), (3, 3), (0, 0), (3, 4), (3, 8), (3, 12), (3, 24), (3, 39)]) rfl hP hD hS rfl 3 (by decide) (hts _ (wg_t kw_377)) (fun _ h9 => h9) rfl (by decide +kernel) rfl dK_show_36 (fun s48 pl H locs es48 hO hP hD hS => ?_)
    replace hR := bnd_step hR es48
    have hF := frm_sI hF es48 (by unfold M_K_show; omega)
    have hf118 : s48.1 0 1 = nI tl := fc_ne hf115 es48 (by omega)
    have hf120 : s48.1 0 5 = nI pn := fc_ne hf117 es48 (by omega)
    have hf121 : s48.1 0 3 = nI 2400 := fc_eq es48
    refine lv_aload_n hx hb dK_show_39 rfl (lv_at hl 1 rfl) ?_
    refine nw_get (C := "LatticeKeys") (TT := T_K) (N := 11) hx hb hts (wg_ft i_K) hown hK hO k_h0 (kn := 0) (ci := 0) (fl := [(3, 1), (0, 0), (3, 2), (0, 0), (3, 3), (0, 0), (3, 4), (3, 8), (3, 12), (3, 24), (3, 39)]) rfl hP rfl 3 (by decide) (hts _ (wg_t kw_377)) (fun _ h9 => h9) (cd := (0, 0)) rfl dK_show_40 (fun v48 hv62 => ?_)
    obtain rfl := (show v48 = .int (s48.1 0 3) from hv62)
    obtain ⟨z48, ez48, hz61, hz62⟩ := cl_of (b := 2147483648) hf121 (by omega) (by decide)
    replace hR := bnd_step hR ez48
    refine mi_as hz61 ?_
    refine et_ret ?_
    exact mp_iret hx hb hr hlk hP hD hS ((nI 0, nI z48, s48), pl) ⟨⟨hR.symm, rfl, rfl, hF, ⟨tl, hf118, by omega⟩, ⟨2400, hf121, by omega⟩, ⟨pn, hf120, by omega⟩, trivial⟩, hO⟩ [] rfl rfl rfl (by omega) (by omega) dK_show_43
  replace hR := hR.trans (if_neg hs37)
  by_cases hs38 : q21.1 = nI 3
  · replace hR := hR.trans (if_pos hs38)
    obtain ⟨z49, q36, hz63, hv63, rfl, kr49⟩ := pfd_at (c := 2) hq21 (by decide) hs38
    have kr49 : T q36 = some (379 + 36 * z49 + 8) := kr49
    have ez49 : z49 = v.toNatClampNeg := by rw [hv63]; exact (nI_clamp (by omega)).symm
    replace hR := bnd_step hR ez49
    refine lv_astore_n (lv' := [(3, .ref q36), (0, .ref h0), (1, .int v), (2, .int sc)]) hx hb dK_show_6 rfl hl (by decide) rfl (fun ls hl => ?_)
    refine lv_aload_n hx hb dK_show_7 rfl (lv_at hl 0 rfl) ?_
    refine lv_ifnonnull (tgt := 21) hx hb dK_show_8 (by decide) ?_
    refine lv_aload_n hx hb dK_show_21 rfl (lv_at hl 0 rfl) ?_
    refine lv_iconst (v := nI 0) hx hb dK_show_22 (by decide) ?_
    refine lv_aload_n hx hb dK_show_23 rfl (lv_at hl 1 rfl) ?_
    refine nw_get (C := "LatticeKeys") (TT := T_K) (N := 11) hx hb hts (wg_ft i_K) hown hK hO k_h0 (kn := 0) (ci := 0) (fl := [(3, 1), (0, 0), (3, 2), (0, 0), (3, 3), (0, 0), (3, 4), (3, 8), (3, 12), (3, 24), (3, 39)]) rfl hP rfl 2 (by decide) (hts _ (wg_t kw_376)) (fun _ h9 => h9) (cd := (3, 2)) rfl dK_show_24 (fun v49 hv64 => ?_)
    obtain ⟨r36, rfl, kr50⟩ := (show ∃ r : Nat, v49 = .ref r ∧ T r = some 2 from hv64)
    refine lv_iconst (v := nI 0) hx hb dK_show_27 (by decide) ?_
    refine lv_aload_n hx hb dK_show_28 rfl (lv_at hl 0 rfl) ?_
    refine nw_alen1 hx hb hK hO kr49 (k := (379 + 36 * z49 + 8)) (pr_s2 (z := z49) (by omega)) hP dK_show_29 ?_
    refine nw_copyb hx hb (hml.trans hl.1.symm) hown (hts _ (wg_t kw_524)) (hts _ (wg_t kw_526)) (hts _ (wg_t kw_525)) (hts _ (wg_t kw_19)) hK hO hU kr49 (k0 := (379 + 36 * z49 + 8)) (pr_s2 (z := z49) (by omega)) kr50 (k1 := 2) rfl hP hD hS (sp := 0) (dp := 0) (n := 3168) (by omega) (by omega) (by omega) (by decide) (Nat.le_of_ble_eq_true rfl) dK_show_30 (fun s49 pl H locs es49 hO hP hD hS => ?_)
    replace hR := bnd_step hR es49
    have hF := frm_sC hF es49 (by unfold M_K_show; omega)
    have hf122 : s49.1 0 1 = nI tl := fc_C hf21 es49 (by omega)
    have hf123 : s49.1 0 3 = nI al := fc_C hf22 es49 (by omega)
    have hf124 : s49.1 0 5 = nI pn := fc_C hf23 es49 (by omega)
    refine lv_aload_n hx hb dK_show_33 rfl (lv_at hl 1 rfl) ?_
    refine lv_aload_n hx hb dK_show_34 rfl (lv_at hl 0 rfl) ?_
    refine nw_alen1 hx hb hK hO kr49 (k := (379 + 36 * z49 + 8)) (pr_s2 (z := z49) (by omega)) hP dK_show_35 ?_
    refine nw_put (C := "LatticeKeys") (TT := T_K) (N := 11) hx hb hts (wg_ft i_K) ty_K k_K n_K hown hK hO hU k_h0 (kn := 0) (ci := 0) (fl := [(3, 1), (0, 0), (3, 2), (0, 0), (3, 3), (0, 0), (3, 4), (3, 8), (3, 12), (3, 24), (3, 39)]) rfl hP hD hS rfl 3 (by decide) (hts _ (wg_t kw_377)) (fun _ h9 => h9) rfl (by decide +kernel) rfl dK_show_36 (fun s50 pl H locs es50 hO hP hD hS => ?_)
    replace hR := bnd_step hR es50
    have hF := frm_sI hF es50 (by unfold M_K_show; omega)
    have hf125 : s50.1 0 1 = nI tl := fc_ne hf122 es50 (by omega)
    have hf127 : s50.1 0 5 = nI pn := fc_ne hf124 es50 (by omega)
    have hf128 : s50.1 0 3 = nI 3168 := fc_eq es50
    refine lv_aload_n hx hb dK_show_39 rfl (lv_at hl 1 rfl) ?_
    refine nw_get (C := "LatticeKeys") (TT := T_K) (N := 11) hx hb hts (wg_ft i_K) hown hK hO k_h0 (kn := 0) (ci := 0) (fl := [(3, 1), (0, 0), (3, 2), (0, 0), (3, 3), (0, 0), (3, 4), (3, 8), (3, 12), (3, 24), (3, 39)]) rfl hP rfl 3 (by decide) (hts _ (wg_t kw_377)) (fun _ h9 => h9) (cd := (0, 0)) rfl dK_show_40 (fun v50 hv65 => ?_)
    obtain rfl := (show v50 = .int (s50.1 0 3) from hv65)
    obtain ⟨z50, ez50, hz64, hz65⟩ := cl_of (b := 2147483648) hf128 (by omega) (by decide)
    replace hR := bnd_step hR ez50
    refine mi_as hz64 ?_
    refine et_ret ?_
    exact mp_iret hx hb hr hlk hP hD hS ((nI 0, nI z50, s50), pl) ⟨⟨hR.symm, rfl, rfl, hF, ⟨tl, hf125, by omega⟩, ⟨3168, hf128, by omega⟩, ⟨pn, hf127, by omega⟩, trivial⟩, hO⟩ [] rfl rfl rfl (by omega) (by omega) dK_show_43
  replace hR := hR.trans (if_neg hs38)
  by_cases hs39 : q21.1 = nI 4
  · replace hR := hR.trans (if_pos hs39)
    obtain ⟨z51, q37, hz66, hv66, rfl, kr51⟩ := pfd_at (c := 3) hq21 (by decide) hs39
    have kr51 : T q37 = some (379 + 36 * z51 + 11) := kr51
    have ez51 : z51 = v.toNatClampNeg := by rw [hv66]; exact (nI_clamp (by omega)).symm
    replace hR := bnd_step hR ez51
    refine lv_astore_n (lv' := [(3, .ref q37), (0, .ref h0), (1, .int v), (2, .int sc)]) hx hb dK_show_6 rfl hl (by decide) rfl (fun ls hl => ?_)
    refine lv_aload_n hx hb dK_show_7 rfl (lv_at hl 0 rfl) ?_
    refine lv_ifnonnull (tgt := 21) hx hb dK_show_8 (by decide) ?_
    refine lv_aload_n hx hb dK_show_21 rfl (lv_at hl 0 rfl) ?_
    refine lv_iconst (v := nI 0) hx hb dK_show_22 (by decide) ?_
    refine lv_aload_n hx hb dK_show_23 rfl (lv_at hl 1 rfl) ?_
    refine nw_get (C := "LatticeKeys") (TT := T_K) (N := 11) hx hb hts (wg_ft i_K) hown hK hO k_h0 (kn := 0) (ci := 0) (fl := [(3, 1), (0, 0), (3, 2), (0, 0), (3, 3), (0, 0), (3, 4), (3, 8), (3, 12), (3, 24), (3, 39)]) rfl hP rfl 2 (by decide) (hts _ (wg_t kw_376)) (fun _ h9 => h9) (cd := (3, 2)) rfl dK_show_24 (fun v51 hv67 => ?_)
    obtain ⟨r37, rfl, kr52⟩ := (show ∃ r : Nat, v51 = .ref r ∧ T r = some 2 from hv67)
    refine lv_iconst (v := nI 0) hx hb dK_show_27 (by decide) ?_
    refine lv_aload_n hx hb dK_show_28 rfl (lv_at hl 0 rfl) ?_
    refine nw_alen1 hx hb hK hO kr51 (k := (379 + 36 * z51 + 11)) (pr_s3 (z := z51) (by omega)) hP dK_show_29 ?_
    refine nw_copyb hx hb (hml.trans hl.1.symm) hown (hts _ (wg_t kw_524)) (hts _ (wg_t kw_526)) (hts _ (wg_t kw_525)) (hts _ (wg_t kw_19)) hK hO hU kr51 (k0 := (379 + 36 * z51 + 11)) (pr_s3 (z := z51) (by omega)) kr52 (k1 := 2) rfl hP hD hS (sp := 0) (dp := 0) (n := 2560) (by omega) (by omega) (by omega) (by decide) (Nat.le_of_ble_eq_true rfl) dK_show_30 (fun s51 pl H locs es51 hO hP hD hS => ?_)
    replace hR := bnd_step hR es51
    have hF := frm_sC hF es51 (by unfold M_K_show; omega)
    have hf129 : s51.1 0 1 = nI tl := fc_C hf21 es51 (by omega)
    have hf130 : s51.1 0 3 = nI al := fc_C hf22 es51 (by omega)
    have hf131 : s51.1 0 5 = nI pn := fc_C hf23 es51 (by omega)
    refine lv_aload_n hx hb dK_show_33 rfl (lv_at hl 1 rfl) ?_
    refine lv_aload_n hx hb dK_show_34 rfl (lv_at hl 0 rfl) ?_
    refine nw_alen1 hx hb hK hO kr51 (k := (379 + 36 * z51 + 11)) (pr_s3 (z := z51) (by omega)) hP dK_show_35 ?_
    refine nw_put (C := "LatticeKeys") (TT := T_K) (N := 11) hx hb hts (wg_ft i_K) ty_K k_K n_K hown hK hO hU k_h0 (kn := 0) (ci := 0) (fl := [(3, 1), (0, 0), (3, 2), (0, 0), (3, 3), (0, 0), (3, 4), (3, 8), (3, 12), (3, 24), (3, 39)]) rfl hP hD hS rfl 3 (by decide) (hts _ (wg_t kw_377)) (fun _ h9 => h9) rfl (by decide +kernel) rfl dK_show_36 (fun s52 pl H locs es52 hO hP hD hS => ?_)
    replace hR := bnd_step hR es52
    have hF := frm_sI hF es52 (by unfold M_K_show; omega)
    have hf132 : s52.1 0 1 = nI tl := fc_ne hf129 es52 (by omega)
    have hf134 : s52.1 0 5 = nI pn := fc_ne hf131 es52 (by omega)
    have hf135 : s52.1 0 3 = nI 2560 := fc_eq es52
    refine lv_aload_n hx hb dK_show_39 rfl (lv_at hl 1 rfl) ?_
    refine nw_get (C := "LatticeKeys") (TT := T_K) (N := 11) hx hb hts (wg_ft i_K) hown hK hO k_h0 (kn := 0) (ci := 0) (fl := [(3, 1), (0, 0), (3, 2), (0, 0), (3, 3), (0, 0), (3, 4), (3, 8), (3, 12), (3, 24), (3, 39)]) rfl hP rfl 3 (by decide) (hts _ (wg_t kw_377)) (fun _ h9 => h9) (cd := (0, 0)) rfl dK_show_40 (fun v52 hv68 => ?_)
    obtain rfl := (show v52 = .int (s52.1 0 3) from hv68)
    obtain ⟨z52, ez52, hz67, hz68⟩ := cl_of (b := 2147483648) hf135 (by omega) (by decide)
    replace hR := bnd_step hR ez52
    refine mi_as hz67 ?_
    refine et_ret ?_
    exact mp_iret hx hb hr hlk hP hD hS ((nI 0, nI z52, s52), pl) ⟨⟨hR.symm, rfl, rfl, hF, ⟨tl, hf132, by omega⟩, ⟨2560, hf135, by omega⟩, ⟨pn, hf134, by omega⟩, trivial⟩, hO⟩ [] rfl rfl rfl (by omega) (by omega) dK_show_43
  replace hR := hR.trans (if_neg hs39)
  by_cases hs40 : q21.1 = nI 5
  · replace hR := hR.trans (if_pos hs40)
    obtain ⟨z53, q38, hz69, hv69, rfl, kr53⟩ := pfd_at (c := 4) hq21 (by decide) hs40
    have kr53 : T q38 = some (379 + 36 * z53 + 14) := kr53
    have ez53 : z53 = v.toNatClampNeg := by rw [hv69]; exact (nI_clamp (by omega)).symm
    replace hR := bnd_step hR ez53
    refine lv_astore_n (lv' := [(3, .ref q38), (0, .ref h0), (1, .int v), (2, .int sc)]) hx hb dK_show_6 rfl hl (by decide) rfl (fun ls hl => ?_)
    refine lv_aload_n hx hb dK_show_7 rfl (lv_at hl 0 rfl) ?_
    refine lv_ifnonnull (tgt := 21) hx hb dK_show_8 (by decide) ?_
    refine lv_aload_n hx hb dK_show_21 rfl (lv_at hl 0 rfl) ?_
    refine lv_iconst (v := nI 0) hx hb dK_show_22 (by decide) ?_
    refine lv_aload_n hx hb dK_show_23 rfl (lv_at hl 1 rfl) ?_
    refine nw_get (C := "LatticeKeys") (TT := T_K) (N := 11) hx hb hts (wg_ft i_K) hown hK hO k_h0 (kn := 0) (ci := 0) (fl := [(3, 1), (0, 0), (3, 2), (0, 0), (3, 3), (0, 0), (3, 4), (3, 8), (3, 12), (3, 24), (3, 39)]) rfl hP rfl 2 (by decide) (hts _ (wg_t kw_376)) (fun _ h9 => h9) (cd := (3, 2)) rfl dK_show_24 (fun v53 hv70 => ?_)
    obtain ⟨r38, rfl, kr54⟩ := (show ∃ r : Nat, v53 = .ref r ∧ T r = some 2 from hv70)
    refine lv_iconst (v := nI 0) hx hb dK_show_27 (by decide) ?_
    refine lv_aload_n hx hb dK_show_28 rfl (lv_at hl 0 rfl) ?_
    refine nw_alen1 hx hb hK hO kr53 (k := (379 + 36 * z53 + 14)) (pr_s4 (z := z53) (by omega)) hP dK_show_29 ?_
    refine nw_copyb hx hb (hml.trans hl.1.symm) hown (hts _ (wg_t kw_524)) (hts _ (wg_t kw_526)) (hts _ (wg_t kw_525)) (hts _ (wg_t kw_19)) hK hO hU kr53 (k0 := (379 + 36 * z53 + 14)) (pr_s4 (z := z53) (by omega)) kr54 (k1 := 2) rfl hP hD hS (sp := 0) (dp := 0) (n := 4032) (by omega) (by omega) (by omega) (by decide) (Nat.le_of_ble_eq_true rfl) dK_show_30 (fun s53 pl H locs es53 hO hP hD hS => ?_)
    replace hR := bnd_step hR es53
    have hF := frm_sC hF es53 (by unfold M_K_show; omega)
    have hf136 : s53.1 0 1 = nI tl := fc_C hf21 es53 (by omega)
    have hf137 : s53.1 0 3 = nI al := fc_C hf22 es53 (by omega)
    have hf138 : s53.1 0 5 = nI pn := fc_C hf23 es53 (by omega)
    refine lv_aload_n hx hb dK_show_33 rfl (lv_at hl 1 rfl) ?_
    refine lv_aload_n hx hb dK_show_34 rfl (lv_at hl 0 rfl) ?_
    refine nw_alen1 hx hb hK hO kr53 (k := (379 + 36 * z53 + 14)) (pr_s4 (z := z53) (by omega)) hP dK_show_35 ?_
    refine nw_put (C := "LatticeKeys") (TT := T_K) (N := 11) hx hb hts (wg_ft i_K) ty_K k_K n_K hown hK hO hU k_h0 (kn := 0) (ci := 0) (fl := [(3, 1), (0, 0), (3, 2), (0, 0), (3, 3), (0, 0), (3, 4), (3, 8), (3, 12), (3, 24), (3, 39)]) rfl hP hD hS rfl 3 (by decide) (hts _ (wg_t kw_377)) (fun _ h9 => h9) rfl (by decide +kernel) rfl dK_show_36 (fun s54 pl H locs es54 hO hP hD hS => ?_)
    replace hR := bnd_step hR es54
    have hF := frm_sI hF es54 (by unfold M_K_show; omega)
    have hf139 : s54.1 0 1 = nI tl := fc_ne hf136 es54 (by omega)
    have hf141 : s54.1 0 5 = nI pn := fc_ne hf138 es54 (by omega)
    have hf142 : s54.1 0 3 = nI 4032 := fc_eq es54
    refine lv_aload_n hx hb dK_show_39 rfl (lv_at hl 1 rfl) ?_
    refine nw_get (C := "LatticeKeys") (TT := T_K) (N := 11) hx hb hts (wg_ft i_K) hown hK hO k_h0 (kn := 0) (ci := 0) (fl := [(3, 1), (0, 0), (3, 2), (0, 0), (3, 3), (0, 0), (3, 4), (3, 8), (3, 12), (3, 24), (3, 39)]) rfl hP rfl 3 (by decide) (hts _ (wg_t kw_377)) (fun _ h9 => h9) (cd := (0, 0)) rfl dK_show_40 (fun v54 hv71 => ?_)
    obtain rfl := (show v54 = .int (s54.1 0 3) from hv71)
    obtain ⟨z54, ez54, hz70, hz71⟩ := cl_of (b := 2147483648) hf142 (by omega) (by decide)
    replace hR := bnd_step hR ez54
    refine mi_as hz70 ?_
    refine et_ret ?_
    exact mp_iret hx hb hr hlk hP hD hS ((nI 0, nI z54, s54), pl) ⟨⟨hR.symm, rfl, rfl, hF, ⟨tl, hf139, by omega⟩, ⟨4032, hf142, by omega⟩, ⟨pn, hf141, by omega⟩, trivial⟩, hO⟩ [] rfl rfl rfl (by omega) (by omega) dK_show_43
  replace hR := hR.trans (if_neg hs40)
  by_cases hs41 : q21.1 = nI 6
  · replace hR := hR.trans (if_pos hs41)
    obtain ⟨z55, q39, hz72, hv72, rfl, kr55⟩ := pfd_at (c := 5) hq21 (by decide) hs41
    have kr55 : T q39 = some (379 + 36 * z55 + 17) := kr55
    have ez55 : z55 = v.toNatClampNeg := by rw [hv72]; exact (nI_clamp (by omega)).symm
    replace hR := bnd_step hR ez55
    refine lv_astore_n (lv' := [(3, .ref q39), (0, .ref h0), (1, .int v), (2, .int sc)]) hx hb dK_show_6 rfl hl (by decide) rfl (fun ls hl => ?_)
    refine lv_aload_n hx hb dK_show_7 rfl (lv_at hl 0 rfl) ?_
    refine lv_ifnonnull (tgt := 21) hx hb dK_show_8 (by decide) ?_
    refine lv_aload_n hx hb dK_show_21 rfl (lv_at hl 0 rfl) ?_
    refine lv_iconst (v := nI 0) hx hb dK_show_22 (by decide) ?_
    refine lv_aload_n hx hb dK_show_23 rfl (lv_at hl 1 rfl) ?_
    refine nw_get (C := "LatticeKeys") (TT := T_K) (N := 11) hx hb hts (wg_ft i_K) hown hK hO k_h0 (kn := 0) (ci := 0) (fl := [(3, 1), (0, 0), (3, 2), (0, 0), (3, 3), (0, 0), (3, 4), (3, 8), (3, 12), (3, 24), (3, 39)]) rfl hP rfl 2 (by decide) (hts _ (wg_t kw_376)) (fun _ h9 => h9) (cd := (3, 2)) rfl dK_show_24 (fun v55 hv73 => ?_)
    obtain ⟨r39, rfl, kr56⟩ := (show ∃ r : Nat, v55 = .ref r ∧ T r = some 2 from hv73)
    refine lv_iconst (v := nI 0) hx hb dK_show_27 (by decide) ?_
    refine lv_aload_n hx hb dK_show_28 rfl (lv_at hl 0 rfl) ?_
    refine nw_alen1 hx hb hK hO kr55 (k := (379 + 36 * z55 + 17)) (pr_s5 (z := z55) (by omega)) hP dK_show_29 ?_
    refine nw_copyb hx hb (hml.trans hl.1.symm) hown (hts _ (wg_t kw_524)) (hts _ (wg_t kw_526)) (hts _ (wg_t kw_525)) (hts _ (wg_t kw_19)) hK hO hU kr55 (k0 := (379 + 36 * z55 + 17)) (pr_s5 (z := z55) (by omega)) kr56 (k1 := 2) rfl hP hD hS (sp := 0) (dp := 0) (n := 4896) (by omega) (by omega) (by omega) (by decide) (Nat.le_of_ble_eq_true rfl) dK_show_30 (fun s55 pl H locs es55 hO hP hD hS => ?_)
    replace hR := bnd_step hR es55
    have hF := frm_sC hF es55 (by unfold M_K_show; omega)
    have hf143 : s55.1 0 1 = nI tl := fc_C hf21 es55 (by omega)
    have hf144 : s55.1 0 3 = nI al := fc_C hf22 es55 (by omega)
    have hf145 : s55.1 0 5 = nI pn := fc_C hf23 es55 (by omega)
    refine lv_aload_n hx hb dK_show_33 rfl (lv_at hl 1 rfl) ?_
    refine lv_aload_n hx hb dK_show_34 rfl (lv_at hl 0 rfl) ?_
    refine nw_alen1 hx hb hK hO kr55 (k := (379 + 36 * z55 + 17)) (pr_s5 (z := z55) (by omega)) hP dK_show_35 ?_
    refine nw_put (C := "LatticeKeys") (TT := T_K) (N := 11) hx hb hts (wg_ft i_K) ty_K k_K n_K hown hK hO hU k_h0 (kn := 0) (ci := 0) (fl := [(3, 1), (0, 0), (3, 2), (0, 0), (3, 3), (0, 0), (3, 4), (3, 8), (3, 12), (3, 24), (3, 39)]) rfl hP hD hS rfl 3 (by decide) (hts _ (wg_t kw_377)) (fun _ h9 => h9) rfl (by decide +kernel) rfl dK_show_36 (fun s56 pl H locs es56 hO hP hD hS => ?_)
    replace hR := bnd_step hR es56
    have hF := frm_sI hF es56 (by unfold M_K_show; omega)
    have hf146 : s56.1 0 1 = nI tl := fc_ne hf143 es56 (by omega)
    have hf148 : s56.1 0 5 = nI pn := fc_ne hf145 es56 (by omega)
    have hf149 : s56.1 0 3 = nI 4896 := fc_eq es56
    refine lv_aload_n hx hb dK_show_39 rfl (lv_at hl 1 rfl) ?_
    refine nw_get (C := "LatticeKeys") (TT := T_K) (N := 11) hx hb hts (wg_ft i_K) hown hK hO k_h0 (kn := 0) (ci := 0) (fl := [(3, 1), (0, 0), (3, 2), (0, 0), (3, 3), (0, 0), (3, 4), (3, 8), (3, 12), (3, 24), (3, 39)]) rfl hP rfl 3 (by decide) (hts _ (wg_t kw_377)) (fun _ h9 => h9) (cd := (0, 0)) rfl dK_show_40 (fun v56 hv74 => ?_)
    obtain rfl := (show v56 = .int (s56.1 0 3) from hv74)
    obtain ⟨z56, ez56, hz73, hz74⟩ := cl_of (b := 2147483648) hf149 (by omega) (by decide)
    replace hR := bnd_step hR ez56
    refine mi_as hz73 ?_
    refine et_ret ?_
    exact mp_iret hx hb hr hlk hP hD hS ((nI 0, nI z56, s56), pl) ⟨⟨hR.symm, rfl, rfl, hF, ⟨tl, hf146, by omega⟩, ⟨4896, hf149, by omega⟩, ⟨pn, hf148, by omega⟩, trivial⟩, hO⟩ [] rfl rfl rfl (by omega) (by omega) dK_show_43
  replace hR := hR.trans (if_neg hs41)
  obtain ⟨c9, hc9, e9⟩ := pfd_mem hq21 hs35
  simp only [List.mem_cons, List.not_mem_nil, or_false] at hc9
  rcases hc9 with rfl | rfl | rfl | rfl | rfl | rfl
  · exact absurd e9 hs36
  · exact absurd e9 hs37
  · exact absurd e9 hs38
  · exact absurd e9 hs39
  · exact absurd e9 hs40
  · exact absurd e9 hs41
