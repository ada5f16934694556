set_option linter.all false
abbrev c_K_verify : ByteArray := prog_1_method_14_code
abbrev y_K_verify : MethodName := ⟨"LatticeKeys", "verify", "(II)Z"⟩
abbrev w_K_verify : List Cond := Cond.code y_K_verify c_K_verify 6 (some .boolean) :: WG
theorem dK_verify_0 : decode c_K_verify 0 = .ok (.aload_n 0, 1) := by decide +kernel
theorem dK_verify_1 : decode c_K_verify 1 = .ok (.iload_n 1, 1) := by decide +kernel
theorem dK_verify_2 : decode c_K_verify 2 = .ok (.invokevirtual 200, 3) := by decide +kernel
theorem dK_verify_5 : decode c_K_verify 5 = .ok (.astore_n 3, 1) := by decide +kernel
theorem dK_verify_6 : decode c_K_verify 6 = .ok (.aload_n 3, 1) := by decide +kernel
theorem dK_verify_7 : decode c_K_verify 7 = .ok (.ifnonnull 13, 3) := by decide +kernel
theorem dK_verify_10 : decode c_K_verify 10 = .ok (.new 156, 3) := by decide +kernel
theorem dK_verify_13 : decode c_K_verify 13 = .ok (.dup, 1) := by decide +kernel
theorem dK_verify_14 : decode c_K_verify 14 = .ok (.ldc 220, 2) := by decide +kernel
theorem dK_verify_16 : decode c_K_verify 16 = .ok (.invokespecial 160, 3) := by decide +kernel
theorem dK_verify_19 : decode c_K_verify 19 = .ok (.athrow, 1) := by decide +kernel
theorem dK_verify_20 : decode c_K_verify 20 = .ok (.aload_n 0, 1) := by decide +kernel
theorem dK_verify_21 : decode c_K_verify 21 = .ok (.getfield 40, 3) := by decide +kernel
theorem dK_verify_24 : decode c_K_verify 24 = .ok (.aload_n 3, 1) := by decide +kernel
theorem dK_verify_25 : decode c_K_verify 25 = .ok (.getfield 168, 3) := by decide +kernel
theorem dK_verify_28 : decode c_K_verify 28 = .ok (.iconst 3, 1) := by decide +kernel
theorem dK_verify_29 : decode c_K_verify 29 = .ok (.isub, 1) := by decide +kernel
theorem dK_verify_30 : decode c_K_verify 30 = .ok (.aaload, 1) := by decide +kernel
theorem dK_verify_31 : decode c_K_verify 31 = .ok (.astore 4, 2) := by decide +kernel
theorem dK_verify_33 : decode c_K_verify 33 = .ok (.aload_n 0, 1) := by decide +kernel
theorem dK_verify_34 : decode c_K_verify 34 = .ok (.aload 4, 2) := by decide +kernel
theorem dK_verify_36 : decode c_K_verify 36 = .ok (.getfield 217, 3) := by decide +kernel
theorem dK_verify_39 : decode c_K_verify 39 = .ok (.iload_n 2, 1) := by decide +kernel
theorem dK_verify_40 : decode c_K_verify 40 = .ok (.invokevirtual 205, 3) := by decide +kernel
theorem dK_verify_43 : decode c_K_verify 43 = .ok (.ifCond .ne 13, 3) := by decide +kernel
theorem dK_verify_46 : decode c_K_verify 46 = .ok (.new 79, 3) := by decide +kernel
theorem dK_verify_49 : decode c_K_verify 49 = .ok (.dup, 1) := by decide +kernel
theorem dK_verify_50 : decode c_K_verify 50 = .ok (.ldc 209, 2) := by decide +kernel
theorem dK_verify_52 : decode c_K_verify 52 = .ok (.invokespecial 83, 3) := by decide +kernel
theorem dK_verify_55 : decode c_K_verify 55 = .ok (.athrow, 1) := by decide +kernel
theorem dK_verify_56 : decode c_K_verify 56 = .ok (.aload_n 0, 1) := by decide +kernel
theorem dK_verify_57 : decode c_K_verify 57 = .ok (.getfield 61, 3) := by decide +kernel
theorem dK_verify_60 : decode c_K_verify 60 = .ok (.aload 4, 2) := by decide +kernel
theorem dK_verify_62 : decode c_K_verify 62 = .ok (.aload_n 3, 1) := by decide +kernel
theorem dK_verify_63 : decode c_K_verify 63 = .ok (.getfield 171, 3) := by decide +kernel
theorem dK_verify_66 : decode c_K_verify 66 = .ok (.aload_n 0, 1) := by decide +kernel
theorem dK_verify_67 : decode c_K_verify 67 = .ok (.getfield 9, 3) := by decide +kernel
theorem dK_verify_70 : decode c_K_verify 70 = .ok (.aload_n 0, 1) := by decide +kernel
theorem dK_verify_71 : decode c_K_verify 71 = .ok (.getfield 13, 3) := by decide +kernel
theorem dK_verify_74 : decode c_K_verify 74 = .ok (.iload_n 2, 1) := by decide +kernel
theorem dK_verify_75 : decode c_K_verify 75 = .ok (.invokevirtual 222, 3) := by decide +kernel
theorem dK_verify_78 : decode c_K_verify 78 = .ok (.istore 5, 2) := by decide +kernel
theorem dK_verify_80 : decode c_K_verify 80 = .ok (.aload_n 0, 1) := by decide +kernel
theorem dK_verify_81 : decode c_K_verify 81 = .ok (.iconst 0, 1) := by decide +kernel
theorem dK_verify_82 : decode c_K_verify 82 = .ok (.putfield 13, 3) := by decide +kernel
theorem dK_verify_85 : decode c_K_verify 85 = .ok (.iload 5, 2) := by decide +kernel
theorem dK_verify_87 : decode c_K_verify 87 = .ok (.ireturn, 1) := by decide +kernel
def M_K_verify (k : Nat) : Prop := (115 ≤ k ∧ k < 123) ∨ (124 ≤ k ∧ k < 131) ∨ (132 ≤ k ∧ k < 140) ∨ (41 ≤ k ∧ k < 97) ∨ k = 0 ∨ k = 140 ∨ k = 141 ∨ k = 143 ∨ k = 144 ∨ k = 145 ∨ k = 146 ∨ k = 147 ∨ k = 16 ∨ k = 18 ∨ (0 : Nat) = 1
noncomputable def F_K_verify (v : Int32) (v2 : Int32) (s : Sto) : Int32 × Int32 × Sto := bnd (F_K_findDsa v s) fun q21 => if q21.1 = nI 0 then (nI 1, nI 0, q21.2) else if q21.1 = nI 4 then bnd (v.toNatClampNeg) fun z21 => bnd (F_K_holdsContext 2420 v2 q21.2) fun q23 => if (q23.1) = 0 then (nI 2, nI 0, q23.2) else bnd ((q23.2.1 0 1).toNatClampNeg) fun z22 => bnd (F_DA_accepts_0 (379 + 36 * z21 + 10) 1 16384 z22 v2 q23.2) fun q24 => bnd (q24.1) fun z23 => bnd (sI q24.2 0 1 (nI 0)) fun s21 => (nI 0, z23, s21) else if q21.1 = nI 5 then bnd (v.toNatClampNeg) fun z24 => bnd (F_K_holdsContext 3309 v2 q21.2) fun q26 => if (q26.1) = 0 then (nI 2, nI 0, q26.2) else bnd ((q26.2.1 0 1).toNatClampNeg) fun z25 => bnd (F_DA_accepts_1 (379 + 36 * z24 + 13) 1 16384 z25 v2 q26.2) fun q27 => bnd (q27.1) fun z26 => bnd (sI q27.2 0 1 (nI 0)) fun s22 => (nI 0, z26, s22) else if q21.1 = nI 6 then bnd (v.toNatClampNeg) fun z27 => bnd (F_K_holdsContext 4627 v2 q21.2) fun q29 => if (q29.1) = 0 then (nI 2, nI 0, q29.2) else bnd ((q29.2.1 0 1).toNatClampNeg) fun z28 => bnd (F_DA_accepts_2 (379 + 36 * z27 + 16) 1 16384 z28 v2 q29.2) fun q30 => bnd (q30.1) fun z29 => bnd (sI q30.2 0 1 (nI 0)) fun s23 => (nI 0, z29, s23) else if q21.1 = nI 10 then bnd (v.toNatClampNeg) fun z30 => bnd (F_K_holdsContext 2420 v2 q21.2) fun q32 => if (q32.1) = 0 then (nI 2, nI 0, q32.2) else bnd ((q32.2.1 0 1).toNatClampNeg) fun z31 => bnd (F_DA_accepts_0 (379 + 36 * z30 + 28) 1 16384 z31 v2 q32.2) fun q33 => bnd (q33.1) fun z32 => bnd (sI q33.2 0 1 (nI 0)) fun s24 => (nI 0, z32, s24) else if q21.1 = nI 11 then bnd (v.toNatClampNeg) fun z33 => bnd (F_K_holdsContext 3309 v2 q21.2) fun q35 => if (q35.1) = 0 then (nI 2, nI 0, q35.2) else bnd ((q35.2.1 0 1).toNatClampNeg) fun z34 => bnd (F_DA_accepts_1 (379 + 36 * z33 + 31) 1 16384 z34 v2 q35.2) fun q36 => bnd (q36.1) fun z35 => bnd (sI q36.2 0 1 (nI 0)) fun s25 => (nI 0, z35, s25) else if q21.1 = nI 12 then bnd (v.toNatClampNeg) fun z36 => bnd (F_K_holdsContext 4627 v2 q21.2) fun q38 => if (q38.1) = 0 then (nI 2, nI 0, q38.2) else bnd ((q38.2.1 0 1).toNatClampNeg) fun z37 => bnd (F_DA_accepts_2 (379 + 36 * z36 + 34) 1 16384 z37 v2 q38.2) fun q39 => bnd (q39.1) fun z38 => bnd (sI q39.2 0 1 (nI 0)) fun s26 => (nI 0, z38, s26) else (nI 0, nI 0, q21.2)
set_option maxHeartbeats 2000000 in
set_option maxRecDepth 100000 in
theorem N_K_verify (l : Launch) (htr : l.stackTraces = false) (g : Gd) (sz : Nat) (T : TyN) (s : Sto) (pl : va_W) (hO : okn g T s pl) (hU : inj T) (h0 : Nat) (v : Int32) (v2 : Int32) (tl : Nat) (al : Nat) (pn : Nat) (k_h0 : T h0 = some 0) (e_tl : s.1 0 1 = nI tl) (e_al : s.1 0 3 = nI al) (e_pn : s.1 0 5 = nI pn) (h1 : tl ≤ 16384) (h2 : al ≤ 8192) (h3 : pn ≤ 8)  : etMet l y_K_verify w_K_verify ({ frames := 6, cells := 1, slots := 6, locals := 180 } : Room) (va_Pc [.ref h0, .int v, .int v2] (pr (ex g) g.1 vcl sz ([] ++ pl))) (xls ["java/util/NoSuchElementException", "java/lang/IllegalArgumentException"] (F_K_verify v v2 s).1) (va_Qi (fun (r : Int32) (u : (Int32 × Int32 × Sto) × va_W) => (u.1 = F_K_verify v v2 s ∧ r = u.1.2.1 ∧ u.1.1 = nI 0 ∧ frm (M_K_verify) s u.1.2.2 ∧ (∃ x : Nat, u.1.2.2.1 0 1 = nI x ∧ x ≤ 16384) ∧ (∃ x : Nat, u.1.2.2.1 0 3 = nI x ∧ x ≤ 8192) ∧ (∃ x : Nat, u.1.2.2.1 0 5 = nI x ∧ x = pn) ∧ True) ∧ okn g T u.1.2.2 u.2) (po g.1 vcl (va_A ([] ++ pl) sz) (fun (u : (Int32 × Int32 × Sto) × va_W) => [] ++ u.2)) (va_A ([] ++ pl) sz)) (xtP (fun (u : (Int32 × Int32 × Sto) × va_W) => (u.1 = F_K_verify v v2 s ∧ frm (M_K_verify) s u.1.2.2 ∧ (∃ x : Nat, u.1.2.2.1 0 1 = nI x ∧ x ≤ 16384) ∧ (∃ x : Nat, u.1.2.2.1 0 3 = nI x ∧ x ≤ 8192) ∧ (∃ x : Nat, u.1.2.2.1 0 5 = nI x ∧ x = pn) ∧ True) ∧ okn g T u.1.2.2 u.2) (po g.1 vcl (va_A ([] ++ pl) sz) (fun (u : (Int32 × Int32 × Sto) × va_W) => [] ++ u.2)) (va_A ([] ++ pl) sz)) 1 6 (va_A ([] ++ pl) sz) := by
  refine et_entry (cc := c_K_verify) (maxL := 6) (ret := (some .boolean)) (by decide) rfl (Nat.le_of_ble_eq_true rfl) ?_
  intro p e s0 m args below meth c ls F hr hlk htab hsz hP hD hX hA hl
  obtain ⟨hx, hb, hml, hown, hts⟩ := id F
  have hE := hX.1
  have hK := hE.1
  generalize va_A ([] ++ pl) sz = A at hD hX hE hA ⊢
  have hS : va_S A s0.heap s0.heap [] := va_S.rf
  have hl : lv_has ls 6 [(0, .ref h0), (1, .int v), (2, .int v2)] := hl
  have hR : F_K_verify v v2 s = F_K_verify v v2 s := rfl
  have hF : frm (M_K_verify) s s := frm_rf
  refine lv_aload_n hx hb dK_verify_0 rfl (lv_at hl 0 rfl) ?_
  refine lv_iload_n hx hb dK_verify_1 rfl (lv_at hl 1 rfl) ?_
  refine mp_q (cx := []) (wr := []) hP hD hS hA [] [] rfl rfl rfl (by decide) (va_runV (As := [.int v]) (rest := []) F (N_K_findDsa l g _ T s pl hO hU h0 v tl al pn k_h0 e_tl e_al e_pn (by omega)) (cwV 1 hts (wg_app (wg_c kw_1165 (wg_c kw_1167 (wg_c ks_32 (wg_c kw_1 wg_n)))) kw_1168) rfl rfl rfl (by decide +kernel) ⟨by decide, by decide⟩) (pn_W "LatticeKeys" (en_ok g) (ci := 0) (kn := 0) (fl := [(3, 1), (0, 0), (3, 2), (0, 0), (3, 3), (0, 0), (3, 4), (3, 8), (3, 12), (3, 24), (3, 39)]) hK hO k_h0 rfl hP hD hS hA hE [] rfl rfl rfl) rfl rfl hl.1 rfl (lv_room (Nat.le_of_ble_eq_true rfl)) dK_verify_2 ⟨Nat.le_of_ble_eq_true rfl, Nat.le_of_ble_eq_true rfl⟩) (fun r21 u21 H locs hu21 hP hD hS => ?_)
  obtain ⟨q21, pl⟩ := u21
  obtain ⟨⟨eq21, hq21, hFc21, -⟩, hO⟩ := hu21
  have hO : okn g T q21.2 pl := hO
  have hP : va_P g.1 vcl ([] ++ pl) _ := hP
  have hD : va_D _ ([] ++ pl) := hD
  have hFc21 : frm (M_K_findDsa) s q21.2 := hFc21
  replace hR := bnd_step hR eq21
  have hF := frm_tr hF hFc21 (fun k hk => by unfold M_K_findDsa at hk; unfold M_K_verify; omega)
  have hf21 : q21.2.1 0 1 = nI tl := fc_F e_tl hFc21 (by unfold M_K_findDsa; omega)
  have hf22 : q21.2.1 0 3 = nI al := fc_F e_al hFc21 (by unfold M_K_findDsa; omega)
  have hf23 : q21.2.1 0 5 = nI pn := fc_F e_pn hFc21 (by unfold M_K_findDsa; omega)
  refine W.widen (k := 0) (n := 0) (by omega) (by omega) ?_
  by_cases hs21 : q21.1 = nI 0
  · replace hR := hR.trans (if_pos hs21)
    obtain rfl : r21 = none := pfd_none hq21 hs21
    refine lv_astore_nN (lv' := [(3, .null), (0, .ref h0), (1, .int v), (2, .int v2)]) hx hb dK_verify_5 rfl hl (by decide) rfl (fun ls hl => ?_)
    refine lv_aload_nN hx hb dK_verify_6 rfl (lv_at hl 0 rfl) ?_
    refine lv_ifnonnullN hx hb dK_verify_7 ?_
    exact et_throw (own := "LatticeKeys") (cls := "java/util/NoSuchElementException") (text := "no such keys of ML-DSA") (names := ["java/lang/RuntimeException", "java/lang/Exception"]) (ik := 156) (is := 220) (ic := 160) hx hb htr ctr_NSE_0 ctr_NSE_1 ctr_NSE_2 ctr_NSE_5 hown (by decide) (by decide) (hts _ (wg_t kw_1064)) (hts _ (wg_t kw_34)) (hX.2.2.2.2.2.1 18 ("LatticeKeys", 220, "no such keys of ML-DSA") rfl) (hat_NSE hts hX.2) hS.1 (hl.1.trans hml.symm) dK_verify_10 dK_verify_13 dK_verify_14 dK_verify_16 dK_verify_19 htab (Nat.le_of_ble_eq_true rfl) (Nat.le_of_ble_eq_true rfl) (Nat.le_of_ble_eq_true rfl) (Nat.le_of_ble_eq_true rfl) hlk (Nat.le_of_ble_eq_true rfl) (Nat.le_of_ble_eq_true rfl) (xls_at 0 (congrArg Prod.fst hR) (by decide) rfl) hS.2.2 (thr_st hX.2) (fun t hz9 hk9 => ⟨⟨((nI 1, nI 0, q21.2), pl), ⟨⟨hR.symm, hF, ⟨tl, hf21, by omega⟩, ⟨al, hf22, by omega⟩, ⟨pn, hf23, by omega⟩, trivial⟩, hO⟩, lc_P hP hk9, hD⟩, (lc_S hS hz9 hk9).F rfl⟩)
  replace hR := hR.trans (if_neg hs21)
  by_cases hs22 : q21.1 = nI 4
  · replace hR := hR.trans (if_pos hs22)
    obtain ⟨z21, q22, hz21, hv21, rfl, kr21⟩ := pfd_at (c := 3) hq21 (by decide) hs22
    have kr21 : T q22 = some (379 + 36 * z21 + 9) := kr21
    have ez21 : z21 = v.toNatClampNeg := by rw [hv21]; exact (nI_clamp (by omega)).symm
    replace hR := bnd_step hR ez21
    refine lv_astore_n (lv' := [(3, .ref q22), (0, .ref h0), (1, .int v), (2, .int v2)]) hx hb dK_verify_5 rfl hl (by decide) rfl (fun ls hl => ?_)
    refine lv_aload_n hx hb dK_verify_6 rfl (lv_at hl 0 rfl) ?_
    refine lv_ifnonnull (tgt := 20) hx hb dK_verify_7 (by decide) ?_
    refine lv_aload_n hx hb dK_verify_20 rfl (lv_at hl 1 rfl) ?_
    refine nw_get (C := "LatticeKeys") (TT := T_K) (N := 11) hx hb hts (wg_ft i_K) hown hK hO k_h0 (kn := 0) (ci := 0) (fl := [(3, 1), (0, 0), (3, 2), (0, 0), (3, 3), (0, 0), (3, 4), (3, 8), (3, 12), (3, 24), (3, 39)]) rfl hP rfl 7 (by decide) (hts _ (wg_t kw_381)) (fun _ h9 => h9) (cd := (3, 8)) rfl dK_verify_21 (fun v21 hv22 => ?_)
    obtain ⟨r22, rfl, kr22⟩ := (show ∃ r : Nat, v21 = .ref r ∧ T r = some 8 from hv22)
    refine lv_aload_n hx hb dK_verify_24 rfl (lv_at hl 0 rfl) ?_
    refine nw_get (C := "LatticeKeys$KeyPair") (TT := T_KP) (N := 3) hx hb hts (wg_ft i_KP) hown hK hO kr21 (kn := (379 + 36 * z21 + 9)) (ci := 13) (fl := [(1, 3), (3, (379 + 36 * z21 + 10)), (3, (379 + 36 * z21 + 11))]) (pr_o3 (z := z21) (by omega)) hP rfl 0 (by decide) (hts _ (wg_t kw_746)) (fun _ h9 => h9) (cd := (1, 3)) rfl dK_verify_25 (fun v22 hv23 => ?_)
    obtain rfl := (show v22 = .int (nI 3) from hv23)
    refine lv_iconst (v := nI 3) hx hb dK_verify_28 (by decide) ?_
    refine mi_isub hx hb dK_verify_29 (by omega) ?_
    refine mi_as (show nI (3 - 3) = nI 0 from rfl) ?_
    refine nw_aald7 hx hb hK hO kr22 (k := 8) (b := 9) rfl hP (by omega) (by omega) dK_verify_30 (fun r23 kr23 => ?_)
    refine lv_astore (lv' := [(4, .ref r23), (3, .ref q22), (0, .ref h0), (1, .int v), (2, .int v2)]) hx hb dK_verify_31 hl (by decide) rfl (fun ls hl => ?_)
    refine lv_aload_n hx hb dK_verify_33 rfl (lv_at hl 2 rfl) ?_
    refine lv_aload hx hb dK_verify_34 (lv_at hl 0 rfl) ?_
    refine nw_get (C := "LatticeKeys$DsaSet") (TT := T_DS) (N := 17) hx hb hts (wg_ft i_DS) hown hK hO kr23 (kn := 9) (ci := 2) (fl := [(1, 4), (1, 4), (1, 2), (1, 3), (1, 39), (1, 32), (1, 18), (1, 131072), (1, 44), (1, 6), (1, 95232), (1, 80), (1, 78), (1, 1312), (1, 2560), (1, 2336), (1, 2420)]) rfl hP rfl 16 (by decide) (hts _ (wg_t kw_337)) (fun _ h9 => h9) (cd := (1, 2420)) rfl dK_verify_36 (fun v23 hv24 => ?_)
    obtain rfl := (show v23 = .int (nI 2420) from hv24)
    refine lv_iload_n hx hb dK_verify_39 rfl (lv_at hl 4 rfl) ?_
    refine mp_i (cx := []) (wr := []) hP hD hS hA [] [] rfl rfl rfl (by decide) (va_runV (As := [.int (nI 2420), .int v2]) (rest := []) F (N_K_holdsContext l g _ T q21.2 pl hO hU h0 2420 v2 tl al pn k_h0 hf21 hf22 hf23 (by omega) (by omega) (by omega) (by omega)) (cwV 2 hts (wg_app (wg_c kw_1170 (wg_c kw_1172 (wg_c ks_33 (wg_c kw_1 wg_n)))) kw_1173) rfl rfl rfl (by decide +kernel) ⟨by decide, by decide⟩) (pn_W "LatticeKeys" (en_ok g) (ci := 0) (kn := 0) (fl := [(3, 1), (0, 0), (3, 2), (0, 0), (3, 3), (0, 0), (3, 4), (3, 8), (3, 12), (3, 24), (3, 39)]) hK hO k_h0 rfl hP hD hS hA hE [] rfl rfl rfl) rfl rfl hl.1 rfl (lv_room (Nat.le_of_ble_eq_true rfl)) dK_verify_40 ⟨Nat.le_of_ble_eq_true rfl, Nat.le_of_ble_eq_true rfl⟩) (fun r24 u22 H locs hu22 hP hD hS => ?_)
    obtain ⟨q23, pl⟩ := u22
    obtain ⟨⟨eq22, rfl, hFc22, hxp22, -⟩, hO⟩ := hu22
    have hO : okn g T q23.2 pl := hO
    have hP : va_P g.1 vcl ([] ++ pl) _ := hP
    have hD : va_D _ ([] ++ pl) := hD
    have hFc22 : frm (M_K_holdsContext) q21.2 q23.2 := hFc22
    replace hR := bnd_step hR eq22
    have hF := frm_tr hF hFc22 (fun k hk => by unfold M_K_holdsContext at hk; unfold M_K_verify; omega)
    have hf24 : q23.2.1 0 1 = nI tl := fc_F hf21 hFc22 (by unfold M_K_holdsContext; omega)
    have hf25 : q23.2.1 0 3 = nI al := fc_F hf22 hFc22 (by unfold M_K_holdsContext; omega)
    have hf26 : q23.2.1 0 5 = nI pn := fc_F hf23 hFc22 (by unfold M_K_holdsContext; omega)
    refine W.widen (k := 0) (n := 0) (by omega) (by omega) ?_
    refine lv_if_ne (tgt := 56) hx hb dK_verify_43 (by decide) (fun h21 => ?_) (fun h21 => ?_)
    · replace hR := hR.trans (if_neg h21)
      have hh9 := hxp22.resolve_left (fun h9 => h21 (h9.trans (by decide)))
      refine lv_aload_n hx hb dK_verify_56 rfl (lv_at hl 2 rfl) ?_
      refine nw_get (C := "LatticeKeys") (TT := T_K) (N := 11) hx hb hts (wg_ft i_K) hown hK hO k_h0 (kn := 0) (ci := 0) (fl := [(3, 1), (0, 0), (3, 2), (0, 0), (3, 3), (0, 0), (3, 4), (3, 8), (3, 12), (3, 24), (3, 39)]) rfl hP rfl 10 (by decide) (hts _ (wg_t kw_384)) (fun _ h9 => h9) (cd := (3, 39)) rfl dK_verify_57 (fun v24 hv25 => ?_)
      obtain ⟨r25, rfl, kr24⟩ := (show ∃ r : Nat, v24 = .ref r ∧ T r = some 39 from hv25)
      refine lv_aload hx hb dK_verify_60 (lv_at hl 0 rfl) ?_
      refine lv_aload_n hx hb dK_verify_62 rfl (lv_at hl 1 rfl) ?_
      refine nw_get (C := "LatticeKeys$KeyPair") (TT := T_KP) (N := 3) hx hb hts (wg_ft i_KP) hown hK hO kr21 (kn := (379 + 36 * z21 + 9)) (ci := 13) (fl := [(1, 3), (3, (379 + 36 * z21 + 10)), (3, (379 + 36 * z21 + 11))]) (pr_o3 (z := z21) (by omega)) hP rfl 1 (by decide) (hts _ (wg_t kw_749)) (fun _ h9 => h9) (cd := (3, (379 + 36 * z21 + 10))) rfl dK_verify_63 (fun v25 hv26 => ?_)
      obtain ⟨r26, rfl, kr25⟩ := (show ∃ r : Nat, v25 = .ref r ∧ T r = some (379 + 36 * z21 + 10) from hv26)
      refine lv_aload_n hx hb dK_verify_66 rfl (lv_at hl 2 rfl) ?_
      refine nw_get (C := "LatticeKeys") (TT := T_K) (N := 11) hx hb hts (wg_ft i_K) hown hK hO k_h0 (kn := 0) (ci := 0) (fl := [(3, 1), (0, 0), (3, 2), (0, 0), (3, 3), (0, 0), (3, 4), (3, 8), (3, 12), (3, 24), (3, 39)]) rfl hP rfl 0 (by decide) (hts _ (wg_t kw_374)) (fun _ h9 => h9) (cd := (3, 1)) rfl dK_verify_67 (fun v26 hv27 => ?_)
      obtain ⟨r27, rfl, kr26⟩ := (show ∃ r : Nat, v26 = .ref r ∧ T r = some 1 from hv27)
      refine lv_aload_n hx hb dK_verify_70 rfl (lv_at hl 2 rfl) ?_
      refine nw_get (C := "LatticeKeys") (TT := T_K) (N := 11) hx hb hts (wg_ft i_K) hown hK hO k_h0 (kn := 0) (ci := 0) (fl := [(3, 1), (0, 0), (3, 2), (0, 0), (3, 3), (0, 0), (3, 4), (3, 8), (3, 12), (3, 24), (3, 39)]) rfl hP rfl 1 (by decide) (hts _ (wg_t kw_375)) (fun _ h9 => h9) (cd := (0, 0)) rfl dK_verify_71 (fun v27 hv28 => ?_)
      obtain rfl := (show v27 = .int (q23.2.1 0 1) from hv28)
      obtain ⟨z22, ez22, hz22, hz23⟩ := cl_of (b := 2147483648) hf24 (by omega) (by decide)
      replace hR := bnd_step hR ez22
      refine mi_as hz22 ?_
      refine lv_iload_n hx hb dK_verify_74 rfl (lv_at hl 4 rfl) ?_
      refine mp_i (cx := []) (wr := []) hP hD hS hA [] [] rfl rfl rfl (by decide) (va_runV (As := [.ref r23, .ref r26, .ref r27, .int (nI z22), .int v2]) (rest := []) F (N_DA_accepts_0 l g _ T q23.2 pl hO hU r25 r23 r26 r27 (379 + 36 * z21 + 10) 1 16384 z22 v2 kr24 kr23 kr25 (pr_p3 (z := z21) (by omega)) kr26 rfl (by omega) (by omega) (by omega)) (cwV 5 hts (wg_app (wg_c kw_1261 (wg_c kw_1262 (wg_c kw_1263 (wg_c kw_5 wg_n)))) kw_1264) rfl rfl rfl (by decide +kernel) ⟨by decide, by decide⟩) (pn_W "LatticeKeys$Dsa" (en_ok g) (ci := 6) (kn := 39) (fl := [(3, 16), (3, 22), (3, 37), (3, 40), (3, 97), (3, 105), (3, 114), (3, 123), (3, 131), (3, 140), (3, 141), (3, 142), (3, 143), (3, 144), (3, 145), (3, 146), (3, 147)]) hK hO kr24 rfl hP hD hS hA hE [] rfl rfl rfl) rfl rfl hl.1 rfl (lv_room (Nat.le_of_ble_eq_true rfl)) dK_verify_75 ⟨Nat.le_of_ble_eq_true rfl, Nat.le_of_ble_eq_true rfl⟩) (fun r28 u23 H locs hu23 hP hD hS => ?_)
      obtain ⟨q24, pl⟩ := u23
      obtain ⟨⟨eq23, rfl, hFc23, -⟩, hO⟩ := hu23
      have hO : okn g T q24.2 pl := hO
      have hP : va_P g.1 vcl ([] ++ pl) _ := hP
      have hD : va_D _ ([] ++ pl) := hD
      have hFc23 : frm (M_DA_accepts_0) q23.2 q24.2 := hFc23
      replace hR := bnd_step hR eq23
      have hF := frm_tr hF hFc23 (fun k hk => by unfold M_DA_accepts_0 at hk; unfold M_K_verify; omega)
      have hf27 : q24.2.1 0 1 = nI tl := fc_F hf24 hFc23 (by unfold M_DA_accepts_0; omega)
      have hf28 : q24.2.1 0 3 = nI al := fc_F hf25 hFc23 (by unfold M_DA_accepts_0; omega)
      have hf29 : q24.2.1 0 5 = nI pn := fc_F hf26 hFc23 (by unfold M_DA_accepts_0; omega)
      have hbl21 : zo q24.1 := by rw [show q24 = _ from eq23]; exact ac0_bl
      refine W.widen (k := 0) (n := 0) (by omega) (by omega) ?_
      refine mi_eqv (fun z23 ez23 => ?_)
      replace hR := bnd_step hR ez23
      refine lv_istore (lv' := [(5, .int z23), (4, .ref r23), (3, .ref q22), (0, .ref h0), (1, .int v), (2, .int v2)]) hx hb dK_verify_78 hl (by decide) rfl (fun ls hl => ?_)
      refine lv_aload_n hx hb dK_verify_80 rfl (lv_at hl 3 rfl) ?_
      refine lv_iconst (v := nI 0) hx hb dK_verify_81 (by decide) ?_
      refine nw_put (C := "LatticeKeys") (TT := T_K) (N := 11) hx hb hts (wg_ft i_K) ty_K k_K n_K hown hK hO hU k_h0 (kn := 0) (ci := 0) (fl := [(3, 1), (0, 0), (3, 2), (0, 0), (3, 3), (0, 0), (3, 4), (3, 8), (3, 12), (3, 24), (3, 39)]) rfl hP hD hS rfl 1 (by decide) (hts _ (wg_t kw_375)) (fun _ h9 => h9) rfl (by decide +kernel) rfl dK_verify_82 (fun s21 pl H locs es21 hO hP hD hS => ?_)
      replace hR := bnd_step hR es21
      have hF := frm_sI hF es21 (by unfold M_K_verify; omega)
      have hf31 : s21.1 0 3 = nI al := fc_ne hf28 es21 (by omega)
      have hf32 : s21.1 0 5 = nI pn := fc_ne hf29 es21 (by omega)
      have hf33 : s21.1 0 1 = nI 0 := fc_eq es21
      refine lv_iload hx hb dK_verify_85 (lv_at hl 0 rfl) ?_
      refine et_ret ?_
      exact mp_zret hx hb hr hlk (nar_zo (by rw [ez23]; exact hbl21)) hP hD hS ((nI 0, z23, s21), pl) ⟨⟨hR.symm, rfl, rfl, hF, ⟨0, hf33, by omega⟩, ⟨al, hf31, by omega⟩, ⟨pn, hf32, by omega⟩, trivial⟩, hO⟩ [] rfl rfl rfl (by omega) (by omega) dK_verify_87
    · replace hR := hR.trans (if_pos h21)
      exact et_throw (own := "LatticeKeys") (cls := "java/lang/IllegalArgumentException") (text := "a context of another length, or a short tape") (names := ["java/lang/RuntimeException", "java/lang/Exception"]) (ik := 79) (is := 209) (ic := 83) hx hb htr ctr_IAE_0 ctr_IAE_1 ctr_IAE_2 ctr_IAE_5 hown (by decide) (by decide) (hts _ (wg_t kw_501)) (hts _ (wg_t kw_18)) (hX.2.2.2.2.2.1 16 ("LatticeKeys", 209, "a context of another length, or a short tape") rfl) (hat_IAE hts hX.2) hS.1 (hl.1.trans hml.symm) dK_verify_46 dK_verify_49 dK_verify_50 dK_verify_52 dK_verify_55 htab (Nat.le_of_ble_eq_true rfl) (Nat.le_of_ble_eq_true rfl) (Nat.le_of_ble_eq_true rfl) (Nat.le_of_ble_eq_true rfl) hlk (Nat.le_of_ble_eq_true rfl) (Nat.le_of_ble_eq_true rfl) (xls_at 1 (congrArg Prod.fst hR) (by decide) rfl) hS.2.2 (thr_st hX.2) (fun t hz9 hk9 => ⟨⟨((nI 2, nI 0, q23.2), pl), ⟨⟨hR.symm, hF, ⟨tl, hf24, by omega⟩, ⟨al, hf25, by omega⟩, ⟨pn, hf26, by omega⟩, trivial⟩, hO⟩, lc_P hP hk9, hD⟩, (lc_S hS hz9 hk9).F rfl⟩)
  replace hR := hR.trans (if_neg hs22)
  by_cases hs23 : q21.1 = nI 5
  · replace hR := hR.trans (if_pos hs23)
    obtain ⟨z24, q25, hz24, hv29, rfl, kr27⟩ := pfd_at (c := 4) hq21 (by decide) hs23
    have kr27 : T q25 = some (379 + 36 * z24 + 12) := kr27
    have ez24 : z24 = v.toNatClampNeg := by rw [hv29]; exact (nI_clamp (by omega)).symm
    replace hR := bnd_step hR ez24
    refine lv_astore_n (lv' := [(3, .ref q25), (0, .ref h0), (1, .int v), (2, .int v2)]) hx hb dK_verify_5 rfl hl (by decide) rfl (fun ls hl => ?_)
    refine lv_aload_n hx hb dK_verify_6 rfl (lv_at hl 0 rfl) ?_
    refine lv_ifnonnull (tgt := 20) hx hb dK_verify_7 (by decide) ?_
    refine lv_aload_n hx hb dK_verify_20 rfl (lv_at hl 1 rfl) ?_
    refine nw_get (C := "LatticeKeys") (TT := T_K) (N := 11) hx hb hts (wg_ft i_K) hown hK hO k_h0 (kn := 0) (ci := 0) (fl := [(3, 1), (0, 0), (3, 2), (0, 0), (3, 3), (0, 0), (3, 4), (3, 8), (3, 12), (3, 24), (3, 39)]) rfl hP rfl 7 (by decide) (hts _ (wg_t kw_381)) (fun _ h9 => h9) (cd := (3, 8)) rfl dK_verify_21 (fun v28 hv30 => ?_)
    obtain ⟨r29, rfl, kr28⟩ := (show ∃ r : Nat, v28 = .ref r ∧ T r = some 8 from hv30)
    refine lv_aload_n hx hb dK_verify_24 rfl (lv_at hl 0 rfl) ?_
    refine nw_get (C := "LatticeKeys$KeyPair") (TT := T_KP) (N := 3) hx hb hts (wg_ft i_KP) hown hK hO kr27 (kn := (379 + 36 * z24 + 12)) (ci := 13) (fl := [(1, 4), (3, (379 + 36 * z24 + 13)), (3, (379 + 36 * z24 + 14))]) (pr_o4 (z := z24) (by omega)) hP rfl 0 (by decide) (hts _ (wg_t kw_746)) (fun _ h9 => h9) (cd := (1, 4)) rfl dK_verify_25 (fun v29 hv31 => ?_)
    obtain rfl := (show v29 = .int (nI 4) from hv31)
    refine lv_iconst (v := nI 3) hx hb dK_verify_28 (by decide) ?_
    refine mi_isub hx hb dK_verify_29 (by omega) ?_
    refine mi_as (show nI (4 - 3) = nI 1 from rfl) ?_
    refine nw_aald7 hx hb hK hO kr28 (k := 8) (b := 9) rfl hP (by omega) (by omega) dK_verify_30 (fun r30 kr29 => ?_)
    refine lv_astore (lv' := [(4, .ref r30), (3, .ref q25), (0, .ref h0), (1, .int v), (2, .int v2)]) hx hb dK_verify_31 hl (by decide) rfl (fun ls hl => ?_)
    refine lv_aload_n hx hb dK_verify_33 rfl (lv_at hl 2 rfl) ?_
    refine lv_aload hx hb dK_verify_34 (lv_at hl 0 rfl) ?_
    refine nw_get (C := "LatticeKeys$DsaSet") (TT := T_DS) (N := 17) hx hb hts (wg_ft i_DS) hown hK hO kr29 (kn := 10) (ci := 2) (fl := [(1, 6), (1, 5), (1, 4), (1, 4), (1, 49), (1, 48), (1, 20), (1, 524288), (1, 16), (1, 4), (1, 261888), (1, 55), (1, 196), (1, 1952), (1, 4032), (1, 3248), (1, 3309)]) rfl hP rfl 16 (by decide) (hts _ (wg_t kw_337)) (fun _ h9 => h9) (cd := (1, 3309)) rfl dK_verify_36 (fun v30 hv32 => ?_)
    obtain rfl := (show v30 = .int (nI 3309) from hv32)
    refine lv_iload_n hx hb dK_verify_39 rfl (lv_at hl 4 rfl) ?_
    refine mp_i (cx := []) (wr := []) hP hD hS hA [] [] rfl rfl rfl (by decide) (va_runV (As := [.int (nI 3309), .int v2]) (rest := []) F (N_K_holdsContext l g _ T q21.2 pl hO hU h0 3309 v2 tl al pn k_h0 hf21 hf22 hf23 (by omega) (by omega) (by omega) (by omega)) (cwV 2 hts (wg_app (wg_c kw_1170 (wg_c kw_1172 (wg_c ks_33 (wg_c kw_1 wg_n)))) kw_1173) rfl rfl rfl (by decide +kernel) ⟨by decide, by decide⟩) (pn_W "LatticeKeys" (en_ok g) (ci := 0) (kn := 0) (fl := [(3, 1), (0, 0), (3, 2), (0, 0), (3, 3), (0, 0), (3, 4), (3, 8), (3, 12), (3, 24), (3, 39)]) hK hO k_h0 rfl hP hD hS hA hE [] rfl rfl rfl) rfl rfl hl.1 rfl (lv_room (Nat.le_of_ble_eq_true rfl)) dK_verify_40 ⟨Nat.le_of_ble_eq_true rfl, Nat.le_of_ble_eq_true rfl⟩) (fun r31 u24 H locs hu24 hP hD hS => ?_)
    obtain ⟨q26, pl⟩ := u24
    obtain ⟨⟨eq24, rfl, hFc24, hxp24, -⟩, hO⟩ := hu24
    have hO : okn g T q26.2 pl := hO
    have hP : va_P g.1 vcl ([] ++ pl) _ := hP
    have hD : va_D _ ([] ++ pl) := hD
    have hFc24 : frm (M_K_holdsContext) q21.2 q26.2 := hFc24
    replace hR := bnd_step hR eq24
    have hF := frm_tr hF hFc24 (fun k hk => by unfold M_K_holdsContext at hk; unfold M_K_verify; omega)
    have hf34 : q26.2.1 0 1 = nI tl := fc_F hf21 hFc24 (by unfold M_K_holdsContext; omega)
    have hf35 : q26.2.1 0 3 = nI al := fc_F hf22 hFc24 (by unfold M_K_holdsContext; omega)
    have hf36 : q26.2.1 0 5 = nI pn := fc_F hf23 hFc24 (by unfold M_K_holdsContext; omega)
    refine W.widen (k := 0) (n := 0) (by omega) (by omega) ?_
    refine lv_if_ne (tgt := 56) hx hb dK_verify_43 (by decide) (fun h22 => ?_) (fun h22 => ?_)
    · replace hR := hR.trans (if_neg h22)
      have hh9 := hxp24.resolve_left (fun h9 => h22 (h9.trans (by decide)))
      refine lv_aload_n hx hb dK_verify_56 rfl (lv_at hl 2 rfl) ?_
      refine nw_get (C := "LatticeKeys") (TT := T_K) (N := 11) hx hb hts (wg_ft i_K) hown hK hO k_h0 (kn := 0) (ci := 0) (fl := [(3, 1), (0, 0), (3, 2), (0, 0), (3, 3), (0, 0), (3, 4), (3, 8), (3, 12), (3, 24), (3, 39)]) rfl hP rfl 10 (by decide) (hts _ (wg_t kw_384)) (fun _ h9 => h9) (cd := (3, 39)) rfl dK_verify_57 (fun v31 hv33 => ?_)
      obtain ⟨r32, rfl, kr30⟩ := (show ∃ r : Nat, v31 = .ref r ∧ T r = some 39 from hv33)
      refine lv_aload hx hb dK_verify_60 (lv_at hl 0 rfl) ?_
      refine lv_aload_n hx hb dK_verify_62 rfl (lv_at hl 1 rfl) ?_
      refine nw_get (C := "LatticeKeys$KeyPair") (TT := T_KP) (N := 3) hx hb hts (wg_ft i_KP) hown hK hO kr27 (kn := (379 + 36 * z24 + 12)) (ci := 13) (fl := [(1, 4), (3, (379 + 36 * z24 + 13)), (3, (379 + 36 * z24 + 14))]) (pr_o4 (z := z24) (by omega)) hP rfl 1 (by decide) (hts _ (wg_t kw_749)) (fun _ h9 => h9) (cd := (3, (379 + 36 * z24 + 13))) rfl dK_verify_63 (fun v32 hv34 => ?_)
      obtain ⟨r33, rfl, kr31⟩ := (show ∃ r : Nat, v32 = .ref r ∧ T r = some (379 + 36 * z24 + 13) from hv34)
      refine lv_aload_n hx hb dK_verify_66 rfl (lv_at hl 2 rfl) ?_
      refine nw_get (C := "LatticeKeys") (TT := T_K) (N := 11) hx hb hts (wg_ft i_K) hown hK hO k_h0 (kn := 0) (ci := 0) (fl := [(3, 1), (0, 0), (3, 2), (0, 0), (3, 3), (0, 0), (3, 4), (3, 8), (3, 12), (3, 24), (3, 39)]) rfl hP rfl 0 (by decide) (hts _ (wg_t kw_374)) (fun _ h9 => h9) (cd := (3, 1)) rfl dK_verify_67 (fun v33 hv35 => ?_)
      obtain ⟨r34, rfl, kr32⟩ := (show ∃ r : Nat, v33 = .ref r ∧ T r = some 1 from hv35)
      refine lv_aload_n hx hb dK_verify_70 rfl (lv_at hl 2 rfl) ?_
      refine nw_get (C := "LatticeKeys") (TT := T_K) (N := 11) hx hb hts (wg_ft i_K) hown hK hO k_h0 (kn := 0) (ci := 0) (fl := [(3, 1), (0, 0), (3, 2), (0, 0), (3, 3), (0, 0), (3, 4), (3, 8), (3, 12), (3, 24), (3, 39)]) rfl hP rfl 1 (by decide) (hts _ (wg_t kw_375)) (fun _ h9 => h9) (cd := (0, 0)) rfl dK_verify_71 (fun v34 hv36 => ?_)
      obtain rfl := (show v34 = .int (q26.2.1 0 1) from hv36)
      obtain ⟨z25, ez25, hz25, hz26⟩ := cl_of (b := 2147483648) hf34 (by omega) (by decide)
      replace hR := bnd_step hR ez25
      refine mi_as hz25 ?_
      refine lv_iload_n hx hb dK_verify_74 rfl (lv_at hl 4 rfl) ?_
      refine mp_i (cx := []) (wr := []) hP hD hS hA [] [] rfl rfl rfl (by decide) (va_runV (As := [.ref r30, .ref r33, .ref r34, .int (nI z25), .int v2]) (rest := []) F (N_DA_accepts_1 l g _ T q26.2 pl hO hU r32 r30 r33 r34 (379 + 36 * z24 + 13) 1 16384 z25 v2 kr30 kr29 kr31 (pr_p4 (z := z24) (by omega)) kr32 rfl (by omega) (by omega) (by omega)) (cwV 5 hts (wg_app (wg_c kw_1261 (wg_c kw_1262 (wg_c kw_1263 (wg_c kw_5 wg_n)))) kw_1264) rfl rfl rfl (by decide +kernel) ⟨by decide, by decide⟩) (pn_W "LatticeKeys$Dsa" (en_ok g) (ci := 6) (kn := 39) (fl := [(3, 16), (3, 22), (3, 37), (3, 40), (3, 97), (3, 105), (3, 114), (3, 123), (3, 131), (3, 140), (3, 141), (3, 142), (3, 143), (3, 144), (3, 145), (3, 146), (3, 147)]) hK hO kr30 rfl hP hD hS hA hE [] rfl rfl rfl) rfl rfl hl.1 rfl (lv_room (Nat.le_of_ble_eq_true rfl)) dK_verify_75 ⟨Nat.le_of_ble_eq_true rfl, Nat.le_of_ble_eq_true rfl⟩) (fun r35 u25 H locs hu25 hP hD hS => ?_)
      obtain ⟨q27, pl⟩ := u25
      obtain ⟨⟨eq25, rfl, hFc25, -⟩, hO⟩ := hu25
      have hO : okn g T q27.2 pl := hO
      have hP : va_P g.1 vcl ([] ++ pl) _ := hP
      have hD : va_D _ ([] ++ pl) := hD
      have hFc25 : frm (M_DA_accepts_1) q26.2 q27.2 := hFc25
      replace hR := bnd_step hR eq25
      have hF := frm_tr hF hFc25 (fun k hk => by unfold M_DA_accepts_1 at hk; unfold M_K_verify; omega)
      have hf37 : q27.2.1 0 1 = nI tl := fc_F hf34 hFc25 (by unfold M_DA_accepts_1; omega)
      have hf38 : q27.2.1 0 3 = nI al := fc_F hf35 hFc25 (by unfold M_DA_accepts_1; omega)
      have hf39 : q27.2.1 0 5 = nI pn := fc_F hf36 hFc25 (by unfold M_DA_accepts_1; omega)
      have hbl22 : zo q27.1 := by rw [show q27 = _ from eq25]; exact ac1_bl
      refine W.widen (k := 0) (n := 0) (by omega) (by omega) ?_
      refine mi_eqv (fun z26 ez26 => ?_)
      replace hR := bnd_step hR ez26
      refine lv_istore (lv' := [(5, .int z26), (4, .ref r30), (3, .ref q25), (0, .ref h0), (1, .int v), (2, .int v2)]) hx hb dK_verify_78 hl (by decide) rfl (fun ls hl => ?_)
      refine lv_aload_n hx hb dK_verify_80 rfl (lv_at hl 3 rfl) ?_
      refine lv_iconst (v := nI 0) hx hb dK_verify_81 (by decide) ?_
      refine nw_put (C := "LatticeKeys") (TT := T_K) (N := 11) hx hb hts (wg_ft i_K) ty_K k_K n_K hown hK hO hU k_h0 (kn := 0) (ci := 0) (fl := [(3, 1), (0, 0), (3, 2), (0, 0), (3, 3), (0, 0), (3, 4), (3, 8), (3, 12), (3, 24), (3, 39)]) rfl hP hD hS rfl 1 (by decide) (hts _ (wg_t kw_375)) (fun _ h9 => h9) rfl (by decide +kernel) rfl dK_verify_82 (fun s22 pl H locs es22 hO hP hD hS => ?_)
      replace hR := bnd_step hR es22
      have hF := frm_sI hF es22 (by unfold M_K_verify; omega)
      have hf41 : s22.1 0 3 = nI al := fc_ne hf38 es22 (by omega)
      have hf42 : s22.1 0 5 = nI pn := fc_ne hf39 es22 (by omega)
      have hf43 : s22.1 0 1 = nI 0 := fc_eq es22
      refine lv_iload hx hb dK_verify_85 (lv_at hl 0 rfl) ?_
      refine et_ret ?_
      exact mp_zret hx hb hr hlk (nar_zo (by rw [ez26]; exact hbl22)) hP hD hS ((nI 0, z26, s22), pl) ⟨⟨hR.symm, rfl, rfl, hF, ⟨0, hf43, by omega⟩, ⟨al, hf41, by omega⟩, ⟨pn, hf42, by omega⟩, trivial⟩, hO⟩ [] rfl rfl rfl (by omega) (by omega) dK_verify_87
    · replace hR := hR.trans (if_pos h22)
      exact et_throw (own := "LatticeKeys") (cls := "java/lang/IllegalArgumentException") (text := "a context of another length, or a short tape") (names := ["java/lang/RuntimeException", "java/lang/Exception"]) (ik := 79) (is := 209) (ic := 83) hx hb htr ctr_IAE_0 ctr_IAE_1 ctr_IAE_2 ctr_IAE_5 hown (by decide) (by decide) (hts _ (wg_t kw_501)) (hts _ (wg_t kw_18)) (hX.2.2.2.2.2.1 16 ("LatticeKeys", 209, "a context of another length, or a short tape") rfl) (hat_IAE hts hX.2) hS.1 (hl.1.trans hml.symm) dK_verify_46 dK_verify_49 dK_verify_50 dK_verify_52 dK_verify_55 htab (Nat.le_of_ble_eq_true rfl) (Nat.le_of_ble_eq_true rfl) (Nat.le_of_ble_eq_true rfl) (Nat.le_of_ble_eq_true rfl) hlk (Nat.le_of_ble_eq_true rfl) (Nat.le_of_ble_eq_true rfl) (xls_at 1 (congrArg Prod.fst hR) (by decide) rfl) hS.2.2 (thr_st hX.2) (fun t hz9 hk9 => ⟨⟨((nI 2, nI 0, q26.2), pl), ⟨⟨hR.symm, hF, ⟨tl, hf34, by omega⟩, ⟨al, hf35, by omega⟩, ⟨pn, hf36, by omega⟩, trivial⟩, hO⟩, lc_P hP hk9, hD⟩, (lc_S hS hz9 hk9).F rfl⟩)
  replace hR := hR.trans (if_neg hs23)
  by_cases hs24 : q21.1 = nI 6
  · replace hR := hR.trans (if_pos hs24)
    obtain ⟨z27, q28, hz27, hv37, rfl, kr33⟩ := pfd_at (c := 5) hq21 (by decide) hs24
    have kr33 : T q28 = some (379 + 36 * z27 + 15) := kr33
    have ez27 : z27 = v.toNatClampNeg := by rw [hv37]; exact (nI_clamp (by omega)).symm
    replace hR := bnd_step hR ez27
    refine lv_astore_n (lv' := [(3, .ref q28), (0, .ref h0), (1, .int v), (2, .int v2)]) hx hb dK_verify_5 rfl hl (by decide) rfl (fun ls hl => ?_)
    refine lv_aload_n hx hb dK_verify_6 rfl (lv_at hl 0 rfl) ?_
    refine lv_ifnonnull (tgt := 20) hx hb dK_verify_7 (by decide) ?_
    refine lv_aload_n hx hb dK_verify_20 rfl (lv_at hl 1 rfl) ?_
    refine nw_get (C := "LatticeKeys") (TT := T_K) (N := 11) hx hb hts (wg_ft i_K) hown hK hO k_h0 (kn := 0) (ci := 0) (fl := [(3, 1), (0, 0), (3, 2), (0, 0), (3, 3), (0, 0), (3, 4), (3, 8), (3, 12), (3, 24), (3, 39)]) rfl hP rfl 7 (by decide) (hts _ (wg_t kw_381)) (fun _ h9 => h9) (cd := (3, 8)) rfl dK_verify_21 (fun v35 hv38 => ?_)
    obtain ⟨r36, rfl, kr34⟩ := (show ∃ r : Nat, v35 = .ref r ∧ T r = some 8 from hv38)
    refine lv_aload_n hx hb dK_verify_24 rfl (lv_at hl 0 rfl) ?_
    refine nw_get (C := "LatticeKeys$KeyPair") (TT := T_KP) (N := 3) hx hb hts (wg_ft i_KP) hown hK hO kr33 (kn := (379 + 36 * z27 + 15)) (ci := 13) (fl := [(1, 5), (3, (379 + 36 * z27 + 16)), (3, (379 + 36 * z27 + 17))]) (pr_o5 (z := z27) (by omega)) hP rfl 0 (by decide) (hts _ (wg_t kw_746)) (fun _ h9 => h9) (cd := (1, 5)) rfl dK_verify_25 (fun v36 hv39 => ?_)
    obtain rfl := (show v36 = .int (nI 5) from hv39)
    refine lv_iconst (v := nI 3) hx hb dK_verify_28 (by decide) ?_
    refine mi_isub hx hb dK_verify_29 (by omega) ?_
    refine mi_as (show nI (5 - 3) = nI 2 from rfl) ?_
    refine nw_aald7 hx hb hK hO kr34 (k := 8) (b := 9) rfl hP (by omega) (by omega) dK_verify_30 (fun r37 kr35 => ?_)
    refine lv_astore (lv' := [(4, .ref r37), (3, .ref q28), (0, .ref h0), (1, .int v), (2, .int v2)]) hx hb dK_verify_31 hl (by decide) rfl (fun ls hl => ?_)
    refine lv_aload_n hx hb dK_verify_33 rfl (lv_at hl 2 rfl) ?_
    refine lv_aload hx hb dK_verify_34 (lv_at hl 0 rfl) ?_
    refine nw_get (C := "LatticeKeys$DsaSet") (TT := T_DS) (N := 17) hx hb hts (wg_ft i_DS) hown hK hO kr35 (kn := 11) (ci := 2) (fl := [(1, 8), (1, 7), (1, 2), (1, 3), (1, 60), (1, 64), (1, 20), (1, 524288), (1, 16), (1, 4), (1, 261888), (1, 75), (1, 120), (1, 2592), (1, 4896), (1, 4544), (1, 4627)]) rfl hP rfl 16 (by decide) (hts _ (wg_t kw_337)) (fun _ h9 => h9) (cd := (1, 4627)) rfl dK_verify_36 (fun v37 hv40 => ?_)
    obtain rfl := (show v37 = .int (nI 4627) from hv40)
    refine lv_iload_n hx hb dK_verify_39 rfl (lv_at hl 4 rfl) ?_
    refine mp_i (cx := []) (wr := []) hP hD hS hA [] [] rfl rfl rfl (by decide) (va_runV (As := [.int (nI 4627), .int v2]) (rest := []) F (N_K_holdsContext l g _ T q21.2 pl hO hU h0 4627 v2 tl al pn k_h0 hf21 hf22 hf23 (by omega) (by omega) (by omega) (by omega)) (cwV 2 hts (wg_app (wg_c kw_1170 (wg_c kw_1172 (wg_c ks_33 (wg_c kw_1 wg_n)))) kw_1173) rfl rfl rfl (by decide +kernel) ⟨by decide, by decide⟩) (pn_W "LatticeKeys" (en_ok g) (ci := 0) (kn := 0) (fl := [(3, 1), (0, 0), (3, 2), (0, 0), (3, 3), (0, 0), (3, 4), (3, 8), (3, 12), (3, 24), (3, 39)]) hK hO k_h0 rfl hP hD hS hA hE [] rfl rfl rfl) rfl rfl hl.1 rfl (lv_room (Nat.le_of_ble_eq_true rfl)) dK_verify_40 ⟨Nat.le_of_ble_eq_true rfl, Nat.le_of_ble_eq_true rfl⟩) (fun r38 u26 H locs hu26 hP hD hS => ?_)
    obtain ⟨q29, pl⟩ := u26
    obtain ⟨⟨eq26, rfl, hFc26, hxp26, -⟩, hO⟩ := hu26
    have hO : okn g T q29.2 pl := hO
    have hP : va_P g.1 vcl ([] ++ pl) _ := hP
    have hD : va_D _ ([] ++ pl) := hD
    have hFc26 : frm (M_K_holdsContext) q21.2 q29.2 := hFc26
    replace hR := bnd_step hR eq26
    have hF := frm_tr hF hFc26 (fun k hk => by unfold M_K_holdsContext at hk; unfold M_K_verify; omega)
    have hf44 : q29.2.1 0 1 = nI tl := fc_F hf21 hFc26 (by unfold M_K_holdsContext; omega)
    have hf45 : q29.2.1 0 3 = nI al := fc_F hf22 hFc26 (by unfold M_K_holdsContext; omega)
    have hf46 : q29.2.1 0 5 = nI pn := fc_F hf23 hFc26 (by unfold M_K_holdsContext; omega)
    refine W.widen (k := 0) (n := 0) (by omega) (by omega) ?_
    refine lv_if_ne (tgt := 56) hx hb dK_verify_43 (by decide) (fun h23 => ?_) (fun h23 => ?_)
    · replace hR := hR.trans (if_neg h23)
      have hh9 := hxp26.resolve_left (fun h9 => h23 (h9.trans (by decide)))
      refine lv_aload_n hx hb dK_verify_56 rfl (lv_at hl 2 rfl) ?_
      refine nw_get (C := "LatticeKeys") (TT := T_K) (N := 11) hx hb hts (wg_ft i_K) hown hK hO k_h0 (kn := 0) (ci := 0) (fl := [(3, 1), (0, 0), (3, 2), (0, 0), (3, 3), (0, 0), (3, 4), (3, 8), (3, 12), (3, 24), (3, 39)]) rfl hP rfl 10 (by decide) (hts _ (wg_t kw_384)) (fun _ h9 => h9) (cd := (3, 39)) rfl dK_verify_57 (fun v38 hv41 => ?_)
      obtain ⟨r39, rfl, kr36⟩ := (show ∃ r : Nat, v38 = .ref r ∧ T r = some 39 from hv41)
      refine lv_aload hx hb dK_verify_60 (lv_at hl 0 rfl) ?_
      refine lv_aload_n hx hb dK_verify_62 rfl (lv_at hl 1 rfl) ?_
      refine nw_get (C := "LatticeKeys$KeyPair") (TT := T_KP) (N := 3) hx hb hts (wg_ft i_KP) hown hK hO kr33 (kn := (379 + 36 * z27 + 15)) (ci := 13) (fl := [(1, 5), (3, (379 + 36 * z27 + 16)), (3, (379 + 36 * z27 + 17))]) (pr_o5 (z := z27) (by omega)) hP rfl 1 (by decide) (hts _ (wg_t kw_749)) (fun _ h9 => h9) (cd := (3, (379 + 36 * z27 + 16))) rfl dK_verify_63 (fun v39 hv42 => ?_)
      obtain ⟨r40, rfl, kr37⟩ := (show ∃ r : Nat, v39 = .ref r ∧ T r = some (379 + 36 * z27 + 16) from hv42)
      refine lv_aload_n hx hb dK_verify_66 rfl (lv_at hl 2 rfl) ?_
      refine nw_get (C := "LatticeKeys") (TT := T_K) (N := 11) hx hb hts (wg_ft i_K) hown hK hO k_h0 (kn := 0) (ci := 0) (fl := [(3, 1), (0, 0), (3, 2), (0, 0), (3, 3), (0, 0), (3, 4), (3, 8), (3, 12), (3, 24), (3, 39)]) rfl hP rfl 0 (by decide) (hts _ (wg_t kw_374)) (fun _ h9 => h9) (cd := (3, 1)) rfl dK_verify_67 (fun v40 hv43 => ?_)
      obtain ⟨r41, rfl, kr38⟩ := (show ∃ r : Nat, v40 = .ref r ∧ T r = some 1 from hv43)
      refine lv_aload_n hx hb dK_verify_70 rfl (lv_at hl 2 rfl) ?_
      refine nw_get (C := "LatticeKeys") (TT := T_K) (N := 11) hx hb hts (wg_ft i_K) hown hK hO k_h0 (kn := 0) (ci := 0) (fl := [(3, 1), (0, 0), (3, 2), (0, 0), (3, 3), (0, 0), (3, 4), (3, 8), (3, 12), (3, 24), (3, 39)]) rfl hP rfl 1 (by decide) (hts _ (wg_t kw_375)) (fun _ h9 => h9) (cd := (0, 0)) rfl dK_verify_71 (fun v41 hv44 => ?_)
      obtain rfl := (show v41 = .int (q29.2.1 0 1) from hv44)
      obtain ⟨z28, ez28, hz28, hz29⟩ := cl_of (b := 2147483648) hf44 (by omega) (by decide)
      replace hR := bnd_step hR ez28
      refine mi_as hz28 ?_
      refine lv_iload_n hx hb dK_verify_74 rfl (lv_at hl 4 rfl) ?_
      refine mp_i (cx := []) (wr := []) hP hD hS hA [] [] rfl rfl rfl (by decide) (va_runV (As := [.ref r37, .ref r40, .ref r41, .int (nI z28), .int v2]) (rest := []) F (N_DA_accepts_2 l g _ T q29.2 pl hO hU r39 r37 r40 r41 (379 + 36 * z27 + 16) 1 16384 z28 v2 kr36 kr35 kr37 (pr_p5 (z := z27) (by omega)) kr38 rfl (by omega) (by omega) (by omega)) (cwV 5 hts (wg_app (wg_c kw_1261 (wg_c kw_1262 (wg_c kw_1263 (wg_c kw_5 wg_n)))) kw_1264) rfl rfl rfl (by decide +kernel) ⟨by decide, by decide⟩) (pn_W "LatticeKeys$Dsa" (en_ok g) (ci := 6) (kn := 39) (fl := [(3, 16), (3, 22), (3, 37), (3, 40), (3, 97), (3, 105), (3, 114), (3, 123), (3, 131), (3, 140), (3, 141), (3, 142), (3, 143), (3, 144), (3, 145), (3, 146), (3, 147)]) hK hO kr36 rfl hP hD hS hA hE [] rfl rfl rfl) rfl rfl hl.1 rfl (lv_room (Nat.le_of_ble_eq_true rfl)) dK_verify_75 ⟨Nat.le_of_ble_eq_true rfl, Nat.le_of_ble_eq_true rfl⟩) (fun r42 u27 H locs hu27 hP hD hS => ?_)
      obtain ⟨q30, pl⟩ := u27
      obtain ⟨⟨eq27, rfl, hFc27, -⟩, hO⟩ := hu27
      have hO : okn g T q30.2 pl := hO
      have hP : va_P g.1 vcl ([] ++ pl) _ := hP
      have hD : va_D _ ([] ++ pl) := hD
      have hFc27 : frm (M_DA_accepts_2) q29.2 q30.2 := hFc27
      replace hR := bnd_step hR eq27
      have hF := frm_tr hF hFc27 (fun k hk => by unfold M_DA_accepts_2 at hk; unfold M_K_verify; omega)
      have hf47 : q30.2.1 0 1 = nI tl := fc_F hf44 hFc27 (by unfold M_DA_accepts_2; omega)
      have hf48 : q30.2.1 0 3 = nI al := fc_F hf45 hFc27 (by unfold M_DA_accepts_2; omega)
      have hf49 : q30.2.1 0 5 = nI pn := fc_F hf46 hFc27 (by unfold M_DA_accepts_2; omega)
      have hbl23 : zo q30.1 := by rw [show q30 = _ from eq27]; exact ac2_bl
      refine W.widen (k := 0) (n := 0) (by omega) (by omega) ?_
      refine mi_eqv (fun z29 ez29 => ?_)
      replace hR := bnd_step hR ez29
      refine lv_istore (lv' := [(5, .int z29), (4, .ref r37), (3, .ref q28), (0, .ref h0), (1, .int v), (2, .int v2)]) hx hb dK_verify_78 hl (by decide) rfl (fun ls hl => ?_)
      refine lv_aload_n hx hb dK_verify_80 rfl (lv_at hl 3 rfl) ?_
      refine lv_iconst (v := nI 0) hx hb dK_verify_81 (by decide) ?_
      refine nw_put (C := "LatticeKeys") (TT := T_K) (N := 11) hx hb hts (wg_ft i_K) ty_K k_K n_K hown hK hO hU k_h0 (kn := 0) (ci := 0) (fl := [(3, 1), (0, 0), (3, 2), (0, 0), (3, 3), (0, 0), (3, 4), (3, 8), (3, 12), (3, 24), (3, 39)]) rfl hP hD hS rfl 1 (by decide) (hts _ (wg_t kw_375)) (fun _ h9 => h9) rfl (by decide +kernel) rfl dK_verify_82 (fun s23 pl H locs es23 hO hP hD hS => ?_)
      replace hR := bnd_step hR es23
      have hF := frm_sI hF es23 (by unfold M_K_verify; omega)
      have hf51 : s23.1 0 3 = nI al := fc_ne hf48 es23 (by omega)
      have hf52 : s23.1 0 5 = nI pn := fc_ne hf49 es23 (by omega)
      have hf53 : s23.1 0 1 = nI 0 := fc_eq es23
      refine lv_iload hx hb dK_verify_85 (lv_at hl 0 rfl) ?_
      refine et_ret ?_
      exact mp_zret hx hb hr hlk (nar_zo (by rw [ez29]; exact hbl23)) hP hD hS ((nI 0, z29, s23), pl) ⟨⟨hR.symm, rfl, rfl, hF, ⟨0, hf53, by omega⟩, ⟨al, hf51, by omega⟩, ⟨pn, hf52, by omega⟩, trivial⟩, hO⟩ [] rfl rfl rfl (by omega) (by omega) dK_verify_87
    · replace hR := hR.trans (if_pos h23)
      exact et_throw (own := "LatticeKeys") (cls := "java/lang/IllegalArgumentException") (text := "a context of another length, or a short tape") (names := ["java/lang/RuntimeException", "java/lang/Exception"]) (ik := 79) (is := 209) (ic := 83) hx hb htr ctr_IAE_0 ctr_IAE_1 ctr_IAE_2 ctr_IAE_5 hown (by decide) (by decide) (hts _ (wg_t kw_501)) (hts _ (wg_t kw_18)) (hX.2.2.2.2.2.1 16 ("LatticeKeys", 209, "a context of another length, or a short tape") rfl) (hat_IAE hts hX.2) hS.1 (hl.1.trans hml.symm) dK_verify_46 dK_verify_49 dK_verify_50 dK_verify_52 dK_verify_55 htab (Nat.le_of_ble_eq_true rfl) (Nat.le_of_ble_eq_true rfl) (Nat.le_of_ble_eq_true rfl) (Nat.le_of_ble_eq_true rfl) hlk (Nat.le_of_ble_eq_true rfl) (Nat.le_of_ble_eq_true rfl) (xls_at 1 (congrArg Prod.fst hR) (by decide) rfl) hS.2.2 (thr_st hX.2) (fun t hz9 hk9 => ⟨⟨((nI 2, nI 0, q29.2), pl), ⟨⟨hR.symm, hF, ⟨tl, hf44, by omega⟩, ⟨al, hf45, by omega⟩, ⟨pn, hf46, by omega⟩, trivial⟩, hO⟩, lc_P hP hk9, hD⟩, (lc_S hS hz9 hk9).F rfl⟩)
  replace hR := hR.trans (if_neg hs24)
  by_cases hs25 : q21.1 = nI 10
  · replace hR := hR.trans (if_pos hs25)
    obtain ⟨z30, q31, hz30, hv45, rfl, kr39⟩ := pfd_at (c := 9) hq21 (by decide) hs25
    have kr39 : T q31 = some (379 + 36 * z30 + 27) := kr39
    have ez30 : z30 = v.toNatClampNeg := by rw [hv45]; exact (nI_clamp (by omega)).symm
    replace hR := bnd_step hR ez30
    refine lv_astore_n (lv' := [(3, .ref q31), (0, .ref h0), (1, .int v), (2, .int v2)]) hx hb dK_verify_5 rfl hl (by decide) rfl (fun ls hl => ?_)
    refine lv_aload_n hx hb dK_verify_6 rfl (lv_at hl 0 rfl) ?_
    refine lv_ifnonnull (tgt := 20) hx hb dK_verify_7 (by decide) ?_
    refine lv_aload_n hx hb dK_verify_20 rfl (lv_at hl 1 rfl) ?_
    refine nw_get (C := "LatticeKeys") (TT := T_K) (N := 11) hx hb hts (wg_ft i_K) hown hK hO k_h0 (kn := 0) (ci := 0) (fl := [(3, 1), (0, 0), (3, 2), (0, 0), (3, 3), (0, 0), (3, 4), (3, 8), (3, 12), (3, 24), (3, 39)]) rfl hP rfl 7 (by decide) (hts _ (wg_t kw_381)) (fun _ h9 => h9) (cd := (3, 8)) rfl dK_verify_21 (fun v42 hv46 => ?_)
    obtain ⟨r43, rfl, kr40⟩ := (show ∃ r : Nat, v42 = .ref r ∧ T r = some 8 from hv46)
    refine lv_aload_n hx hb dK_verify_24 rfl (lv_at hl 0 rfl) ?_
    refine nw_get (C := "LatticeKeys$KeyPair") (TT := T_KP) (N := 3) hx hb hts (wg_ft i_KP) hown hK hO kr39 (kn := (379 + 36 * z30 + 27)) (ci := 13) (fl := [(1, 3), (3, (379 + 36 * z30 + 28)), (5, 0)]) (pr_o9 (z := z30) (by omega)) hP rfl 0 (by decide) (hts _ (wg_t kw_746)) (fun _ h9 => h9) (cd := (1, 3)) rfl dK_verify_25 (fun v43 hv47 => ?_)
    obtain rfl := (show v43 = .int (nI 3) from hv47)
    refine lv_iconst (v := nI 3) hx hb dK_verify_28 (by decide) ?_
    refine mi_isub hx hb dK_verify_29 (by omega) ?_
    refine mi_as (show nI (3 - 3) = nI 0 from rfl) ?_
    refine nw_aald7 hx hb hK hO kr40 (k := 8) (b := 9) rfl hP (by omega) (by omega) dK_verify_30 (fun r44 kr41 => ?_)
    refine lv_astore (lv' := [(4, .ref r44), (3, .ref q31), (0, .ref h0), (1, .int v), (2, .int v2)]) hx hb dK_verify_31 hl (by decide) rfl (fun ls hl => ?_)
    refine lv_aload_n hx hb dK_verify_33 rfl (lv_at hl 2 rfl) ?_
    refine lv_aload hx hb dK_verify_34 (lv_at hl 0 rfl) ?_
    refine nw_get (C := "LatticeKeys$DsaSet") (TT := T_DS) (N := 17) hx hb hts (wg_ft i_DS) hown hK hO kr41 (kn := 9) (ci := 2) (fl := [(1, 4), (1, 4), (1, 2), (1, 3), (1, 39), (1, 32), (1, 18), (1, 131072), (1, 44), (1, 6), (1, 95232), (1, 80), (1, 78), (1, 1312), (1, 2560), (1, 2336), (1, 2420)]) rfl hP rfl 16 (by decide) (hts _ (wg_t kw_337)) (fun _ h9 => h9) (cd := (1, 2420)) rfl dK_verify_36 (fun v44 hv48 => ?_)
    obtain rfl := (show v44 = .int (nI 2420) from hv48)
    refine lv_iload_n hx hb dK_verify_39 rfl (lv_at hl 4 rfl) ?_
    refine mp_i (cx := []) (wr := []) hP hD hS hA [] [] rfl rfl rfl (by decide) (va_runV (As := [.int (nI 2420), .int v2]) (rest := []) F (N_K_holdsContext l g _ T q21.2 pl hO hU h0 2420 v2 tl al pn k_h0 hf21 hf22 hf23 (by omega) (by omega) (by omega) (by omega)) (cwV 2 hts (wg_app (wg_c kw_1170 (wg_c kw_1172 (wg_c ks_33 (wg_c kw_1 wg_n)))) kw_1173) rfl rfl rfl (by decide +kernel) ⟨by decide, by decide⟩) (pn_W "LatticeKeys" (en_ok g) (ci := 0) (kn := 0) (fl := [(3, 1), (0, 0), (3, 2), (0, 0), (3, 3), (0, 0), (3, 4), (3, 8), (3, 12), (3, 24), (3, 39)]) hK hO k_h0 rfl hP hD hS hA hE [] rfl rfl rfl) rfl rfl hl.1 rfl (lv_room (Nat.le_of_ble_eq_true rfl)) dK_verify_40 ⟨Nat.le_of_ble_eq_true rfl, Nat.le_of_ble_eq_true rfl⟩) (fun r45 u28 H locs hu28 hP hD hS => ?_)
    obtain ⟨q32, pl⟩ := u28
    obtain ⟨⟨eq28, rfl, hFc28, hxp28, -⟩, hO⟩ := hu28
    have hO : okn g T q32.2 pl := hO
    have hP : va_P g.1 vcl ([] ++ pl) _ := hP
    have hD : va_D _ ([] ++ pl) := hD
    have hFc28 : frm (M_K_holdsContext) q21.2 q32.2 := hFc28
    replace hR := bnd_step hR eq28
    have hF := frm_tr hF hFc28 (fun k hk => by unfold M_K_holdsContext at hk; unfold M_K_verify; omega)
    have hf54 : q32.2.1 0 1 = nI tl := fc_F hf21 hFc28 (by unfold M_K_holdsContext; omega)
    have hf55 : q32.2.1 0 3 = nI al := fc_F hf22 hFc28 (by unfold M_K_holdsContext; omega)
    have hf56 : q32.2.1 0 5 = nI pn := fc_F hf23 hFc28 (by unfold M_K_holdsContext; omega)
    refine W.widen (k := 0) (n := 0) (by omega) (by omega) ?_
    refine lv_if_ne (tgt := 56) hx hb dK_verify_43 (by decide) (fun h24 => ?_) (fun h24 => ?_)
    · replace hR := hR.trans (if_neg h24)
      have hh9 := hxp28.resolve_left (fun h9 => h24 (h9.trans (by decide)))
      refine lv_aload_n hx hb dK_verify_56 rfl (lv_at hl 2 rfl) ?_
      refine nw_get (C := "LatticeKeys") (TT := T_K) (N := 11) hx hb hts (wg_ft i_K) hown hK hO k_h0 (kn := 0) (ci := 0) (fl := [(3, 1), (0, 0), (3, 2), (0, 0), (3, 3), (0, 0), (3, 4), (3, 8), (3, 12), (3, 24), (3, 39)]) rfl hP rfl 10 (by decide) (hts _ (wg_t kw_384)) (fun _ h9 => h9) (cd := (3, 39)) rfl dK_verify_57 (fun v45 hv49 => ?_)
      obtain ⟨r46, rfl, kr42⟩ := (show ∃ r : Nat, v45 = .ref r ∧ T r = some 39 from hv49)
      refine lv_aload hx hb dK_verify_60 (lv_at hl 0 rfl) ?_
      refine lv_aload_n hx hb dK_verify_62 rfl (lv_at hl 1 rfl) ?_
      refine nw_get (C := "LatticeKeys$KeyPair") (TT := T_KP) (N := 3) hx hb hts (wg_ft i_KP) hown hK hO kr39 (kn := (379 + 36 * z30 + 27)) (ci := 13) (fl := [(1, 3), (3, (379 + 36 * z30 + 28)), (5, 0)]) (pr_o9 (z := z30) (by omega)) hP rfl 1 (by decide) (hts _ (wg_t kw_749)) (fun _ h9 => h9) (cd := (3, (379 + 36 * z30 + 28))) rfl dK_verify_63 (fun v46 hv50 => ?_)
      obtain ⟨r47, rfl, kr43⟩ := (show ∃ r : Nat, v46 = .ref r ∧ T r = some (379 + 36 * z30 + 28) from hv50)
      refine lv_aload_n hx hb dK_verify_66 rfl (lv_at hl 2 rfl) ?_
      refine nw_get (C := "LatticeKeys") (TT := T_K) (N := 11) hx hb hts (wg_ft i_K) hown hK hO k_h0 (kn := 0) (ci := 0) (fl := [(3, 1), (0, 0), (3, 2), (0, 0), (3, 3), (0, 0), (3, 4), (3, 8), (3, 12), (3, 24), (3, 39)]) rfl hP rfl 0 (by decide) (hts _ (wg_t kw_374)) (fun _ h9 => h9) (cd := (3, 1)) rfl dK_verify_67 (fun v47 hv51 => ?_)
      obtain ⟨r48, rfl, kr44⟩ := (show ∃ r : Nat, v47 = .ref r ∧ T r = some 1 from hv51)
      refine lv_aload_n hx hb dK_verify_70 rfl (lv_at hl 2 rfl) ?_
      refine nw_get (C := "LatticeKeys") (TT := T_K) (N := 11) hx hb hts (wg_ft i_K) hown hK hO k_h0 (kn := 0) (ci := 0) (fl := [(3, 1), (0, 0), (3, 2), (0, 0), (3, 3), (0, 0), (3, 4), (3, 8), (3, 12), (3, 24), (3, 39)]) rfl hP rfl 1 (by decide) (hts _ (wg_t kw_375)) (fun _ h9 => h9) (cd := (0, 0)) rfl dK_verify_71 (fun v48 hv52 => ?_)
      obtain rfl := (show v48 = .int (q32.2.1 0 1) from hv52)
      obtain ⟨z31, ez31, hz31, hz32⟩ := cl_of (b := 2147483648) hf54 (by omega) (by decide)
      replace hR := bnd_step hR ez31
      refine mi_as hz31 ?_
      refine lv_iload_n hx hb dK_verify_74 rfl (lv_at hl 4 rfl) ?_
      refine mp_i (cx := []) (wr := []) hP hD hS hA [] [] rfl rfl rfl (by decide) (va_runV (As := [.ref r44, .ref r47, .ref r48, .int (nI z31), .int v2]) (rest := []) F (N_DA_accepts_0 l g _ T q32.2 pl hO hU r46 r44 r47 r48 (379 + 36 * z30 + 28) 1 16384 z31 v2 kr42 kr41 kr43 (pr_p9 (z := z30) (by omega)) kr44 rfl (by omega) (by omega) (by omega)) (cwV 5 hts (wg_app (wg_c kw_1261 (wg_c kw_1262 (wg_c kw_1263 (wg_c kw_5 wg_n)))) kw_1264) rfl rfl rfl (by decide +kernel) ⟨by decide, by decide⟩) (pn_W "LatticeKeys$Dsa" (en_ok g) (ci := 6) (kn := 39) (fl := [(3, 16), (3, 22), (3, 37), (3, 40), (3, 97), (3, 105), (3, 114), (3, 123), (3, 131), (3, 140), (3, 141), (3, 142), (3, 143), (3, 144), (3, 145), (3, 146), (3, 147)]) hK hO kr42 rfl hP hD hS hA hE [] rfl rfl rfl) rfl rfl hl.1 rfl (lv_room (Nat.le_of_ble_eq_true rfl)) dK_verify_75 ⟨Nat.le_of_ble_eq_true rfl, Nat.le_of_ble_eq_true rfl⟩) (fun r49 u29 H locs hu29 hP hD hS => ?_)
      obtain ⟨q33, pl⟩ := u29
      obtain ⟨⟨eq29, rfl, hFc29, -⟩, hO⟩ := hu29
      have hO : okn g T q33.2 pl := hO
      have hP : va_P g.1 vcl ([] ++ pl) _ := hP
      have hD : va_D _ ([] ++ pl) := hD
      have hFc29 : frm (M_DA_accepts_0) q32.2 q33.2 := hFc29
      replace hR := bnd_step hR eq29
      have hF := frm_tr hF hFc29 (fun k hk => by unfold M_DA_accepts_0 at hk; unfold M_K_verify; omega)
      have hf57 : q33.2.1 0 1 = nI tl := fc_F hf54 hFc29 (by unfold M_DA_accepts_0; omega)
      have hf58 : q33.2.1 0 3 = nI al := fc_F hf55 hFc29 (by unfold M_DA_accepts_0; omega)
      have hf59 : q33.2.1 0 5 = nI pn := fc_F hf56 hFc29 (by unfold M_DA_accepts_0; omega)
      have hbl24 : zo q33.1 := by rw [show q33 = _ from eq29]; exact ac0_bl
      refine W.widen (k := 0) (n := 0) (by omega) (by omega) ?_
      refine mi_eqv (fun z32 ez32 => ?_)
      replace hR := bnd_step hR ez32
      refine lv_istore (lv' := [(5, .int z32), (4, .ref r44), (3, .ref q31), (0, .ref h0), (1, .int v), (2, .int v2)]) hx hb dK_verify_78 hl (by decide) rfl (fun ls hl => ?_)
      refine lv_aload_n hx hb dK_verify_80 rfl (lv_at hl 3 rfl) ?_
      refine lv_iconst (v := nI 0) hx hb dK_verify_81 (by decide) ?_
      refine nw_put (C := "LatticeKeys") (TT := T_K) (N := 11) hx hb hts (wg_ft i_K) ty_K k_K n_K hown hK hO hU k_h0 (kn := 0) (ci := 0) (fl := [(3, 1), (0, 0), (3, 2), (0, 0), (3, 3), (0, 0), (3, 4), (3, 8), (3, 12), (3, 24), (3, 39)]) rfl hP hD hS rfl 1 (by decide) (hts _ (wg_t kw_375)) (fun _ h9 => h9) rfl (by decide +kernel) rfl dK_verify_82 (fun s24 pl H locs es24 hO hP hD hS => ?_)
      replace hR := bnd_step hR es24
      have hF := frm_sI hF es24 (by unfold M_K_verify; omega)
      have hf61 : s24.1 0 3 = nI al := fc_ne hf58 es24 (by omega)
      have hf62 : s24.1 0 5 = nI pn := fc_ne hf59 es24 (by omega)
      have hf63 : s24.1 0 1 = nI 0 := fc_eq es24
      refine lv_iload hx hb dK_verify_85 (lv_at hl 0 rfl) ?_
      refine et_ret ?_
      exact mp_zret hx hb hr hlk (nar_zo (by rw [ez32]; exact hbl24)) hP hD hS ((nI 0, z32, s24), pl) ⟨⟨hR.symm, rfl, rfl, hF, ⟨0, hf63, by omega⟩, ⟨al, hf61, by omega⟩, ⟨pn, hf62, by omega⟩, trivial⟩, hO⟩ [] rfl rfl rfl (by omega) (by omega) dK_verify_87
    · replace hR := hR.trans (if_pos h24)
      exact et_throw (own := "LatticeKeys") (cls := "java/lang/IllegalArgumentException") (text := "a context of another length, or a short tape") (names := ["java/lang/RuntimeException", "java/lang/Exception"]) (ik := 79) (is := 209) (ic := 83) hx hb htr ctr_IAE_0 ctr_IAE_1 ctr_IAE_2 ctr_IAE_5 hown (by decide) (by decide) (hts _ (wg_t kw_501)) (hts _ (wg_t kw_18)) (hX.2.2.2.2.2.1 16 ("LatticeKeys", 209, "a context of another length, or a short tape") rfl) (hat_IAE hts hX.2) hS.1 (hl.1.trans hml.symm) dK_verify_46 dK_verify_49 dK_verify_50 dK_verify_52 dK_verify_55 htab (Nat.le_of_ble_eq_true rfl) (Nat.le_of_ble_eq_true rfl) (Nat.le_of_ble_eq_true rfl) (Nat.le_of_ble_eq_true rfl) hlk (Nat.le_of_ble_eq_true rfl) (Nat.le_of_ble_eq_true rfl) (xls_at 1 (congrArg Prod.fst hR) (by decide) rfl) hS.2.2 (thr_st hX.2) (fun t hz9 hk9 => ⟨⟨((nI 2, nI 0, q32.2), pl), ⟨⟨hR.symm, hF, ⟨tl, hf54, by omega⟩, ⟨al, hf55, by omega⟩, ⟨pn, hf56, by omega⟩, trivial⟩, hO⟩, lc_P hP hk9, hD⟩, (lc_S hS hz9 hk9).F rfl⟩)
  replace hR := hR.trans (if_neg hs25)
  by_cases hs26 : q21.1 = nI 11
  · replace hR := hR.trans (if_pos hs26)
    obtain ⟨z33, q34, hz33, hv53, rfl, kr45⟩ := pfd_at (c := 10) hq21 (by decide) hs26
    have kr45 : T q34 = some (379 + 36 * z33 + 30) := kr45
    have ez33 : z33 = v.toNatClampNeg := by rw [hv53]; exact (nI_clamp (by omega)).symm
    replace hR := bnd_step hR ez33
    refine lv_astore_n (lv' := [(3, .ref q34), (0, .ref h0), (1, .int v), (2, .int v2)]) hx hb dK_verify_5 rfl hl (by decide) rfl (fun ls hl => ?_)
    refine lv_aload_n hx hb dK_verify_6 rfl (lv_at hl 0 rfl) ?_
    refine lv_ifnonnull (tgt := 20) hx hb dK_verify_7 (by decide) ?_
    refine lv_aload_n hx hb dK_verify_20 rfl (lv_at hl 1 rfl) ?_
    refine nw_get (C := "LatticeKeys") (TT := T_K) (N := 11) hx hb hts (wg_ft i_K) hown hK hO k_h0 (kn := 0) (ci := 0) (fl := [(3, 1), (0, 0), (3, 2), (0, 0), (3, 3), (0, 0), (3, 4), (3, 8), (3, 12), (3, 24), (3, 39)]) rfl hP rfl 7 (by decide) (hts _ (wg_t kw_381)) (fun _ h9 => h9) (cd := (3, 8)) rfl dK_verify_21 (fun v49 hv54 => ?_)
    obtain ⟨r50, rfl, kr46⟩ := (show ∃ r : Nat, v49 = .ref r ∧ T r = some 8 from hv54)
    refine lv_aload_n hx hb dK_verify_24 rfl (lv_at hl 0 rfl) ?_
    refine nw_get (C := "LatticeKeys$KeyPair") (TT := T_KP) (N := 3) hx hb hts (wg_ft i_KP) hown hK hO kr45 (kn := (379 + 36 * z33 + 30)) (ci := 13) (fl := [(1, 4), (3, (379 + 36 * z33 + 31)), (5, 0)]) (pr_o10 (z := z33) (by omega)) hP rfl 0 (by decide) (hts _ (wg_t kw_746)) (fun _ h9 => h9) (cd := (1, 4)) rfl dK_verify_25 (fun v50 hv55 => ?_)
    obtain rfl := (show v50 = .int (nI 4) from hv55)
    refine lv_iconst (v := nI 3) hx hb dK_verify_28 (by decide) ?_
    refine mi_isub hx hb dK_verify_29 (by omega) ?_
    refine mi_as (show nI (4 - 3) = nI 1 from rfl) ?_
    refine nw_aald7 hx hb hK hO kr46 (k := 8) (b := 9) rfl hP (by omega) (by omega) dK_verify_30 (fun r51 kr47 => ?_)
    refine lv_astore (lv' := [(4, .ref r51), (3, .ref q34), (0, .ref h0), (1, .int v), (2, .int v2)]) hx hb dK_verify_31 hl (by decide) rfl (fun ls hl => ?_)
    refine lv_aload_n hx hb dK_verify_33 rfl (lv_at hl 2 rfl) ?_
    refine lv_aload hx hb dK_verify_34 (lv_at hl 0 rfl) ?_
    refine nw_get (C := "LatticeKeys$DsaSet") (TT := T_DS) (N := 17) hx hb hts (wg_ft i_DS) hown hK hO kr47 (kn := 10) (ci := 2) (fl := [(1, 6), (1, 5), (1, 4), (1, 4), (1, 49), (1, 48), (1, 20), (1, 524288), (1, 16), (1, 4), (1, 261888), (1, 55), (1, 196), (1, 1952), (1, 4032), (1, 3248), (1, 3309)]) rfl hP rfl 16 (by decide) (hts _ (wg_t kw_337)) (fun _ h9 => h9) (cd := (1, 3309)) rfl dK_verify_36 (fun v51 hv56 => ?_)
    obtain rfl := (show v51 = .int (nI 3309) from hv56)
    refine lv_iload_n hx hb dK_verify_39 rfl (lv_at hl 4 rfl) ?_
    refine mp_i (cx := []) (wr := []) hP hD hS hA [] [] rfl rfl rfl (by decide) (va_runV (As := [.int (nI 3309), .int v2]) (rest := []) F (N_K_holdsContext l g _ T q21.2 pl hO hU h0 3309 v2 tl al pn k_h0 hf21 hf22 hf23 (by omega) (by omega) (by omega) (by omega)) (cwV 2 hts (wg_app (wg_c kw_1170 (wg_c kw_1172 (wg_c ks_33 (wg_c kw_1 wg_n)))) kw_1173) rfl rfl rfl (by decide +kernel) ⟨by decide, by decide⟩) (pn_W "LatticeKeys" (en_ok g) (ci := 0) (kn := 0) (fl := [(3, 1), (0, 0), (3, 2), (0, 0), (3, 3), (0, 0), (3, 4), (3, 8), (3, 12), (3, 24), (3, 39)]) hK hO k_h0 rfl hP hD hS hA hE [] rfl rfl rfl) rfl rfl hl.1 rfl (lv_room (Nat.le_of_ble_eq_true rfl)) dK_verify_40 ⟨Nat.le_of_ble_eq_true rfl, Nat.le_of_ble_eq_true rfl⟩) (fun r52 u30 H locs hu30 hP hD hS => ?_)
    obtain ⟨q35, pl⟩ := u30
    obtain ⟨⟨eq30, rfl, hFc30, hxp30, -⟩, hO⟩ := hu30
    have hO : okn g T q35.2 pl := hO
    have hP : va_P g.1 vcl ([] ++ pl) _ := hP
    have hD : va_D _ ([] ++ pl) := hD
    have hFc30 : frm (M_K_holdsContext) q21.2 q35.2 := hFc30
    replace hR := bnd_step hR eq30
    have hF := frm_tr hF hFc30 (fun k hk => by unfold M_K_holdsContext at hk; unfold M_K_verify; omega)
    have hf64 : q35.2.1 0 1 = nI tl := fc_F hf21 hFc30 (by unfold M_K_holdsContext; omega)
    have hf65 : q35.2.1 0 3 = nI al := fc_F hf22 hFc30 (by unfold M_K_holdsContext; omega)
    have hf66 : q35.2.1 0 5 = nI pn := fc_F hf23 hFc30 (by unfold M_K_holdsContext; omega)
    refine W.widen (k := 0) (n := 0) (by omega) (by omega) ?_
    refine lv_if_ne (tgt := 56) hx hb dK_verify_43 (by decide) (fun h25 => ?_) (fun h25 => ?_)
    · replace hR := hR.trans (if_neg h25)
      have hh9 := hxp30.resolve_left (fun h9 => h25 (h9.trans (by decide)))
      refine lv_aload_n hx hb dK_verify_56 rfl (lv_at hl 2 rfl) ?_
      refine nw_get (C := "LatticeKeys") (TT := T_K) (N := 11) hx hb hts (wg_ft i_K) hown hK hO k_h0 (kn := 0) (ci := 0) (fl := [(3, 1), (0, 0), (3, 2), (0, 0), (3, 3), (0, 0), (3, 4), (3, 8), (3, 12), (3, 24), (3, 39)]) rfl hP rfl 10 (by decide) (hts _ (wg_t kw_384)) (fun _ h9 => h9) (cd := (3, 39)) rfl dK_verify_57 (fun v52 hv57 => ?_)
      obtain ⟨r53, rfl, kr48⟩ := (show ∃ r : Nat, v52 = .ref r ∧ T r = some 39 from hv57)
      refine lv_aload hx hb dK_verify_60 (lv_at hl 0 rfl) ?_
      refine lv_aload_n hx hb dK_verify_62 rfl (lv_at hl 1 rfl) ?_
      refine nw_get (C := "LatticeKeys$KeyPair") (TT := T_KP) (N := 3) hx hb hts (wg_ft i_KP) hown hK hO kr45 (kn := (379 + 36 * z33 + 30)) (ci := 13) (fl := [(1, 4), (3, (379 + 36 * z33 + 31)), (5, 0)]) (pr_o10 (z := z33) (by omega)) hP rfl 1 (by decide) (hts _ (wg_t kw_749)) (fun _ h9 => h9) (cd := (3, (379 + 36 * z33 + 31))) rfl dK_verify_63 (fun v53 hv58 => ?_)
      obtain ⟨r54, rfl, kr49⟩ := (show ∃ r : Nat, v53 = .ref r ∧ T r = some (379 + 36 * z33 + 31) from hv58)
      refine lv_aload_n hx hb dK_verify_66 rfl (lv_at hl 2 rfl) ?_
      refine nw_get (C := "LatticeKeys") (TT := T_K) (N := 11) hx hb hts (wg_ft i_K) hown hK hO k_h0 (kn := 0) (ci := 0) (fl := [(3, 1), (0, 0), (3, 2), (0, 0), (3, 3), (0, 0), (3, 4), (3, 8), (3, 12), (3, 24), (3, 39)]) rfl hP rfl 0 (by decide) (hts _ (wg_t kw_374)) (fun _ h9 => h9) (cd := (3, 1)) rfl dK_verify_67 (fun v54 hv59 => ?_)
      obtain ⟨r55, rfl, kr50⟩ := (show ∃ r : Nat, v54 = .ref r ∧ T r = some 1 from hv59)
      refine lv_aload_n hx hb dK_verify_70 rfl (lv_at hl 2 rfl) ?_
      refine nw_get (C := "LatticeKeys") (TT := T_K) (N := 11) hx hb hts (wg_ft i_K) hown hK hO k_h0 (kn := 0) (ci := 0) (fl := [(3, 1), (0, 0), (3, 2), (0, 0), (3, 3), (0, 0), (3, 4), (3, 8), (3, 12), (3, 24), (3, 39)]) rfl hP rfl 1 (by decide) (hts _ (wg_t kw_375)) (fun _ h9 => h9) (cd := (0, 0)) rfl dK_verify_71 (fun v55 hv60 => ?_)
      obtain rfl := (show v55 = .int (q35.2.1 0 1) from hv60)
      obtain ⟨z34, ez34, hz34, hz35⟩ := cl_of (b := 2147483648) hf64 (by omega) (by decide)
      replace hR := bnd_step hR ez34
      refine mi_as hz34 ?_
      refine lv_iload_n hx hb dK_verify_74 rfl (lv_at hl 4 rfl) ?_
      refine mp_i (cx := []) (wr := []) hP hD hS hA [] [] rfl rfl rfl (by decide) (va_runV (As := [.ref r51, .ref r54, .ref r55, .int (nI z34), .int v2]) (rest := []) F (N_DA_accepts_1 l g _ T q35.2 pl hO hU r53 r51 r54 r55 (379 + 36 * z33 + 31) 1 16384 z34 v2 kr48 kr47 kr49 (pr_p10 (z := z33) (by omega)) kr50 rfl (by omega) (by omega) (by omega)) (cwV 5 hts (wg_app (wg_c kw_1261 (wg_c kw_1262 (wg_c kw_1263 (wg_c kw_5 wg_n)))) kw_1264) rfl rfl rfl (by decide +kernel) ⟨by decide, by decide⟩) (pn_W "LatticeKeys$Dsa" (en_ok g) (ci := 6) (kn := 39) (fl := [(3, 16), (3, 22), (3, 37), (3, 40), (3, 97), (3, 105), (3, 114), (3, 123), (3, 131), (3, 140), (3, 141), (3, 142), (3, 143), (3, 144), (3, 145), (3, 146), (3, 147)]) hK hO kr48 rfl hP hD hS hA hE [] rfl rfl rfl) rfl rfl hl.1 rfl (lv_room (Nat.le_of_ble_eq_true rfl)) dK_verify_75 ⟨Nat.le_of_ble_eq_true rfl, Nat.le_of_ble_eq_true rfl⟩) (fun r56 u31 H locs hu31 hP hD hS => ?_)
      obtain ⟨q36, pl⟩ := u31
      obtain ⟨⟨eq31, rfl, hFc31, -⟩, hO⟩ := hu31
      have hO : okn g T q36.2 pl := hO
      have hP : va_P g.1 vcl ([] ++ pl) _ := hP
      have hD : va_D _ ([] ++ pl) := hD
      have hFc31 : frm (M_DA_accepts_1) q35.2 q36.2 := hFc31
      replace hR := bnd_step hR eq31
      have hF := frm_tr hF hFc31 (fun k hk => by unfold M_DA_accepts_1 at hk; unfold M_K_verify; omega)
      have hf67 : q36.2.1 0 1 = nI tl := fc_F hf64 hFc31 (by unfold M_DA_accepts_1; omega)
      have hf68 : q36.2.1 0 3 = nI al := fc_F hf65 hFc31 (by unfold M_DA_accepts_1; omega)
      have hf69 : q36.2.1 0 5 = nI pn := fc_F hf66 hFc31 (by unfold M_DA_accepts_1; omega)
      have hbl25 : zo q36.1 := by rw [show q36 = _ from eq31]; exact ac1_bl
      refine W.widen (k := 0) (n := 0) (by omega) (by omega) ?_
      refine mi_eqv (fun z35 ez35 => ?_)
      replace hR := bnd_step hR ez35
      refine lv_istore (lv' := [(5, .int z35), (4, .ref r51), (3, .ref q34), (0, .ref h0), (1, .int v), (2, .int v2)]) hx hb dK_verify_78 hl (by decide) rfl (fun ls hl => ?_)
      refine lv_aload_n hx hb dK_verify_80 rfl (lv_at hl 3 rfl) ?_
      refine lv_iconst (v := nI 0) hx hb dK_verify_81 (by decide) ?_
      refine nw_put (C := "LatticeKeys") (TT := T_K) (N := 11) hx hb hts (wg_ft i_K) ty_K k_K n_K hown hK hO hU k_h0 (kn := 0) (ci := 0) (fl := [(3, 1), (0, 0), (3, 2), (0, 0), (3, 3), (0, 0), (3, 4), (3, 8), (3, 12), (3, 24), (3, 39)]) rfl hP hD hS rfl 1 (by decide) (hts _ (wg_t kw_375)) (fun _ h9 => h9) rfl (by decide +kernel) rfl dK_verify_82 (fun s25 pl H locs es25 hO hP hD hS => ?_)
      replace hR := bnd_step hR es25
      have hF := frm_sI hF es25 (by unfold M_K_verify; omega)
      have hf71 : s25.1 0 3 = nI al := fc_ne hf68 es25 (by omega)
      have hf72 : s25.1 0 5 = nI pn := fc_ne hf69 es25 (by omega)
      have hf73 : s25.1 0 1 = nI 0 := fc_eq es25
      refine lv_iload hx hb dK_verify_85 (lv_at hl 0 rfl) ?_
      refine et_ret ?_
      exact mp_zret hx hb hr hlk (nar_zo (by rw [ez35]; exact hbl25)) hP hD hS ((nI 0, z35, s25), pl) ⟨⟨hR.symm, rfl, rfl, hF, ⟨0, hf73, by omega⟩, ⟨al, hf71, by omega⟩, ⟨pn, hf72, by omega⟩, trivial⟩, hO⟩ [] rfl rfl rfl (by omega) (by omega) dK_verify_87
    · replace hR := hR.trans (if_pos h25)
      exact et_throw (own := "LatticeKeys") (cls := "java/lang/IllegalArgumentException") (text := "a context of another length, or a short tape") (names := ["java/lang/RuntimeException", "java/lang/Exception"]) (ik := 79) (is := 209) (ic := 83) hx hb htr ctr_IAE_0 ctr_IAE_1 ctr_IAE_2 ctr_IAE_5 hown (by decide) (by decide) (hts _ (wg_t kw_501)) (hts _ (wg_t kw_18)) (hX.2.2.2.2.2.1 16 ("LatticeKeys", 209, "a context of another length, or a short tape") rfl) (hat_IAE hts hX.2) hS.1 (hl.1.trans hml.symm) dK_verify_46 dK_verify_49 dK_verify_50 dK_verify_52 dK_verify_55 htab (Nat.le_of_ble_eq_true rfl) (Nat.le_of_ble_eq_true rfl) (Nat.le_of_ble_eq_true rfl) (Nat.le_of_ble_eq_true rfl) hlk (Nat.le_of_ble_eq_true rfl) (Nat.le_of_ble_eq_true rfl) (xls_at 1 (congrArg Prod.fst hR) (by decide) rfl) hS.2.2 (thr_st hX.2) (fun t hz9 hk9 => ⟨⟨((nI 2, nI 0, q35.2), pl), ⟨⟨hR.symm, hF, ⟨tl, hf64, by omega⟩, ⟨al, hf65, by omega⟩, ⟨pn, hf66, by omega⟩, trivial⟩, hO⟩, lc_P hP hk9, hD⟩, (lc_S hS hz9 hk9).F rfl⟩)
  replace hR := hR.trans (if_neg hs26)
  by_cases hs27 : q21.1 = nI 12
  · replace hR := hR.trans (if_pos hs27)
    obtain ⟨z36, q37, hz36, hv61, rfl, kr51⟩ := pfd_at (c := 11) hq21 (by decide) hs27
    have kr51 : T q37 = some (379 + 36 * z36 + 33) := kr51
    have ez36 : z36 = v.toNatClampNeg := by rw [hv61]; exact (nI_clamp (by omega)).symm
    replace hR := bnd_step hR ez36
    refine lv_astore_n (lv' := [(3, .ref q37), (0, .ref h0), (1, .int v), (2, .int v2)]) hx hb dK_verify_5 rfl hl (by decide) rfl (fun ls hl => ?_)
    refine lv_aload_n hx hb dK_verify_6 rfl (lv_at hl 0 rfl) ?_
    refine lv_ifnonnull (tgt := 20) hx hb dK_verify_7 (by decide) ?_
    refine lv_aload_n hx hb dK_verify_20 rfl (lv_at hl 1 rfl) ?_
    refine nw_get (C := "LatticeKeys") (TT := T_K) (N := 11) hx hb hts (wg_ft i_K) hown hK hO k_h0 (kn := 0) (ci := 0) (fl := [(3, 1), (0, 0), (3, 2), (0, 0), (3, 3), (0, 0), (3, 4), (3, 8), (3, 12), (3, 24), (3, 39)]) rfl hP rfl 7 (by decide) (hts _ (wg_t kw_381)) (fun _ h9 => h9) (cd := (3, 8)) rfl dK_verify_21 (fun v56 hv62 => ?_)
    obtain ⟨r57, rfl, kr52⟩ := (show ∃ r : Nat, v56 = .ref r ∧ T r = some 8 from hv62)
    refine lv_aload_n hx hb dK_verify_24 rfl (lv_at hl 0 rfl) ?_
    refine nw_get (C := "LatticeKeys$KeyPair") (TT := T_KP) (N := 3) hx hb hts (wg_ft i_KP) hown hK hO kr51 (kn := (379 + 36 * z36 + 33)) (ci := 13) (fl := [(1, 5), (3, (379 + 36 * z36 + 34)), (5, 0)]) (pr_o11 (z := z36) (by omega)) hP rfl 0 (by decide) (hts _ (wg_t kw_746)) (fun _ h9 => h9) (cd := (1, 5)) rfl dK_verify_25 (fun v57 hv63 => ?_)
    obtain rfl := (show v57 = .int (nI 5) from hv63)
    refine lv_iconst (v := nI 3) hx hb dK_verify_28 (by decide) ?_
    refine mi_isub hx hb dK_verify_29 (by omega) ?_
    refine mi_as (show nI (5 - 3) = nI 2 from rfl) ?_
    refine nw_aald7 hx hb hK hO kr52 (k := 8) (b := 9) rfl hP (by omega) (by omega) dK_verify_30 (fun r58 kr53 => ?_)
    refine lv_astore (lv' := [(4, .ref r58), (3, .ref q37), (0, .ref h0), (1, .int v), (2, .int v2)]) hx hb dK_verify_31 hl (by decide) rfl (fun ls hl => ?_)
    refine lv_aload_n hx hb dK_verify_33 rfl (lv_at hl 2 rfl) ?_
    refine lv_aload hx hb dK_verify_34 (lv_at hl 0 rfl) ?_
    refine nw_get (C := "LatticeKeys$DsaSet") (TT := T_DS) (N := 17) hx hb hts (wg_ft i_DS) hown hK hO kr53 (kn := 11) (ci := 2) (fl := [(1, 8), (1, 7), (1, 2), (1, 3), (1, 60), (1, 64), (1, 20), (1, 524288), (1, 16), (1, 4), (1, 261888), (1, 75), (1, 120), (1, 2592), (1, 4896), (1, 4544), (1, 4627)]) rfl hP rfl 16 (by decide) (hts _ (wg_t kw_337)) (fun _ h9 => h9) (cd := (1, 4627)) rfl dK_verify_36 (fun v58 hv64 => ?_)
    obtain rfl := (show v58 = .int (nI 4627) from hv64)
    refine lv_iload_n hx hb dK_verify_39 rfl (lv_at hl 4 rfl) ?_
    refine mp_i (cx := []) (wr := []) hP hD hS hA [] [] rfl rfl rfl (by decide) (va_runV (As := [.int (nI 4627), .int v2]) (rest := []) F (N_K_holdsContext l g _ T q21.2 pl hO hU h0 4627 v2 tl al pn k_h0 hf21 hf22 hf23 (by omega) (by omega) (by omega) (by omega)) (cwV 2 hts (wg_app (wg_c kw_1170 (wg_c kw_1172 (wg_c ks_33 (wg_c kw_1 wg_n)))) kw_1173) rfl rfl rfl (by decide +kernel) ⟨by decide, by decide⟩) (pn_W "LatticeKeys" (en_ok g) (ci := 0) (kn := 0) (fl := [(3, 1), (0, 0), (3, 2), (0, 0), (3, 3), (0, 0), (3, 4), (3, 8), (3, 12), (3, 24), (3, 39)]) hK hO k_h0 rfl hP hD hS hA hE [] rfl rfl rfl) rfl rfl hl.1 rfl (lv_room (Nat.le_of_ble_eq_true rfl)) dK_verify_40 ⟨Nat.le_of_ble_eq_true rfl, Nat.le_of_ble_eq_true rfl⟩) (fun r59 u32 H locs hu32 hP hD hS => ?_)
    obtain ⟨q38, pl⟩ := u32
    obtain ⟨⟨eq32, rfl, hFc32, hxp32, -⟩, hO⟩ := hu32
    have hO : okn g T q38.2 pl := hO
    have hP : va_P g.1 vcl ([] ++ pl) _ := hP
    have hD : va_D _ ([] ++ pl) := hD
    have hFc32 : frm (M_K_holdsContext) q21.2 q38.2 := hFc32
    replace hR := bnd_step hR eq32
    have hF := frm_tr hF hFc32 (fun k hk => by unfold M_K_holdsContext at hk; unfold M_K_verify; omega)
    have hf74 : q38.2.1 0 1 = nI tl := fc_F hf21 hFc32 (by unfold M_K_holdsContext; omega)
    have hf75 : q38.2.1 0 3 = nI al := fc_F hf22 hFc32 (by unfold M_K_holdsContext; omega)
    have hf76 : q38.2.1 0 5 = nI pn := fc_F hf23 hFc32 (by unfold M_K_holdsContext; omega)
    refine W.widen (k := 0) (n := 0) (by omega) (by omega) ?_
    refine lv_if_ne (tgt := 56) hx hb dK_verify_43 (by decide) (fun h26 => ?_) (fun h26 => ?_)
    · replace hR := hR.trans (if_neg h26)
      have hh9 := hxp32.resolve_left (fun h9 => h26 (h9.trans (by decide)))
      refine lv_aload_n hx hb dK_verify_56 rfl (lv_at hl 2 rfl) ?_
      refine nw_get (C := "LatticeKeys") (TT := T_K) (N := 11) hx hb hts (wg_ft i_K) hown hK hO k_h0 (kn := 0) (ci := 0) (fl := [(3, 1), (0, 0), (3, 2), (0, 0), (3, 3), (0, 0), (3, 4), (3, 8), (3, 12), (3, 24), (3, 39)]) rfl hP rfl 10 (by decide) (hts _ (wg_t kw_384)) (fun _ h9 => h9) (cd := (3, 39)) rfl dK_verify_57 (fun v59 hv65 => ?_)
      obtain ⟨r60, rfl, kr54⟩ := (show ∃ r : Nat, v59 = .ref r ∧ T r = some 39 from hv65)
      refine lv_aload hx hb dK_verify_60 (lv_at hl 0 rfl) ?_
      refine lv_aload_n hx hb dK_verify_62 rfl (lv_at hl 1 rfl) ?_
      refine nw_get (C := "LatticeKeys$KeyPair") (TT := T_KP) (N := 3) hx hb hts (wg_ft i_KP) hown hK hO kr51 (kn := (379 + 36 * z36 + 33)) (ci := 13) (fl := [(1, 5), (3, (379 + 36 * z36 + 34)), (5, 0)]) (pr_o11 (z := z36) (by omega)) hP rfl 1 (by decide) (hts _ (wg_t kw_749)) (fun _ h9 => h9) (cd := (3, (379 + 36 * z36 + 34))) rfl dK_verify_63 (fun v60 hv66 => ?_)
      obtain ⟨r61, rfl, kr55⟩ := (show ∃ r : Nat, v60 = .ref r ∧ T r = some (379 + 36 * z36 + 34) from hv66)
      refine lv_aload_n hx hb dK_verify_66 rfl (lv_at hl 2 rfl) ?_
      refine nw_get (C := "LatticeKeys") (TT := T_K) (N := 11) hx hb hts (wg_ft i_K) hown hK hO k_h0 (kn := 0) (ci := 0) (fl := [(3, 1), (0, 0), (3, 2), (0, 0), (3, 3), (0, 0), (3, 4), (3, 8), (3, 12), (3, 24), (3, 39)]) rfl hP rfl 0 (by decide) (hts _ (wg_t kw_374)) (fun _ h9 => h9) (cd := (3, 1)) rfl dK_verify_67 (fun v61 hv67 => ?_)
      obtain ⟨r62, rfl, kr56⟩ := (show ∃ r : Nat, v61 = .ref r ∧ T r = some 1 from hv67)
      refine lv_aload_n hx hb dK_verify_70 rfl (lv_at hl 2 rfl) ?_
      refine nw_get (C := "LatticeKeys") (TT := T_K) (N := 11) hx hb hts (wg_ft i_K) hown hK hO k_h0 (kn := 0) (ci := 0) (fl := [(3, 1), (0, 0), (3, 2), (0, 0), (3, 3), (0, 0), (3, 4), (3, 8), (3, 12), (3, 24), (3, 39)]) rfl hP rfl 1 (by decide) (hts _ (wg_t kw_375)) (fun _ h9 => h9) (cd := (0, 0)) rfl dK_verify_71 (fun v62 hv68 => ?_)
      obtain rfl := (show v62 = .int (q38.2.1 0 1) from hv68)
      obtain ⟨z37, ez37, hz37, hz38⟩ := cl_of (b := 2147483648) hf74 (by omega) (by decide)
      replace hR := bnd_step hR ez37
      refine mi_as hz37 ?_
      refine lv_iload_n hx hb dK_verify_74 rfl (lv_at hl 4 rfl) ?_
      refine mp_i (cx := []) (wr := []) hP hD hS hA [] [] rfl rfl rfl (by decide) (va_runV (As := [.ref r58, .ref r61, .ref r62, .int (nI z37), .int v2]) (rest := []) F (N_DA_accepts_2 l g _ T q38.2 pl hO hU r60 r58 r61 r62 (379 + 36 * z36 + 34) 1 16384 z37 v2 kr54 kr53 kr55 (pr_p11 (z := z36) (by omega)) kr56 rfl (by omega) (by omega) (by omega)) (cwV 5 hts (wg_app (wg_c kw_1261 (wg_c kw_1262 (wg_c kw_1263 (wg_c kw_5 wg_n)))) kw_1264) rfl rfl rfl (by decide +kernel) ⟨by decide, by decide⟩) (pn_W "LatticeKeys$Dsa" (en_ok g) (ci := 6) (kn := 39) (fl := [(3, 16), (3, 22), (3, 37), (3, 40), (3, 97), (3, 105), (3, 114), (3, 123), (3, 131), (3, 140), (3, 141), (3, 142), (3, 143), (3, 144), (3, 145), (3, 146), (3, 147)]) hK hO kr54 rfl hP hD hS hA hE [] rfl rfl rfl) rfl rfl hl.1 rfl (lv_room (Nat.le_of_ble_eq_true rfl)) dK_verify_75 ⟨Nat.le_of_ble_eq_true rfl, Nat.le_of_ble_eq_true rfl⟩) (fun r63 u33 H locs hu33 hP hD hS => ?_)
      obtain ⟨q39, pl⟩ := u33
      obtain ⟨⟨eq33, rfl, hFc33, -⟩, hO⟩ := hu33
      have hO : okn g T q39.2 pl := hO
      have hP : va_P g.1 vcl ([] ++ pl) _ := hP
      have hD : va_D _ ([] ++ pl) := hD
      have hFc33 : frm (M_DA_accepts_2) q38.2 q39.2 := hFc33
      replace hR := bnd_step hR eq33
      have hF := frm_tr hF hFc33 (fun k hk => by unfold M_DA_accepts_2 at hk; unfold M_K_verify; omega)
      have hf77 : q39.2.1 0 1 = nI tl := fc_F hf74 hFc33 (by unfold M_DA_accepts_2; omega)
      have hf78 : q39.2.1 0 3 = nI al := fc_F hf75 hFc33 (by unfold M_DA_accepts_2; omega)
      have hf79 : q39.2.1 0 5 = nI pn := fc_F hf76 hFc33 (by unfold M_DA_accepts_2; omega)
      have hbl26 : zo q39.1 := by rw [show q39 = _ from eq33]; exact ac2_bl
      refine W.widen (k := 0) (n := 0) (by omega) (by omega) ?_
      refine mi_eqv (fun z38 ez38 => ?_)
      replace hR := bnd_step hR ez38
      refine lv_istore (lv' := [(5, .int z38), (4, .ref r58), (3, .ref q37), (0, .ref h0), (1, .int v), (2, .int v2)]) hx hb dK_verify_78 hl (by decide) rfl (fun ls hl => ?_)
      refine lv_aload_n hx hb dK_verify_80 rfl (lv_at hl 3 rfl) ?_
      refine lv_iconst (v := nI 0) hx hb dK_verify_81 (by decide) ?_
      refine nw_put (C := "LatticeKeys") (TT := T_K) (N := 11) hx hb hts (wg_ft i_K) ty_K k_K n_K hown hK hO hU k_h0 (kn := 0) (ci := 0) (fl := [(3, 1), (0, 0), (3, 2), (0, 0), (3, 3), (0, 0), (3, 4), (3, 8), (3, 12), (3, 24), (3, 39)]) rfl hP hD hS rfl 1 (by decide) (hts _ (wg_t kw_375)) (fun _ h9 => h9) rfl (by decide +kernel) rfl dK_verify_82 (fun s26 pl H locs es26 hO hP hD hS => ?_)
      replace hR := bnd_step hR es26
      have hF := frm_sI hF es26 (by unfold M_K_verify; omega)
      have hf81 : s26.1 0 3 = nI al := fc_ne hf78 es26 (by omega)
      have hf82 : s26.1 0 5 = nI pn := fc_ne hf79 es26 (by omega)
      have hf83 : s26.1 0 1 = nI 0 := fc_eq es26
      refine lv_iload hx hb dK_verify_85 (lv_at hl 0 rfl) ?_
      refine et_ret ?_
      exact mp_zret hx hb hr hlk (nar_zo (by rw [ez38]; exact hbl26)) hP hD hS ((nI 0, z38, s26), pl) ⟨⟨hR.symm, rfl, rfl, hF, ⟨0, hf83, by omega⟩, ⟨al, hf81, by omega⟩, ⟨pn, hf82, by omega⟩, trivial⟩, hO⟩ [] rfl rfl rfl (by omega) (by omega) dK_verify_87
    · replace hR := hR.trans (if_pos h26)
      exact et_throw (own := "LatticeKeys") (cls := "java/lang/IllegalArgumentException") (text := "a context of another length, or a short tape") (names := ["java/lang/RuntimeException", "java/lang/Exception"]) (ik := 79) (is := 209) (ic := 83) hx hb htr ctr_IAE_0 ctr_IAE_1 ctr_IAE_2 ctr_IAE_5 hown (by decide) (by decide) (hts _ (wg_t kw_501)) (hts _ (wg_t kw_18)) (hX.2.2.2.2.2.1 16 ("LatticeKeys", 209, "a context of another length, or a short tape") rfl) (hat_IAE hts hX.2) hS.1 (hl.1.trans hml.symm) dK_verify_46 dK_verify_49 dK_verify_50 dK_verify_52 dK_verify_55 htab (Nat.le_of_ble_eq_true rfl) (Nat.le_of_ble_eq_true rfl) (Nat.le_of_ble_eq_true rfl) (Nat.le_of_ble_eq_true rfl) hlk (Nat.le_of_ble_eq_true rfl) (Nat.le_of_ble_eq_true rfl) (xls_at 1 (congrArg Prod.fst hR) (by decide) rfl) hS.2.2 (thr_st hX.2) (fun t hz9 hk9 => ⟨⟨((nI 2, nI 0, q38.2), pl), ⟨⟨hR.symm, hF, ⟨tl, hf74, by omega⟩, ⟨al, hf75, by omega⟩, ⟨pn, hf76, by omega⟩, trivial⟩, hO⟩, lc_P hP hk9, hD⟩, (lc_S hS hz9 hk9).F rfl⟩)
  replace hR := hR.trans (if_neg hs27)
  obtain ⟨c9, hc9, e9⟩ := pfd_mem hq21 hs21
  simp only [List.mem_cons, List.not_mem_nil, or_false] at hc9
  rcases hc9 with rfl | rfl | rfl | rfl | rfl | rfl
  · exact absurd e9 hs22
  · exact absurd e9 hs23
  · exact absurd e9 hs24
  · exact absurd e9 hs25
  · exact absurd e9 hs26
  · exact absurd e9 hs27
