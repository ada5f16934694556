set_option linter.all false
abbrev c_K_sign : ByteArray := prog_1_method_13_code
abbrev y_K_sign : MethodName := ⟨"LatticeKeys", "sign", "(II)I"⟩
abbrev w_K_sign : List Cond := Cond.code y_K_sign c_K_sign 6 (some .int) :: WG
theorem dK_sign_0 : decode c_K_sign 0 = .ok (.aload_n 0, 1) := by decide +kernel
theorem dK_sign_1 : decode c_K_sign 1 = .ok (.iload_n 1, 1) := by decide +kernel
theorem dK_sign_2 : decode c_K_sign 2 = .ok (.invokevirtual 200, 3) := by decide +kernel
theorem dK_sign_5 : decode c_K_sign 5 = .ok (.astore_n 3, 1) := by decide +kernel
theorem dK_sign_6 : decode c_K_sign 6 = .ok (.aload_n 3, 1) := by decide +kernel
theorem dK_sign_7 : decode c_K_sign 7 = .ok (.ifnull 10, 3) := by decide +kernel
theorem dK_sign_10 : decode c_K_sign 10 = .ok (.aload_n 3, 1) := by decide +kernel
theorem dK_sign_11 : decode c_K_sign 11 = .ok (.getfield 174, 3) := by decide +kernel
theorem dK_sign_14 : decode c_K_sign 14 = .ok (.ifnonnull 13, 3) := by decide +kernel
theorem dK_sign_17 : decode c_K_sign 17 = .ok (.new 156, 3) := by decide +kernel
theorem dK_sign_20 : decode c_K_sign 20 = .ok (.dup, 1) := by decide +kernel
theorem dK_sign_21 : decode c_K_sign 21 = .ok (.ldc 203, 2) := by decide +kernel
theorem dK_sign_23 : decode c_K_sign 23 = .ok (.invokespecial 160, 3) := by decide +kernel
theorem dK_sign_26 : decode c_K_sign 26 = .ok (.athrow, 1) := by decide +kernel
theorem dK_sign_27 : decode c_K_sign 27 = .ok (.aload_n 0, 1) := by decide +kernel
theorem dK_sign_28 : decode c_K_sign 28 = .ok (.bipush 32, 2) := by decide +kernel
theorem dK_sign_30 : decode c_K_sign 30 = .ok (.iload_n 2, 1) := by decide +kernel
theorem dK_sign_31 : decode c_K_sign 31 = .ok (.invokevirtual 205, 3) := by decide +kernel
theorem dK_sign_34 : decode c_K_sign 34 = .ok (.ifCond .ne 13, 3) := by decide +kernel
theorem dK_sign_37 : decode c_K_sign 37 = .ok (.new 79, 3) := by decide +kernel
theorem dK_sign_40 : decode c_K_sign 40 = .ok (.dup, 1) := by decide +kernel
theorem dK_sign_41 : decode c_K_sign 41 = .ok (.ldc 209, 2) := by decide +kernel
theorem dK_sign_43 : decode c_K_sign 43 = .ok (.invokespecial 83, 3) := by decide +kernel
theorem dK_sign_46 : decode c_K_sign 46 = .ok (.athrow, 1) := by decide +kernel
theorem dK_sign_47 : decode c_K_sign 47 = .ok (.aload_n 0, 1) := by decide +kernel
theorem dK_sign_48 : decode c_K_sign 48 = .ok (.getfield 40, 3) := by decide +kernel
theorem dK_sign_51 : decode c_K_sign 51 = .ok (.aload_n 3, 1) := by decide +kernel
theorem dK_sign_52 : decode c_K_sign 52 = .ok (.getfield 168, 3) := by decide +kernel
theorem dK_sign_55 : decode c_K_sign 55 = .ok (.iconst 3, 1) := by decide +kernel
theorem dK_sign_56 : decode c_K_sign 56 = .ok (.isub, 1) := by decide +kernel
theorem dK_sign_57 : decode c_K_sign 57 = .ok (.aaload, 1) := by decide +kernel
theorem dK_sign_58 : decode c_K_sign 58 = .ok (.astore 4, 2) := by decide +kernel
theorem dK_sign_60 : decode c_K_sign 60 = .ok (.aload_n 0, 1) := by decide +kernel
theorem dK_sign_61 : decode c_K_sign 61 = .ok (.getfield 61, 3) := by decide +kernel
theorem dK_sign_64 : decode c_K_sign 64 = .ok (.aload 4, 2) := by decide +kernel
theorem dK_sign_66 : decode c_K_sign 66 = .ok (.aload_n 3, 1) := by decide +kernel
theorem dK_sign_67 : decode c_K_sign 67 = .ok (.getfield 174, 3) := by decide +kernel
theorem dK_sign_70 : decode c_K_sign 70 = .ok (.aload_n 0, 1) := by decide +kernel
theorem dK_sign_71 : decode c_K_sign 71 = .ok (.getfield 9, 3) := by decide +kernel
theorem dK_sign_74 : decode c_K_sign 74 = .ok (.aload_n 0, 1) := by decide +kernel
theorem dK_sign_75 : decode c_K_sign 75 = .ok (.getfield 13, 3) := by decide +kernel
theorem dK_sign_78 : decode c_K_sign 78 = .ok (.iload_n 2, 1) := by decide +kernel
theorem dK_sign_79 : decode c_K_sign 79 = .ok (.aload_n 0, 1) := by decide +kernel
theorem dK_sign_80 : decode c_K_sign 80 = .ok (.getfield 17, 3) := by decide +kernel
theorem dK_sign_83 : decode c_K_sign 83 = .ok (.invokevirtual 211, 3) := by decide +kernel
theorem dK_sign_86 : decode c_K_sign 86 = .ok (.istore 5, 2) := by decide +kernel
theorem dK_sign_88 : decode c_K_sign 88 = .ok (.iload 5, 2) := by decide +kernel
theorem dK_sign_90 : decode c_K_sign 90 = .ok (.ifCond .ne 13, 3) := by decide +kernel
theorem dK_sign_93 : decode c_K_sign 93 = .ok (.new 69, 3) := by decide +kernel
theorem dK_sign_96 : decode c_K_sign 96 = .ok (.dup, 1) := by decide +kernel
theorem dK_sign_97 : decode c_K_sign 97 = .ok (.ldc 215, 2) := by decide +kernel
theorem dK_sign_99 : decode c_K_sign 99 = .ok (.invokespecial 73, 3) := by decide +kernel
theorem dK_sign_102 : decode c_K_sign 102 = .ok (.athrow, 1) := by decide +kernel
theorem dK_sign_103 : decode c_K_sign 103 = .ok (.aload_n 0, 1) := by decide +kernel
theorem dK_sign_104 : decode c_K_sign 104 = .ok (.iconst 0, 1) := by decide +kernel
theorem dK_sign_105 : decode c_K_sign 105 = .ok (.putfield 13, 3) := by decide +kernel
theorem dK_sign_108 : decode c_K_sign 108 = .ok (.aload_n 0, 1) := by decide +kernel
theorem dK_sign_109 : decode c_K_sign 109 = .ok (.aload 4, 2) := by decide +kernel
theorem dK_sign_111 : decode c_K_sign 111 = .ok (.getfield 217, 3) := by decide +kernel
theorem dK_sign_114 : decode c_K_sign 114 = .ok (.putfield 20, 3) := by decide +kernel
theorem dK_sign_117 : decode c_K_sign 117 = .ok (.iload 5, 2) := by decide +kernel
theorem dK_sign_119 : decode c_K_sign 119 = .ok (.ireturn, 1) := by decide +kernel
def M_K_sign (k : Nat) : Prop := (106 ≤ k ∧ k < 114) ∨ (115 ≤ k ∧ k < 123) ∨ (124 ≤ k ∧ k < 131) ∨ (132 ≤ k ∧ k < 140) ∨ (41 ≤ k ∧ k < 97) ∨ (98 ≤ k ∧ k < 105) ∨ k = 0 ∨ k = 140 ∨ k = 141 ∨ k = 142 ∨ k = 143 ∨ k = 144 ∨ k = 146 ∨ k = 147 ∨ k = 16 ∨ k = 18 ∨ k = 2 ∨ k = 38 ∨ (0 : Nat) = 1
noncomputable def F_K_sign (v : Int32) (v2 : Int32) (s : Sto) : Int32 × Int32 × Sto := bnd (F_K_findDsa v s) fun q21 => if q21.1 = nI 0 then (nI 1, nI 0, q21.2) else if q21.1 = nI 4 then bnd (v.toNatClampNeg) fun z21 => bnd (F_K_holdsContext 32 v2 q21.2) fun q23 => if (q23.1) = 0 then (nI 2, nI 0, q23.2) else bnd ((q23.2.1 0 1).toNatClampNeg) fun z22 => bnd (F_DA_makeSignature_0 (379 + 36 * z21 + 11) 1 16384 z22 v2 2 q23.2) fun q24 => bnd (q24.1) fun z23 => if z23 = 0 then (nI 3, nI 0, q24.2) else bnd (sI q24.2 0 1 (nI 0)) fun s21 => bnd (sI s21 0 3 (nI 2420)) fun s22 => (nI 0, z23, s22) else if q21.1 = nI 5 then bnd (v.toNatClampNeg) fun z24 => bnd (F_K_holdsContext 32 v2 q21.2) fun q26 => if (q26.1) = 0 then (nI 2, nI 0, q26.2) else bnd ((q26.2.1 0 1).toNatClampNeg) fun z25 => bnd (F_DA_makeSignature_1 (379 + 36 * z24 + 14) 1 16384 z25 v2 2 q26.2) fun q27 => bnd (q27.1) fun z26 => if z26 = 0 then (nI 3, nI 0, q27.2) else bnd (sI q27.2 0 1 (nI 0)) fun s23 => bnd (sI s23 0 3 (nI 3309)) fun s24 => (nI 0, z26, s24) else if q21.1 = nI 6 then bnd (v.toNatClampNeg) fun z27 => bnd (F_K_holdsContext 32 v2 q21.2) fun q29 => if (q29.1) = 0 then (nI 2, nI 0, q29.2) else bnd ((q29.2.1 0 1).toNatClampNeg) fun z28 => bnd (F_DA_makeSignature_2 (379 + 36 * z27 + 17) 1 16384 z28 v2 2 q29.2) fun q30 => bnd (q30.1) fun z29 => if z29 = 0 then (nI 3, nI 0, q30.2) else bnd (sI q30.2 0 1 (nI 0)) fun s25 => bnd (sI s25 0 3 (nI 4627)) fun s26 => (nI 0, z29, s26) else if q21.1 = nI 10 then bnd (v.toNatClampNeg) fun z30 => (nI 1, nI 0, q21.2) else if q21.1 = nI 11 then bnd (v.toNatClampNeg) fun z31 => (nI 1, nI 0, q21.2) else if q21.1 = nI 12 then bnd (v.toNatClampNeg) fun z32 => (nI 1, nI 0, q21.2) else (nI 0, nI 0, q21.2)
set_option maxHeartbeats 2000000 in
set_option maxRecDepth 100000 in
theorem N_K_sign (l : Launch) (htr : l.stackTraces = false) (g : Gd) (sz : Nat) (T : TyN) (s : Sto) (pl : va_W) (hO : okn g T s pl) (hU : inj T) (h0 : Nat) (v : Int32) (v2 : Int32) (tl : Nat) (al : Nat) (pn : Nat) (k_h0 : T h0 = some 0) (e_tl : s.1 0 1 = nI tl) (e_al : s.1 0 3 = nI al) (e_pn : s.1 0 5 = nI pn) (h1 : tl ≤ 16384) (h2 : al ≤ 8192) (h3 : pn ≤ 8)  : etMet l y_K_sign w_K_sign ({ frames := 7, cells := 1, slots := 6, locals := 203 } : Room) (va_Pc [.ref h0, .int v, .int v2] (pr (ex g) g.1 vcl sz ([] ++ pl))) (xls ["java/util/NoSuchElementException", "java/lang/IllegalArgumentException", "java/lang/IllegalStateException"] (F_K_sign v v2 s).1) (va_Qi (fun (r : Int32) (u : (Int32 × Int32 × Sto) × va_W) => (u.1 = F_K_sign v v2 s ∧ r = u.1.2.1 ∧ u.1.1 = nI 0 ∧ frm (M_K_sign) s u.1.2.2 ∧ (∃ x : Nat, u.1.2.2.1 0 1 = nI x ∧ x ≤ 16384) ∧ (∃ x : Nat, u.1.2.2.1 0 3 = nI x ∧ x ≤ 8192) ∧ (∃ x : Nat, u.1.2.2.1 0 5 = nI x ∧ x = pn) ∧ True) ∧ okn g T u.1.2.2 u.2) (po g.1 vcl (va_A ([] ++ pl) sz) (fun (u : (Int32 × Int32 × Sto) × va_W) => [] ++ u.2)) (va_A ([] ++ pl) sz)) (xtP (fun (u : (Int32 × Int32 × Sto) × va_W) => (u.1 = F_K_sign v v2 s ∧ frm (M_K_sign) s u.1.2.2 ∧ (∃ x : Nat, u.1.2.2.1 0 1 = nI x ∧ x ≤ 16384) ∧ (∃ x : Nat, u.1.2.2.1 0 3 = nI x ∧ x ≤ 8192) ∧ (∃ x : Nat, u.1.2.2.1 0 5 = nI x ∧ x = pn) ∧ True) ∧ okn g T u.1.2.2 u.2) (po g.1 vcl (va_A ([] ++ pl) sz) (fun (u : (Int32 × Int32 × Sto) × va_W) => [] ++ u.2)) (va_A ([] ++ pl) sz)) 1 6 (va_A ([] ++ pl) sz) := by
  refine et_entry (cc := c_K_sign) (maxL := 6) (ret := (some .int)) (by decide) rfl (Nat.le_of_ble_eq_true rfl) ?_
  intro p e s0 m args below meth c ls F hr hlk htab hsz hP hD hX hA hl
  obtain ⟨hx, hb, hml, hown, hts⟩ := id F
  have hE := hX.1
  have hK := hE.1
  generalize va_A ([] ++ pl) sz = A at hD hX hE hA ⊢
  have hS : va_S A s0.heap s0.heap [] := va_S.rf
  have hl : lv_has ls 6 [(0, .ref h0), (1, .int v), (2, .int v2)] := hl
  have hR : F_K_sign v v2 s = F_K_sign v v2 s := rfl
  have hF : frm (M_K_sign) s s := frm_rf
  refine lv_aload_n hx hb dK_sign_0 rfl (lv_at hl 0 rfl) ?_
  refine lv_iload_n hx hb dK_sign_1 rfl (lv_at hl 1 rfl) ?_
  refine mp_q (cx := []) (wr := []) hP hD hS hA [] [] rfl rfl rfl (by decide) (va_runV (As := [.int v]) (rest := []) F (N_K_findDsa l g _ T s pl hO hU h0 v tl al pn k_h0 e_tl e_al e_pn (by omega)) (cwV 1 hts (wg_app (wg_c kw_1165 (wg_c kw_1167 (wg_c ks_32 (wg_c kw_1 wg_n)))) kw_1168) rfl rfl rfl (by decide +kernel) ⟨by decide, by decide⟩) (pn_W "LatticeKeys" (en_ok g) (ci := 0) (kn := 0) (fl := [(3, 1), (0, 0), (3, 2), (0, 0), (3, 3), (0, 0), (3, 4), (3, 8), (3, 12), (3, 24), (3, 39)]) hK hO k_h0 rfl hP hD hS hA hE [] rfl rfl rfl) rfl rfl hl.1 rfl (lv_room (Nat.le_of_ble_eq_true rfl)) dK_sign_2 ⟨Nat.le_of_ble_eq_true rfl, Nat.le_of_ble_eq_true rfl⟩) (fun r21 u21 H locs hu21 hP hD hS => ?_)
  obtain ⟨q21, pl⟩ := u21
  obtain ⟨⟨eq21, hq21, hFc21, -⟩, hO⟩ := hu21
  have hO : okn g T q21.2 pl := hO
  have hP : va_P g.1 vcl ([] ++ pl) _ := hP
  have hD : va_D _ ([] ++ pl) := hD
  have hFc21 : frm (M_K_findDsa) s q21.2 := hFc21
  replace hR := bnd_step hR eq21
  have hF := frm_tr hF hFc21 (fun k hk => by unfold M_K_findDsa at hk; unfold M_K_sign; omega)
  have hf21 : q21.2.1 0 1 = nI tl := fc_F e_tl hFc21 (by unfold M_K_findDsa; omega)
  have hf22 : q21.2.1 0 3 = nI al := fc_F e_al hFc21 (by unfold M_K_findDsa; omega)
  have hf23 : q21.2.1 0 5 = nI pn := fc_F e_pn hFc21 (by unfold M_K_findDsa; omega)
  refine W.widen (k := 0) (n := 0) (by omega) (by omega) ?_
  by_cases hs21 : q21.1 = nI 0
  · replace hR := hR.trans (if_pos hs21)
    obtain rfl : r21 = none := pfd_none hq21 hs21
    refine lv_astore_nN (lv' := [(3, .null), (0, .ref h0), (1, .int v), (2, .int v2)]) hx hb dK_sign_5 rfl hl (by decide) rfl (fun ls hl => ?_)
    refine lv_aload_nN hx hb dK_sign_6 rfl (lv_at hl 0 rfl) ?_
    refine lv_ifnullN (tgt := 17) hx hb dK_sign_7 (by decide) ?_
    exact et_throw (own := "LatticeKeys") (cls := "java/util/NoSuchElementException") (text := "no such keys of ML-DSA with a secret part") (names := ["java/lang/RuntimeException", "java/lang/Exception"]) (ik := 156) (is := 203) (ic := 160) hx hb htr ctr_NSE_0 ctr_NSE_1 ctr_NSE_2 ctr_NSE_5 hown (by decide) (by decide) (hts _ (wg_t kw_1064)) (hts _ (wg_t kw_34)) (hX.2.2.2.2.2.1 15 ("LatticeKeys", 203, "no such keys of ML-DSA with a secret part") rfl) (hat_NSE hts hX.2) hS.1 (hl.1.trans hml.symm) dK_sign_17 dK_sign_20 dK_sign_21 dK_sign_23 dK_sign_26 htab (Nat.le_of_ble_eq_true rfl) (Nat.le_of_ble_eq_true rfl) (Nat.le_of_ble_eq_true rfl) (Nat.le_of_ble_eq_true rfl) hlk (Nat.le_of_ble_eq_true rfl) (Nat.le_of_ble_eq_true rfl) (xls_at 0 (congrArg Prod.fst hR) (by decide) rfl) hS.2.2 (thr_st hX.2) (fun t hz9 hk9 => ⟨⟨((nI 1, nI 0, q21.2), pl), ⟨⟨hR.symm, hF, ⟨tl, hf21, by omega⟩, ⟨al, hf22, by omega⟩, ⟨pn, hf23, by omega⟩, trivial⟩, hO⟩, lc_P hP hk9, hD⟩, (lc_S hS hz9 hk9).F rfl⟩)
  replace hR := hR.trans (if_neg hs21)
  by_cases hs22 : q21.1 = nI 4
  · replace hR := hR.trans (if_pos hs22)
    obtain ⟨z21, q22, hz21, hv21, rfl, kr21⟩ := pfd_at (c := 3) hq21 (by decide) hs22
    have kr21 : T q22 = some (379 + 36 * z21 + 9) := kr21
    have ez21 : z21 = v.toNatClampNeg := by rw [hv21]; exact (nI_clamp (by omega)).symm
    replace hR := bnd_step hR ez21
    refine lv_astore_n (lv' := [(3, .ref q22), (0, .ref h0), (1, .int v), (2, .int v2)]) hx hb dK_sign_5 rfl hl (by decide) rfl (fun ls hl => ?_)
    refine lv_aload_n hx hb dK_sign_6 rfl (lv_at hl 0 rfl) ?_
    refine lv_ifnull hx hb dK_sign_7 ?_
    refine lv_aload_n hx hb dK_sign_10 rfl (lv_at hl 0 rfl) ?_
    refine nw_get (C := "LatticeKeys$KeyPair") (TT := T_KP) (N := 3) hx hb hts (wg_ft i_KP) hown hK hO kr21 (kn := (379 + 36 * z21 + 9)) (ci := 13) (fl := [(1, 3), (3, (379 + 36 * z21 + 10)), (3, (379 + 36 * z21 + 11))]) (pr_o3 (z := z21) (by omega)) hP rfl 2 (by decide) (hts _ (wg_t kw_752)) (fun _ h9 => h9) (cd := (3, (379 + 36 * z21 + 11))) rfl dK_sign_11 (fun v21 hv22 => ?_)
    obtain ⟨r22, rfl, kr22⟩ := (show ∃ r : Nat, v21 = .ref r ∧ T r = some (379 + 36 * z21 + 11) from hv22)
    refine lv_ifnonnull (tgt := 27) hx hb dK_sign_14 (by decide) ?_
    refine lv_aload_n hx hb dK_sign_27 rfl (lv_at hl 1 rfl) ?_
    refine lv_bipush (v := nI 32) hx hb dK_sign_28 (by decide) ?_
    refine lv_iload_n hx hb dK_sign_30 rfl (lv_at hl 3 rfl) ?_
    refine mp_i (cx := []) (wr := []) hP hD hS hA [] [] rfl rfl rfl (by decide) (va_runV (As := [.int (nI 32), .int v2]) (rest := []) F (N_K_holdsContext l g _ T q21.2 pl hO hU h0 32 v2 tl al pn k_h0 hf21 hf22 hf23 (by omega) (by omega) (by omega) (by omega)) (cwV 2 hts (wg_app (wg_c kw_1170 (wg_c kw_1172 (wg_c ks_33 (wg_c kw_1 wg_n)))) kw_1173) rfl rfl rfl (by decide +kernel) ⟨by decide, by decide⟩) (pn_W "LatticeKeys" (en_ok g) (ci := 0) (kn := 0) (fl := [(3, 1), (0, 0), (3, 2), (0, 0), (3, 3), (0, 0), (3, 4), (3, 8), (3, 12), (3, 24), (3, 39)]) hK hO k_h0 rfl hP hD hS hA hE [] rfl rfl rfl) rfl rfl hl.1 rfl (lv_room (Nat.le_of_ble_eq_true rfl)) dK_sign_31 ⟨Nat.le_of_ble_eq_true rfl, Nat.le_of_ble_eq_true rfl⟩) (fun r23 u22 H locs hu22 hP hD hS => ?_)
    obtain ⟨q23, pl⟩ := u22
    obtain ⟨⟨eq22, rfl, hFc22, hxp22, -⟩, hO⟩ := hu22
    have hO : okn g T q23.2 pl := hO
    have hP : va_P g.1 vcl ([] ++ pl) _ := hP
    have hD : va_D _ ([] ++ pl) := hD
    have hFc22 : frm (M_K_holdsContext) q21.2 q23.2 := hFc22
    replace hR := bnd_step hR eq22
    have hF := frm_tr hF hFc22 (fun k hk => by unfold M_K_holdsContext at hk; unfold M_K_sign; omega)
    have hf24 : q23.2.1 0 1 = nI tl := fc_F hf21 hFc22 (by unfold M_K_holdsContext; omega)
    have hf25 : q23.2.1 0 3 = nI al := fc_F hf22 hFc22 (by unfold M_K_holdsContext; omega)
    have hf26 : q23.2.1 0 5 = nI pn := fc_F hf23 hFc22 (by unfold M_K_holdsContext; omega)
    refine W.widen (k := 0) (n := 0) (by omega) (by omega) ?_
    refine lv_if_ne (tgt := 47) hx hb dK_sign_34 (by decide) (fun h21 => ?_) (fun h21 => ?_)
    · replace hR := hR.trans (if_neg h21)
      have hh9 := hxp22.resolve_left (fun h9 => h21 (h9.trans (by decide)))
      refine lv_aload_n hx hb dK_sign_47 rfl (lv_at hl 1 rfl) ?_
      refine nw_get (C := "LatticeKeys") (TT := T_K) (N := 11) hx hb hts (wg_ft i_K) hown hK hO k_h0 (kn := 0) (ci := 0) (fl := [(3, 1), (0, 0), (3, 2), (0, 0), (3, 3), (0, 0), (3, 4), (3, 8), (3, 12), (3, 24), (3, 39)]) rfl hP rfl 7 (by decide) (hts _ (wg_t kw_381)) (fun _ h9 => h9) (cd := (3, 8)) rfl dK_sign_48 (fun v22 hv23 => ?_)
      obtain ⟨r24, rfl, kr23⟩ := (show ∃ r : Nat, v22 = .ref r ∧ T r = some 8 from hv23)
      refine lv_aload_n hx hb dK_sign_51 rfl (lv_at hl 0 rfl) ?_
      refine nw_get (C := "LatticeKeys$KeyPair") (TT := T_KP) (N := 3) hx hb hts (wg_ft i_KP) hown hK hO kr21 (kn := (379 + 36 * z21 + 9)) (ci := 13) (fl := [(1, 3), (3, (379 + 36 * z21 + 10)), (3, (379 + 36 * z21 + 11))]) (pr_o3 (z := z21) (by omega)) hP rfl 0 (by decide) (hts _ (wg_t kw_746)) (fun _ h9 => h9) (cd := (1, 3)) rfl dK_sign_52 (fun v23 hv24 => ?_)
      obtain rfl := (show v23 = .int (nI 3) from hv24)
      refine lv_iconst (v := nI 3) hx hb dK_sign_55 (by decide) ?_
      refine mi_isub hx hb dK_sign_56 (by omega) ?_
      refine mi_as (show nI (3 - 3) = nI 0 from rfl) ?_
      refine nw_aald7 hx hb hK hO kr23 (k := 8) (b := 9) rfl hP (by omega) (by omega) dK_sign_57 (fun r25 kr24 => ?_)
      refine lv_astore (lv' := [(4, .ref r25), (3, .ref q22), (0, .ref h0), (1, .int v), (2, .int v2)]) hx hb dK_sign_58 hl (by decide) rfl (fun ls hl => ?_)
      refine lv_aload_n hx hb dK_sign_60 rfl (lv_at hl 2 rfl) ?_
      refine nw_get (C := "LatticeKeys") (TT := T_K) (N := 11) hx hb hts (wg_ft i_K) hown hK hO k_h0 (kn := 0) (ci := 0) (fl := [(3, 1), (0, 0), (3, 2), (0, 0), (3, 3), (0, 0), (3, 4), (3, 8), (3, 12), (3, 24), (3, 39)]) rfl hP rfl 10 (by decide) (hts _ (wg_t kw_384)) (fun _ h9 => h9) (cd := (3, 39)) rfl dK_sign_61 (fun v24 hv25 => ?_)
      obtain ⟨r26, rfl, kr25⟩ := (show ∃ r : Nat, v24 = .ref r ∧ T r = some 39 from hv25)
      refine lv_aload hx hb dK_sign_64 (lv_at hl 0 rfl) ?_
      refine lv_aload_n hx hb dK_sign_66 rfl (lv_at hl 1 rfl) ?_
      refine nw_get (C := "LatticeKeys$KeyPair") (TT := T_KP) (N := 3) hx hb hts (wg_ft i_KP) hown hK hO kr21 (kn := (379 + 36 * z21 + 9)) (ci := 13) (fl := [(1, 3), (3, (379 + 36 * z21 + 10)), (3, (379 + 36 * z21 + 11))]) (pr_o3 (z := z21) (by omega)) hP rfl 2 (by decide) (hts _ (wg_t kw_752)) (fun _ h9 => h9) (cd := (3, (379 + 36 * z21 + 11))) rfl dK_sign_67 (fun v25 hv26 => ?_)
      obtain ⟨r27, rfl, kr26⟩ := (show ∃ r : Nat, v25 = .ref r ∧ T r = some (379 + 36 * z21 + 11) from hv26)
      refine lv_aload_n hx hb dK_sign_70 rfl (lv_at hl 2 rfl) ?_
      refine nw_get (C := "LatticeKeys") (TT := T_K) (N := 11) hx hb hts (wg_ft i_K) hown hK hO k_h0 (kn := 0) (ci := 0) (fl := [(3, 1), (0, 0), (3, 2), (0, 0), (3, 3), (0, 0), (3, 4), (3, 8), (3, 12), (3, 24), (3, 39)]) rfl hP rfl 0 (by decide) (hts _ (wg_t kw_374)) (fun _ h9 => h9) (cd := (3, 1)) rfl dK_sign_71 (fun v26 hv27 => ?_)
      obtain ⟨r28, rfl, kr27⟩ := (show ∃ r : Nat, v26 = .ref r ∧ T r = some 1 from hv27)
      refine lv_aload_n hx hb dK_sign_74 rfl (lv_at hl 2 rfl) ?_
      refine nw_get (C := "LatticeKeys") (TT := T_K) (N := 11) hx hb hts (wg_ft i_K) hown hK hO k_h0 (kn := 0) (ci := 0) (fl := [(3, 1), (0, 0), (3, 2), (0, 0), (3, 3), (0, 0), (3, 4), (3, 8), (3, 12), (3, 24), (3, 39)]) rfl hP rfl 1 (by decide) (hts _ (wg_t kw_375)) (fun _ h9 => h9) (cd := (0, 0)) rfl dK_sign_75 (fun v27 hv28 => ?_)
      obtain rfl := (show v27 = .int (q23.2.1 0 1) from hv28)
      obtain ⟨z22, ez22, hz22, hz23⟩ := cl_of (b := 2147483648) hf24 (by omega) (by decide)
      replace hR := bnd_step hR ez22
      refine mi_as hz22 ?_
      refine lv_iload_n hx hb dK_sign_78 rfl (lv_at hl 4 rfl) ?_
      refine lv_aload_n hx hb dK_sign_79 rfl (lv_at hl 2 rfl) ?_
      refine nw_get (C := "LatticeKeys") (TT := T_K) (N := 11) hx hb hts (wg_ft i_K) hown hK hO k_h0 (kn := 0) (ci := 0) (fl := [(3, 1), (0, 0), (3, 2), (0, 0), (3, 3), (0, 0), (3, 4), (3, 8), (3, 12), (3, 24), (3, 39)]) rfl hP rfl 2 (by decide) (hts _ (wg_t kw_376)) (fun _ h9 => h9) (cd := (3, 2)) rfl dK_sign_80 (fun v28 hv29 => ?_)
      obtain ⟨r29, rfl, kr28⟩ := (show ∃ r : Nat, v28 = .ref r ∧ T r = some 2 from hv29)
      refine mp_i (cx := []) (wr := []) hP hD hS hA [] [] rfl rfl rfl (by decide) (va_runV (As := [.ref r25, .ref r27, .ref r28, .int (nI z22), .int v2, .ref r29]) (rest := []) F (N_DA_makeSignature_0 l g _ T q23.2 pl hO hU r26 r25 r27 r28 r29 (379 + 36 * z21 + 11) 1 16384 z22 v2 2 kr25 kr24 kr26 (pr_s3 (z := z21) (by omega)) kr27 rfl kr28 rfl (by omega) (by omega) (by omega)) (cwV 6 hts (wg_app (wg_c kw_1175 (wg_c kw_1176 (wg_c kw_1177 (wg_c kw_5 wg_n)))) kw_1178) rfl rfl rfl (by decide +kernel) ⟨by decide, by decide⟩) (pn_W "LatticeKeys$Dsa" (en_ok g) (ci := 6) (kn := 39) (fl := [(3, 16), (3, 22), (3, 37), (3, 40), (3, 97), (3, 105), (3, 114), (3, 123), (3, 131), (3, 140), (3, 141), (3, 142), (3, 143), (3, 144), (3, 145), (3, 146), (3, 147)]) hK hO kr25 rfl hP hD hS hA hE [] rfl rfl rfl) rfl rfl hl.1 rfl (lv_room (Nat.le_of_ble_eq_true rfl)) dK_sign_83 ⟨Nat.le_of_ble_eq_true rfl, Nat.le_of_ble_eq_true rfl⟩) (fun r30 u23 H locs hu23 hP hD hS => ?_)
      obtain ⟨q24, pl⟩ := u23
      obtain ⟨⟨eq23, rfl, hFc23, -⟩, hO⟩ := hu23
      have hO : okn g T q24.2 pl := hO
      have hP : va_P g.1 vcl ([] ++ pl) _ := hP
      have hD : va_D _ ([] ++ pl) := hD
      have hFc23 : frm (M_DA_makeSignature_0 2) q23.2 q24.2 := hFc23
      replace hR := bnd_step hR eq23
      have hF := frm_tr hF hFc23 (fun k hk => by unfold M_DA_makeSignature_0 at hk; unfold M_K_sign; omega)
      have hf27 : q24.2.1 0 1 = nI tl := fc_F hf24 hFc23 (by unfold M_DA_makeSignature_0; omega)
      have hf28 : q24.2.1 0 3 = nI al := fc_F hf25 hFc23 (by unfold M_DA_makeSignature_0; omega)
      have hf29 : q24.2.1 0 5 = nI pn := fc_F hf26 hFc23 (by unfold M_DA_makeSignature_0; omega)
      refine W.widen (k := 0) (n := 0) (by omega) (by omega) ?_
      refine mi_eqv (fun z23 ez23 => ?_)
      replace hR := bnd_step hR ez23
      refine lv_istore (lv' := [(5, .int z23), (4, .ref r25), (3, .ref q22), (0, .ref h0), (1, .int v), (2, .int v2)]) hx hb dK_sign_86 hl (by decide) rfl (fun ls hl => ?_)
      refine lv_iload hx hb dK_sign_88 (lv_at hl 0 rfl) ?_
      refine lv_if_ne (tgt := 103) hx hb dK_sign_90 (by decide) (fun h22 => ?_) (fun h22 => ?_)
      · replace hR := hR.trans (if_neg h22)
        refine lv_aload_n hx hb dK_sign_103 rfl (lv_at hl 3 rfl) ?_
        refine lv_iconst (v := nI 0) hx hb dK_sign_104 (by decide) ?_
        refine nw_put (C := "LatticeKeys") (TT := T_K) (N := 11) hx hb hts (wg_ft i_K) ty_K k_K n_K hown hK hO hU k_h0 (kn := 0) (ci := 0) (fl := [(3, 1), (0, 0), (3, 2), (0, 0), (3, 3), (0, 0), (3, 4), (3, 8), (3, 12), (3, 24), (3, 39)]) rfl hP hD hS rfl 1 (by decide) (hts _ (wg_t kw_375)) (fun _ h9 => h9) rfl (by decide +kernel) rfl dK_sign_105 (fun s21 pl H locs es21 hO hP hD hS => ?_)
        replace hR := bnd_step hR es21
        have hF := frm_sI hF es21 (by unfold M_K_sign; omega)
        have hf31 : s21.1 0 3 = nI al := fc_ne hf28 es21 (by omega)
        have hf32 : s21.1 0 5 = nI pn := fc_ne hf29 es21 (by omega)
        have hf33 : s21.1 0 1 = nI 0 := fc_eq es21
        refine lv_aload_n hx hb dK_sign_108 rfl (lv_at hl 3 rfl) ?_
        refine lv_aload hx hb dK_sign_109 (lv_at hl 1 rfl) ?_
        refine nw_get (C := "LatticeKeys$DsaSet") (TT := T_DS) (N := 17) hx hb hts (wg_ft i_DS) hown hK hO kr24 (kn := 9) (ci := 2) (fl := [(1, 4), (1, 4), (1, 2), (1, 3), (1, 39), (1, 32), (1, 18), (1, 131072), (1, 44), (1, 6), (1, 95232), (1, 80), (1, 78), (1, 1312), (1, 2560), (1, 2336), (1, 2420)]) rfl hP rfl 16 (by decide) (hts _ (wg_t kw_337)) (fun _ h9 => h9) (cd := (1, 2420)) rfl dK_sign_111 (fun v29 hv30 => ?_)
        obtain rfl := (show v29 = .int (nI 2420) from hv30)
        refine nw_put (C := "LatticeKeys") (TT := T_K) (N := 11) hx hb hts (wg_ft i_K) ty_K k_K n_K hown hK hO hU k_h0 (kn := 0) (ci := 0) (fl := [(3, 1), (0, 0), (3, 2), (0, 0), (3, 3), (0, 0), (3, 4), (3, 8), (3, 12), (3, 24), (3, 39)]) rfl hP hD hS rfl 3 (by decide) (hts _ (wg_t kw_377)) (fun _ h9 => h9) rfl (by decide +kernel) rfl dK_sign_114 (fun s22 pl H locs es22 hO hP hD hS => ?_)
        replace hR := bnd_step hR es22
        have hF := frm_sI hF es22 (by unfold M_K_sign; omega)
        have hf35 : s22.1 0 5 = nI pn := fc_ne hf32 es22 (by omega)
        have hf36 : s22.1 0 1 = nI 0 := fc_ne hf33 es22 (by omega)
        have hf37 : s22.1 0 3 = nI 2420 := fc_eq es22
        refine lv_iload hx hb dK_sign_117 (lv_at hl 0 rfl) ?_
        refine et_ret ?_
        exact mp_iret hx hb hr hlk hP hD hS ((nI 0, z23, s22), pl) ⟨⟨hR.symm, rfl, rfl, hF, ⟨0, hf36, by omega⟩, ⟨2420, hf37, by omega⟩, ⟨pn, hf35, by omega⟩, trivial⟩, hO⟩ [] rfl rfl rfl (by omega) (by omega) dK_sign_119
      · replace hR := hR.trans (if_pos h22)
        exact et_throw (own := "LatticeKeys") (cls := "java/lang/IllegalStateException") (text := "no signature was found in time") (names := ["java/lang/RuntimeException", "java/lang/Exception"]) (ik := 69) (is := 215) (ic := 73) hx hb htr ctr_ISE_0 ctr_ISE_1 ctr_ISE_2 ctr_ISE_5 hown (by decide) (by decide) (hts _ (wg_t kw_420)) (hts _ (wg_t kw_17)) (hX.2.2.2.2.2.1 17 ("LatticeKeys", 215, "no signature was found in time") rfl) (hat_ISE hts hX.2) hS.1 (hl.1.trans hml.symm) dK_sign_93 dK_sign_96 dK_sign_97 dK_sign_99 dK_sign_102 htab (Nat.le_of_ble_eq_true rfl) (Nat.le_of_ble_eq_true rfl) (Nat.le_of_ble_eq_true rfl) (Nat.le_of_ble_eq_true rfl) hlk (Nat.le_of_ble_eq_true rfl) (Nat.le_of_ble_eq_true rfl) (xls_at 2 (congrArg Prod.fst hR) (by decide) rfl) hS.2.2 (thr_st hX.2) (fun t hz9 hk9 => ⟨⟨((nI 3, nI 0, q24.2), pl), ⟨⟨hR.symm, hF, ⟨tl, hf27, by omega⟩, ⟨al, hf28, by omega⟩, ⟨pn, hf29, by omega⟩, trivial⟩, hO⟩, lc_P hP hk9, hD⟩, (lc_S hS hz9 hk9).F rfl⟩)
    · replace hR := hR.trans (if_pos h21)
      exact et_throw (own := "LatticeKeys") (cls := "java/lang/IllegalArgumentException") (text := "a context of another length, or a short tape") (names := ["java/lang/RuntimeException", "java/lang/Exception"]) (ik := 79) (is := 209) (ic := 83) hx hb htr ctr_IAE_0 ctr_IAE_1 ctr_IAE_2 ctr_IAE_5 hown (by decide) (by decide) (hts _ (wg_t kw_501)) (hts _ (wg_t kw_18)) (hX.2.2.2.2.2.1 16 ("LatticeKeys", 209, "a context of another length, or a short tape") rfl) (hat_IAE hts hX.2) hS.1 (hl.1.trans hml.symm) dK_sign_37 dK_sign_40 dK_sign_41 dK_sign_43 dK_sign_46 htab (Nat.le_of_ble_eq_true rfl) (Nat.le_of_ble_eq_true rfl) (Nat.le_of_ble_eq_true rfl) (Nat.le_of_ble_eq_true rfl) hlk (Nat.le_of_ble_eq_true rfl) (Nat.le_of_ble_eq_true rfl) (xls_at 1 (congrArg Prod.fst hR) (by decide) rfl) hS.2.2 (thr_st hX.2) (fun t hz9 hk9 => ⟨⟨((nI 2, nI 0, q23.2), pl), ⟨⟨hR.symm, hF, ⟨tl, hf24, by omega⟩, ⟨al, hf25, by omega⟩, ⟨pn, hf26, by omega⟩, trivial⟩, hO⟩, lc_P hP hk9, hD⟩, (lc_S hS hz9 hk9).F rfl⟩)
  replace hR := hR.trans (if_neg hs22)
  by_cases hs23 : q21.1 = nI 5
  · replace hR := hR.trans (if_pos hs23)
    obtain ⟨z24, q25, hz24, hv31, rfl, kr29⟩ := pfd_at (c := 4) hq21 (by decide) hs23
    have kr29 : T q25 = some (379 + 36 * z24 + 12) := kr29
    have ez24 : z24 = v.toNatClampNeg := by rw [hv31]; exact (nI_clamp (by omega)).symm
    replace hR := bnd_step hR ez24
    refine lv_astore_n (lv' := [(3, .ref q25), (0, .ref h0), (1, .int v), (2, .int v2)]) hx hb dK_sign_5 rfl hl (by decide) rfl (fun ls hl => ?_)
    refine lv_aload_n hx hb dK_sign_6 rfl (lv_at hl 0 rfl) ?_
    refine lv_ifnull hx hb dK_sign_7 ?_
    refine lv_aload_n hx hb dK_sign_10 rfl (lv_at hl 0 rfl) ?_
    refine nw_get (C := "LatticeKeys$KeyPair") (TT := T_KP) (N := 3) hx hb hts (wg_ft i_KP) hown hK hO kr29 (kn := (379 + 36 * z24 + 12)) (ci := 13) (fl := [(1, 4), (3, (379 + 36 * z24 + 13)), (3, (379 + 36 * z24 + 14))]) (pr_o4 (z := z24) (by omega)) hP rfl 2 (by decide) (hts _ (wg_t kw_752)) (fun _ h9 => h9) (cd := (3, (379 + 36 * z24 + 14))) rfl dK_sign_11 (fun v30 hv32 => ?_)
    obtain ⟨r31, rfl, kr30⟩ := (show ∃ r : Nat, v30 = .ref r ∧ T r = some (379 + 36 * z24 + 14) from hv32)
    refine lv_ifnonnull (tgt := 27) hx hb dK_sign_14 (by decide) ?_
    refine lv_aload_n hx hb dK_sign_27 rfl (lv_at hl 1 rfl) ?_
    refine lv_bipush (v := nI 32) hx hb dK_sign_28 (by decide) ?_
    refine lv_iload_n hx hb dK_sign_30 rfl (lv_at hl 3 rfl) ?_
    refine mp_i (cx := []) (wr := []) hP hD hS hA [] [] rfl rfl rfl (by decide) (va_runV (As := [.int (nI 32), .int v2]) (rest := []) F (N_K_holdsContext l g _ T q21.2 pl hO hU h0 32 v2 tl al pn k_h0 hf21 hf22 hf23 (by omega) (by omega) (by omega) (by omega)) (cwV 2 hts (wg_app (wg_c kw_1170 (wg_c kw_1172 (wg_c ks_33 (wg_c kw_1 wg_n)))) kw_1173) rfl rfl rfl (by decide +kernel) ⟨by decide, by decide⟩) (pn_W "LatticeKeys" (en_ok g) (ci := 0) (kn := 0) (fl := [(3, 1), (0, 0), (3, 2), (0, 0), (3, 3), (0, 0), (3, 4), (3, 8), (3, 12), (3, 24), (3, 39)]) hK hO k_h0 rfl hP hD hS hA hE [] rfl rfl rfl) rfl rfl hl.1 rfl (lv_room (Nat.le_of_ble_eq_true rfl)) dK_sign_31 ⟨Nat.le_of_ble_eq_true rfl, Nat.le_of_ble_eq_true rfl⟩) (fun r32 u24 H locs hu24 hP hD hS => ?_)
    obtain ⟨q26, pl⟩ := u24
    obtain ⟨⟨eq24, rfl, hFc24, hxp24, -⟩, hO⟩ := hu24
    have hO : okn g T q26.2 pl := hO
    have hP : va_P g.1 vcl ([] ++ pl) _ := hP
    have hD : va_D _ ([] ++ pl) := hD
    have hFc24 : frm (M_K_holdsContext) q21.2 q26.2 := hFc24
    replace hR := bnd_step hR eq24
    have hF := frm_tr hF hFc24 (fun k hk => by unfold M_K_holdsContext at hk; unfold M_K_sign; omega)
    have hf38 : q26.2.1 0 1 = nI tl := fc_F hf21 hFc24 (by unfold M_K_holdsContext; omega)
    have hf39 : q26.2.1 0 3 = nI al := fc_F hf22 hFc24 (by unfold M_K_holdsContext; omega)
    have hf40 : q26.2.1 0 5 = nI pn := fc_F hf23 hFc24 (by unfold M_K_holdsContext; omega)
    refine W.widen (k := 0) (n := 0) (by omega) (by omega) ?_
    refine lv_if_ne (tgt := 47) hx hb dK_sign_34 (by decide) (fun h23 => ?_) (fun h23 => ?_)
    · replace hR := hR.trans (if_neg h23)
      have hh9 := hxp24.resolve_left (fun h9 => h23 (h9.trans (by decide)))
      refine lv_aload_n hx hb dK_sign_47 rfl (lv_at hl 1 rfl) ?_
      refine nw_get (C := "LatticeKeys") (TT := T_K) (N := 11) hx hb hts (wg_ft i_K) hown hK hO k_h0 (kn := 0) (ci := 0) (fl := [(3, 1), (0, 0), (3, 2), (0, 0), (3, 3), (0, 0), (3, 4), (3, 8), (3, 12), (3, 24), (3, 39)]) rfl hP rfl 7 (by decide) (hts _ (wg_t kw_381)) (fun _ h9 => h9) (cd := (3, 8)) rfl dK_sign_48 (fun v31 hv33 => ?_)
      obtain ⟨r33, rfl, kr31⟩ := (show ∃ r : Nat, v31 = .ref r ∧ T r = some 8 from hv33)
      refine lv_aload_n hx hb dK_sign_51 rfl (lv_at hl 0 rfl) ?_
      refine nw_get (C := "LatticeKeys$KeyPair") (TT := T_KP) (N := 3) hx hb hts (wg_ft i_KP) hown hK hO kr29 (kn := (379 + 36 * z24 + 12)) (ci := 13) (fl := [(1, 4), (3, (379 + 36 * z24 + 13)), (3, (379 + 36 * z24 + 14))]) (pr_o4 (z := z24) (by omega)) hP rfl 0 (by decide) (hts _ (wg_t kw_746)) (fun _ h9 => h9) (cd := (1, 4)) rfl dK_sign_52 (fun v32 hv34 => ?_)
      obtain rfl := (show v32 = .int (nI 4) from hv34)
      refine lv_iconst (v := nI 3) hx hb dK_sign_55 (by decide) ?_
      refine mi_isub hx hb dK_sign_56 (by omega) ?_
      refine mi_as (show nI (4 - 3) = nI 1 from rfl) ?_
      refine nw_aald7 hx hb hK hO kr31 (k := 8) (b := 9) rfl hP (by omega) (by omega) dK_sign_57 (fun r34 kr32 => ?_)
      refine lv_astore (lv' := [(4, .ref r34), (3, .ref q25), (0, .ref h0), (1, .int v), (2, .int v2)]) hx hb dK_sign_58 hl (by decide) rfl (fun ls hl => ?_)
      refine lv_aload_n hx hb dK_sign_60 rfl (lv_at hl 2 rfl) ?_
      refine nw_get (C := "LatticeKeys") (TT := T_K) (N := 11) hx hb hts (wg_ft i_K) hown hK hO k_h0 (kn := 0) (ci := 0) (fl := [(3, 1), (0, 0), (3, 2), (0, 0), (3, 3), (0, 0), (3, 4), (3, 8), (3, 12), (3, 24), (3, 39)]) rfl hP rfl 10 (by decide) (hts _ (wg_t kw_384)) (fun _ h9 => h9) (cd := (3, 39)) rfl dK_sign_61 (fun v33 hv35 => ?_)
      obtain ⟨r35, rfl, kr33⟩ := (show ∃ r : Nat, v33 = .ref r ∧ T r = some 39 from hv35)
      refine lv_aload hx hb dK_sign_64 (lv_at hl 0 rfl) ?_
      refine lv_aload_n hx hb dK_sign_66 rfl (lv_at hl 1 rfl) ?_
      refine nw_get (C := "LatticeKeys$KeyPair") (TT := T_KP) (N := 3) hx hb hts (wg_ft i_KP) hown hK hO kr29 (kn := (379 + 36 * z24 + 12)) (ci := 13) (fl := [(1, 4), (3, (379 + 36 * z24 + 13)), (3, (379 + 36 * z24 + 14))]) (pr_o4 (z := z24) (by omega)) hP rfl 2 (by decide) (hts _ (wg_t kw_752)) (fun _ h9 => h9) (cd := (3, (379 + 36 * z24 + 14))) rfl dK_sign_67 (fun v34 hv36 => ?_)
      obtain ⟨r36, rfl, kr34⟩ := (show ∃ r : Nat, v34 = .ref r ∧ T r = some (379 + 36 * z24 + 14) from hv36)
      refine lv_aload_n hx hb dK_sign_70 rfl (lv_at hl 2 rfl) ?_
      refine nw_get (C := "LatticeKeys") (TT := T_K) (N := 11) hx hb hts (wg_ft i_K) hown hK hO k_h0 (kn := 0) (ci := 0) (fl := [(3, 1), (0, 0), (3, 2), (0, 0), (3, 3), (0, 0), (3, 4), (3, 8), (3, 12), (3, 24), (3, 39)]) rfl hP rfl 0 (by decide) (hts _ (wg_t kw_374)) (fun _ h9 => h9) (cd := (3, 1)) rfl dK_sign_71 (fun v35 hv37 => ?_)
      obtain ⟨r37, rfl, kr35⟩ := (show ∃ r : Nat, v35 = .ref r ∧ T r = some 1 from hv37)
      refine lv_aload_n hx hb dK_sign_74 rfl (lv_at hl 2 rfl) ?_
      refine nw_get (C := "LatticeKeys") (TT := T_K) (N := 11) hx hb hts (wg_ft i_K) hown hK hO k_h0 (kn := 0) (ci := 0) (fl := [(3, 1), (0, 0), (3, 2), (0, 0), (3, 3), (0, 0), (3, 4), (3, 8), (3, 12), (3, 24), (3, 39)]) rfl hP rfl 1 (by decide) (hts _ (wg_t kw_375)) (fun _ h9 => h9) (cd := (0, 0)) rfl dK_sign_75 (fun v36 hv38 => ?_)
      obtain rfl := (show v36 = .int (q26.2.1 0 1) from hv38)
      obtain ⟨z25, ez25, hz25, hz26⟩ := cl_of (b := 2147483648) hf38 (by omega) (by decide)
      replace hR := bnd_step hR ez25
      refine mi_as hz25 ?_
      refine lv_iload_n hx hb dK_sign_78 rfl (lv_at hl 4 rfl) ?_
      refine lv_aload_n hx hb dK_sign_79 rfl (lv_at hl 2 rfl) ?_
      refine nw_get (C := "LatticeKeys") (TT := T_K) (N := 11) hx hb hts (wg_ft i_K) hown hK hO k_h0 (kn := 0) (ci := 0) (fl := [(3, 1), (0, 0), (3, 2), (0, 0), (3, 3), (0, 0), (3, 4), (3, 8), (3, 12), (3, 24), (3, 39)]) rfl hP rfl 2 (by decide) (hts _ (wg_t kw_376)) (fun _ h9 => h9) (cd := (3, 2)) rfl dK_sign_80 (fun v37 hv39 => ?_)
      obtain ⟨r38, rfl, kr36⟩ := (show ∃ r : Nat, v37 = .ref r ∧ T r = some 2 from hv39)
      refine mp_i (cx := []) (wr := []) hP hD hS hA [] [] rfl rfl rfl (by decide) (va_runV (As := [.ref r34, .ref r36, .ref r37, .int (nI z25), .int v2, .ref r38]) (rest := []) F (N_DA_makeSignature_1 l g _ T q26.2 pl hO hU r35 r34 r36 r37 r38 (379 + 36 * z24 + 14) 1 16384 z25 v2 2 kr33 kr32 kr34 (pr_s4 (z := z24) (by omega)) kr35 rfl kr36 rfl (by omega) (by omega) (by omega)) (cwV 6 hts (wg_app (wg_c kw_1175 (wg_c kw_1176 (wg_c kw_1177 (wg_c kw_5 wg_n)))) kw_1178) rfl rfl rfl (by decide +kernel) ⟨by decide, by decide⟩) (pn_W "LatticeKeys$Dsa" (en_ok g) (ci := 6) (kn := 39) (fl := [(3, 16), (3, 22), (3, 37), (3, 40), (3, 97), (3, 105), (3, 114), (3, 123), (3, 131), (3, 140), (3, 141), (3, 142), (3, 143), (3, 144), (3, 145), (3, 146), (3, 147)]) hK hO kr33 rfl hP hD hS hA hE [] rfl rfl rfl) rfl rfl hl.1 rfl (lv_room (Nat.le_of_ble_eq_true rfl)) dK_sign_83 ⟨Nat.le_of_ble_eq_true rfl, Nat.le_of_ble_eq_true rfl⟩) (fun r39 u25 H locs hu25 hP hD hS => ?_)
      obtain ⟨q27, pl⟩ := u25
      obtain ⟨⟨eq25, rfl, hFc25, -⟩, hO⟩ := hu25
      have hO : okn g T q27.2 pl := hO
      have hP : va_P g.1 vcl ([] ++ pl) _ := hP
      have hD : va_D _ ([] ++ pl) := hD
      have hFc25 : frm (M_DA_makeSignature_1 2) q26.2 q27.2 := hFc25
      replace hR := bnd_step hR eq25
      have hF := frm_tr hF hFc25 (fun k hk => by unfold M_DA_makeSignature_1 at hk; unfold M_K_sign; omega)
      have hf41 : q27.2.1 0 1 = nI tl := fc_F hf38 hFc25 (by unfold M_DA_makeSignature_1; omega)
      have hf42 : q27.2.1 0 3 = nI al := fc_F hf39 hFc25 (by unfold M_DA_makeSignature_1; omega)
      have hf43 : q27.2.1 0 5 = nI pn := fc_F hf40 hFc25 (by unfold M_DA_makeSignature_1; omega)
      refine W.widen (k := 0) (n := 0) (by omega) (by omega) ?_
      refine mi_eqv (fun z26 ez26 => ?_)
      replace hR := bnd_step hR ez26
      refine lv_istore (lv' := [(5, .int z26), (4, .ref r34), (3, .ref q25), (0, .ref h0), (1, .int v), (2, .int v2)]) hx hb dK_sign_86 hl (by decide) rfl (fun ls hl => ?_)
      refine lv_iload hx hb dK_sign_88 (lv_at hl 0 rfl) ?_
      refine lv_if_ne (tgt := 103) hx hb dK_sign_90 (by decide) (fun h24 => ?_) (fun h24 => ?_)
      · replace hR := hR.trans (if_neg h24)
        refine lv_aload_n hx hb dK_sign_103 rfl (lv_at hl 3 rfl) ?_
        refine lv_iconst (v := nI 0) hx hb dK_sign_104 (by decide) ?_
        refine nw_put (C := "LatticeKeys") (TT := T_K) (N := 11) hx hb hts (wg_ft i_K) ty_K k_K n_K hown hK hO hU k_h0 (kn := 0) (ci := 0) (fl := [(3, 1), (0, 0), (3, 2), (0, 0), (3, 3), (0, 0), (3, 4), (3, 8), (3, 12), (3, 24), (3, 39)]) rfl hP hD hS rfl 1 (by decide) (hts _ (wg_t kw_375)) (fun _ h9 => h9) rfl (by decide +kernel) rfl dK_sign_105 (fun s23 pl H locs es23 hO hP hD hS => ?_)
        replace hR := bnd_step hR es23
        have hF := frm_sI hF es23 (by unfold M_K_sign; omega)
        have hf45 : s23.1 0 3 = nI al := fc_ne hf42 es23 (by omega)
        have hf46 : s23.1 0 5 = nI pn := fc_ne hf43 es23 (by omega)
        have hf47 : s23.1 0 1 = nI 0 := fc_eq es23
        refine lv_aload_n hx hb dK_sign_108 rfl (lv_at hl 3 rfl) ?_
        refine lv_aload hx hb dK_sign_109 (lv_at hl 1 rfl) ?_
        refine nw_get (C := "LatticeKeys$DsaSet") (TT := T_DS) (N := 17) hx hb hts (wg_ft i_DS) hown hK hO kr32 (kn := 10) (ci := 2) (fl := [(1, 6), (1, 5), (1, 4), (1, 4), (1, 49), (1, 48), (1, 20), (1, 524288), (1, 16), (1, 4), (1, 261888), (1, 55), (1, 196), (1, 1952), (1, 4032), (1, 3248), (1, 3309)]) rfl hP rfl 16 (by decide) (hts _ (wg_t kw_337)) (fun _ h9 => h9) (cd := (1, 3309)) rfl dK_sign_111 (fun v38 hv40 => ?_)
        obtain rfl := (show v38 = .int (nI 3309) from hv40)
        refine nw_put (C := "LatticeKeys") (TT := T_K) (N := 11) hx hb hts (wg_ft i_K) ty_K k_K n_K hown hK hO hU k_h0 (kn := 0) (ci := 0) (fl := [(3, 1), (0, 0), (3, 2), (0, 0), (3, 3), (0, 0), (3, 4), (3, 8), (3, 12), (3, 24), (3, 39)]) rfl hP hD hS rfl 3 (by decide) (hts _ (wg_t kw_377)) (fun _ h9 => h9) rfl (by decide +kernel) rfl dK_sign_114 (fun s24 pl H locs es24 hO hP hD hS => ?_)
        replace hR := bnd_step hR es24
        have hF := frm_sI hF es24 (by unfold M_K_sign; omega)
        have hf49 : s24.1 0 5 = nI pn := fc_ne hf46 es24 (by omega)
        have hf50 : s24.1 0 1 = nI 0 := fc_ne hf47 es24 (by omega)
        have hf51 : s24.1 0 3 = nI 3309 := fc_eq es24
        refine lv_iload hx hb dK_sign_117 (lv_at hl 0 rfl) ?_
        refine et_ret ?_
        exact mp_iret hx hb hr hlk hP hD hS ((nI 0, z26, s24), pl) ⟨⟨hR.symm, rfl, rfl, hF, ⟨0, hf50, by omega⟩, ⟨3309, hf51, by omega⟩, ⟨pn, hf49, by omega⟩, trivial⟩, hO⟩ [] rfl rfl rfl (by omega) (by omega) dK_sign_119
      · replace hR := hR.trans (if_pos h24)
        exact et_throw (own := "LatticeKeys") (cls := "java/lang/IllegalStateException") (text := "no signature was found in time") (names := ["java/lang/RuntimeException", "java/lang/Exception"]) (ik := 69) (is := 215) (ic := 73) hx hb htr ctr_ISE_0 ctr_ISE_1 ctr_ISE_2 ctr_ISE_5 hown (by decide) (by decide) (hts _ (wg_t kw_420)) (hts _ (wg_t kw_17)) (hX.2.2.2.2.2.1 17 ("LatticeKeys", 215, "no signature was found in time") rfl) (hat_ISE hts hX.2) hS.1 (hl.1.trans hml.symm) dK_sign_93 dK_sign_96 dK_sign_97 dK_sign_99 dK_sign_102 htab (Nat.le_of_ble_eq_true rfl) (Nat.le_of_ble_eq_true rfl) (Nat.le_of_ble_eq_true rfl) (Nat.le_of_ble_eq_true rfl) hlk (Nat.le_of_ble_eq_true rfl) (Nat.le_of_ble_eq_true rfl) (xls_at 2 (congrArg Prod.fst hR) (by decide) rfl) hS.2.2 (thr_st hX.2) (fun t hz9 hk9 => ⟨⟨((nI 3, nI 0, q27.2), pl), ⟨⟨hR.symm, hF, ⟨tl, hf41, by omega⟩, ⟨al, hf42, by omega⟩, ⟨pn, hf43, by omega⟩, trivial⟩, hO⟩, lc_P hP hk9, hD⟩, (lc_S hS hz9 hk9).F rfl⟩)
    · replace hR := hR.trans (if_pos h23)
      exact et_throw (own := "LatticeKeys") (cls := "java/lang/IllegalArgumentException") (text := "a context of another length, or a short tape") (names := ["java/lang/RuntimeException", "java/lang/Exception"]) (ik := 79) (is := 209) (ic := 83) hx hb htr ctr_IAE_0 ctr_IAE_1 ctr_IAE_2 ctr_IAE_5 hown (by decide) (by decide) (hts _ (wg_t kw_501)) (hts _ (wg_t kw_18)) (hX.2.2.2.2.2.1 16 ("LatticeKeys", 209, "a context of another length, or a short tape") rfl) (hat_IAE hts hX.2) hS.1 (hl.1.trans hml.symm) dK_sign_37 dK_sign_40 dK_sign_41 dK_sign_43 dK_sign_46 htab (Nat.le_of_ble_eq_true rfl) (Nat.le_of_ble_eq_true rfl) (Nat.le_of_ble_eq_true rfl) (Nat.le_of_ble_eq_true rfl) hlk (Nat.le_of_ble_eq_true rfl) (Nat.le_of_ble_eq_true rfl) (xls_at 1 (congrArg Prod.fst hR) (by decide) rfl) hS.2.2 (thr_st hX.2) (fun t hz9 hk9 => ⟨⟨((nI 2, nI 0, q26.2), pl), ⟨⟨hR.symm, hF, ⟨tl, hf38, by omega⟩, ⟨al, hf39, by omega⟩, ⟨pn, hf40, by omega⟩, trivial⟩, hO⟩, lc_P hP hk9, hD⟩, (lc_S hS hz9 hk9).F rfl⟩)
  replace hR := hR.trans (if_neg hs23)
  by_cases hs24 : q21.1 = nI 6
  · replace hR := hR.trans (if_pos hs24)
    obtain ⟨z27, q28, hz27, hv41, rfl, kr37⟩ := pfd_at (c := 5) hq21 (by decide) hs24
    have kr37 : T q28 = some (379 + 36 * z27 + 15) := kr37
    have ez27 : z27 = v.toNatClampNeg := by rw [hv41]; exact (nI_clamp (by omega)).symm
    replace hR := bnd_step hR ez27
    refine lv_astore_n (lv' := [(3, .ref q28), (0, .ref h0), (1, .int v), (2, .int v2)]) hx hb dK_sign_5 rfl hl (by decide) rfl (fun ls hl => ?_)
    refine lv_aload_n hx hb dK_sign_6 rfl (lv_at hl 0 rfl) ?_
    refine lv_ifnull hx hb dK_sign_7 ?_
    refine lv_aload_n hx hb dK_sign_10 rfl (lv_at hl 0 rfl) ?_
    refine nw_get (C := "LatticeKeys$KeyPair") (TT := T_KP) (N := 3) hx hb hts (wg_ft i_KP) hown hK hO kr37 (kn := (379 + 36 * z27 + 15)) (ci := 13) (fl := [(1, 5), (3, (379 + 36 * z27 + 16)), (3, (379 + 36 * z27 + 17))]) (pr_o5 (z := z27) (by omega)) hP rfl 2 (by decide) (hts _ (wg_t kw_752)) (fun _ h9 => h9) (cd := (3, (379 + 36 * z27 + 17))) rfl dK_sign_11 (fun v39 hv42 => ?_)
    obtain ⟨r40, rfl, kr38⟩ := (show ∃ r : Nat, v39 = .ref r ∧ T r = some (379 + 36 * z27 + 17) from hv42)
    refine lv_ifnonnull (tgt := 27) hx hb dK_sign_14 (by decide) ?_
    refine lv_aload_n hx hb dK_sign_27 rfl (lv_at hl 1 rfl) ?_
    refine lv_bipush (v := nI 32) hx hb dK_sign_28 (by decide) ?_
    refine lv_iload_n hx hb dK_sign_30 rfl (lv_at hl 3 rfl) ?_
    refine mp_i (cx := []) (wr := []) hP hD hS hA [] [] rfl rfl rfl (by decide) (va_runV (As := [.int (nI 32), .int v2]) (rest := []) F (N_K_holdsContext l g _ T q21.2 pl hO hU h0 32 v2 tl al pn k_h0 hf21 hf22 hf23 (by omega) (by omega) (by omega) (by omega)) (cwV 2 hts (wg_app (wg_c kw_1170 (wg_c kw_1172 (wg_c ks_33 (wg_c kw_1 wg_n)))) kw_1173) rfl rfl rfl (by decide +kernel) ⟨by decide, by decide⟩) (pn_W "LatticeKeys" (en_ok g) (ci := 0) (kn := 0) (fl := [(3, 1), (0, 0), (3, 2), (0, 0), (3, 3), (0, 0), (3, 4), (3, 8), (3, 12), (3, 24), (3, 39)]) hK hO k_h0 rfl hP hD hS hA hE [] rfl rfl rfl) rfl rfl hl.1 rfl (lv_room (Nat.le_of_ble_eq_true rfl)) dK_sign_31 ⟨Nat.le_of_ble_eq_true rfl, Nat.le_of_ble_eq_true rfl⟩) (fun r41 u26 H locs hu26 hP hD hS => ?_)
    obtain ⟨q29, pl⟩ := u26
    obtain ⟨⟨eq26, rfl, hFc26, hxp26, -⟩, hO⟩ := hu26
    have hO : okn g T q29.2 pl := hO
    have hP : va_P g.1 vcl ([] ++ pl) _ := hP
    have hD : va_D _ ([] ++ pl) := hD
    have hFc26 : frm (M_K_holdsContext) q21.2 q29.2 := hFc26
    replace hR := bnd_step hR eq26
    have hF := frm_tr hF hFc26 (fun k hk => by unfold M_K_holdsContext at hk; unfold M_K_sign; omega)
    have hf52 : q29.2.1 0 1 = nI tl := fc_F hf21 hFc26 (by unfold M_K_holdsContext; omega)
    have hf53 : q29.2.1 0 3 = nI al := fc_F hf22 hFc26 (by unfold M_K_holdsContext; omega)
    have hf54 : q29.2.1 0 5 = nI pn := fc_F hf23 hFc26 (by unfold M_K_holdsContext; omega)
    refine W.widen (k := 0) (n := 0) (by omega) (by omega) ?_
    refine lv_if_ne (tgt := 47) hx hb dK_sign_34 (by decide) (fun h25 => ?_) (fun h25 => ?_)
    · replace hR := hR.trans (if_neg h25)
      have hh9 := hxp26.resolve_left (fun h9 => h25 (h9.trans (by decide)))
      refine lv_aload_n hx hb dK_sign_47 rfl (lv_at hl 1 rfl) ?_
      refine nw_get (C := "LatticeKeys") (TT := T_K) (N := 11) hx hb hts (wg_ft i_K) hown hK hO k_h0 (kn := 0) (ci := 0) (fl := [(3, 1), (0, 0), (3, 2), (0, 0), (3, 3), (0, 0), (3, 4), (3, 8), (3, 12), (3, 24), (3, 39)]) rfl hP rfl 7 (by decide) (hts _ (wg_t kw_381)) (fun _ h9 => h9) (cd := (3, 8)) rfl dK_sign_48 (fun v40 hv43 => ?_)
      obtain ⟨r42, rfl, kr39⟩ := (show ∃ r : Nat, v40 = .ref r ∧ T r = some 8 from hv43)
      refine lv_aload_n hx hb dK_sign_51 rfl (lv_at hl 0 rfl) ?_
      refine nw_get (C := "LatticeKeys$KeyPair") (TT := T_KP) (N := 3) hx hb hts (wg_ft i_KP) hown hK hO kr37 (kn := (379 + 36 * z27 + 15)) (ci := 13) (fl := [(1, 5), (3, (379 + 36 * z27 + 16)), (3, (379 + 36 * z27 + 17))]) (pr_o5 (z := z27) (by omega)) hP rfl 0 (by decide) (hts _ (wg_t kw_746)) (fun _ h9 => h9) (cd := (1, 5)) rfl dK_sign_52 (fun v41 hv44 => ?_)
      obtain rfl := (show v41 = .int (nI 5) from hv44)
      refine lv_iconst (v := nI 3) hx hb dK_sign_55 (by decide) ?_
      refine mi_isub hx hb dK_sign_56 (by omega) ?_
      refine mi_as (show nI (5 - 3) = nI 2 from rfl) ?_
      refine nw_aald7 hx hb hK hO kr39 (k := 8) (b := 9) rfl hP (by omega) (by omega) dK_sign_57 (fun r43 kr40 => ?_)
      refine lv_astore (lv' := [(4, .ref r43), (3, .ref q28), (0, .ref h0), (1, .int v), (2, .int v2)]) hx hb dK_sign_58 hl (by decide) rfl (fun ls hl => ?_)
      refine lv_aload_n hx hb dK_sign_60 rfl (lv_at hl 2 rfl) ?_
      refine nw_get (C := "LatticeKeys") (TT := T_K) (N := 11) hx hb hts (wg_ft i_K) hown hK hO k_h0 (kn := 0) (ci := 0) (fl := [(3, 1), (0, 0), (3, 2), (0, 0), (3, 3), (0, 0), (3, 4), (3, 8), (3, 12), (3, 24), (3, 39)]) rfl hP rfl 10 (by decide) (hts _ (wg_t kw_384)) (fun _ h9 => h9) (cd := (3, 39)) rfl dK_sign_61 (fun v42 hv45 => ?_)
      obtain ⟨r44, rfl, kr41⟩ := (show ∃ r : Nat, v42 = .ref r ∧ T r = some 39 from hv45)
      refine lv_aload hx hb dK_sign_64 (lv_at hl 0 rfl) ?_
      refine lv_aload_n hx hb dK_sign_66 rfl (lv_at hl 1 rfl) ?_
      refine nw_get (C := "LatticeKeys$KeyPair") (TT := T_KP) (N := 3) hx hb hts (wg_ft i_KP) hown hK hO kr37 (kn := (379 + 36 * z27 + 15)) (ci := 13) (fl := [(1, 5), (3, (379 + 36 * z27 + 16)), (3, (379 + 36 * z27 + 17))]) (pr_o5 (z := z27) (by omega)) hP rfl 2 (by decide) (hts _ (wg_t kw_752)) (fun _ h9 => h9) (cd := (3, (379 + 36 * z27 + 17))) rfl dK_sign_67 (fun v43 hv46 => ?_)
      obtain ⟨r45, rfl, kr42⟩ := (show ∃ r : Nat, v43 = .ref r ∧ T r = some (379 + 36 * z27 + 17) from hv46)
      refine lv_aload_n hx hb dK_sign_70 rfl (lv_at hl 2 rfl) ?_
      refine nw_get (C := "LatticeKeys") (TT := T_K) (N := 11) hx hb hts (wg_ft i_K) hown hK hO k_h0 (kn := 0) (ci := 0) (fl := [(3, 1), (0, 0), (3, 2), (0, 0), (3, 3), (0, 0), (3, 4), (3, 8), (3, 12), (3, 24), (3, 39)]) rfl hP rfl 0 (by decide) (hts _ (wg_t kw_374)) (fun _ h9 => h9) (cd := (3, 1)) rfl dK_sign_71 (fun v44 hv47 => ?_)
      obtain ⟨r46, rfl, kr43⟩ := (show ∃ r : Nat, v44 = .ref r ∧ T r = some 1 from hv47)
      refine lv_aload_n hx hb dK_sign_74 rfl (lv_at hl 2 rfl) ?_
      refine nw_get (C := "LatticeKeys") (TT := T_K) (N := 11) hx hb hts (wg_ft i_K) hown hK hO k_h0 (kn := 0) (ci := 0) (fl := [(3, 1), (0, 0), (3, 2), (0, 0), (3, 3), (0, 0), (3, 4), (3, 8), (3, 12), (3, 24), (3, 39)]) rfl hP rfl 1 (by decide) (hts _ (wg_t kw_375)) (fun _ h9 => h9) (cd := (0, 0)) rfl dK_sign_75 (fun v45 hv48 => ?_)
      obtain rfl := (show v45 = .int (q29.2.1 0 1) from hv48)
      obtain ⟨z28, ez28, hz28, hz29⟩ := cl_of (b := 2147483648) hf52 (by omega) (by decide)
      replace hR := bnd_step hR ez28
      refine mi_as hz28 ?_
      refine lv_iload_n hx hb dK_sign_78 rfl (lv_at hl 4 rfl) ?_
      refine lv_aload_n hx hb dK_sign_79 rfl (lv_at hl 2 rfl) ?_
      refine nw_get (C := "LatticeKeys") (TT := T_K) (N := 11) hx hb hts (wg_ft i_K) hown hK hO k_h0 (kn := 0) (ci := 0) (fl := [(3, 1), (0, 0), (3, 2), (0, 0), (3, 3), (0, 0), (3, 4), (3, 8), (3, 12), (3, 24), (3, 39)]) rfl hP rfl 2 (by decide) (hts _ (wg_t kw_376)) (fun _ h9 => h9) (cd := (3, 2)) rfl dK_sign_80 (fun v46 hv49 => ?_)
      obtain ⟨r47, rfl, kr44⟩ := (show ∃ r : Nat, v46 = .ref r ∧ T r = some 2 from hv49)
      refine mp_i (cx := []) (wr := []) hP hD hS hA [] [] rfl rfl rfl (by decide) (va_runV (As := [.ref r43, .ref r45, .ref r46, .int (nI z28), .int v2, .ref r47]) (rest := []) F (N_DA_makeSignature_2 l g _ T q29.2 pl hO hU r44 r43 r45 r46 r47 (379 + 36 * z27 + 17) 1 16384 z28 v2 2 kr41 kr40 kr42 (pr_s5 (z := z27) (by omega)) kr43 rfl kr44 rfl (by omega) (by omega) (by omega)) (cwV 6 hts (wg_app (wg_c kw_1175 (wg_c kw_1176 (wg_c kw_1177 (wg_c kw_5 wg_n)))) kw_1178) rfl rfl rfl (by decide +kernel) ⟨by decide, by decide⟩) (pn_W "LatticeKeys$Dsa" (en_ok g) (ci := 6) (kn := 39) (fl := [(3, 16), (3, 22), (3, 37), (3, 40), (3, 97), (3, 105), (3, 114), (3, 123), (3, 131), (3, 140), (3, 141), (3, 142), (3, 143), (3, 144), (3, 145), (3, 146), (3, 147)]) hK hO kr41 rfl hP hD hS hA hE [] rfl rfl rfl) rfl rfl hl.1 rfl (lv_room (Nat.le_of_ble_eq_true rfl)) dK_sign_83 ⟨Nat.le_of_ble_eq_true rfl, Nat.le_of_ble_eq_true rfl⟩) (fun r48 u27 H locs hu27 hP hD hS => ?_)
      obtain ⟨q30, pl⟩ := u27
      obtain ⟨⟨eq27, rfl, hFc27, -⟩, hO⟩ := hu27
      have hO : okn g T q30.2 pl := hO
      have hP : va_P g.1 vcl ([] ++ pl) _ := hP
      have hD : va_D _ ([] ++ pl) := hD
      have hFc27 : frm (M_DA_makeSignature_2 2) q29.2 q30.2 := hFc27
      replace hR := bnd_step hR eq27
      have hF := frm_tr hF hFc27 (fun k hk => by unfold M_DA_makeSignature_2 at hk; unfold M_K_sign; omega)
      have hf55 : q30.2.1 0 1 = nI tl := fc_F hf52 hFc27 (by unfold M_DA_makeSignature_2; omega)
      have hf56 : q30.2.1 0 3 = nI al := fc_F hf53 hFc27 (by unfold M_DA_makeSignature_2; omega)
      have hf57 : q30.2.1 0 5 = nI pn := fc_F hf54 hFc27 (by unfold M_DA_makeSignature_2; omega)
      refine W.widen (k := 0) (n := 0) (by omega) (by omega) ?_
      refine mi_eqv (fun z29 ez29 => ?_)
      replace hR := bnd_step hR ez29
      refine lv_istore (lv' := [(5, .int z29), (4, .ref r43), (3, .ref q28), (0, .ref h0), (1, .int v), (2, .int v2)]) hx hb dK_sign_86 hl (by decide) rfl (fun ls hl => ?_)
      refine lv_iload hx hb dK_sign_88 (lv_at hl 0 rfl) ?_
      refine lv_if_ne (tgt := 103) hx hb dK_sign_90 (by decide) (fun h26 => ?_) (fun h26 => ?_)
      · replace hR := hR.trans (if_neg h26)
        refine lv_aload_n hx hb dK_sign_103 rfl (lv_at hl 3 rfl) ?_
        refine lv_iconst (v := nI 0) hx hb dK_sign_104 (by decide) ?_
        refine nw_put (C := "LatticeKeys") (TT := T_K) (N := 11) hx hb hts (wg_ft i_K) ty_K k_K n_K hown hK hO hU k_h0 (kn := 0) (ci := 0) (fl := [(3, 1), (0, 0), (3, 2), (0, 0), (3, 3), (0, 0), (3, 4), (3, 8), (3, 12), (3, 24), (3, 39)]) rfl hP hD hS rfl 1 (by decide) (hts _ (wg_t kw_375)) (fun _ h9 => h9) rfl (by decide +kernel) rfl dK_sign_105 (fun s25 pl H locs es25 hO hP hD hS => ?_)
        replace hR := bnd_step hR es25
        have hF := frm_sI hF es25 (by unfold M_K_sign; omega)
        have hf59 : s25.1 0 3 = nI al := fc_ne hf56 es25 (by omega)
        have hf60 : s25.1 0 5 = nI pn := fc_ne hf57 es25 (by omega)
        have hf61 : s25.1 0 1 = nI 0 := fc_eq es25
        refine lv_aload_n hx hb dK_sign_108 rfl (lv_at hl 3 rfl) ?_
        refine lv_aload hx hb dK_sign_109 (lv_at hl 1 rfl) ?_
        refine nw_get (C := "LatticeKeys$DsaSet") (TT := T_DS) (N := 17) hx hb hts (wg_ft i_DS) hown hK hO kr40 (kn := 11) (ci := 2) (fl := [(1, 8), (1, 7), (1, 2), (1, 3), (1, 60), (1, 64), (1, 20), (1, 524288), (1, 16), (1, 4), (1, 261888), (1, 75), (1, 120), (1, 2592), (1, 4896), (1, 4544), (1, 4627)]) rfl hP rfl 16 (by decide) (hts _ (wg_t kw_337)) (fun _ h9 => h9) (cd := (1, 4627)) rfl dK_sign_111 (fun v47 hv50 => ?_)
        obtain rfl := (show v47 = .int (nI 4627) from hv50)
        refine nw_put (C := "LatticeKeys") (TT := T_K) (N := 11) hx hb hts (wg_ft i_K) ty_K k_K n_K hown hK hO hU k_h0 (kn := 0) (ci := 0) (fl := [(3, 1), (0, 0), (3, 2), (0, 0), (3, 3), (0, 0), (3, 4), (3, 8), (3, 12), (3, 24), (3, 39)]) rfl hP hD hS rfl 3 (by decide) (hts _ (wg_t kw_377)) (fun _ h9 => h9) rfl (by decide +kernel) rfl dK_sign_114 (fun s26 pl H locs es26 hO hP hD hS => ?_)
        replace hR := bnd_step hR es26
        have hF := frm_sI hF es26 (by unfold M_K_sign; omega)
        have hf63 : s26.1 0 5 = nI pn := fc_ne hf60 es26 (by omega)
        have hf64 : s26.1 0 1 = nI 0 := fc_ne hf61 es26 (by omega)
        have hf65 : s26.1 0 3 = nI 4627 := fc_eq es26
        refine lv_iload hx hb dK_sign_117 (lv_at hl 0 rfl) ?_
        refine et_ret ?_
        exact mp_iret hx hb hr hlk hP hD hS ((nI 0, z29, s26), pl) ⟨⟨hR.symm, rfl, rfl, hF, ⟨0, hf64, by omega⟩, ⟨4627, hf65, by omega⟩, ⟨pn, hf63, by omega⟩, trivial⟩, hO⟩ [] rfl rfl rfl (by omega) (by omega) dK_sign_119
      · replace hR := hR.trans (if_pos h26)
        exact et_throw (own := "LatticeKeys") (cls := "java/lang/IllegalStateException") (text := "no signature was found in time") (names := ["java/lang/RuntimeException", "java/lang/Exception"]) (ik := 69) (is := 215) (ic := 73) hx hb htr ctr_ISE_0 ctr_ISE_1 ctr_ISE_2 ctr_ISE_5 hown (by decide) (by decide) (hts _ (wg_t kw_420)) (hts _ (wg_t kw_17)) (hX.2.2.2.2.2.1 17 ("LatticeKeys", 215, "no signature was found in time") rfl) (hat_ISE hts hX.2) hS.1 (hl.1.trans hml.symm) dK_sign_93 dK_sign_96 dK_sign_97 dK_sign_99 dK_sign_102 htab (Nat.le_of_ble_eq_true rfl) (Nat.le_of_ble_eq_true rfl) (Nat.le_of_ble_eq_true rfl) (Nat.le_of_ble_eq_true rfl) hlk (Nat.le_of_ble_eq_true rfl) (Nat.le_of_ble_eq_true rfl) (xls_at 2 (congrArg Prod.fst hR) (by decide) rfl) hS.2.2 (thr_st hX.2) (fun t hz9 hk9 => ⟨⟨((nI 3, nI 0, q30.2), pl), ⟨⟨hR.symm, hF, ⟨tl, hf55, by omega⟩, ⟨al, hf56, by omega⟩, ⟨pn, hf57, by omega⟩, trivial⟩, hO⟩, lc_P hP hk9, hD⟩, (lc_S hS hz9 hk9).F rfl⟩)
    · replace hR := hR.trans (if_pos h25)
      exact et_throw (own := "LatticeKeys") (cls := "java/lang/IllegalArgumentException") (text := "a context of another length, or a short tape") (names := ["java/lang/RuntimeException", "java/lang/Exception"]) (ik := 79) (is := 209) (ic := 83) hx hb htr ctr_IAE_0 ctr_IAE_1 ctr_IAE_2 ctr_IAE_5 hown (by decide) (by decide) (hts _ (wg_t kw_501)) (hts _ (wg_t kw_18)) (hX.2.2.2.2.2.1 16 ("LatticeKeys", 209, "a context of another length, or a short tape") rfl) (hat_IAE hts hX.2) hS.1 (hl.1.trans hml.symm) dK_sign_37 dK_sign_40 dK_sign_41 dK_sign_43 dK_sign_46 htab (Nat.le_of_ble_eq_true rfl) (Nat.le_of_ble_eq_true rfl) (Nat.le_of_ble_eq_true rfl) (Nat.le_of_ble_eq_true rfl) hlk (Nat.le_of_ble_eq_true rfl) (Nat.le_of_ble_eq_true rfl) (xls_at 1 (congrArg Prod.fst hR) (by decide) rfl) hS.2.2 (thr_st hX.2) (fun t hz9 hk9 => ⟨⟨((nI 2, nI 0, q29.2), pl), ⟨⟨hR.symm, hF, ⟨tl, hf52, by omega⟩, ⟨al, hf53, by omega⟩, ⟨pn, hf54, by omega⟩, trivial⟩, hO⟩, lc_P hP hk9, hD⟩, (lc_S hS hz9 hk9).F rfl⟩)
  replace hR := hR.trans (if_neg hs24)
  by_cases hs25 : q21.1 = nI 10
  · replace hR := hR.trans (if_pos hs25)
    obtain ⟨z30, q31, hz30, hv51, rfl, kr45⟩ := pfd_at (c := 9) hq21 (by decide) hs25
    have kr45 : T q31 = some (379 + 36 * z30 + 27) := kr45
    have ez30 : z30 = v.toNatClampNeg := by rw [hv51]; exact (nI_clamp (by omega)).symm
    replace hR := bnd_step hR ez30
    refine lv_astore_n (lv' := [(3, .ref q31), (0, .ref h0), (1, .int v), (2, .int v2)]) hx hb dK_sign_5 rfl hl (by decide) rfl (fun ls hl => ?_)
    refine lv_aload_n hx hb dK_sign_6 rfl (lv_at hl 0 rfl) ?_
    refine lv_ifnull hx hb dK_sign_7 ?_
    refine lv_aload_n hx hb dK_sign_10 rfl (lv_at hl 0 rfl) ?_
    refine nw_get (C := "LatticeKeys$KeyPair") (TT := T_KP) (N := 3) hx hb hts (wg_ft i_KP) hown hK hO kr45 (kn := (379 + 36 * z30 + 27)) (ci := 13) (fl := [(1, 3), (3, (379 + 36 * z30 + 28)), (5, 0)]) (pr_o9 (z := z30) (by omega)) hP rfl 2 (by decide) (hts _ (wg_t kw_752)) (fun _ h9 => h9) (cd := (5, 0)) rfl dK_sign_11 (fun v48 hv52 => ?_)
    obtain rfl := (show v48 = .null from hv52)
    refine lv_ifnonnullN hx hb dK_sign_14 ?_
    exact et_throw (own := "LatticeKeys") (cls := "java/util/NoSuchElementException") (text := "no such keys of ML-DSA with a secret part") (names := ["java/lang/RuntimeException", "java/lang/Exception"]) (ik := 156) (is := 203) (ic := 160) hx hb htr ctr_NSE_0 ctr_NSE_1 ctr_NSE_2 ctr_NSE_5 hown (by decide) (by decide) (hts _ (wg_t kw_1064)) (hts _ (wg_t kw_34)) (hX.2.2.2.2.2.1 15 ("LatticeKeys", 203, "no such keys of ML-DSA with a secret part") rfl) (hat_NSE hts hX.2) hS.1 (hl.1.trans hml.symm) dK_sign_17 dK_sign_20 dK_sign_21 dK_sign_23 dK_sign_26 htab (Nat.le_of_ble_eq_true rfl) (Nat.le_of_ble_eq_true rfl) (Nat.le_of_ble_eq_true rfl) (Nat.le_of_ble_eq_true rfl) hlk (Nat.le_of_ble_eq_true rfl) (Nat.le_of_ble_eq_true rfl) (xls_at 0 (congrArg Prod.fst hR) (by decide) rfl) hS.2.2 (thr_st hX.2) (fun t hz9 hk9 => ⟨⟨((nI 1, nI 0, q21.2), pl), ⟨⟨hR.symm, hF, ⟨tl, hf21, by omega⟩, ⟨al, hf22, by omega⟩, ⟨pn, hf23, by omega⟩, trivial⟩, hO⟩, lc_P hP hk9, hD⟩, (lc_S hS hz9 hk9).F rfl⟩)
  replace hR := hR.trans (if_neg hs25)
  by_cases hs26 : q21.1 = nI 11
  · replace hR := hR.trans (if_pos hs26)
    obtain ⟨z31, q32, hz31, hv53, rfl, kr46⟩ := pfd_at (c := 10) hq21 (by decide) hs26
    have kr46 : T q32 = some (379 + 36 * z31 + 30) := kr46
    have ez31 : z31 = v.toNatClampNeg := by rw [hv53]; exact (nI_clamp (by omega)).symm
    replace hR := bnd_step hR ez31
    refine lv_astore_n (lv' := [(3, .ref q32), (0, .ref h0), (1, .int v), (2, .int v2)]) hx hb dK_sign_5 rfl hl (by decide) rfl (fun ls hl => ?_)
    refine lv_aload_n hx hb dK_sign_6 rfl (lv_at hl 0 rfl) ?_
    refine lv_ifnull hx hb dK_sign_7 ?_
    refine lv_aload_n hx hb dK_sign_10 rfl (lv_at hl 0 rfl) ?_
    refine nw_get (C := "LatticeKeys$KeyPair") (TT := T_KP) (N := 3) hx hb hts (wg_ft i_KP) hown hK hO kr46 (kn := (379 + 36 * z31 + 30)) (ci := 13) (fl := [(1, 4), (3, (379 + 36 * z31 + 31)), (5, 0)]) (pr_o10 (z := z31) (by omega)) hP rfl 2 (by decide) (hts _ (wg_t kw_752)) (fun _ h9 => h9) (cd := (5, 0)) rfl dK_sign_11 (fun v49 hv54 => ?_)
    obtain rfl := (show v49 = .null from hv54)
    refine lv_ifnonnullN hx hb dK_sign_14 ?_
    exact et_throw (own := "LatticeKeys") (cls := "java/util/NoSuchElementException") (text := "no such keys of ML-DSA with a secret part") (names := ["java/lang/RuntimeException", "java/lang/Exception"]) (ik := 156) (is := 203) (ic := 160) hx hb htr ctr_NSE_0 ctr_NSE_1 ctr_NSE_2 ctr_NSE_5 hown (by decide) (by decide) (hts _ (wg_t kw_1064)) (hts _ (wg_t kw_34)) (hX.2.2.2.2.2.1 15 ("LatticeKeys", 203, "no such keys of ML-DSA with a secret part") rfl) (hat_NSE hts hX.2) hS.1 (hl.1.trans hml.symm) dK_sign_17 dK_sign_20 dK_sign_21 dK_sign_23 dK_sign_26 htab (Nat.le_of_ble_eq_true rfl) (Nat.le_of_ble_eq_true rfl) (Nat.le_of_ble_eq_true rfl) (Nat.le_of_ble_eq_true rfl) hlk (Nat.le_of_ble_eq_true rfl) (Nat.le_of_ble_eq_true rfl) (xls_at 0 (congrArg Prod.fst hR) (by decide) rfl) hS.2.2 (thr_st hX.2) (fun t hz9 hk9 => ⟨⟨((nI 1, nI 0, q21.2), pl), ⟨⟨hR.symm, hF, ⟨tl, hf21, by omega⟩, ⟨al, hf22, by omega⟩, ⟨pn, hf23, by omega⟩, trivial⟩, hO⟩, lc_P hP hk9, hD⟩, (lc_S hS hz9 hk9).F rfl⟩)
  replace hR := hR.trans (if_neg hs26)
  by_cases hs27 : q21.1 = nI 12
  · replace hR := hR.trans (if_pos hs27)
    obtain ⟨z32, q33, hz32, hv55, rfl, kr47⟩ := pfd_at (c := 11) hq21 (by decide) hs27
    have kr47 : T q33 = some (379 + 36 * z32 + 33) := kr47
    have ez32 : z32 = v.toNatClampNeg := by rw [hv55]; exact (nI_clamp (by omega)).symm
    replace hR := bnd_step hR ez32
    refine lv_astore_n (lv' := [(3, .ref q33), (0, .ref h0), (1, .int v), (2, .int v2)]) hx hb dK_sign_5 rfl hl (by decide) rfl (fun ls hl => ?_)
    refine lv_aload_n hx hb dK_sign_6 rfl (lv_at hl 0 rfl) ?_
    refine lv_ifnull hx hb dK_sign_7 ?_
    refine lv_aload_n hx hb dK_sign_10 rfl (lv_at hl 0 rfl) ?_
    refine nw_get (C := "LatticeKeys$KeyPair") (TT := T_KP) (N := 3) hx hb hts (wg_ft i_KP) hown hK hO kr47 (kn := (379 + 36 * z32 + 33)) (ci := 13) (fl := [(1, 5), (3, (379 + 36 * z32 + 34)), (5, 0)]) (pr_o11 (z := z32) (by omega)) hP rfl 2 (by decide) (hts _ (wg_t kw_752)) (fun _ h9 => h9) (cd := (5, 0)) rfl dK_sign_11 (fun v50 hv56 => ?_)
    obtain rfl := (show v50 = .null from hv56)
    refine lv_ifnonnullN hx hb dK_sign_14 ?_
    exact et_throw (own := "LatticeKeys") (cls := "java/util/NoSuchElementException") (text := "no such keys of ML-DSA with a secret part") (names := ["java/lang/RuntimeException", "java/lang/Exception"]) (ik := 156) (is := 203) (ic := 160) hx hb htr ctr_NSE_0 ctr_NSE_1 ctr_NSE_2 ctr_NSE_5 hown (by decide) (by decide) (hts _ (wg_t kw_1064)) (hts _ (wg_t kw_34)) (hX.2.2.2.2.2.1 15 ("LatticeKeys", 203, "no such keys of ML-DSA with a secret part") rfl) (hat_NSE hts hX.2) hS.1 (hl.1.trans hml.symm) dK_sign_17 dK_sign_20 dK_sign_21 dK_sign_23 dK_sign_26 htab (Nat.le_of_ble_eq_true rfl) (Nat.le_of_ble_eq_true rfl) (Nat.le_of_ble_eq_true rfl) (Nat.le_of_ble_eq_true rfl) hlk (Nat.le_of_ble_eq_true rfl) (Nat.le_of_ble_eq_true rfl) (xls_at 0 (congrArg Prod.fst hR) (by decide) rfl) hS.2.2 (thr_st hX.2) (fun t hz9 hk9 => ⟨⟨((nI 1, nI 0, q21.2), pl), ⟨⟨hR.symm, hF, ⟨tl, hf21, by omega⟩, ⟨al, hf22, by omega⟩, ⟨pn, hf23, by omega⟩, trivial⟩, hO⟩, lc_P hP hk9, hD⟩, (lc_S hS hz9 hk9).F rfl⟩)
  replace hR := hR.trans (if_neg hs27)
  obtain ⟨c9, hc9, e9⟩ := pfd_mem hq21 hs21
  simp only [List.mem_cons, List.not_mem_nil, or_false] at hc9
  rcases hc9 with rfl | rfl | rfl | rfl | rfl | rfl
  · exact absurd e9 hs22
  · exact absurd e9 hs23
  · exact absurd e9 hs24
  · exact absurd e9 hs25
  · exact absurd e9 hs26
  · exact absurd e9 hs27
