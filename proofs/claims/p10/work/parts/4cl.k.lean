set_option linter.all false
abbrev c_K_seal : ByteArray := prog_1_method_11_code
abbrev y_K_seal : MethodName := ⟨"LatticeKeys", "seal", "(I)I"⟩
abbrev w_K_seal : List Cond := Cond.code y_K_seal c_K_seal 4 (some .int) :: WG
theorem dK_seal_0 : decode c_K_seal 0 = .ok (.aload_n 0, 1) := by decide +kernel
theorem dK_seal_1 : decode c_K_seal 1 = .ok (.iload_n 1, 1) := by decide +kernel
theorem dK_seal_2 : decode c_K_seal 2 = .ok (.invokevirtual 179, 3) := by decide +kernel
theorem dK_seal_5 : decode c_K_seal 5 = .ok (.astore_n 2, 1) := by decide +kernel
theorem dK_seal_6 : decode c_K_seal 6 = .ok (.aload_n 2, 1) := by decide +kernel
theorem dK_seal_7 : decode c_K_seal 7 = .ok (.ifnonnull 13, 3) := by decide +kernel
theorem dK_seal_10 : decode c_K_seal 10 = .ok (.new 156, 3) := by decide +kernel
theorem dK_seal_13 : decode c_K_seal 13 = .ok (.dup, 1) := by decide +kernel
theorem dK_seal_14 : decode c_K_seal 14 = .ok (.ldc 182, 2) := by decide +kernel
theorem dK_seal_16 : decode c_K_seal 16 = .ok (.invokespecial 160, 3) := by decide +kernel
theorem dK_seal_19 : decode c_K_seal 19 = .ok (.athrow, 1) := by decide +kernel
theorem dK_seal_20 : decode c_K_seal 20 = .ok (.aload_n 0, 1) := by decide +kernel
theorem dK_seal_21 : decode c_K_seal 21 = .ok (.getfield 13, 3) := by decide +kernel
theorem dK_seal_24 : decode c_K_seal 24 = .ok (.bipush 32, 2) := by decide +kernel
theorem dK_seal_26 : decode c_K_seal 26 = .ok (.if_icmp .eq 13, 3) := by decide +kernel
theorem dK_seal_29 : decode c_K_seal 29 = .ok (.new 79, 3) := by decide +kernel
theorem dK_seal_32 : decode c_K_seal 32 = .ok (.dup, 1) := by decide +kernel
theorem dK_seal_33 : decode c_K_seal 33 = .ok (.ldc 184, 2) := by decide +kernel
theorem dK_seal_35 : decode c_K_seal 35 = .ok (.invokespecial 83, 3) := by decide +kernel
theorem dK_seal_38 : decode c_K_seal 38 = .ok (.athrow, 1) := by decide +kernel
theorem dK_seal_39 : decode c_K_seal 39 = .ok (.aload_n 0, 1) := by decide +kernel
theorem dK_seal_40 : decode c_K_seal 40 = .ok (.getfield 34, 3) := by decide +kernel
theorem dK_seal_43 : decode c_K_seal 43 = .ok (.aload_n 2, 1) := by decide +kernel
theorem dK_seal_44 : decode c_K_seal 44 = .ok (.getfield 168, 3) := by decide +kernel
theorem dK_seal_47 : decode c_K_seal 47 = .ok (.aaload, 1) := by decide +kernel
theorem dK_seal_48 : decode c_K_seal 48 = .ok (.astore_n 3, 1) := by decide +kernel
theorem dK_seal_49 : decode c_K_seal 49 = .ok (.aload_n 0, 1) := by decide +kernel
theorem dK_seal_50 : decode c_K_seal 50 = .ok (.getfield 54, 3) := by decide +kernel
theorem dK_seal_53 : decode c_K_seal 53 = .ok (.aload_n 3, 1) := by decide +kernel
theorem dK_seal_54 : decode c_K_seal 54 = .ok (.aload_n 2, 1) := by decide +kernel
theorem dK_seal_55 : decode c_K_seal 55 = .ok (.getfield 171, 3) := by decide +kernel
theorem dK_seal_58 : decode c_K_seal 58 = .ok (.aload_n 0, 1) := by decide +kernel
theorem dK_seal_59 : decode c_K_seal 59 = .ok (.getfield 9, 3) := by decide +kernel
theorem dK_seal_62 : decode c_K_seal 62 = .ok (.aload_n 0, 1) := by decide +kernel
theorem dK_seal_63 : decode c_K_seal 63 = .ok (.getfield 17, 3) := by decide +kernel
theorem dK_seal_66 : decode c_K_seal 66 = .ok (.invokevirtual 186, 3) := by decide +kernel
theorem dK_seal_69 : decode c_K_seal 69 = .ok (.aload_n 0, 1) := by decide +kernel
theorem dK_seal_70 : decode c_K_seal 70 = .ok (.iconst 0, 1) := by decide +kernel
theorem dK_seal_71 : decode c_K_seal 71 = .ok (.putfield 13, 3) := by decide +kernel
theorem dK_seal_74 : decode c_K_seal 74 = .ok (.aload_n 0, 1) := by decide +kernel
theorem dK_seal_75 : decode c_K_seal 75 = .ok (.aload_n 3, 1) := by decide +kernel
theorem dK_seal_76 : decode c_K_seal 76 = .ok (.getfield 189, 3) := by decide +kernel
theorem dK_seal_79 : decode c_K_seal 79 = .ok (.bipush 32, 2) := by decide +kernel
theorem dK_seal_81 : decode c_K_seal 81 = .ok (.iadd, 1) := by decide +kernel
theorem dK_seal_82 : decode c_K_seal 82 = .ok (.putfield 20, 3) := by decide +kernel
theorem dK_seal_85 : decode c_K_seal 85 = .ok (.aload_n 0, 1) := by decide +kernel
theorem dK_seal_86 : decode c_K_seal 86 = .ok (.getfield 20, 3) := by decide +kernel
theorem dK_seal_89 : decode c_K_seal 89 = .ok (.ireturn, 1) := by decide +kernel
def M_K_seal (k : Nat) : Prop := (26 ≤ k ∧ k < 30) ∨ k = 0 ∨ k = 14 ∨ k = 2 ∨ k = 30 ∨ k = 31 ∨ k = 32 ∨ k = 33 ∨ k = 34 ∨ k = 35 ∨ (0 : Nat) = 1
noncomputable def F_K_seal (v : Int32) (s : Sto) : Int32 × Int32 × Sto := bnd (F_K_findKem v s) fun q21 => if q21.1 = nI 0 then (nI 1, nI 0, q21.2) else if q21.1 = nI 1 then bnd (v.toNatClampNeg) fun z21 => bnd ((q21.2.1 0 1).toNatClampNeg) fun z22 => if z22 = 32 then bnd (F_KM_encapsulate_0 (379 + 36 * z21 + 1) 1 16384 2 q21.2) fun s21 => bnd (sI s21 0 1 (nI 0)) fun s22 => bnd (sI s22 0 3 (nI 800)) fun s23 => bnd ((s23.1 0 3).toNatClampNeg) fun z23 => (nI 0, nI z23, s23) else (nI 2, nI 0, q21.2) else if q21.1 = nI 2 then bnd (v.toNatClampNeg) fun z24 => bnd ((q21.2.1 0 1).toNatClampNeg) fun z25 => if z25 = 32 then bnd (F_KM_encapsulate_1 (379 + 36 * z24 + 4) 1 16384 2 q21.2) fun s24 => bnd (sI s24 0 1 (nI 0)) fun s25 => bnd (sI s25 0 3 (nI 1120)) fun s26 => bnd ((s26.1 0 3).toNatClampNeg) fun z26 => (nI 0, nI z26, s26) else (nI 2, nI 0, q21.2) else if q21.1 = nI 3 then bnd (v.toNatClampNeg) fun z27 => bnd ((q21.2.1 0 1).toNatClampNeg) fun z28 => if z28 = 32 then bnd (F_KM_encapsulate_2 (379 + 36 * z27 + 7) 1 16384 2 q21.2) fun s27 => bnd (sI s27 0 1 (nI 0)) fun s28 => bnd (sI s28 0 3 (nI 1600)) fun s29 => bnd ((s29.1 0 3).toNatClampNeg) fun z29 => (nI 0, nI z29, s29) else (nI 2, nI 0, q21.2) else if q21.1 = nI 7 then bnd (v.toNatClampNeg) fun z30 => bnd ((q21.2.1 0 1).toNatClampNeg) fun z31 => if z31 = 32 then bnd (F_KM_encapsulate_0 (379 + 36 * z30 + 19) 1 16384 2 q21.2) fun s30 => bnd (sI s30 0 1 (nI 0)) fun s31 => bnd (sI s31 0 3 (nI 800)) fun s32 => bnd ((s32.1 0 3).toNatClampNeg) fun z32 => (nI 0, nI z32, s32) else (nI 2, nI 0, q21.2) else if q21.1 = nI 8 then bnd (v.toNatClampNeg) fun z33 => bnd ((q21.2.1 0 1).toNatClampNeg) fun z34 => if z34 = 32 then bnd (F_KM_encapsulate_1 (379 + 36 * z33 + 22) 1 16384 2 q21.2) fun s33 => bnd (sI s33 0 1 (nI 0)) fun s34 => bnd (sI s34 0 3 (nI 1120)) fun s35 => bnd ((s35.1 0 3).toNatClampNeg) fun z35 => (nI 0, nI z35, s35) else (nI 2, nI 0, q21.2) else if q21.1 = nI 9 then bnd (v.toNatClampNeg) fun z36 => bnd ((q21.2.1 0 1).toNatClampNeg) fun z37 => if z37 = 32 then bnd (F_KM_encapsulate_2 (379 + 36 * z36 + 25) 1 16384 2 q21.2) fun s36 => bnd (sI s36 0 1 (nI 0)) fun s37 => bnd (sI s37 0 3 (nI 1600)) fun s38 => bnd ((s38.1 0 3).toNatClampNeg) fun z38 => (nI 0, nI z38, s38) else (nI 2, nI 0, q21.2) else (nI 0, nI 0, q21.2)
set_option maxHeartbeats 2000000 in
set_option maxRecDepth 100000 in
theorem N_K_seal (l : Launch) (htr : l.stackTraces = false) (g : Gd) (sz : Nat) (T : TyN) (s : Sto) (pl : va_W) (hO : okn g T s pl) (hU : inj T) (h0 : Nat) (v : Int32) (tl : Nat) (al : Nat) (pn : Nat) (k_h0 : T h0 = some 0) (e_tl : s.1 0 1 = nI tl) (e_al : s.1 0 3 = nI al) (e_pn : s.1 0 5 = nI pn) (h1 : tl ≤ 16384) (h2 : al ≤ 8192) (h3 : pn ≤ 8)  : etMet l y_K_seal w_K_seal ({ frames := 6, cells := 1, slots := 6, locals := 180 } : Room) (va_Pc [.ref h0, .int v] (pr (ex g) g.1 vcl sz ([] ++ pl))) (xls ["java/util/NoSuchElementException", "java/lang/IllegalArgumentException"] (F_K_seal v s).1) (va_Qi (fun (r : Int32) (u : (Int32 × Int32 × Sto) × va_W) => (u.1 = F_K_seal v s ∧ r = u.1.2.1 ∧ u.1.1 = nI 0 ∧ frm (M_K_seal) s u.1.2.2 ∧ (∃ x : Nat, u.1.2.2.1 0 1 = nI x ∧ x ≤ 16384) ∧ (∃ x : Nat, u.1.2.2.1 0 3 = nI x ∧ x ≤ 8192) ∧ (∃ x : Nat, u.1.2.2.1 0 5 = nI x ∧ x = pn) ∧ True) ∧ okn g T u.1.2.2 u.2) (po g.1 vcl (va_A ([] ++ pl) sz) (fun (u : (Int32 × Int32 × Sto) × va_W) => [] ++ u.2)) (va_A ([] ++ pl) sz)) (xtP (fun (u : (Int32 × Int32 × Sto) × va_W) => (u.1 = F_K_seal v s ∧ frm (M_K_seal) s u.1.2.2 ∧ (∃ x : Nat, u.1.2.2.1 0 1 = nI x ∧ x ≤ 16384) ∧ (∃ x : Nat, u.1.2.2.1 0 3 = nI x ∧ x ≤ 8192) ∧ (∃ x : Nat, u.1.2.2.1 0 5 = nI x ∧ x = pn) ∧ True) ∧ okn g T u.1.2.2 u.2) (po g.1 vcl (va_A ([] ++ pl) sz) (fun (u : (Int32 × Int32 × Sto) × va_W) => [] ++ u.2)) (va_A ([] ++ pl) sz)) 1 6 (va_A ([] ++ pl) sz) := by
  refine et_entry (cc := c_K_seal) (maxL := 4) (ret := (some .int)) (by decide) rfl (Nat.le_of_ble_eq_true rfl) ?_
  intro p e s0 m args below meth c ls F hr hlk htab hsz hP hD hX hA hl
  obtain ⟨hx, hb, hml, hown, hts⟩ := id F
  have hE := hX.1
  have hK := hE.1
  generalize va_A ([] ++ pl) sz = A at hD hX hE hA ⊢
  have hS : va_S A s0.heap s0.heap [] := va_S.rf
  have hl : lv_has ls 4 [(0, .ref h0), (1, .int v)] := hl
  have hR : F_K_seal v s = F_K_seal v s := rfl
  have hF : frm (M_K_seal) s s := frm_rf
  refine lv_aload_n hx hb dK_seal_0 rfl (lv_at hl 0 rfl) ?_
  refine lv_iload_n hx hb dK_seal_1 rfl (lv_at hl 1 rfl) ?_
  refine mp_q (cx := []) (wr := []) hP hD hS hA [] [] rfl rfl rfl (by decide) (va_runV (As := [.int v]) (rest := []) F (N_K_findKem l g _ T s pl hO hU h0 v tl al pn k_h0 e_tl e_al e_pn (by omega)) (cwV 1 hts (wg_app (wg_c kw_1104 (wg_c kw_1106 (wg_c ks_25 (wg_c kw_1 wg_n)))) kw_1107) rfl rfl rfl (by decide +kernel) ⟨by decide, by decide⟩) (pn_W "LatticeKeys" (en_ok g) (ci := 0) (kn := 0) (fl := [(3, 1), (0, 0), (3, 2), (0, 0), (3, 3), (0, 0), (3, 4), (3, 8), (3, 12), (3, 24), (3, 39)]) hK hO k_h0 rfl hP hD hS hA hE [] rfl rfl rfl) rfl rfl hl.1 rfl (lv_room (Nat.le_of_ble_eq_true rfl)) dK_seal_2 ⟨Nat.le_of_ble_eq_true rfl, Nat.le_of_ble_eq_true rfl⟩) (fun r21 u21 H locs hu21 hP hD hS => ?_)
  obtain ⟨q21, pl⟩ := u21
  obtain ⟨⟨eq21, hq21, hFc21, -⟩, hO⟩ := hu21
  have hO : okn g T q21.2 pl := hO
  have hP : va_P g.1 vcl ([] ++ pl) _ := hP
  have hD : va_D _ ([] ++ pl) := hD
  have hFc21 : frm (M_K_findKem) s q21.2 := hFc21
  replace hR := bnd_step hR eq21
  have hF := frm_tr hF hFc21 (fun k hk => by unfold M_K_findKem at hk; unfold M_K_seal; omega)
  have hf21 : q21.2.1 0 1 = nI tl := fc_F e_tl hFc21 (by unfold M_K_findKem; omega)
  have hf22 : q21.2.1 0 3 = nI al := fc_F e_al hFc21 (by unfold M_K_findKem; omega)
  have hf23 : q21.2.1 0 5 = nI pn := fc_F e_pn hFc21 (by unfold M_K_findKem; omega)
  refine W.widen (k := 0) (n := 0) (by omega) (by omega) ?_
  by_cases hs21 : q21.1 = nI 0
  · replace hR := hR.trans (if_pos hs21)
    obtain rfl : r21 = none := pfd_none hq21 hs21
    refine lv_astore_nN (lv' := [(2, .null), (0, .ref h0), (1, .int v)]) hx hb dK_seal_5 rfl hl (by decide) rfl (fun ls hl => ?_)
    refine lv_aload_nN hx hb dK_seal_6 rfl (lv_at hl 0 rfl) ?_
    refine lv_ifnonnullN hx hb dK_seal_7 ?_
    exact et_throw (own := "LatticeKeys") (cls := "java/util/NoSuchElementException") (text := "no such keys of ML-KEM") (names := ["java/lang/RuntimeException", "java/lang/Exception"]) (ik := 156) (is := 182) (ic := 160) hx hb htr ctr_NSE_0 ctr_NSE_1 ctr_NSE_2 ctr_NSE_5 hown (by decide) (by decide) (hts _ (wg_t kw_1064)) (hts _ (wg_t kw_34)) (hX.2.2.2.2.2.1 11 ("LatticeKeys", 182, "no such keys of ML-KEM") rfl) (hat_NSE hts hX.2) hS.1 (hl.1.trans hml.symm) dK_seal_10 dK_seal_13 dK_seal_14 dK_seal_16 dK_seal_19 htab (Nat.le_of_ble_eq_true rfl) (Nat.le_of_ble_eq_true rfl) (Nat.le_of_ble_eq_true rfl) (Nat.le_of_ble_eq_true rfl) hlk (Nat.le_of_ble_eq_true rfl) (Nat.le_of_ble_eq_true rfl) (xls_at 0 (congrArg Prod.fst hR) (by decide) rfl) hS.2.2 (thr_st hX.2) (fun t hz9 hk9 => ⟨⟨((nI 1, nI 0, q21.2), pl), ⟨⟨hR.symm, hF, ⟨tl, hf21, by omega⟩, ⟨al, hf22, by omega⟩, ⟨pn, hf23, by omega⟩, trivial⟩, hO⟩, lc_P hP hk9, hD⟩, (lc_S hS hz9 hk9).F rfl⟩)
  replace hR := hR.trans (if_neg hs21)
  by_cases hs22 : q21.1 = nI 1
  · replace hR := hR.trans (if_pos hs22)
    obtain ⟨z21, q22, hz21, hv21, rfl, kr21⟩ := pfd_at (c := 0) hq21 (by decide) hs22
    have kr21 : T q22 = some (379 + 36 * z21 + 0) := kr21
    have ez21 : z21 = v.toNatClampNeg := by rw [hv21]; exact (nI_clamp (by omega)).symm
    replace hR := bnd_step hR ez21
    refine lv_astore_n (lv' := [(2, .ref q22), (0, .ref h0), (1, .int v)]) hx hb dK_seal_5 rfl hl (by decide) rfl (fun ls hl => ?_)
    refine lv_aload_n hx hb dK_seal_6 rfl (lv_at hl 0 rfl) ?_
    refine lv_ifnonnull (tgt := 20) hx hb dK_seal_7 (by decide) ?_
    refine lv_aload_n hx hb dK_seal_20 rfl (lv_at hl 1 rfl) ?_
    refine nw_get (C := "LatticeKeys") (TT := T_K) (N := 11) hx hb hts (wg_ft i_K) hown hK hO k_h0 (kn := 0) (ci := 0) (fl := [(3, 1), (0, 0), (3, 2), (0, 0), (3, 3), (0, 0), (3, 4), (3, 8), (3, 12), (3, 24), (3, 39)]) rfl hP rfl 1 (by decide) (hts _ (wg_t kw_375)) (fun _ h9 => h9) (cd := (0, 0)) rfl dK_seal_21 (fun v21 hv22 => ?_)
    obtain rfl := (show v21 = .int (q21.2.1 0 1) from hv22)
    obtain ⟨z22, ez22, hz22, hz23⟩ := cl_of (b := 2147483648) hf21 (by omega) (by decide)
    replace hR := bnd_step hR ez22
    refine mi_as hz22 ?_
    refine lv_bipush (v := nI 32) hx hb dK_seal_24 (by decide) ?_
    refine mi_eq (tgt := 39) hx hb dK_seal_26 (by decide) (by omega) (by omega) (fun h21 => ?_) (fun h21 => ?_)
    · replace hR := hR.trans (if_pos h21)
      refine lv_aload_n hx hb dK_seal_39 rfl (lv_at hl 1 rfl) ?_
      refine nw_get (C := "LatticeKeys") (TT := T_K) (N := 11) hx hb hts (wg_ft i_K) hown hK hO k_h0 (kn := 0) (ci := 0) (fl := [(3, 1), (0, 0), (3, 2), (0, 0), (3, 3), (0, 0), (3, 4), (3, 8), (3, 12), (3, 24), (3, 39)]) rfl hP rfl 6 (by decide) (hts _ (wg_t kw_380)) (fun _ h9 => h9) (cd := (3, 4)) rfl dK_seal_40 (fun v22 hv23 => ?_)
      obtain ⟨r22, rfl, kr22⟩ := (show ∃ r : Nat, v22 = .ref r ∧ T r = some 4 from hv23)
      refine lv_aload_n hx hb dK_seal_43 rfl (lv_at hl 0 rfl) ?_
      refine nw_get (C := "LatticeKeys$KeyPair") (TT := T_KP) (N := 3) hx hb hts (wg_ft i_KP) hown hK hO kr21 (kn := (379 + 36 * z21 + 0)) (ci := 13) (fl := [(1, 0), (3, (379 + 36 * z21 + 1)), (3, (379 + 36 * z21 + 2))]) (pr_o0 (z := z21) (by omega)) hP rfl 0 (by decide) (hts _ (wg_t kw_746)) (fun _ h9 => h9) (cd := (1, 0)) rfl dK_seal_44 (fun v23 hv24 => ?_)
      obtain rfl := (show v23 = .int (nI 0) from hv24)
      refine nw_aald6 hx hb hK hO kr22 (k := 4) (b := 5) rfl hP (by omega) (by omega) dK_seal_47 (fun r23 kr23 => ?_)
      refine lv_astore_n (lv' := [(3, .ref r23), (2, .ref q22), (0, .ref h0), (1, .int v)]) hx hb dK_seal_48 rfl hl (by decide) rfl (fun ls hl => ?_)
      refine lv_aload_n hx hb dK_seal_49 rfl (lv_at hl 2 rfl) ?_
      refine nw_get (C := "LatticeKeys") (TT := T_K) (N := 11) hx hb hts (wg_ft i_K) hown hK hO k_h0 (kn := 0) (ci := 0) (fl := [(3, 1), (0, 0), (3, 2), (0, 0), (3, 3), (0, 0), (3, 4), (3, 8), (3, 12), (3, 24), (3, 39)]) rfl hP rfl 9 (by decide) (hts _ (wg_t kw_383)) (fun _ h9 => h9) (cd := (3, 24)) rfl dK_seal_50 (fun v24 hv25 => ?_)
      obtain ⟨r24, rfl, kr24⟩ := (show ∃ r : Nat, v24 = .ref r ∧ T r = some 24 from hv25)
      refine lv_aload_n hx hb dK_seal_53 rfl (lv_at hl 0 rfl) ?_
      refine lv_aload_n hx hb dK_seal_54 rfl (lv_at hl 1 rfl) ?_
      refine nw_get (C := "LatticeKeys$KeyPair") (TT := T_KP) (N := 3) hx hb hts (wg_ft i_KP) hown hK hO kr21 (kn := (379 + 36 * z21 + 0)) (ci := 13) (fl := [(1, 0), (3, (379 + 36 * z21 + 1)), (3, (379 + 36 * z21 + 2))]) (pr_o0 (z := z21) (by omega)) hP rfl 1 (by decide) (hts _ (wg_t kw_749)) (fun _ h9 => h9) (cd := (3, (379 + 36 * z21 + 1))) rfl dK_seal_55 (fun v25 hv26 => ?_)
      obtain ⟨r25, rfl, kr25⟩ := (show ∃ r : Nat, v25 = .ref r ∧ T r = some (379 + 36 * z21 + 1) from hv26)
      refine lv_aload_n hx hb dK_seal_58 rfl (lv_at hl 2 rfl) ?_
      refine nw_get (C := "LatticeKeys") (TT := T_K) (N := 11) hx hb hts (wg_ft i_K) hown hK hO k_h0 (kn := 0) (ci := 0) (fl := [(3, 1), (0, 0), (3, 2), (0, 0), (3, 3), (0, 0), (3, 4), (3, 8), (3, 12), (3, 24), (3, 39)]) rfl hP rfl 0 (by decide) (hts _ (wg_t kw_374)) (fun _ h9 => h9) (cd := (3, 1)) rfl dK_seal_59 (fun v26 hv27 => ?_)
      obtain ⟨r26, rfl, kr26⟩ := (show ∃ r : Nat, v26 = .ref r ∧ T r = some 1 from hv27)
      refine lv_aload_n hx hb dK_seal_62 rfl (lv_at hl 2 rfl) ?_
      refine nw_get (C := "LatticeKeys") (TT := T_K) (N := 11) hx hb hts (wg_ft i_K) hown hK hO k_h0 (kn := 0) (ci := 0) (fl := [(3, 1), (0, 0), (3, 2), (0, 0), (3, 3), (0, 0), (3, 4), (3, 8), (3, 12), (3, 24), (3, 39)]) rfl hP rfl 2 (by decide) (hts _ (wg_t kw_376)) (fun _ h9 => h9) (cd := (3, 2)) rfl dK_seal_63 (fun v27 hv28 => ?_)
      obtain ⟨r27, rfl, kr27⟩ := (show ∃ r : Nat, v27 = .ref r ∧ T r = some 2 from hv28)
      refine mp_v (cx := []) (wr := []) hP hD hS hA [] [] rfl rfl rfl (by decide) (va_runV (As := [.ref r23, .ref r25, .ref r26, .ref r27]) (rest := []) F (N_KM_encapsulate_0 l g _ T q21.2 pl hO hU r24 r23 r25 r26 r27 (379 + 36 * z21 + 1) 1 16384 2 kr24 kr23 kr25 (pr_p0 (z := z21) (by omega)) kr26 rfl kr27 rfl (by omega) (by omega)) (cwV 4 hts (wg_app (wg_c kw_1110 (wg_c kw_1111 (wg_c kw_1112 (wg_c kw_3 wg_n)))) kw_1113) rfl rfl rfl (by decide +kernel) ⟨by decide, by decide⟩) (pn_W "LatticeKeys$Kem" (en_ok g) (ci := 5) (kn := 24) (fl := [(3, 14), (3, 20), (3, 25), (3, 30), (3, 31), (3, 32), (3, 33), (3, 34), (3, 35), (3, 36)]) hK hO kr24 rfl hP hD hS hA hE [] rfl rfl rfl) rfl rfl hl.1 rfl (lv_room (Nat.le_of_ble_eq_true rfl)) dK_seal_66 ⟨Nat.le_of_ble_eq_true rfl, Nat.le_of_ble_eq_true rfl⟩) (fun  u22 H locs hu22 hP hD hS => ?_)
      obtain ⟨s21, pl⟩ := u22
      obtain ⟨⟨eq22, hFc22, -⟩, hO⟩ := hu22
      have hO : okn g T s21 pl := hO
      have hP : va_P g.1 vcl ([] ++ pl) _ := hP
      have hD : va_D _ ([] ++ pl) := hD
      have hFc22 : frm (M_KM_encapsulate_0 2) q21.2 s21 := hFc22
      replace hR := bnd_step hR eq22
      have hF := frm_tr hF hFc22 (fun k hk => by unfold M_KM_encapsulate_0 at hk; unfold M_K_seal; omega)
      have hf24 : s21.1 0 1 = nI tl := fc_F hf21 hFc22 (by unfold M_KM_encapsulate_0; omega)
      have hf25 : s21.1 0 3 = nI al := fc_F hf22 hFc22 (by unfold M_KM_encapsulate_0; omega)
      have hf26 : s21.1 0 5 = nI pn := fc_F hf23 hFc22 (by unfold M_KM_encapsulate_0; omega)
      refine W.widen (k := 0) (n := 0) (by omega) (by omega) ?_
      refine lv_aload_n hx hb dK_seal_69 rfl (lv_at hl 2 rfl) ?_
      refine lv_iconst (v := nI 0) hx hb dK_seal_70 (by decide) ?_
      refine nw_put (C := "LatticeKeys") (TT := T_K) (N := 11) hx hb hts (wg_ft i_K) ty_K k_K n_K hown hK hO hU k_h0 (kn := 0) (ci := 0) (fl := [(3, 1), (0, 0), (3, 2), (0, 0), (3, 3), (0, 0), (3, 4), (3, 8), (3, 12), (3, 24), (3, 39)]) rfl hP hD hS rfl 1 (by decide) (hts _ (wg_t kw_375)) (fun _ h9 => h9) rfl (by decide +kernel) rfl dK_seal_71 (fun s22 pl H locs es21 hO hP hD hS => ?_)
      replace hR := bnd_step hR es21
      have hF := frm_sI hF es21 (by unfold M_K_seal; omega)
      have hf28 : s22.1 0 3 = nI al := fc_ne hf25 es21 (by omega)
      have hf29 : s22.1 0 5 = nI pn := fc_ne hf26 es21 (by omega)
      have hf30 : s22.1 0 1 = nI 0 := fc_eq es21
      refine lv_aload_n hx hb dK_seal_74 rfl (lv_at hl 2 rfl) ?_
      refine lv_aload_n hx hb dK_seal_75 rfl (lv_at hl 0 rfl) ?_
      refine nw_get (C := "LatticeKeys$KemSet") (TT := T_KS) (N := 10) hx hb hts (wg_ft i_KS) hown hK hO kr23 (kn := 5) (ci := 1) (fl := [(1, 2), (1, 3), (1, 10), (1, 4), (1, 800), (1, 1632), (1, 768), (1, 768), (1, 1568), (1, 1600)]) rfl hP rfl 6 (by decide) (hts _ (wg_t kw_245)) (fun _ h9 => h9) (cd := (1, 768)) rfl dK_seal_76 (fun v28 hv29 => ?_)
      obtain rfl := (show v28 = .int (nI 768) from hv29)
      refine lv_bipush (v := nI 32) hx hb dK_seal_79 (by decide) ?_
      refine mi_iadd hx hb dK_seal_81 ?_
      refine mi_as (show nI (768 + 32) = nI 800 from rfl) ?_
      refine nw_put (C := "LatticeKeys") (TT := T_K) (N := 11) hx hb hts (wg_ft i_K) ty_K k_K n_K hown hK hO hU k_h0 (kn := 0) (ci := 0) (fl := [(3, 1), (0, 0), (3, 2), (0, 0), (3, 3), (0, 0), (3, 4), (3, 8), (3, 12), (3, 24), (3, 39)]) rfl hP hD hS rfl 3 (by decide) (hts _ (wg_t kw_377)) (fun _ h9 => h9) rfl (by decide +kernel) rfl dK_seal_82 (fun s23 pl H locs es22 hO hP hD hS => ?_)
      replace hR := bnd_step hR es22
      have hF := frm_sI hF es22 (by unfold M_K_seal; omega)
      have hf32 : s23.1 0 5 = nI pn := fc_ne hf29 es22 (by omega)
      have hf33 : s23.1 0 1 = nI 0 := fc_ne hf30 es22 (by omega)
      have hf34 : s23.1 0 3 = nI 800 := fc_eq es22
      refine lv_aload_n hx hb dK_seal_85 rfl (lv_at hl 2 rfl) ?_
      refine nw_get (C := "LatticeKeys") (TT := T_K) (N := 11) hx hb hts (wg_ft i_K) hown hK hO k_h0 (kn := 0) (ci := 0) (fl := [(3, 1), (0, 0), (3, 2), (0, 0), (3, 3), (0, 0), (3, 4), (3, 8), (3, 12), (3, 24), (3, 39)]) rfl hP rfl 3 (by decide) (hts _ (wg_t kw_377)) (fun _ h9 => h9) (cd := (0, 0)) rfl dK_seal_86 (fun v29 hv30 => ?_)
      obtain rfl := (show v29 = .int (s23.1 0 3) from hv30)
      obtain ⟨z23, ez23, hz24, hz25⟩ := cl_of (b := 2147483648) hf34 (by omega) (by decide)
      replace hR := bnd_step hR ez23
      refine mi_as hz24 ?_
      refine et_ret ?_
      exact mp_iret hx hb hr hlk hP hD hS ((nI 0, nI z23, s23), pl) ⟨⟨hR.symm, rfl, rfl, hF, ⟨0, hf33, by omega⟩, ⟨800, hf34, by omega⟩, ⟨pn, hf32, by omega⟩, trivial⟩, hO⟩ [] rfl rfl rfl (by omega) (by omega) dK_seal_89
    · replace hR := hR.trans (if_neg h21)
      exact et_throw (own := "LatticeKeys") (cls := "java/lang/IllegalArgumentException") (text := "the tape is not 32 bytes long") (names := ["java/lang/RuntimeException", "java/lang/Exception"]) (ik := 79) (is := 184) (ic := 83) hx hb htr ctr_IAE_0 ctr_IAE_1 ctr_IAE_2 ctr_IAE_5 hown (by decide) (by decide) (hts _ (wg_t kw_501)) (hts _ (wg_t kw_18)) (hX.2.2.2.2.2.1 12 ("LatticeKeys", 184, "the tape is not 32 bytes long") rfl) (hat_IAE hts hX.2) hS.1 (hl.1.trans hml.symm) dK_seal_29 dK_seal_32 dK_seal_33 dK_seal_35 dK_seal_38 htab (Nat.le_of_ble_eq_true rfl) (Nat.le_of_ble_eq_true rfl) (Nat.le_of_ble_eq_true rfl) (Nat.le_of_ble_eq_true rfl) hlk (Nat.le_of_ble_eq_true rfl) (Nat.le_of_ble_eq_true rfl) (xls_at 1 (congrArg Prod.fst hR) (by decide) rfl) hS.2.2 (thr_st hX.2) (fun t hz9 hk9 => ⟨⟨((nI 2, nI 0, q21.2), pl), ⟨⟨hR.symm, hF, ⟨tl, hf21, by omega⟩, ⟨al, hf22, by omega⟩, ⟨pn, hf23, by omega⟩, trivial⟩, hO⟩, lc_P hP hk9, hD⟩, (lc_S hS hz9 hk9).F rfl⟩)
  replace hR := hR.trans (if_neg hs22)
  by_cases hs23 : q21.1 = nI 2
  · replace hR := hR.trans (if_pos hs23)
    obtain ⟨z24, q23, hz26, hv31, rfl, kr28⟩ := pfd_at (c := 1) hq21 (by decide) hs23
    have kr28 : T q23 = some (379 + 36 * z24 + 3) := kr28
    have ez24 : z24 = v.toNatClampNeg := by rw [hv31]; exact (nI_clamp (by omega)).symm
    replace hR := bnd_step hR ez24
    refine lv_astore_n (lv' := [(2, .ref q23), (0, .ref h0), (1, .int v)]) hx hb dK_seal_5 rfl hl (by decide) rfl (fun ls hl => ?_)
    refine lv_aload_n hx hb dK_seal_6 rfl (lv_at hl 0 rfl) ?_
    refine lv_ifnonnull (tgt := 20) hx hb dK_seal_7 (by decide) ?_
    refine lv_aload_n hx hb dK_seal_20 rfl (lv_at hl 1 rfl) ?_
    refine nw_get (C := "LatticeKeys") (TT := T_K) (N := 11) hx hb hts (wg_ft i_K) hown hK hO k_h0 (kn := 0) (ci := 0) (fl := [(3, 1), (0, 0), (3, 2), (0, 0), (3, 3), (0, 0), (3, 4), (3, 8), (3, 12), (3, 24), (3, 39)]) rfl hP rfl 1 (by decide) (hts _ (wg_t kw_375)) (fun _ h9 => h9) (cd := (0, 0)) rfl dK_seal_21 (fun v30 hv32 => ?_)
    obtain rfl := (show v30 = .int (q21.2.1 0 1) from hv32)
    obtain ⟨z25, ez25, hz27, hz28⟩ := cl_of (b := 2147483648) hf21 (by omega) (by decide)
    replace hR := bnd_step hR ez25
    refine mi_as hz27 ?_
    refine lv_bipush (v := nI 32) hx hb dK_seal_24 (by decide) ?_
    refine mi_eq (tgt := 39) hx hb dK_seal_26 (by decide) (by omega) (by omega) (fun h22 => ?_) (fun h22 => ?_)
    · replace hR := hR.trans (if_pos h22)
      refine lv_aload_n hx hb dK_seal_39 rfl (lv_at hl 1 rfl) ?_
      refine nw_get (C := "LatticeKeys") (TT := T_K) (N := 11) hx hb hts (wg_ft i_K) hown hK hO k_h0 (kn := 0) (ci := 0) (fl := [(3, 1), (0, 0), (3, 2), (0, 0), (3, 3), (0, 0), (3, 4), (3, 8), (3, 12), (3, 24), (3, 39)]) rfl hP rfl 6 (by decide) (hts _ (wg_t kw_380)) (fun _ h9 => h9) (cd := (3, 4)) rfl dK_seal_40 (fun v31 hv33 => ?_)
      obtain ⟨r28, rfl, kr29⟩ := (show ∃ r : Nat, v31 = .ref r ∧ T r = some 4 from hv33)
      refine lv_aload_n hx hb dK_seal_43 rfl (lv_at hl 0 rfl) ?_
      refine nw_get (C := "LatticeKeys$KeyPair") (TT := T_KP) (N := 3) hx hb hts (wg_ft i_KP) hown hK hO kr28 (kn := (379 + 36 * z24 + 3)) (ci := 13) (fl := [(1, 1), (3, (379 + 36 * z24 + 4)), (3, (379 + 36 * z24 + 5))]) (pr_o1 (z := z24) (by omega)) hP rfl 0 (by decide) (hts _ (wg_t kw_746)) (fun _ h9 => h9) (cd := (1, 1)) rfl dK_seal_44 (fun v32 hv34 => ?_)
      obtain rfl := (show v32 = .int (nI 1) from hv34)
      refine nw_aald6 hx hb hK hO kr29 (k := 4) (b := 5) rfl hP (by omega) (by omega) dK_seal_47 (fun r29 kr30 => ?_)
      refine lv_astore_n (lv' := [(3, .ref r29), (2, .ref q23), (0, .ref h0), (1, .int v)]) hx hb dK_seal_48 rfl hl (by decide) rfl (fun ls hl => ?_)
      refine lv_aload_n hx hb dK_seal_49 rfl (lv_at hl 2 rfl) ?_
      refine nw_get (C := "LatticeKeys") (TT := T_K) (N := 11) hx hb hts (wg_ft i_K) hown hK hO k_h0 (kn := 0) (ci := 0) (fl := [(3, 1), (0, 0), (3, 2), (0, 0), (3, 3), (0, 0), (3, 4), (3, 8), (3, 12), (3, 24), (3, 39)]) rfl hP rfl 9 (by decide) (hts _ (wg_t kw_383)) (fun _ h9 => h9) (cd := (3, 24)) rfl dK_seal_50 (fun v33 hv35 => ?_)
      obtain ⟨r30, rfl, kr31⟩ := (show ∃ r : Nat, v33 = .ref r ∧ T r = some 24 from hv35)
      refine lv_aload_n hx hb dK_seal_53 rfl (lv_at hl 0 rfl) ?_
      refine lv_aload_n hx hb dK_seal_54 rfl (lv_at hl 1 rfl) ?_
      refine nw_get (C := "LatticeKeys$KeyPair") (TT := T_KP) (N := 3) hx hb hts (wg_ft i_KP) hown hK hO kr28 (kn := (379 + 36 * z24 + 3)) (ci := 13) (fl := [(1, 1), (3, (379 + 36 * z24 + 4)), (3, (379 + 36 * z24 + 5))]) (pr_o1 (z := z24) (by omega)) hP rfl 1 (by decide) (hts _ (wg_t kw_749)) (fun _ h9 => h9) (cd := (3, (379 + 36 * z24 + 4))) rfl dK_seal_55 (fun v34 hv36 => ?_)
      obtain ⟨r31, rfl, kr32⟩ := (show ∃ r : Nat, v34 = .ref r ∧ T r = some (379 + 36 * z24 + 4) from hv36)
      refine lv_aload_n hx hb dK_seal_58 rfl (lv_at hl 2 rfl) ?_
      refine nw_get (C := "LatticeKeys") (TT := T_K) (N := 11) hx hb hts (wg_ft i_K) hown hK hO k_h0 (kn := 0) (ci := 0) (fl := [(3, 1), (0, 0), (3, 2), (0, 0), (3, 3), (0, 0), (3, 4), (3, 8), (3, 12), (3, 24), (3, 39)]) rfl hP rfl 0 (by decide) (hts _ (wg_t kw_374)) (fun _ h9 => h9) (cd := (3, 1)) rfl dK_seal_59 (fun v35 hv37 => ?_)
      obtain ⟨r32, rfl, kr33⟩ := (show ∃ r : Nat, v35 = .ref r ∧ T r = some 1 from hv37)
      refine lv_aload_n hx hb dK_seal_62 rfl (lv_at hl 2 rfl) ?_
      refine nw_get (C := "LatticeKeys") (TT := T_K) (N := 11) hx hb hts (wg_ft i_K) hown hK hO k_h0 (kn := 0) (ci := 0) (fl := [(3, 1), (0, 0), (3, 2), (0, 0), (3, 3), (0, 0), (3, 4), (3, 8), (3, 12), (3, 24), (3, 39)]) rfl hP rfl 2 (by decide) (hts _ (wg_t kw_376)) (fun _ h9 => h9) (cd := (3, 2)) rfl dK_seal_63 (fun v36 hv38 => ?_)
      obtain ⟨r33, rfl, kr34⟩ := (show ∃ r : Nat, v36 = .ref r ∧ T r = some 2 from hv38)
      refine mp_v (cx := []) (wr := []) hP hD hS hA [] [] rfl rfl rfl (by decide) (va_runV (As := [.ref r29, .ref r31, .ref r32, .ref r33]) (rest := []) F (N_KM_encapsulate_1 l g _ T q21.2 pl hO hU r30 r29 r31 r32 r33 (379 + 36 * z24 + 4) 1 16384 2 kr31 kr30 kr32 (pr_p1 (z := z24) (by omega)) kr33 rfl kr34 rfl (by omega) (by omega)) (cwV 4 hts (wg_app (wg_c kw_1110 (wg_c kw_1111 (wg_c kw_1112 (wg_c kw_3 wg_n)))) kw_1113) rfl rfl rfl (by decide +kernel) ⟨by decide, by decide⟩) (pn_W "LatticeKeys$Kem" (en_ok g) (ci := 5) (kn := 24) (fl := [(3, 14), (3, 20), (3, 25), (3, 30), (3, 31), (3, 32), (3, 33), (3, 34), (3, 35), (3, 36)]) hK hO kr31 rfl hP hD hS hA hE [] rfl rfl rfl) rfl rfl hl.1 rfl (lv_room (Nat.le_of_ble_eq_true rfl)) dK_seal_66 ⟨Nat.le_of_ble_eq_true rfl, Nat.le_of_ble_eq_true rfl⟩) (fun  u23 H locs hu23 hP hD hS => ?_)
      obtain ⟨s24, pl⟩ := u23
      obtain ⟨⟨eq23, hFc23, -⟩, hO⟩ := hu23
      have hO : okn g T s24 pl := hO
      have hP : va_P g.1 vcl ([] ++ pl) _ := hP
      have hD : va_D _ ([] ++ pl) := hD
      have hFc23 : frm (M_KM_encapsulate_1 2) q21.2 s24 := hFc23
      replace hR := bnd_step hR eq23
      have hF := frm_tr hF hFc23 (fun k hk => by unfold M_KM_encapsulate_1 at hk; unfold M_K_seal; omega)
      have hf35 : s24.1 0 1 = nI tl := fc_F hf21 hFc23 (by unfold M_KM_encapsulate_1; omega)
      have hf36 : s24.1 0 3 = nI al := fc_F hf22 hFc23 (by unfold M_KM_encapsulate_1; omega)
      have hf37 : s24.1 0 5 = nI pn := fc_F hf23 hFc23 (by unfold M_KM_encapsulate_1; omega)
      refine W.widen (k := 0) (n := 0) (by omega) (by omega) ?_
      refine lv_aload_n hx hb dK_seal_69 rfl (lv_at hl 2 rfl) ?_
      refine lv_iconst (v := nI 0) hx hb dK_seal_70 (by decide) ?_
      refine nw_put (C := "LatticeKeys") (TT := T_K) (N := 11) hx hb hts (wg_ft i_K) ty_K k_K n_K hown hK hO hU k_h0 (kn := 0) (ci := 0) (fl := [(3, 1), (0, 0), (3, 2), (0, 0), (3, 3), (0, 0), (3, 4), (3, 8), (3, 12), (3, 24), (3, 39)]) rfl hP hD hS rfl 1 (by decide) (hts _ (wg_t kw_375)) (fun _ h9 => h9) rfl (by decide +kernel) rfl dK_seal_71 (fun s25 pl H locs es23 hO hP hD hS => ?_)
      replace hR := bnd_step hR es23
      have hF := frm_sI hF es23 (by unfold M_K_seal; omega)
      have hf39 : s25.1 0 3 = nI al := fc_ne hf36 es23 (by omega)
      have hf40 : s25.1 0 5 = nI pn := fc_ne hf37 es23 (by omega)
      have hf41 : s25.1 0 1 = nI 0 := fc_eq es23
      refine lv_aload_n hx hb dK_seal_74 rfl (lv_at hl 2 rfl) ?_
      refine lv_aload_n hx hb dK_seal_75 rfl (lv_at hl 0 rfl) ?_
      refine nw_get (C := "LatticeKeys$KemSet") (TT := T_KS) (N := 10) hx hb hts (wg_ft i_KS) hown hK hO kr30 (kn := 6) (ci := 1) (fl := [(1, 3), (1, 2), (1, 10), (1, 4), (1, 1184), (1, 2400), (1, 1088), (1, 1152), (1, 2336), (1, 2368)]) rfl hP rfl 6 (by decide) (hts _ (wg_t kw_245)) (fun _ h9 => h9) (cd := (1, 1088)) rfl dK_seal_76 (fun v37 hv39 => ?_)
      obtain rfl := (show v37 = .int (nI 1088) from hv39)
      refine lv_bipush (v := nI 32) hx hb dK_seal_79 (by decide) ?_
      refine mi_iadd hx hb dK_seal_81 ?_
      refine mi_as (show nI (1088 + 32) = nI 1120 from rfl) ?_
      refine nw_put (C := "LatticeKeys") (TT := T_K) (N := 11) hx hb hts (wg_ft i_K) ty_K k_K n_K hown hK hO hU k_h0 (kn := 0) (ci := 0) (fl := [(3, 1), (0, 0), (3, 2), (0, 0), (3, 3), (0, 0), (3, 4), (3, 8), (3, 12), (3, 24), (3, 39)]) rfl hP hD hS rfl 3 (by decide) (hts _ (wg_t kw_377)) (fun _ h9 => h9) rfl (by decide +kernel) rfl dK_seal_82 (fun s26 pl H locs es24 hO hP hD hS => ?_)
      replace hR := bnd_step hR es24
      have hF := frm_sI hF es24 (by unfold M_K_seal; omega)
      have hf43 : s26.1 0 5 = nI pn := fc_ne hf40 es24 (by omega)
      have hf44 : s26.1 0 1 = nI 0 := fc_ne hf41 es24 (by omega)
      have hf45 : s26.1 0 3 = nI 1120 := fc_eq es24
      refine lv_aload_n hx hb dK_seal_85 rfl (lv_at hl 2 rfl) ?_
      refine nw_get (C := "LatticeKeys") (TT := T_K) (N := 11) hx hb hts (wg_ft i_K) hown hK hO k_h0 (kn := 0) (ci := 0) (fl := [(3, 1), (0, 0), (3, 2), (0, 0), (3, 3), (0, 0), (3, 4), (3, 8), (3, 12), (3, 24), (3, 39)]) rfl hP rfl 3 (by decide) (hts _ (wg_t kw_377)) (fun _ h9 => h9) (cd := (0, 0)) rfl dK_seal_86 (fun v38 hv40 => ?_)
      obtain rfl := (show v38 = .int (s26.1 0 3) from hv40)
      obtain ⟨z26, ez26, hz29, hz30⟩ := cl_of (b := 2147483648) hf45 (by omega) (by decide)
      replace hR := bnd_step hR ez26
      refine mi_as hz29 ?_
      refine et_ret ?_
      exact mp_iret hx hb hr hlk hP hD hS ((nI 0, nI z26, s26), pl) ⟨⟨hR.symm, rfl, rfl, hF, ⟨0, hf44, by omega⟩, ⟨1120, hf45, by omega⟩, ⟨pn, hf43, by omega⟩, trivial⟩, hO⟩ [] rfl rfl rfl (by omega) (by omega) dK_seal_89
    · replace hR := hR.trans (if_neg h22)
      exact et_throw (own := "LatticeKeys") (cls := "java/lang/IllegalArgumentException") (text := "the tape is not 32 bytes long") (names := ["java/lang/RuntimeException", "java/lang/Exception"]) (ik := 79) (is := 184) (ic := 83) hx hb htr ctr_IAE_0 ctr_IAE_1 ctr_IAE_2 ctr_IAE_5 hown (by decide) (by decide) (hts _ (wg_t kw_501)) (hts _ (wg_t kw_18)) (hX.2.2.2.2.2.1 12 ("LatticeKeys", 184, "the tape is not 32 bytes long") rfl) (hat_IAE hts hX.2) hS.1 (hl.1.trans hml.symm) dK_seal_29 dK_seal_32 dK_seal_33 dK_seal_35 dK_seal_38 htab (Nat.le_of_ble_eq_true rfl) (Nat.le_of_ble_eq_true rfl) (Nat.le_of_ble_eq_true rfl) (Nat.le_of_ble_eq_true rfl) hlk (Nat.le_of_ble_eq_true rfl) (Nat.le_of_ble_eq_true rfl) (xls_at 1 (congrArg Prod.fst hR) (by decide) rfl) hS.2.2 (thr_st hX.2) (fun t hz9 hk9 => ⟨⟨((nI 2, nI 0, q21.2), pl), ⟨⟨hR.symm, hF, ⟨tl, hf21, by omega⟩, ⟨al, hf22, by omega⟩, ⟨pn, hf23, by omega⟩, trivial⟩, hO⟩, lc_P hP hk9, hD⟩, (lc_S hS hz9 hk9).F rfl⟩)
  replace hR := hR.trans (if_neg hs23)
  by_cases hs24 : q21.1 = nI 3
  · replace hR := hR.trans (if_pos hs24)
    obtain ⟨z27, q24, hz31, hv41, rfl, kr35⟩ := pfd_at (c := 2) hq21 (by decide) hs24
    have kr35 : T q24 = some (379 + 36 * z27 + 6) := kr35
    have ez27 : z27 = v.toNatClampNeg := by rw [hv41]; exact (nI_clamp (by omega)).symm
    replace hR := bnd_step hR ez27
    refine lv_astore_n (lv' := [(2, .ref q24), (0, .ref h0), (1, .int v)]) hx hb dK_seal_5 rfl hl (by decide) rfl (fun ls hl => ?_)
    refine lv_aload_n hx hb dK_seal_6 rfl (lv_at hl 0 rfl) ?_
    refine lv_ifnonnull (tgt := 20) hx hb dK_seal_7 (by decide) ?_
    refine lv_aload_n hx hb dK_seal_20 rfl (lv_at hl 1 rfl) ?_
    refine nw_get (C := "LatticeKeys") (TT := T_K) (N := 11) hx hb hts (wg_ft i_K) hown hK hO k_h0 (kn := 0) (ci := 0) (fl := [(3, 1), (0, 0), (3, 2), (0, 0), (3, 3), (0, 0), (3, 4), (3, 8), (3, 12), (3, 24), (3, 39)]) rfl hP rfl 1 (by decide) (hts _ (wg_t kw_375)) (fun _ h9 => h9) (cd := (0, 0)) rfl dK_seal_21 (fun v39 hv42 => ?_)
    obtain rfl := (show v39 = .int (q21.2.1 0 1) from hv42)
    obtain ⟨z28, ez28, hz32, hz33⟩ := cl_of (b := 2147483648) hf21 (by omega) (by decide)
    replace hR := bnd_step hR ez28
    refine mi_as hz32 ?_
    refine lv_bipush (v := nI 32) hx hb dK_seal_24 (by decide) ?_
    refine mi_eq (tgt := 39) hx hb dK_seal_26 (by decide) (by omega) (by omega) (fun h23 => ?_) (fun h23 => ?_)
    · replace hR := hR.trans (if_pos h23)
      refine lv_aload_n hx hb dK_seal_39 rfl (lv_at hl 1 rfl) ?_
      refine nw_get (C := "LatticeKeys") (TT := T_K) (N := 11) hx hb hts (wg_ft i_K) hown hK hO k_h0 (kn := 0) (ci := 0) (fl := [(3, 1), (0, 0), (3, 2), (0, 0), (3, 3), (0, 0), (3, 4), (3, 8), (3, 12), (3, 24), (3, 39)]) rfl hP rfl 6 (by decide) (hts _ (wg_t kw_380)) (fun _ h9 => h9) (cd := (3, 4)) rfl dK_seal_40 (fun v40 hv43 => ?_)
      obtain ⟨r34, rfl, kr36⟩ := (show ∃ r : Nat, v40 = .ref r ∧ T r = some 4 from hv43)
      refine lv_aload_n hx hb dK_seal_43 rfl (lv_at hl 0 rfl) ?_
      refine nw_get (C := "LatticeKeys$KeyPair") (TT := T_KP) (N := 3) hx hb hts (wg_ft i_KP) hown hK hO kr35 (kn := (379 + 36 * z27 + 6)) (ci := 13) (fl := [(1, 2), (3, (379 + 36 * z27 + 7)), (3, (379 + 36 * z27 + 8))]) (pr_o2 (z := z27) (by omega)) hP rfl 0 (by decide) (hts _ (wg_t kw_746)) (fun _ h9 => h9) (cd := (1, 2)) rfl dK_seal_44 (fun v41 hv44 => ?_)
      obtain rfl := (show v41 = .int (nI 2) from hv44)
      refine nw_aald6 hx hb hK hO kr36 (k := 4) (b := 5) rfl hP (by omega) (by omega) dK_seal_47 (fun r35 kr37 => ?_)
      refine lv_astore_n (lv' := [(3, .ref r35), (2, .ref q24), (0, .ref h0), (1, .int v)]) hx hb dK_seal_48 rfl hl (by decide) rfl (fun ls hl => ?_)
      refine lv_aload_n hx hb dK_seal_49 rfl (lv_at hl 2 rfl) ?_
      refine nw_get (C := "LatticeKeys") (TT := T_K) (N := 11) hx hb hts (wg_ft i_K) hown hK hO k_h0 (kn := 0) (ci := 0) (fl := [(3, 1), (0, 0), (3, 2), (0, 0), (3, 3), (0, 0), (3, 4), (3, 8), (3, 12), (3, 24), (3, 39)]) rfl hP rfl 9 (by decide) (hts _ (wg_t kw_383)) (fun _ h9 => h9) (cd := (3, 24)) rfl dK_seal_50 (fun v42 hv45 => ?_)
      obtain ⟨r36, rfl, kr38⟩ := (show ∃ r : Nat, v42 = .ref r ∧ T r = some 24 from hv45)
      refine lv_aload_n hx hb dK_seal_53 rfl (lv_at hl 0 rfl) ?_
      refine lv_aload_n hx hb dK_seal_54 rfl (lv_at hl 1 rfl) ?_
      refine nw_get (C := "LatticeKeys$KeyPair") (TT := T_KP) (N := 3) hx hb hts (wg_ft i_KP) hown hK hO kr35 (kn := (379 + 36 * z27 + 6)) (ci := 13) (fl := [(1, 2), (3, (379 + 36 * z27 + 7)), (3, (379 + 36 * z27 + 8))]) (pr_o2 (z := z27) (by omega)) hP rfl 1 (by decide) (hts _ (wg_t kw_749)) (fun _ h9 => h9) (cd := (3, (379 + 36 * z27 + 7))) rfl dK_seal_55 (fun v43 hv46 => ?_)
      obtain ⟨r37, rfl, kr39⟩ := (show ∃ r : Nat, v43 = .ref r ∧ T r = some (379 + 36 * z27 + 7) from hv46)
      refine lv_aload_n hx hb dK_seal_58 rfl (lv_at hl 2 rfl) ?_
      refine nw_get (C := "LatticeKeys") (TT := T_K) (N := 11) hx hb hts (wg_ft i_K) hown hK hO k_h0 (kn := 0) (ci := 0) (fl := [(3, 1), (0, 0), (3, 2), (0, 0), (3, 3), (0, 0), (3, 4), (3, 8), (3, 12), (3, 24), (3, 39)]) rfl hP rfl 0 (by decide) (hts _ (wg_t kw_374)) (fun _ h9 => h9) (cd := (3, 1)) rfl dK_seal_59 (fun v44 hv47 => ?_)
      obtain ⟨r38, rfl, kr40⟩ := (show ∃ r : Nat, v44 = .ref r ∧ T r = some 1 from hv47)
      refine lv_aload_n hx hb dK_seal_62 rfl (lv_at hl 2 rfl) ?_
      refine nw_get (C := "LatticeKeys") (TT := T_K) (N := 11) hx hb hts (wg_ft i_K) hown hK hO k_h0 (kn := 0) (ci := 0) (fl := [(3, 1), (0, 0), (3, 2), (0, 0), (3, 3), (0, 0), (3, 4), (3, 8), (3, 12), (3, 24), (3, 39)]) rfl hP rfl 2 (by decide) (hts _ (wg_t kw_376)) (fun _ h9 => h9) (cd := (3, 2)) rfl dK_seal_63 (fun v45 hv48 => ?_)
      obtain ⟨r39, rfl, kr41⟩ := (show ∃ r : Nat, v45 = .ref r ∧ T r = some 2 from hv48)
      refine mp_v (cx := []) (wr := []) hP hD hS hA [] [] rfl rfl rfl (by decide) (va_runV (As := [.ref r35, .ref r37, .ref r38, .ref r39]) (rest := []) F (N_KM_encapsulate_2 l g _ T q21.2 pl hO hU r36 r35 r37 r38 r39 (379 + 36 * z27 + 7) 1 16384 2 kr38 kr37 kr39 (pr_p2 (z := z27) (by omega)) kr40 rfl kr41 rfl (by omega) (by omega)) (cwV 4 hts (wg_app (wg_c kw_1110 (wg_c kw_1111 (wg_c kw_1112 (wg_c kw_3 wg_n)))) kw_1113) rfl rfl rfl (by decide +kernel) ⟨by decide, by decide⟩) (pn_W "LatticeKeys$Kem" (en_ok g) (ci := 5) (kn := 24) (fl := [(3, 14), (3, 20), (3, 25), (3, 30), (3, 31), (3, 32), (3, 33), (3, 34), (3, 35), (3, 36)]) hK hO kr38 rfl hP hD hS hA hE [] rfl rfl rfl) rfl rfl hl.1 rfl (lv_room (Nat.le_of_ble_eq_true rfl)) dK_seal_66 ⟨Nat.le_of_ble_eq_true rfl, Nat.le_of_ble_eq_true rfl⟩) (fun  u24 H locs hu24 hP hD hS => ?_)
      obtain ⟨s27, pl⟩ := u24
      obtain ⟨⟨eq24, hFc24, -⟩, hO⟩ := hu24
      have hO : okn g T s27 pl := hO
      have hP : va_P g.1 vcl ([] ++ pl) _ := hP
      have hD : va_D _ ([] ++ pl) := hD
      have hFc24 : frm (M_KM_encapsulate_2 2) q21.2 s27 := hFc24
      replace hR := bnd_step hR eq24
      have hF := frm_tr hF hFc24 (fun k hk => by unfold M_KM_encapsulate_2 at hk; unfold M_K_seal; omega)
      have hf46 : s27.1 0 1 = nI tl := fc_F hf21 hFc24 (by unfold M_KM_encapsulate_2; omega)
      have hf47 : s27.1 0 3 = nI al := fc_F hf22 hFc24 (by unfold M_KM_encapsulate_2; omega)
      have hf48 : s27.1 0 5 = nI pn := fc_F hf23 hFc24 (by unfold M_KM_encapsulate_2; omega)
      refine W.widen (k := 0) (n := 0) (by omega) (by omega) ?_
      refine lv_aload_n hx hb dK_seal_69 rfl (lv_at hl 2 rfl) ?_
      refine lv_iconst (v := nI 0) hx hb dK_seal_70 (by decide) ?_
      refine nw_put (C := "LatticeKeys") (TT := T_K) (N := 11) hx hb hts (wg_ft i_K) ty_K k_K n_K hown hK hO hU k_h0 (kn := 0) (ci := 0) (fl := [(3, 1), (0, 0), (3, 2), (0, 0), (3, 3), (0, 0), (3, 4), (3, 8), (3, 12), (3, 24), (3, 39)]) rfl hP hD hS rfl 1 (by decide) (hts _ (wg_t kw_375)) (fun _ h9 => h9) rfl (by decide +kernel) rfl dK_seal_71 (fun s28 pl H locs es25 hO hP hD hS => ?_)
      replace hR := bnd_step hR es25
      have hF := frm_sI hF es25 (by unfold M_K_seal; omega)
      have hf50 : s28.1 0 3 = nI al := fc_ne hf47 es25 (by omega)
      have hf51 : s28.1 0 5 = nI pn := fc_ne hf48 es25 (by omega)
      have hf52 : s28.1 0 1 = nI 0 := fc_eq es25
      refine lv_aload_n hx hb dK_seal_74 rfl (lv_at hl 2 rfl) ?_
      refine lv_aload_n hx hb dK_seal_75 rfl (lv_at hl 0 rfl) ?_
      refine nw_get (C := "LatticeKeys$KemSet") (TT := T_KS) (N := 10) hx hb hts (wg_ft i_KS) hown hK hO kr37 (kn := 7) (ci := 1) (fl := [(1, 4), (1, 2), (1, 11), (1, 5), (1, 1568), (1, 3168), (1, 1568), (1, 1536), (1, 3104), (1, 3136)]) rfl hP rfl 6 (by decide) (hts _ (wg_t kw_245)) (fun _ h9 => h9) (cd := (1, 1568)) rfl dK_seal_76 (fun v46 hv49 => ?_)
      obtain rfl := (show v46 = .int (nI 1568) from hv49)
      refine lv_bipush (v := nI 32) hx hb dK_seal_79 (by decide) ?_
      refine mi_iadd hx hb dK_seal_81 ?_
      refine mi_as (show nI (1568 + 32) = nI 1600 from rfl) ?_
      refine nw_put (C := "LatticeKeys") (TT := T_K) (N := 11) hx hb hts (wg_ft i_K) ty_K k_K n_K hown hK hO hU k_h0 (kn := 0) (ci := 0) (fl := [(3, 1), (0, 0), (3, 2), (0, 0), (3, 3), (0, 0), (3, 4), (3, 8), (3, 12), (3, 24), (3, 39)]) rfl hP hD hS rfl 3 (by decide) (hts _ (wg_t kw_377)) (fun _ h9 => h9) rfl (by decide +kernel) rfl dK_seal_82 (fun s29 pl H locs es26 hO hP hD hS => ?_)
      replace hR := bnd_step hR es26
      have hF := frm_sI hF es26 (by unfold M_K_seal; omega)
      have hf54 : s29.1 0 5 = nI pn := fc_ne hf51 es26 (by omega)
      have hf55 : s29.1 0 1 = nI 0 := fc_ne hf52 es26 (by omega)
      have hf56 : s29.1 0 3 = nI 1600 := fc_eq es26
      refine lv_aload_n hx hb dK_seal_85 rfl (lv_at hl 2 rfl) ?_
      refine nw_get (C := "LatticeKeys") (TT := T_K) (N := 11) hx hb hts (wg_ft i_K) hown hK hO k_h0 (kn := 0) (ci := 0) (fl := [(3, 1), (0, 0), (3, 2), (0, 0), (3, 3), (0, 0), (3, 4), (3, 8), (3, 12), (3, 24), (3, 39)]) rfl hP rfl 3 (by decide) (hts _ (wg_t kw_377)) (fun _ h9 => h9) (cd := (0, 0)) rfl dK_seal_86 (fun v47 hv50 => ?_)
      obtain rfl := (show v47 = .int (s29.1 0 3) from hv50)
      obtain ⟨z29, ez29, hz34, hz35⟩ := cl_of (b := 2147483648) hf56 (by omega) (by decide)
      replace hR := bnd_step hR ez29
      refine mi_as hz34 ?_
      refine et_ret ?_
      exact mp_iret hx hb hr hlk hP hD hS ((nI 0, nI z29, s29), pl) ⟨⟨hR.symm, rfl, rfl, hF, ⟨0, hf55, by omega⟩, ⟨1600, hf56, by omega⟩, ⟨pn, hf54, by omega⟩, trivial⟩, hO⟩ [] rfl rfl rfl (by omega) (by omega) dK_seal_89
    · replace hR := hR.trans (if_neg h23)
      exact et_throw (own := "LatticeKeys") (cls := "java/lang/IllegalArgumentException") (text := "the tape is not 32 bytes long") (names := ["java/lang/RuntimeException", "java/lang/Exception"]) (ik := 79) (is := 184) (ic := 83) hx hb htr ctr_IAE_0 ctr_IAE_1 ctr_IAE_2 ctr_IAE_5 hown (by decide) (by decide) (hts _ (wg_t kw_501)) (hts _ (wg_t kw_18)) (hX.2.2.2.2.2.1 12 ("LatticeKeys", 184, "the tape is not 32 bytes long") rfl) (hat_IAE hts hX.2) hS.1 (hl.1.trans hml.symm) dK_seal_29 dK_seal_32 dK_seal_33 dK_seal_35 dK_seal_38 htab (Nat.le_of_ble_eq_true rfl) (Nat.le_of_ble_eq_true rfl) (Nat.le_of_ble_eq_true rfl) (Nat.le_of_ble_eq_true rfl) hlk (Nat.le_of_ble_eq_true rfl) (Nat.le_of_ble_eq_true rfl) (xls_at 1 (congrArg Prod.fst hR) (by decide) rfl) hS.2.2 (thr_st hX.2) (fun t hz9 hk9 => ⟨⟨((nI 2, nI 0, q21.2), pl), ⟨⟨hR.symm, hF, ⟨tl, hf21, by omega⟩, ⟨al, hf22, by omega⟩, ⟨pn, hf23, by omega⟩, trivial⟩, hO⟩, lc_P hP hk9, hD⟩, (lc_S hS hz9 hk9).F rfl⟩)
  replace hR := hR.trans (if_neg hs24)
  by_cases hs25 : q21.1 = nI 7
  · replace hR := hR.trans (if_pos hs25)
    obtain ⟨z30, q25, hz36, hv51, rfl, kr42⟩ := pfd_at (c := 6) hq21 (by decide) hs25
    have kr42 : T q25 = some (379 + 36 * z30 + 18) := kr42
    have ez30 : z30 = v.toNatClampNeg := by rw [hv51]; exact (nI_clamp (by omega)).symm
    replace hR := bnd_step hR ez30
    refine lv_astore_n (lv' := [(2, .ref q25), (0, .ref h0), (1, .int v)]) hx hb dK_seal_5 rfl hl (by decide) rfl (fun ls hl => ?_)
    refine lv_aload_n hx hb dK_seal_6 rfl (lv_at hl 0 rfl) ?_
    refine lv_ifnonnull (tgt := 20) hx hb dK_seal_7 (by decide) ?_
    refine lv_aload_n hx hb dK_seal_20 rfl (lv_at hl 1 rfl) ?_
    refine nw_get (C := "LatticeKeys") (TT := T_K) (N := 11) hx hb hts (wg_ft i_K) hown hK hO k_h0 (kn := 0) (ci := 0) (fl := [(3, 1), (0, 0), (3, 2), (0, 0), (3, 3), (0, 0), (3, 4), (3, 8), (3, 12), (3, 24), (3, 39)]) rfl hP rfl 1 (by decide) (hts _ (wg_t kw_375)) (fun _ h9 => h9) (cd := (0, 0)) rfl dK_seal_21 (fun v48 hv52 => ?_)
    obtain rfl := (show v48 = .int (q21.2.1 0 1) from hv52)
    obtain ⟨z31, ez31, hz37, hz38⟩ := cl_of (b := 2147483648) hf21 (by omega) (by decide)
    replace hR := bnd_step hR ez31
    refine mi_as hz37 ?_
    refine lv_bipush (v := nI 32) hx hb dK_seal_24 (by decide) ?_
    refine mi_eq (tgt := 39) hx hb dK_seal_26 (by decide) (by omega) (by omega) (fun h24 => ?_) (fun h24 => ?_)
    · replace hR := hR.trans (if_pos h24)
      refine lv_aload_n hx hb dK_seal_39 rfl (lv_at hl 1 rfl) ?_
      refine nw_get (C := "LatticeKeys") (TT := T_K) (N := 11) hx hb hts (wg_ft i_K) hown hK hO k_h0 (kn := 0) (ci := 0) (fl := [(3, 1), (0, 0), (3, 2), (0, 0), (3, 3), (0, 0), (3, 4), (3, 8), (3, 12), (3, 24), (3, 39)]) rfl hP rfl 6 (by decide) (hts _ (wg_t kw_380)) (fun _ h9 => h9) (cd := (3, 4)) rfl dK_seal_40 (fun v49 hv53 => ?_)
      obtain ⟨r40, rfl, kr43⟩ := (show ∃ r : Nat, v49 = .ref r ∧ T r = some 4 from hv53)
      refine lv_aload_n hx hb dK_seal_43 rfl (lv_at hl 0 rfl) ?_
      refine nw_get (C := "LatticeKeys$KeyPair") (TT := T_KP) (N := 3) hx hb hts (wg_ft i_KP) hown hK hO kr42 (kn := (379 + 36 * z30 + 18)) (ci := 13) (fl := [(1, 0), (3, (379 + 36 * z30 + 19)), (5, 0)]) (pr_o6 (z := z30) (by omega)) hP rfl 0 (by decide) (hts _ (wg_t kw_746)) (fun _ h9 => h9) (cd := (1, 0)) rfl dK_seal_44 (fun v50 hv54 => ?_)
      obtain rfl := (show v50 = .int (nI 0) from hv54)
      refine nw_aald6 hx hb hK hO kr43 (k := 4) (b := 5) rfl hP (by omega) (by omega) dK_seal_47 (fun r41 kr44 => ?_)
      refine lv_astore_n (lv' := [(3, .ref r41), (2, .ref q25), (0, .ref h0), (1, .int v)]) hx hb dK_seal_48 rfl hl (by decide) rfl (fun ls hl => ?_)
      refine lv_aload_n hx hb dK_seal_49 rfl (lv_at hl 2 rfl) ?_
      refine nw_get (C := "LatticeKeys") (TT := T_K) (N := 11) hx hb hts (wg_ft i_K) hown hK hO k_h0 (kn := 0) (ci := 0) (fl := [(3, 1), (0, 0), (3, 2), (0, 0), (3, 3), (0, 0), (3, 4), (3, 8), (3, 12), (3, 24), (3, 39)]) rfl hP rfl 9 (by decide) (hts _ (wg_t kw_383)) (fun _ h9 => h9) (cd := (3, 24)) rfl dK_seal_50 (fun v51 hv55 => ?_)
      obtain ⟨r42, rfl, kr45⟩ := (show ∃ r : Nat, v51 = .ref r ∧ T r = some 24 from hv55)
      refine lv_aload_n hx hb dK_seal_53 rfl (lv_at hl 0 rfl) ?_
      refine lv_aload_n hx hb dK_seal_54 rfl (lv_at hl 1 rfl) ?_
      refine nw_get (C := "LatticeKeys$KeyPair") (TT := T_KP) (N := 3) hx hb hts (wg_ft i_KP) hown hK hO kr42 (kn := (379 + 36 * z30 + 18)) (ci := 13) (fl := [(1, 0), (3, (379 + 36 * z30 + 19)), (5, 0)]) (pr_o6 (z := z30) (by omega)) hP rfl 1 (by decide) (hts _ (wg_t kw_749)) (fun _ h9 => h9) (cd := (3, (379 + 36 * z30 + 19))) rfl dK_seal_55 (fun v52 hv56 => ?_)
      obtain ⟨r43, rfl, kr46⟩ := (show ∃ r : Nat, v52 = .ref r ∧ T r = some (379 + 36 * z30 + 19) from hv56)
      refine lv_aload_n hx hb dK_seal_58 rfl (lv_at hl 2 rfl) ?_
      refine nw_get (C := "LatticeKeys") (TT := T_K) (N := 11) hx hb hts (wg_ft i_K) hown hK hO k_h0 (kn := 0) (ci := 0) (fl := [(3, 1), (0, 0), (3, 2), (0, 0), (3, 3), (0, 0), (3, 4), (3, 8), (3, 12), (3, 24), (3, 39)]) rfl hP rfl 0 (by decide) (hts _ (wg_t kw_374)) (fun _ h9 => h9) (cd := (3, 1)) rfl dK_seal_59 (fun v53 hv57 => ?_)
      obtain ⟨r44, rfl, kr47⟩ := (show ∃ r : Nat, v53 = .ref r ∧ T r = some 1 from hv57)
      refine lv_aload_n hx hb dK_seal_62 rfl (lv_at hl 2 rfl) ?_
      refine nw_get (C := "LatticeKeys") (TT := T_K) (N := 11) hx hb hts (wg_ft i_K) hown hK hO k_h0 (kn := 0) (ci := 0) (fl := [(3, 1), (0, 0), (3, 2), (0, 0), (3, 3), (0, 0), (3, 4), (3, 8), (3, 12), (3, 24), (3, 39)]) rfl hP rfl 2 (by decide) (hts _ (wg_t kw_376)) (fun _ h9 => h9) (cd := (3, 2)) rfl dK_seal_63 (fun v54 hv58 => ?_)
      obtain ⟨r45, rfl, kr48⟩ := (show ∃ r : Nat, v54 = .ref r ∧ T r = some 2 from hv58)
      refine mp_v (cx := []) (wr := []) hP hD hS hA [] [] rfl rfl rfl (by decide) (va_runV (As := [.ref r41, .ref r43, .ref r44, .ref r45]) (rest := []) F (N_KM_encapsulate_0 l g _ T q21.2 pl hO hU r42 r41 r43 r44 r45 (379 + 36 * z30 + 19) 1 16384 2 kr45 kr44 kr46 (pr_p6 (z := z30) (by omega)) kr47 rfl kr48 rfl (by omega) (by omega)) (cwV 4 hts (wg_app (wg_c kw_1110 (wg_c kw_1111 (wg_c kw_1112 (wg_c kw_3 wg_n)))) kw_1113) rfl rfl rfl (by decide +kernel) ⟨by decide, by decide⟩) (pn_W "LatticeKeys$Kem" (en_ok g) (ci := 5) (kn := 24) (fl := [(3, 14), (3, 20), (3, 25), (3, 30), (3, 31), (3, 32), (3, 33), (3, 34), (3, 35), (3, 36)]) hK hO kr45 rfl hP hD hS hA hE [] rfl rfl rfl) rfl rfl hl.1 rfl (lv_room (Nat.le_of_ble_eq_true rfl)) dK_seal_66 ⟨Nat.le_of_ble_eq_true rfl, Nat.le_of_ble_eq_true rfl⟩) (fun  u25 H locs hu25 hP hD hS => ?_)
      obtain ⟨s30, pl⟩ := u25
      obtain ⟨⟨eq25, hFc25, -⟩, hO⟩ := hu25
      have hO : okn g T s30 pl := hO
      have hP : va_P g.1 vcl ([] ++ pl) _ := hP
      have hD : va_D _ ([] ++ pl) := hD
      have hFc25 : frm (M_KM_encapsulate_0 2) q21.2 s30 := hFc25
      replace hR := bnd_step hR eq25
      have hF := frm_tr hF hFc25 (fun k hk => by unfold M_KM_encapsulate_0 at hk; unfold M_K_seal; omega)
      have hf57 : s30.1 0 1 = nI tl := fc_F hf21 hFc25 (by unfold M_KM_encapsulate_0; omega)
      have hf58 : s30.1 0 3 = nI al := fc_F hf22 hFc25 (by unfold M_KM_encapsulate_0; omega)
      have hf59 : s30.1 0 5 = nI pn := fc_F hf23 hFc25 (by unfold M_KM_encapsulate_0; omega)
      refine W.widen (k := 0) (n := 0) (by omega) (by omega) ?_
      refine lv_aload_n hx hb dK_seal_69 rfl (lv_at hl 2 rfl) ?_
      refine lv_iconst (v := nI 0) hx hb dK_seal_70 (by decide) ?_
      refine nw_put (C := "LatticeKeys") (TT := T_K) (N := 11) hx hb hts (wg_ft i_K) ty_K k_K n_K hown hK hO hU k_h0 (kn := 0) (ci := 0) (fl := [(3, 1), (0, 0), (3, 2), (0, 0), (3, 3), (0, 0), (3, 4), (3, 8), (3, 12), (3, 24), (3, 39)]) rfl hP hD hS rfl 1 (by decide) (hts _ (wg_t kw_375)) (fun _ h9 => h9) rfl (by decide +kernel) rfl dK_seal_71 (fun s31 pl H locs es27 hO hP hD hS => ?_)
      replace hR := bnd_step hR es27
      have hF := frm_sI hF es27 (by unfold M_K_seal; omega)
      have hf61 : s31.1 0 3 = nI al := fc_ne hf58 es27 (by omega)
      have hf62 : s31.1 0 5 = nI pn := fc_ne hf59 es27 (by omega)
      have hf63 : s31.1 0 1 = nI 0 := fc_eq es27
      refine lv_aload_n hx hb dK_seal_74 rfl (lv_at hl 2 rfl) ?_
      refine lv_aload_n hx hb dK_seal_75 rfl (lv_at hl 0 rfl) ?_
      refine nw_get (C := "LatticeKeys$KemSet") (TT := T_KS) (N := 10) hx hb hts (wg_ft i_KS) hown hK hO kr44 (kn := 5) (ci := 1) (fl := [(1, 2), (1, 3), (1, 10), (1, 4), (1, 800), (1, 1632), (1, 768), (1, 768), (1, 1568), (1, 1600)]) rfl hP rfl 6 (by decide) (hts _ (wg_t kw_245)) (fun _ h9 => h9) (cd := (1, 768)) rfl dK_seal_76 (fun v55 hv59 => ?_)
      obtain rfl := (show v55 = .int (nI 768) from hv59)
      refine lv_bipush (v := nI 32) hx hb dK_seal_79 (by decide) ?_
      refine mi_iadd hx hb dK_seal_81 ?_
      refine mi_as (show nI (768 + 32) = nI 800 from rfl) ?_
      refine nw_put (C := "LatticeKeys") (TT := T_K) (N := 11) hx hb hts (wg_ft i_K) ty_K k_K n_K hown hK hO hU k_h0 (kn := 0) (ci := 0) (fl := [(3, 1), (0, 0), (3, 2), (0, 0), (3, 3), (0, 0), (3, 4), (3, 8), (3, 12), (3, 24), (3, 39)]) rfl hP hD hS rfl 3 (by decide) (hts _ (wg_t kw_377)) (fun _ h9 => h9) rfl (by decide +kernel) rfl dK_seal_82 (fun s32 pl H locs es28 hO hP hD hS => ?_)
      replace hR := bnd_step hR es28
      have hF := frm_sI hF es28 (by unfold M_K_seal; omega)
      have hf65 : s32.1 0 5 = nI pn := fc_ne hf62 es28 (by omega)
      have hf66 : s32.1 0 1 = nI 0 := fc_ne hf63 es28 (by omega)
      have hf67 : s32.1 0 3 = nI 800 := fc_eq es28
      refine lv_aload_n hx hb dK_seal_85 rfl (lv_at hl 2 rfl) ?_
      refine nw_get (C := "LatticeKeys") (TT := T_K) (N := 11) hx hb hts (wg_ft i_K) hown hK hO k_h0 (kn := 0) (ci := 0) (fl := [(3, 1), (0, 0), (3, 2), (0, 0), (3, 3), (0, 0), (3, 4), (3, 8), (3, 12), (3, 24), (3, 39)]) rfl hP rfl 3 (by decide) (hts _ (wg_t kw_377)) (fun _ h9 => h9) (cd := (0, 0)) rfl dK_seal_86 (fun v56 hv60 => ?_)
      obtain rfl := (show v56 = .int (s32.1 0 3) from hv60)
      obtain ⟨z32, ez32, hz39, hz40⟩ := cl_of (b := 2147483648) hf67 (by omega) (by decide)
      replace hR := bnd_step hR ez32
      refine mi_as hz39 ?_
      refine et_ret ?_
      exact mp_iret hx hb hr hlk hP hD hS ((nI 0, nI z32, s32), pl) ⟨⟨hR.symm, rfl, rfl, hF, ⟨0, hf66, by omega⟩, ⟨800, hf67, by omega⟩, ⟨pn, hf65, by omega⟩, trivial⟩, hO⟩ [] rfl rfl rfl (by omega) (by omega) dK_seal_89
    · replace hR := hR.trans (if_neg h24)
      exact et_throw (own := "LatticeKeys") (cls := "java/lang/IllegalArgumentException") (text := "the tape is not 32 bytes long") (names := ["java/lang/RuntimeException", "java/lang/Exception"]) (ik := 79) (is := 184) (ic := 83) hx hb htr ctr_IAE_0 ctr_IAE_1 ctr_IAE_2 ctr_IAE_5 hown (by decide) (by decide) (hts _ (wg_t kw_501)) (hts _ (wg_t kw_18)) (hX.2.2.2.2.2.1 12 ("LatticeKeys", 184, "the tape is not 32 bytes long") rfl) (hat_IAE hts hX.2) hS.1 (hl.1.trans hml.symm) dK_seal_29 dK_seal_32 dK_seal_33 dK_seal_35 dK_seal_38 htab (Nat.le_of_ble_eq_true rfl) (Nat.le_of_ble_eq_true rfl) (Nat.le_of_ble_eq_true rfl) (Nat.le_of_ble_eq_true rfl) hlk (Nat.le_of_ble_eq_true rfl) (Nat.le_of_ble_eq_true rfl) (xls_at 1 (congrArg Prod.fst hR) (by decide) rfl) hS.2.2 (thr_st hX.2) (fun t hz9 hk9 => ⟨⟨((nI 2, nI 0, q21.2), pl), ⟨⟨hR.symm, hF, ⟨tl, hf21, by omega⟩, ⟨al, hf22, by omega⟩, ⟨pn, hf23, by omega⟩, trivial⟩, hO⟩, lc_P hP hk9, hD⟩, (lc_S hS hz9 hk9).F rfl⟩)
  replace hR := hR.trans (if_neg hs25)
  by_cases hs26 : q21.1 = nI 8
  · replace hR := hR.trans (if_pos hs26)
    obtain ⟨z33, q26, hz41, hv61, rfl, kr49⟩ := pfd_at (c := 7) hq21 (by decide) hs26
    have kr49 : T q26 = some (379 + 36 * z33 + 21) := kr49
    have ez33 : z33 = v.toNatClampNeg := by rw [hv61]; exact (nI_clamp (by omega)).symm
    replace hR := bnd_step hR ez33
    refine lv_astore_n (lv' := [(2, .ref q26), (0, .ref h0), (1, .int v)]) hx hb dK_seal_5 rfl hl (by decide) rfl (fun ls hl => ?_)
    refine lv_aload_n hx hb dK_seal_6 rfl (lv_at hl 0 rfl) ?_
    refine lv_ifnonnull (tgt := 20) hx hb dK_seal_7 (by decide) ?_
    refine lv_aload_n hx hb dK_seal_20 rfl (lv_at hl 1 rfl) ?_
    refine nw_get (C := "LatticeKeys") (TT := T_K) (N := 11) hx hb hts (wg_ft i_K) hown hK hO k_h0 (kn := 0) (ci := 0) (fl := [(3, 1), (0, 0), (3, 2), (0, 0), (3, 3), (0, 0), (3, 4), (3, 8), (3, 12), (3, 24), (3, 39)]) rfl hP rfl 1 (by decide) (hts _ (wg_t kw_375)) (fun _ h9 => h9) (cd := (0, 0)) rfl dK_seal_21 (fun v57 hv62 => ?_)
    obtain rfl := (show v57 = .int (q21.2.1 0 1) from hv62)
    obtain ⟨z34, ez34, hz42, hz43⟩ := cl_of (b := 2147483648) hf21 (by omega) (by decide)
    replace hR := bnd_step hR ez34
    refine mi_as hz42 ?_
    refine lv_bipush (v := nI 32) hx hb dK_seal_24 (by decide) ?_
    refine mi_eq (tgt := 39) hx hb dK_seal_26 (by decide) (by omega) (by omega) (fun h25 => ?_) (fun h25 => ?_)
    · replace hR := hR.trans (if_pos h25)
      refine lv_aload_n hx hb dK_seal_39 rfl (lv_at hl 1 rfl) ?_
      refine nw_get (C := "LatticeKeys") (TT := T_K) (N := 11) hx hb hts (wg_ft i_K) hown hK hO k_h0 (kn := 0) (ci := 0) (fl := [(3, 1), (0, 0), (3, 2), (0, 0), (3, 3), (0, 0), (3, 4), (3, 8), (3, 12), (3, 24), (3, 39)]) rfl hP rfl 6 (by decide) (hts _ (wg_t kw_380)) (fun _ h9 => h9) (cd := (3, 4)) rfl dK_seal_40 (fun v58 hv63 => ?_)
      obtain ⟨r46, rfl, kr50⟩ := (show ∃ r : Nat, v58 = .ref r ∧ T r = some 4 from hv63)
      refine lv_aload_n hx hb dK_seal_43 rfl (lv_at hl 0 rfl) ?_
      refine nw_get (C := "LatticeKeys$KeyPair") (TT := T_KP) (N := 3) hx hb hts (wg_ft i_KP) hown hK hO kr49 (kn := (379 + 36 * z33 + 21)) (ci := 13) (fl := [(1, 1), (3, (379 + 36 * z33 + 22)), (5, 0)]) (pr_o7 (z := z33) (by omega)) hP rfl 0 (by decide) (hts _ (wg_t kw_746)) (fun _ h9 => h9) (cd := (1, 1)) rfl dK_seal_44 (fun v59 hv64 => ?_)
      obtain rfl := (show v59 = .int (nI 1) from hv64)
      refine nw_aald6 hx hb hK hO kr50 (k := 4) (b := 5) rfl hP (by omega) (by omega) dK_seal_47 (fun r47 kr51 => ?_)
      refine lv_astore_n (lv' := [(3, .ref r47), (2, .ref q26), (0, .ref h0), (1, .int v)]) hx hb dK_seal_48 rfl hl (by decide) rfl (fun ls hl => ?_)
      refine lv_aload_n hx hb dK_seal_49 rfl (lv_at hl 2 rfl) ?_
      refine nw_get (C := "LatticeKeys") (TT := T_K) (N := 11) hx hb hts (wg_ft i_K) hown hK hO k_h0 (kn := 0) (ci := 0) (fl := [(3, 1), (0, 0), (3, 2), (0, 0), (3, 3), (0, 0), (3, 4), (3, 8), (3, 12), (3, 24), (3, 39)]) rfl hP rfl 9 (by decide) (hts _ (wg_t kw_383)) (fun _ h9 => h9) (cd := (3, 24)) rfl dK_seal_50 (fun v60 hv65 => ?_)
      obtain ⟨r48, rfl, kr52⟩ := (show ∃ r : Nat, v60 = .ref r ∧ T r = some 24 from hv65)
      refine lv_aload_n hx hb dK_seal_53 rfl (lv_at hl 0 rfl) ?_
      refine lv_aload_n hx hb dK_seal_54 rfl (lv_at hl 1 rfl) ?_
      refine nw_get (C := "LatticeKeys$KeyPair") (TT := T_KP) (N := 3) hx hb hts (wg_ft i_KP) hown hK hO kr49 (kn := (379 + 36 * z33 + 21)) (ci := 13) (fl := [(1, 1), (3, (379 + 36 * z33 + 22)), (5, 0)]) (pr_o7 (z := z33) (by omega)) hP rfl 1 (by decide) (hts _ (wg_t kw_749)) (fun _ h9 => h9) (cd := (3, (379 + 36 * z33 + 22))) rfl dK_seal_55 (fun v61 hv66 => ?_)
      obtain ⟨r49, rfl, kr53⟩ := (show ∃ r : Nat, v61 = .ref r ∧ T r = some (379 + 36 * z33 + 22) from hv66)
      refine lv_aload_n hx hb dK_seal_58 rfl (lv_at hl 2 rfl) ?_
      refine nw_get (C := "LatticeKeys") (TT := T_K) (N := 11) hx hb hts (wg_ft i_K) hown hK hO k_h0 (kn := 0) (ci := 0) (fl := [(3, 1), (0, 0), (3, 2), (0, 0), (3, 3), (0, 0), (3, 4), (3, 8), (3, 12), (3, 24), (3, 39)]) rfl hP rfl 0 (by decide) (hts _ (wg_t kw_374)) (fun _ h9 => h9) (cd := (3, 1)) rfl dK_seal_59 (fun v62 hv67 => ?_)
      obtain ⟨r50, rfl, kr54⟩ := (show ∃ r : Nat, v62 = .ref r ∧ T r = some 1 from hv67)
      refine lv_aload_n hx hb dK_seal_62 rfl (lv_at hl 2 rfl) ?_
      refine nw_get (C := "LatticeKeys") (TT := T_K) (N := 11) hx hb hts (wg_ft i_K) hown hK hO k_h0 (kn := 0) (ci := 0) (fl := [(3, 1), (0, 0), (3, 2), (0, 0), (3, 3), (0, 0), (3, 4), (3, 8), (3, 12), (3, 24), (3, 39)]) rfl hP rfl 2 (by decide) (hts _ (wg_t kw_376)) (fun _ h9 => h9) (cd := (3, 2)) rfl dK_seal_63 (fun v63 hv68 => ?_)
      obtain ⟨r51, rfl, kr55⟩ := (show ∃ r : Nat, v63 = .ref r ∧ T r = some 2 from hv68)
      refine mp_v (cx := []) (wr := []) hP hD hS hA [] [] rfl rfl rfl (by decide) (va_runV (As := [.ref r47, .ref r49, .ref r50, .ref r51]) (rest := []) F (N_KM_encapsulate_1 l g _ T q21.2 pl hO hU r48 r47 r49 r50 r51 (379 + 36 * z33 + 22) 1 16384 2 kr52 kr51 kr53 (pr_p7 (z := z33) (by omega)) kr54 rfl kr55 rfl (by omega) (by omega)) (cwV 4 hts (wg_app (wg_c kw_1110 (wg_c kw_1111 (wg_c kw_1112 (wg_c kw_3 wg_n)))) kw_1113) rfl rfl rfl (by decide +kernel) ⟨by decide, by decide⟩) (pn_W "LatticeKeys$Kem" (en_ok g) (ci := 5) (kn := 24) (fl := [(3, 14), (3, 20), (3, 25), (3, 30), (3, 31), (3, 32), (3, 33), (3, 34), (3, 35), (3, 36)]) hK hO kr52 rfl hP hD hS hA hE [] rfl rfl rfl) rfl rfl hl.1 rfl (lv_room (Nat.le_of_ble_eq_true rfl)) dK_seal_66 ⟨Nat.le_of_ble_eq_true rfl, Nat.le_of_ble_eq_true rfl⟩) (fun  u26 H locs hu26 hP hD hS => ?_)
      obtain ⟨s33, pl⟩ := u26
      obtain ⟨⟨eq26, hFc26, -⟩, hO⟩ := hu26
      have hO : okn g T s33 pl := hO
      have hP : va_P g.1 vcl ([] ++ pl) _ := hP
      have hD : va_D _ ([] ++ pl) := hD
      have hFc26 : frm (M_KM_encapsulate_1 2) q21.2 s33 := hFc26
      replace hR := bnd_step hR eq26
      have hF := frm_tr hF hFc26 (fun k hk => by unfold M_KM_encapsulate_1 at hk; unfold M_K_seal; omega)
      have hf68 : s33.1 0 1 = nI tl := fc_F hf21 hFc26 (by unfold M_KM_encapsulate_1; omega)
      have hf69 : s33.1 0 3 = nI al := fc_F hf22 hFc26 (by unfold M_KM_encapsulate_1; omega)
      have hf70 : s33.1 0 5 = nI pn := fc_F hf23 hFc26 (by unfold M_KM_encapsulate_1; omega)
      refine W.widen (k := 0) (n := 0) (by omega) (by omega) ?_
      refine lv_aload_n hx hb dK_seal_69 rfl (lv_at hl 2 rfl) ?_
      refine lv_iconst (v := nI 0) hx hb dK_seal_70 (by decide) ?_
      refine nw_put (C := "LatticeKeys") (TT := T_K) (N := 11) hx hb hts (wg_ft i_K) ty_K k_K n_K hown hK hO hU k_h0 (kn := 0) (ci := 0) (fl := [(3, 1), (0, 0), (3, 2), (0, 0), (3, 3), (0, 0), (3, 4), (3, 8), (3, 12), (3, 24), (3, 39)]) rfl hP hD hS rfl 1 (by decide) (hts _ (wg_t kw_375)) (fun _ h9 => h9) rfl (by decide +kernel) rfl dK_seal_71 (fun s34 pl H locs es29 hO hP hD hS => ?_)
      replace hR := bnd_step hR es29
      have hF := frm_sI hF es29 (by unfold M_K_seal; omega)
      have hf72 : s34.1 0 3 = nI al := fc_ne hf69 es29 (by omega)
      have hf73 : s34.1 0 5 = nI pn := fc_ne hf70 es29 (by omega)
      have hf74 : s34.1 0 1 = nI 0 := fc_eq es29
      refine lv_aload_n hx hb dK_seal_74 rfl (lv_at hl 2 rfl) ?_
      refine lv_aload_n hx hb dK_seal_75 rfl (lv_at hl 0 rfl) ?_
      refine nw_get (C := "LatticeKeys$KemSet") (TT := T_KS) (N := 10) hx hb hts (wg_ft i_KS) hown hK hO kr51 (kn := 6) (ci := 1) (fl := [(1, 3), (1, 2), (1, 10), (1, 4), (1, 1184), (1, 2400), (1, 1088), (1, 1152), (1, 2336), (1, 2368)]) rfl hP rfl 6 (by decide) (hts _ (wg_t kw_245)) (fun _ h9 => h9) (cd := (1, 1088)) rfl dK_seal_76 (fun v64 hv69 => ?_)
      obtain rfl := (show v64 = .int (nI 1088) from hv69)
      refine lv_bipush (v := nI 32) hx hb dK_seal_79 (by decide) ?_
      refine mi_iadd hx hb dK_seal_81 ?_
      refine mi_as (show nI (1088 + 32) = nI 1120 from rfl) ?_
      refine nw_put (C := "LatticeKeys") (TT := T_K) (N := 11) hx hb hts (wg_ft i_K) ty_K k_K n_K hown hK hO hU k_h0 (kn := 0) (ci := 0) (fl := [(3, 1), (0, 0), (3, 2), (0, 0), (3, 3), (0, 0), (3, 4), (3, 8), (3, 12), (3, 24), (3, 39)]) rfl hP hD hS rfl 3 (by decide) (hts _ (wg_t kw_377)) (fun _ h9 => h9) rfl (by decide +kernel) rfl dK_seal_82 (fun s35 pl H locs es30 hO hP hD hS => ?_)
      replace hR := bnd_step hR es30
      have hF := frm_sI hF es30 (by unfold M_K_seal; omega)
      have hf76 : s35.1 0 5 = nI pn := fc_ne hf73 es30 (by omega)
      have hf77 : s35.1 0 1 = nI 0 := fc_ne hf74 es30 (by omega)
      have hf78 : s35.1 0 3 = nI 1120 := fc_eq es30
      refine lv_aload_n hx hb dK_seal_85 rfl (lv_at hl 2 rfl) ?_
      refine nw_get (C := "LatticeKeys") (TT := T_K) (N := 11) hx hb hts (wg_ft i_K) hown hK hO k_h0 (kn := 0) (ci := 0) (fl := [(3, 1), (0, 0), (3, 2), (0, 0), (3, 3), (0, 0), (3, 4), (3, 8), (3, 12), (3, 24), (3, 39)]) rfl hP rfl 3 (by decide) (hts _ (wg_t kw_377)) (fun _ h9 => h9) (cd := (0, 0)) rfl dK_seal_86 (fun v65 hv70 => ?_)
      obtain rfl := (show v65 = .int (s35.1 0 3) from hv70)
      obtain ⟨z35, ez35, hz44, hz45⟩ := cl_of (b := 2147483648) hf78 (by omega) (by decide)
      replace hR := bnd_step hR ez35
      refine mi_as hz44 ?_
      refine et_ret ?_
      exact mp_iret hx hb hr hlk hP hD hS ((nI 0, nI z35, s35), pl) ⟨⟨hR.symm, rfl, rfl, hF, ⟨0, hf77, by omega⟩, ⟨1120, hf78, by omega⟩, ⟨pn, hf76, by omega⟩, trivial⟩, hO⟩ [] rfl rfl rfl (by omega) (by omega) dK_seal_89
    · replace hR := hR.trans (if_neg h25)
      exact et_throw (own := "LatticeKeys") (cls := "java/lang/IllegalArgumentException") (text := "the tape is not 32 bytes long") (names := ["java/lang/RuntimeException", "java/lang/Exception"]) (ik := 79) (is := 184) (ic := 83) hx hb htr ctr_IAE_0 ctr_IAE_1 ctr_IAE_2 ctr_IAE_5 hown (by decide) (by decide) (hts _ (wg_t kw_501)) (hts _ (wg_t kw_18)) (hX.2.2.2.2.2.1 12 ("LatticeKeys", 184, "the tape is not 32 bytes long") rfl) (hat_IAE hts hX.2) hS.1 (hl.1.trans hml.symm) dK_seal_29 dK_seal_32 dK_seal_33 dK_seal_35 dK_seal_38 htab (Nat.le_of_ble_eq_true rfl) (Nat.le_of_ble_eq_true rfl) (Nat.le_of_ble_eq_true rfl) (Nat.le_of_ble_eq_true rfl) hlk (Nat.le_of_ble_eq_true rfl) (Nat.le_of_ble_eq_true rfl) (xls_at 1 (congrArg Prod.fst hR) (by decide) rfl) hS.2.2 (thr_st hX.2) (fun t hz9 hk9 => ⟨⟨((nI 2, nI 0, q21.2), pl), ⟨⟨hR.symm, hF, ⟨tl, hf21, by omega⟩, ⟨al, hf22, by omega⟩, ⟨pn, hf23, by omega⟩, trivial⟩, hO⟩, lc_P hP hk9, hD⟩, (lc_S hS hz9 hk9).F rfl⟩)
  replace hR := hR.trans (if_neg hs26)
  by_cases hs27 : q21.1 = nI 9
  · replace hR := hR.trans (if_pos hs27)
    obtain ⟨z36, q27, hz46, hv71, rfl, kr56⟩ := pfd_at (c := 8) hq21 (by decide) hs27
    have kr56 : T q27 = some (379 + 36 * z36 + 24) := kr56
    have ez36 : z36 = v.toNatClampNeg := by rw [hv71]; exact (nI_clamp (by omega)).symm
    replace hR := bnd_step hR ez36
    refine lv_astore_n (lv' := [(2, .ref q27), (0, .ref h0), (1, .int v)]) hx hb dK_seal_5 rfl hl (by decide) rfl (fun ls hl => ?_)
    refine lv_aload_n hx hb dK_seal_6 rfl (lv_at hl 0 rfl) ?_
    refine lv_ifnonnull (tgt := 20) hx hb dK_seal_7 (by decide) ?_
    refine lv_aload_n hx hb dK_seal_20 rfl (lv_at hl 1 rfl) ?_
    refine nw_get (C := "LatticeKeys") (TT := T_K) (N := 11) hx hb hts (wg_ft i_K) hown hK hO k_h0 (kn := 0) (ci := 0) (fl := [(3, 1), (0, 0), (3, 2), (0, 0), (3, 3), (0, 0), (3, 4), (3, 8), (3, 12), (3, 24), (3, 39)]) rfl hP rfl 1 (by decide) (hts _ (wg_t kw_375)) (fun _ h9 => h9) (cd := (0, 0)) rfl dK_seal_21 (fun v66 hv72 => ?_)
    obtain rfl := (show v66 = .int (q21.2.1 0 1) from hv72)
    obtain ⟨z37, ez37, hz47, hz48⟩ := cl_of (b := 2147483648) hf21 (by omega) (by decide)
    replace hR := bnd_step hR ez37
    refine mi_as hz47 ?_
    refine lv_bipush (v := nI 32) hx hb dK_seal_24 (by decide) ?_
    refine mi_eq (tgt := 39) hx hb dK_seal_26 (by decide) (by omega) (by omega) (fun h26 => ?_) (fun h26 => ?_)
    · replace hR := hR.trans (if_pos h26)
      refine lv_aload_n hx hb dK_seal_39 rfl (lv_at hl 1 rfl) ?_
      refine nw_get (C := "LatticeKeys") (TT := T_K) (N := 11) hx hb hts (wg_ft i_K) hown hK hO k_h0 (kn := 0) (ci := 0) (fl := [(3, 1), (0, 0), (3, 2), (0, 0), (3, 3), (0, 0), (3, 4), (3, 8), (3, 12), (3, 24), (3, 39)]) rfl hP rfl 6 (by decide) (hts _ (wg_t kw_380)) (fun _ h9 => h9) (cd := (3, 4)) rfl dK_seal_40 (fun v67 hv73 => ?_)
      obtain ⟨r52, rfl, kr57⟩ := (show ∃ r : Nat, v67 = .ref r ∧ T r = some 4 from hv73)
      refine lv_aload_n hx hb dK_seal_43 rfl (lv_at hl 0 rfl) ?_
      refine nw_get (C := "LatticeKeys$KeyPair") (TT := T_KP) (N := 3) hx hb hts (wg_ft i_KP) hown hK hO kr56 (kn := (379 + 36 * z36 + 24)) (ci := 13) (fl := [(1, 2), (3, (379 + 36 * z36 + 25)), (5, 0)]) (pr_o8 (z := z36) (by omega)) hP rfl 0 (by decide) (hts _ (wg_t kw_746)) (fun _ h9 => h9) (cd := (1, 2)) rfl dK_seal_44 (fun v68 hv74 => ?_)
      obtain rfl := (show v68 = .int (nI 2) from hv74)
      refine nw_aald6 hx hb hK hO kr57 (k := 4) (b := 5) rfl hP (by omega) (by omega) dK_seal_47 (fun r53 kr58 => ?_)
      refine lv_astore_n (lv' := [(3, .ref r53), (2, .ref q27), (0, .ref h0), (1, .int v)]) hx hb dK_seal_48 rfl hl (by decide) rfl (fun ls hl => ?_)
      refine lv_aload_n hx hb dK_seal_49 rfl (lv_at hl 2 rfl) ?_
      refine nw_get (C := "LatticeKeys") (TT := T_K) (N := 11) hx hb hts (wg_ft i_K) hown hK hO k_h0 (kn := 0) (ci := 0) (fl := [(3, 1), (0, 0), (3, 2), (0, 0), (3, 3), (0, 0), (3, 4), (3, 8), (3, 12), (3, 24), (3, 39)]) rfl hP rfl 9 (by decide) (hts _ (wg_t kw_383)) (fun _ h9 => h9) (cd := (3, 24)) rfl dK_seal_50 (fun v69 hv75 => ?_)
      obtain ⟨r54, rfl, kr59⟩ := (show ∃ r : Nat, v69 = .ref r ∧ T r = some 24 from hv75)
      refine lv_aload_n hx hb dK_seal_53 rfl (lv_at hl 0 rfl) ?_
      refine lv_aload_n hx hb dK_seal_54 rfl (lv_at hl 1 rfl) ?_
      refine nw_get (C := "LatticeKeys$KeyPair") (TT := T_KP) (N := 3) hx hb hts (wg_ft i_KP) hown hK hO kr56 (kn := (379 + 36 * z36 + 24)) (ci := 13) (fl := [(1, 2), (3, (379 + 36 * z36 + 25)), (5, 0)]) (pr_o8 (z := z36) (by omega)) hP rfl 1 (by decide) (hts _ (wg_t kw_749)) (fun _ h9 => h9) (cd := (3, (379 + 36 * z36 + 25))) rfl dK_seal_55 (fun v70 hv76 => ?_)
      obtain ⟨r55, rfl, kr60⟩ := (show ∃ r : Nat, v70 = .ref r ∧ T r = some (379 + 36 * z36 + 25) from hv76)
      refine lv_aload_n hx hb dK_seal_58 rfl (lv_at hl 2 rfl) ?_
      refine nw_get (C := "LatticeKeys") (TT := T_K) (N := 11) hx hb hts (wg_ft i_K) hown hK hO k_h0 (kn := 0) (ci := 0) (fl := [(3, 1), (0, 0), (3, 2), (0, 0), (3, 3), (0, 0), (3, 4), (3, 8), (3, 12), (3, 24), (3, 39)]) rfl hP rfl 0 (by decide) (hts _ (wg_t kw_374)) (fun _ h9 => h9) (cd := (3, 1)) rfl dK_seal_59 (fun v71 hv77 => ?_)
      obtain ⟨r56, rfl, kr61⟩ := (show ∃ r : Nat, v71 = .ref r ∧ T r = some 1 from hv77)
      refine lv_aload_n hx hb dK_seal_62 rfl (lv_at hl 2 rfl) ?_
      refine nw_get (C := "LatticeKeys") (TT := T_K) (N := 11) hx hb hts (wg_ft i_K) hown hK hO k_h0 (kn := 0) (ci := 0) (fl := [(3, 1), (0, 0), (3, 2), (0, 0), (3, 3), (0, 0), (3, 4), (3, 8), (3, 12), (3, 24), (3, 39)]) rfl hP rfl 2 (by decide) (hts _ (wg_t kw_376)) (fun _ h9 => h9) (cd := (3, 2)) rfl dK_seal_63 (fun v72 hv78 => ?_)
      obtain ⟨r57, rfl, kr62⟩ := (show ∃ r : Nat, v72 = .ref r ∧ T r = some 2 from hv78)
      refine mp_v (cx := []) (wr := []) hP hD hS hA [] [] rfl rfl rfl (by decide) (va_runV (As := [.ref r53, .ref r55, .ref r56, .ref r57]) (rest := []) F (N_KM_encapsulate_2 l g _ T q21.2 pl hO hU r54 r53 r55 r56 r57 (379 + 36 * z36 + 25) 1 16384 2 kr59 kr58 kr60 (pr_p8 (z := z36) (by omega)) kr61 rfl kr62 rfl (by omega) (by omega)) (cwV 4 hts (wg_app (wg_c kw_1110 (wg_c kw_1111 (wg_c kw_1112 (wg_c kw_3 wg_n)))) kw_1113) rfl rfl rfl (by decide +kernel) ⟨by decide, by decide⟩) (pn_W "LatticeKeys$Kem" (en_ok g) (ci := 5) (kn := 24) (fl := [(3, 14), (3, 20), (3, 25), (3, 30), (3, 31), (3, 32), (3, 33), (3, 34), (3, 35), (3, 36)]) hK hO kr59 rfl hP hD hS hA hE [] rfl rfl rfl) rfl rfl hl.1 rfl (lv_room (Nat.le_of_ble_eq_true rfl)) dK_seal_66 ⟨Nat.le_of_ble_eq_true rfl, Nat.le_of_ble_eq_true rfl⟩) (fun  u27 H locs hu27 hP hD hS => ?_)
      obtain ⟨s36, pl⟩ := u27
      obtain ⟨⟨eq27, hFc27, -⟩, hO⟩ := hu27
      have hO : okn g T s36 pl := hO
      have hP : va_P g.1 vcl ([] ++ pl) _ := hP
      have hD : va_D _ ([] ++ pl) := hD
      have hFc27 : frm (M_KM_encapsulate_2 2) q21.2 s36 := hFc27
      replace hR := bnd_step hR eq27
      have hF := frm_tr hF hFc27 (fun k hk => by unfold M_KM_encapsulate_2 at hk; unfold M_K_seal; omega)
      have hf79 : s36.1 0 1 = nI tl := fc_F hf21 hFc27 (by unfold M_KM_encapsulate_2; omega)
      have hf80 : s36.1 0 3 = nI al := fc_F hf22 hFc27 (by unfold M_KM_encapsulate_2; omega)
      have hf81 : s36.1 0 5 = nI pn := fc_F hf23 hFc27 (by unfold M_KM_encapsulate_2; omega)
      refine W.widen (k := 0) (n := 0) (by omega) (by omega) ?_
      refine lv_aload_n hx hb dK_seal_69 rfl (lv_at hl 2 rfl) ?_
      refine lv_iconst (v := nI 0) hx hb dK_seal_70 (by decide) ?_
      refine nw_put (C := "LatticeKeys") (TT := T_K) (N := 11) hx hb hts (wg_ft i_K) ty_K k_K n_K hown hK hO hU k_h0 (kn := 0) (ci := 0) (fl := [(3, 1), (0, 0), (3, 2), (0, 0), (3, 3), (0, 0), (3, 4), (3, 8), (3, 12), (3, 24), (3, 39)]) rfl hP hD hS rfl 1 (by decide) (hts _ (wg_t kw_375)) (fun _ h9 => h9) rfl (by decide +kernel) rfl dK_seal_71 (fun s37 pl H locs es31 hO hP hD hS => ?_)
      replace hR := bnd_step hR es31
      have hF := frm_sI hF es31 (by unfold M_K_seal; omega)
      have hf83 : s37.1 0 3 = nI al := fc_ne hf80 es31 (by omega)
      have hf84 : s37.1 0 5 = nI pn := fc_ne hf81 es31 (by omega)
      have hf85 : s37.1 0 1 = nI 0 := fc_eq es31
      refine lv_aload_n hx hb dK_seal_74 rfl (lv_at hl 2 rfl) ?_
      refine lv_aload_n hx hb dK_seal_75 rfl (lv_at hl 0 rfl) ?_
      refine nw_get (C := "LatticeKeys$KemSet") (TT := T_KS) (N := 10) hx hb hts (wg_ft i_KS) hown hK hO kr58 (kn := 7) (ci := 1) (fl := [(1, 4), (1, 2), (1, 11), (1, 5), (1, 1568), (1, 3168), (1, 1568), (1, 1536), (1, 3104), (1, 3136)]) rfl hP rfl 6 (by decide) (hts _ (wg_t kw_245)) (fun _ h9 => h9) (cd := (1, 1568)) rfl dK_seal_76 (fun v73 hv79 => ?_)
      obtain rfl := (show v73 = .int (nI 1568) from hv79)
      refine lv_bipush (v := nI 32) hx hb dK_seal_79 (by decide) ?_
      refine mi_iadd hx hb dK_seal_81 ?_
      refine mi_as (show nI (1568 + 32) = nI 1600 from rfl) ?_
      refine nw_put (C := "LatticeKeys") (TT := T_K) (N := 11) hx hb hts (wg_ft i_K) ty_K k_K n_K hown hK hO hU k_h0 (kn := 0) (ci := 0) (fl := [(3, 1), (0, 0), (3, 2), (0, 0), (3, 3), (0, 0), (3, 4), (3, 8), (3, 12), (3, 24), (3, 39)]) rfl hP hD hS rfl 3 (by decide) (hts _ (wg_t kw_377)) (fun _ h9 => h9) rfl (by decide +kernel) rfl dK_seal_82 (fun s38 pl H locs es32 hO hP hD hS => ?_)
      replace hR := bnd_step hR es32
      have hF := frm_sI hF es32 (by unfold M_K_seal; omega)
      have hf87 : s38.1 0 5 = nI pn := fc_ne hf84 es32 (by omega)
      have hf88 : s38.1 0 1 = nI 0 := fc_ne hf85 es32 (by omega)
      have hf89 : s38.1 0 3 = nI 1600 := fc_eq es32
      refine lv_aload_n hx hb dK_seal_85 rfl (lv_at hl 2 rfl) ?_
      refine nw_get (C := "LatticeKeys") (TT := T_K) (N := 11) hx hb hts (wg_ft i_K) hown hK hO k_h0 (kn := 0) (ci := 0) (fl := [(3, 1), (0, 0), (3, 2), (0, 0), (3, 3), (0, 0), (3, 4), (3, 8), (3, 12), (3, 24), (3, 39)]) rfl hP rfl 3 (by decide) (hts _ (wg_t kw_377)) (fun _ h9 => h9) (cd := (0, 0)) rfl dK_seal_86 (fun v74 hv80 => ?_)
      obtain rfl := (show v74 = .int (s38.1 0 3) from hv80)
      obtain ⟨z38, ez38, hz49, hz50⟩ := cl_of (b := 2147483648) hf89 (by omega) (by decide)
      replace hR := bnd_step hR ez38
      refine mi_as hz49 ?_
      refine et_ret ?_
      exact mp_iret hx hb hr hlk hP hD hS ((nI 0, nI z38, s38), pl) ⟨⟨hR.symm, rfl, rfl, hF, ⟨0, hf88, by omega⟩, ⟨1600, hf89, by omega⟩, ⟨pn, hf87, by omega⟩, trivial⟩, hO⟩ [] rfl rfl rfl (by omega) (by omega) dK_seal_89
    · replace hR := hR.trans (if_neg h26)
      exact et_throw (own := "LatticeKeys") (cls := "java/lang/IllegalArgumentException") (text := "the tape is not 32 bytes long") (names := ["java/lang/RuntimeException", "java/lang/Exception"]) (ik := 79) (is := 184) (ic := 83) hx hb htr ctr_IAE_0 ctr_IAE_1 ctr_IAE_2 ctr_IAE_5 hown (by decide) (by decide) (hts _ (wg_t kw_501)) (hts _ (wg_t kw_18)) (hX.2.2.2.2.2.1 12 ("LatticeKeys", 184, "the tape is not 32 bytes long") rfl) (hat_IAE hts hX.2) hS.1 (hl.1.trans hml.symm) dK_seal_29 dK_seal_32 dK_seal_33 dK_seal_35 dK_seal_38 htab (Nat.le_of_ble_eq_true rfl) (Nat.le_of_ble_eq_true rfl) (Nat.le_of_ble_eq_true rfl) (Nat.le_of_ble_eq_true rfl) hlk (Nat.le_of_ble_eq_true rfl) (Nat.le_of_ble_eq_true rfl) (xls_at 1 (congrArg Prod.fst hR) (by decide) rfl) hS.2.2 (thr_st hX.2) (fun t hz9 hk9 => ⟨⟨((nI 2, nI 0, q21.2), pl), ⟨⟨hR.symm, hF, ⟨tl, hf21, by omega⟩, ⟨al, hf22, by omega⟩, ⟨pn, hf23, by omega⟩, trivial⟩, hO⟩, lc_P hP hk9, hD⟩, (lc_S hS hz9 hk9).F rfl⟩)
  replace hR := hR.trans (if_neg hs27)
  obtain ⟨c9, hc9, e9⟩ := pfd_mem hq21 hs21
  simp only [List.mem_cons, List.not_mem_nil, or_false] at hc9
  rcases hc9 with rfl | rfl | rfl | rfl | rfl | rfl
  · exact absurd e9 hs22
  · exact absurd e9 hs23
  · exact absurd e9 hs24
  · exact absurd e9 hs25
  · exact absurd e9 hs26
  · exact absurd e9 hs27
