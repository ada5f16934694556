set_option linter.all false
abbrev c_K_open : ByteArray := prog_1_method_12_code
abbrev y_K_open : MethodName := ⟨"LatticeKeys", "open", "(I)I"⟩
abbrev w_K_open : List Cond := Cond.code y_K_open c_K_open 4 (some .int) :: WG
theorem dK_open_0 : decode c_K_open 0 = .ok (.aload_n 0, 1) := by decide +kernel
theorem dK_open_1 : decode c_K_open 1 = .ok (.iload_n 1, 1) := by decide +kernel
theorem dK_open_2 : decode c_K_open 2 = .ok (.invokevirtual 179, 3) := by decide +kernel
theorem dK_open_5 : decode c_K_open 5 = .ok (.astore_n 2, 1) := by decide +kernel
theorem dK_open_6 : decode c_K_open 6 = .ok (.aload_n 2, 1) := by decide +kernel
theorem dK_open_7 : decode c_K_open 7 = .ok (.ifnull 10, 3) := by decide +kernel
theorem dK_open_10 : decode c_K_open 10 = .ok (.aload_n 2, 1) := by decide +kernel
theorem dK_open_11 : decode c_K_open 11 = .ok (.getfield 174, 3) := by decide +kernel
theorem dK_open_14 : decode c_K_open 14 = .ok (.ifnonnull 13, 3) := by decide +kernel
theorem dK_open_17 : decode c_K_open 17 = .ok (.new 156, 3) := by decide +kernel
theorem dK_open_20 : decode c_K_open 20 = .ok (.dup, 1) := by decide +kernel
theorem dK_open_21 : decode c_K_open 21 = .ok (.ldc 192, 2) := by decide +kernel
theorem dK_open_23 : decode c_K_open 23 = .ok (.invokespecial 160, 3) := by decide +kernel
theorem dK_open_26 : decode c_K_open 26 = .ok (.athrow, 1) := by decide +kernel
theorem dK_open_27 : decode c_K_open 27 = .ok (.aload_n 0, 1) := by decide +kernel
theorem dK_open_28 : decode c_K_open 28 = .ok (.getfield 34, 3) := by decide +kernel
theorem dK_open_31 : decode c_K_open 31 = .ok (.aload_n 2, 1) := by decide +kernel
theorem dK_open_32 : decode c_K_open 32 = .ok (.getfield 168, 3) := by decide +kernel
theorem dK_open_35 : decode c_K_open 35 = .ok (.aaload, 1) := by decide +kernel
theorem dK_open_36 : decode c_K_open 36 = .ok (.astore_n 3, 1) := by decide +kernel
theorem dK_open_37 : decode c_K_open 37 = .ok (.aload_n 0, 1) := by decide +kernel
theorem dK_open_38 : decode c_K_open 38 = .ok (.getfield 13, 3) := by decide +kernel
theorem dK_open_41 : decode c_K_open 41 = .ok (.aload_n 3, 1) := by decide +kernel
theorem dK_open_42 : decode c_K_open 42 = .ok (.getfield 189, 3) := by decide +kernel
theorem dK_open_45 : decode c_K_open 45 = .ok (.if_icmp .eq 13, 3) := by decide +kernel
theorem dK_open_48 : decode c_K_open 48 = .ok (.new 79, 3) := by decide +kernel
theorem dK_open_51 : decode c_K_open 51 = .ok (.dup, 1) := by decide +kernel
theorem dK_open_52 : decode c_K_open 52 = .ok (.ldc 194, 2) := by decide +kernel
theorem dK_open_54 : decode c_K_open 54 = .ok (.invokespecial 83, 3) := by decide +kernel
theorem dK_open_57 : decode c_K_open 57 = .ok (.athrow, 1) := by decide +kernel
theorem dK_open_58 : decode c_K_open 58 = .ok (.aload_n 0, 1) := by decide +kernel
theorem dK_open_59 : decode c_K_open 59 = .ok (.getfield 54, 3) := by decide +kernel
theorem dK_open_62 : decode c_K_open 62 = .ok (.aload_n 3, 1) := by decide +kernel
theorem dK_open_63 : decode c_K_open 63 = .ok (.aload_n 2, 1) := by decide +kernel
theorem dK_open_64 : decode c_K_open 64 = .ok (.aload_n 0, 1) := by decide +kernel
theorem dK_open_65 : decode c_K_open 65 = .ok (.getfield 9, 3) := by decide +kernel
theorem dK_open_68 : decode c_K_open 68 = .ok (.aload_n 0, 1) := by decide +kernel
theorem dK_open_69 : decode c_K_open 69 = .ok (.getfield 17, 3) := by decide +kernel
theorem dK_open_72 : decode c_K_open 72 = .ok (.invokevirtual 196, 3) := by decide +kernel
theorem dK_open_75 : decode c_K_open 75 = .ok (.aload_n 0, 1) := by decide +kernel
theorem dK_open_76 : decode c_K_open 76 = .ok (.iconst 0, 1) := by decide +kernel
theorem dK_open_77 : decode c_K_open 77 = .ok (.putfield 13, 3) := by decide +kernel
theorem dK_open_80 : decode c_K_open 80 = .ok (.aload_n 0, 1) := by decide +kernel
theorem dK_open_81 : decode c_K_open 81 = .ok (.bipush 32, 2) := by decide +kernel
theorem dK_open_83 : decode c_K_open 83 = .ok (.putfield 20, 3) := by decide +kernel
theorem dK_open_86 : decode c_K_open 86 = .ok (.aload_n 0, 1) := by decide +kernel
theorem dK_open_87 : decode c_K_open 87 = .ok (.getfield 20, 3) := by decide +kernel
theorem dK_open_90 : decode c_K_open 90 = .ok (.ireturn, 1) := by decide +kernel
def M_K_open (k : Nat) : Prop := (26 ≤ k ∧ k < 30) ∨ k = 0 ∨ k = 14 ∨ k = 2 ∨ k = 30 ∨ k = 31 ∨ k = 32 ∨ k = 34 ∨ k = 35 ∨ k = 36 ∨ (0 : Nat) = 1
noncomputable def F_K_open (v : Int32) (s : Sto) : Int32 × Int32 × Sto := bnd (F_K_findKem v s) fun q21 => if q21.1 = nI 0 then (nI 1, nI 0, q21.2) else if q21.1 = nI 1 then bnd (v.toNatClampNeg) fun z21 => bnd ((q21.2.1 0 1).toNatClampNeg) fun z22 => if z22 = 768 then bnd (F_KM_decapsulate_0 (379 + 36 * z21 + 0) (379 + 36 * z21 + 1) (379 + 36 * z21 + 2) 1 16384 2 q21.2) fun s21 => bnd (sI s21 0 1 (nI 0)) fun s22 => bnd (sI s22 0 3 (nI 32)) fun s23 => bnd ((s23.1 0 3).toNatClampNeg) fun z23 => (nI 0, nI z23, s23) else (nI 2, nI 0, q21.2) else if q21.1 = nI 2 then bnd (v.toNatClampNeg) fun z24 => bnd ((q21.2.1 0 1).toNatClampNeg) fun z25 => if z25 = 1088 then bnd (F_KM_decapsulate_1 (379 + 36 * z24 + 3) (379 + 36 * z24 + 4) (379 + 36 * z24 + 5) 1 16384 2 q21.2) fun s24 => bnd (sI s24 0 1 (nI 0)) fun s25 => bnd (sI s25 0 3 (nI 32)) fun s26 => bnd ((s26.1 0 3).toNatClampNeg) fun z26 => (nI 0, nI z26, s26) else (nI 2, nI 0, q21.2) else if q21.1 = nI 3 then bnd (v.toNatClampNeg) fun z27 => bnd ((q21.2.1 0 1).toNatClampNeg) fun z28 => if z28 = 1568 then bnd (F_KM_decapsulate_2 (379 + 36 * z27 + 6) (379 + 36 * z27 + 7) (379 + 36 * z27 + 8) 1 16384 2 q21.2) fun s27 => bnd (sI s27 0 1 (nI 0)) fun s28 => bnd (sI s28 0 3 (nI 32)) fun s29 => bnd ((s29.1 0 3).toNatClampNeg) fun z29 => (nI 0, nI z29, s29) else (nI 2, nI 0, q21.2) else if q21.1 = nI 7 then bnd (v.toNatClampNeg) fun z30 => (nI 1, nI 0, q21.2) else if q21.1 = nI 8 then bnd (v.toNatClampNeg) fun z31 => (nI 1, nI 0, q21.2) else if q21.1 = nI 9 then bnd (v.toNatClampNeg) fun z32 => (nI 1, nI 0, q21.2) else (nI 0, nI 0, q21.2)
set_option maxHeartbeats 2000000 in
set_option maxRecDepth 100000 in
theorem N_K_open (l : Launch) (htr : l.stackTraces = false) (g : Gd) (sz : Nat) (T : TyN) (s : Sto) (pl : va_W) (hO : okn g T s pl) (hU : inj T) (h0 : Nat) (v : Int32) (tl : Nat) (al : Nat) (pn : Nat) (k_h0 : T h0 = some 0) (e_tl : s.1 0 1 = nI tl) (e_al : s.1 0 3 = nI al) (e_pn : s.1 0 5 = nI pn) (h1 : tl ≤ 16384) (h2 : al ≤ 8192) (h3 : pn ≤ 8)  : etMet l y_K_open w_K_open ({ frames := 6, cells := 1, slots := 6, locals := 182 } : Room) (va_Pc [.ref h0, .int v] (pr (ex g) g.1 vcl sz ([] ++ pl))) (xls ["java/util/NoSuchElementException", "java/lang/IllegalArgumentException"] (F_K_open v s).1) (va_Qi (fun (r : Int32) (u : (Int32 × Int32 × Sto) × va_W) => (u.1 = F_K_open v s ∧ r = u.1.2.1 ∧ u.1.1 = nI 0 ∧ frm (M_K_open) s u.1.2.2 ∧ (∃ x : Nat, u.1.2.2.1 0 1 = nI x ∧ x ≤ 16384) ∧ (∃ x : Nat, u.1.2.2.1 0 3 = nI x ∧ x ≤ 8192) ∧ (∃ x : Nat, u.1.2.2.1 0 5 = nI x ∧ x = pn) ∧ True) ∧ okn g T u.1.2.2 u.2) (po g.1 vcl (va_A ([] ++ pl) sz) (fun (u : (Int32 × Int32 × Sto) × va_W) => [] ++ u.2)) (va_A ([] ++ pl) sz)) (xtP (fun (u : (Int32 × Int32 × Sto) × va_W) => (u.1 = F_K_open v s ∧ frm (M_K_open) s u.1.2.2 ∧ (∃ x : Nat, u.1.2.2.1 0 1 = nI x ∧ x ≤ 16384) ∧ (∃ x : Nat, u.1.2.2.1 0 3 = nI x ∧ x ≤ 8192) ∧ (∃ x : Nat, u.1.2.2.1 0 5 = nI x ∧ x = pn) ∧ True) ∧ okn g T u.1.2.2 u.2) (po g.1 vcl (va_A ([] ++ pl) sz) (fun (u : (Int32 × Int32 × Sto) × va_W) => [] ++ u.2)) (va_A ([] ++ pl) sz)) 1 6 (va_A ([] ++ pl) sz) := by
  refine et_entry (cc := c_K_open) (maxL := 4) (ret := (some .int)) (by decide) rfl (Nat.le_of_ble_eq_true rfl) ?_
  intro p e s0 m args below meth c ls F hr hlk htab hsz hP hD hX hA hl
  obtain ⟨hx, hb, hml, hown, hts⟩ := id F
  have hE := hX.1
  have hK := hE.1
  generalize va_A ([] ++ pl) sz = A at hD hX hE hA ⊢
  have hS : va_S A s0.heap s0.heap [] := va_S.rf
  have hl : lv_has ls 4 [(0, .ref h0), (1, .int v)] := hl
  have hR : F_K_open v s = F_K_open v s := rfl
  have hF : frm (M_K_open) s s := frm_rf
  refine lv_aload_n hx hb dK_open_0 rfl (lv_at hl 0 rfl) ?_
  refine lv_iload_n hx hb dK_open_1 rfl (lv_at hl 1 rfl) ?_
  refine mp_q (cx := []) (wr := []) hP hD hS hA [] [] rfl rfl rfl (by decide) (va_runV (As := [.int v]) (rest := []) F (N_K_findKem l g _ T s pl hO hU h0 v tl al pn k_h0 e_tl e_al e_pn (by omega)) (cwV 1 hts (wg_app (wg_c kw_1104 (wg_c kw_1106 (wg_c ks_25 (wg_c kw_1 wg_n)))) kw_1107) rfl rfl rfl (by decide +kernel) ⟨by decide, by decide⟩) (pn_W "LatticeKeys" (en_ok g) (ci := 0) (kn := 0) (fl := [(3, 1), (0, 0), (3, 2), (0, 0), (3, 3), (0, 0), (3, 4), (3, 8), (3, 12), (3, 24), (3, 39)]) hK hO k_h0 rfl hP hD hS hA hE [] rfl rfl rfl) rfl rfl hl.1 rfl (lv_room (Nat.le_of_ble_eq_true rfl)) dK_open_2 ⟨Nat.le_of_ble_eq_true rfl, Nat.le_of_ble_eq_true rfl⟩) (fun r21 u21 H locs hu21 hP hD hS => ?_)
  obtain ⟨q21, pl⟩ := u21
  obtain ⟨⟨eq21, hq21, hFc21, -⟩, hO⟩ := hu21
  have hO : okn g T q21.2 pl := hO
  have hP : va_P g.1 vcl ([] ++ pl) _ := hP
  have hD : va_D _ ([] ++ pl) := hD
  have hFc21 : frm (M_K_findKem) s q21.2 := hFc21
  replace hR := bnd_step hR eq21
  have hF := frm_tr hF hFc21 (fun k hk => by unfold M_K_findKem at hk; unfold M_K_open; omega)
  have hf21 : q21.2.1 0 1 = nI tl := fc_F e_tl hFc21 (by unfold M_K_findKem; omega)
  have hf22 : q21.2.1 0 3 = nI al := fc_F e_al hFc21 (by unfold M_K_findKem; omega)
  have hf23 : q21.2.1 0 5 = nI pn := fc_F e_pn hFc21 (by unfold M_K_findKem; omega)
  refine W.widen (k := 0) (n := 0) (by omega) (by omega) ?_
  by_cases hs21 : q21.1 = nI 0
  · replace hR := hR.trans (if_pos hs21)
    obtain rfl : r21 = none := pfd_none hq21 hs21
    refine lv_astore_nN (lv' := [(2, .null), (0, .ref h0), (1, .int v)]) hx hb dK_open_5 rfl hl (by decide) rfl (fun ls hl => ?_)
    refine lv_aload_nN hx hb dK_open_6 rfl (lv_at hl 0 rfl) ?_
    refine lv_ifnullN (tgt := 17) hx hb dK_open_7 (by decide) ?_
    exact et_throw (own := "LatticeKeys") (cls := "java/util/NoSuchElementException") (text := "no such keys of ML-KEM with a secret part") (names := ["java/lang/RuntimeException", "java/lang/Exception"]) (ik := 156) (is := 192) (ic := 160) hx hb htr ctr_NSE_0 ctr_NSE_1 ctr_NSE_2 ctr_NSE_5 hown (by decide) (by decide) (hts _ (wg_t kw_1064)) (hts _ (wg_t kw_34)) (hX.2.2.2.2.2.1 13 ("LatticeKeys", 192, "no such keys of ML-KEM with a secret part") rfl) (hat_NSE hts hX.2) hS.1 (hl.1.trans hml.symm) dK_open_17 dK_open_20 dK_open_21 dK_open_23 dK_open_26 htab (Nat.le_of_ble_eq_true rfl) (Nat.le_of_ble_eq_true rfl) (Nat.le_of_ble_eq_true rfl) (Nat.le_of_ble_eq_true rfl) hlk (Nat.le_of_ble_eq_true rfl) (Nat.le_of_ble_eq_true rfl) (xls_at 0 (congrArg Prod.fst hR) (by decide) rfl) hS.2.2 (thr_st hX.2) (fun t hz9 hk9 => ⟨⟨((nI 1, nI 0, q21.2), pl), ⟨⟨hR.symm, hF, ⟨tl, hf21, by omega⟩, ⟨al, hf22, by omega⟩, ⟨pn, hf23, by omega⟩, trivial⟩, hO⟩, lc_P hP hk9, hD⟩, (lc_S hS hz9 hk9).F rfl⟩)
  replace hR := hR.trans (if_neg hs21)
  by_cases hs22 : q21.1 = nI 1
  · replace hR := hR.trans (if_pos hs22)
    obtain ⟨z21, q22, hz21, hv21, rfl, kr21⟩ := pfd_at (c := 0) hq21 (by decide) hs22
    have kr21 : T q22 = some (379 + 36 * z21 + 0) := kr21
    have ez21 : z21 = v.toNatClampNeg := by rw [hv21]; exact (nI_clamp (by omega)).symm
    replace hR := bnd_step hR ez21
    refine lv_astore_n (lv' := [(2, .ref q22), (0, .ref h0), (1, .int v)]) hx hb dK_open_5 rfl hl (by decide) rfl (fun ls hl => ?_)
    refine lv_aload_n hx hb dK_open_6 rfl (lv_at hl 0 rfl) ?_
    refine lv_ifnull hx hb dK_open_7 ?_
    refine lv_aload_n hx hb dK_open_10 rfl (lv_at hl 0 rfl) ?_
    refine nw_get (C := "LatticeKeys$KeyPair") (TT := T_KP) (N := 3) hx hb hts (wg_ft i_KP) hown hK hO kr21 (kn := (379 + 36 * z21 + 0)) (ci := 13) (fl := [(1, 0), (3, (379 + 36 * z21 + 1)), (3, (379 + 36 * z21 + 2))]) (pr_o0 (z := z21) (by omega)) hP rfl 2 (by decide) (hts _ (wg_t kw_752)) (fun _ h9 => h9) (cd := (3, (379 + 36 * z21 + 2))) rfl dK_open_11 (fun v21 hv22 => ?_)
    obtain ⟨r22, rfl, kr22⟩ := (show ∃ r : Nat, v21 = .ref r ∧ T r = some (379 + 36 * z21 + 2) from hv22)
    refine lv_ifnonnull (tgt := 27) hx hb dK_open_14 (by decide) ?_
    refine lv_aload_n hx hb dK_open_27 rfl (lv_at hl 1 rfl) ?_
    refine nw_get (C := "LatticeKeys") (TT := T_K) (N := 11) hx hb hts (wg_ft i_K) hown hK hO k_h0 (kn := 0) (ci := 0) (fl := [(3, 1), (0, 0), (3, 2), (0, 0), (3, 3), (0, 0), (3, 4), (3, 8), (3, 12), (3, 24), (3, 39)]) rfl hP rfl 6 (by decide) (hts _ (wg_t kw_380)) (fun _ h9 => h9) (cd := (3, 4)) rfl dK_open_28 (fun v22 hv23 => ?_)
    obtain ⟨r23, rfl, kr23⟩ := (show ∃ r : Nat, v22 = .ref r ∧ T r = some 4 from hv23)
    refine lv_aload_n hx hb dK_open_31 rfl (lv_at hl 0 rfl) ?_
    refine nw_get (C := "LatticeKeys$KeyPair") (TT := T_KP) (N := 3) hx hb hts (wg_ft i_KP) hown hK hO kr21 (kn := (379 + 36 * z21 + 0)) (ci := 13) (fl := [(1, 0), (3, (379 + 36 * z21 + 1)), (3, (379 + 36 * z21 + 2))]) (pr_o0 (z := z21) (by omega)) hP rfl 0 (by decide) (hts _ (wg_t kw_746)) (fun _ h9 => h9) (cd := (1, 0)) rfl dK_open_32 (fun v23 hv24 => ?_)
    obtain rfl := (show v23 = .int (nI 0) from hv24)
    refine nw_aald6 hx hb hK hO kr23 (k := 4) (b := 5) rfl hP (by omega) (by omega) dK_open_35 (fun r24 kr24 => ?_)
    refine lv_astore_n (lv' := [(3, .ref r24), (2, .ref q22), (0, .ref h0), (1, .int v)]) hx hb dK_open_36 rfl hl (by decide) rfl (fun ls hl => ?_)
    refine lv_aload_n hx hb dK_open_37 rfl (lv_at hl 2 rfl) ?_
    refine nw_get (C := "LatticeKeys") (TT := T_K) (N := 11) hx hb hts (wg_ft i_K) hown hK hO k_h0 (kn := 0) (ci := 0) (fl := [(3, 1), (0, 0), (3, 2), (0, 0), (3, 3), (0, 0), (3, 4), (3, 8), (3, 12), (3, 24), (3, 39)]) rfl hP rfl 1 (by decide) (hts _ (wg_t kw_375)) (fun _ h9 => h9) (cd := (0, 0)) rfl dK_open_38 (fun v24 hv25 => ?_)
    obtain rfl := (show v24 = .int (q21.2.1 0 1) from hv25)
    obtain ⟨z22, ez22, hz22, hz23⟩ := cl_of (b := 2147483648) hf21 (by omega) (by decide)
    replace hR := bnd_step hR ez22
    refine mi_as hz22 ?_
    refine lv_aload_n hx hb dK_open_41 rfl (lv_at hl 0 rfl) ?_
    refine nw_get (C := "LatticeKeys$KemSet") (TT := T_KS) (N := 10) hx hb hts (wg_ft i_KS) hown hK hO kr24 (kn := 5) (ci := 1) (fl := [(1, 2), (1, 3), (1, 10), (1, 4), (1, 800), (1, 1632), (1, 768), (1, 768), (1, 1568), (1, 1600)]) rfl hP rfl 6 (by decide) (hts _ (wg_t kw_245)) (fun _ h9 => h9) (cd := (1, 768)) rfl dK_open_42 (fun v25 hv26 => ?_)
    obtain rfl := (show v25 = .int (nI 768) from hv26)
    refine mi_eq (tgt := 58) hx hb dK_open_45 (by decide) (by omega) (by omega) (fun h21 => ?_) (fun h21 => ?_)
    · replace hR := hR.trans (if_pos h21)
      refine lv_aload_n hx hb dK_open_58 rfl (lv_at hl 2 rfl) ?_
      refine nw_get (C := "LatticeKeys") (TT := T_K) (N := 11) hx hb hts (wg_ft i_K) hown hK hO k_h0 (kn := 0) (ci := 0) (fl := [(3, 1), (0, 0), (3, 2), (0, 0), (3, 3), (0, 0), (3, 4), (3, 8), (3, 12), (3, 24), (3, 39)]) rfl hP rfl 9 (by decide) (hts _ (wg_t kw_383)) (fun _ h9 => h9) (cd := (3, 24)) rfl dK_open_59 (fun v26 hv27 => ?_)
      obtain ⟨r25, rfl, kr25⟩ := (show ∃ r : Nat, v26 = .ref r ∧ T r = some 24 from hv27)
      refine lv_aload_n hx hb dK_open_62 rfl (lv_at hl 0 rfl) ?_
      refine lv_aload_n hx hb dK_open_63 rfl (lv_at hl 1 rfl) ?_
      refine lv_aload_n hx hb dK_open_64 rfl (lv_at hl 2 rfl) ?_
      refine nw_get (C := "LatticeKeys") (TT := T_K) (N := 11) hx hb hts (wg_ft i_K) hown hK hO k_h0 (kn := 0) (ci := 0) (fl := [(3, 1), (0, 0), (3, 2), (0, 0), (3, 3), (0, 0), (3, 4), (3, 8), (3, 12), (3, 24), (3, 39)]) rfl hP rfl 0 (by decide) (hts _ (wg_t kw_374)) (fun _ h9 => h9) (cd := (3, 1)) rfl dK_open_65 (fun v27 hv28 => ?_)
      obtain ⟨r26, rfl, kr26⟩ := (show ∃ r : Nat, v27 = .ref r ∧ T r = some 1 from hv28)
      refine lv_aload_n hx hb dK_open_68 rfl (lv_at hl 2 rfl) ?_
      refine nw_get (C := "LatticeKeys") (TT := T_K) (N := 11) hx hb hts (wg_ft i_K) hown hK hO k_h0 (kn := 0) (ci := 0) (fl := [(3, 1), (0, 0), (3, 2), (0, 0), (3, 3), (0, 0), (3, 4), (3, 8), (3, 12), (3, 24), (3, 39)]) rfl hP rfl 2 (by decide) (hts _ (wg_t kw_376)) (fun _ h9 => h9) (cd := (3, 2)) rfl dK_open_69 (fun v28 hv29 => ?_)
      obtain ⟨r27, rfl, kr27⟩ := (show ∃ r : Nat, v28 = .ref r ∧ T r = some 2 from hv29)
      refine mp_v (cx := []) (wr := []) hP hD hS hA [] [] rfl rfl rfl (by decide) (va_runV (As := [.ref r24, .ref q22, .ref r26, .ref r27]) (rest := []) F (N_KM_decapsulate_0 l g _ T q21.2 pl hO hU r25 r24 q22 r26 r27 (379 + 36 * z21 + 0) (379 + 36 * z21 + 1) (379 + 36 * z21 + 2) 1 16384 2 kr25 kr24 kr21 (pr_o0 (z := z21) (by omega)) (pr_p0 (z := z21) (by omega)) (pr_s0 (z := z21) (by omega)) kr26 rfl kr27 rfl (by omega) (by omega)) (cwV 4 hts (wg_app (wg_c kw_1146 (wg_c kw_1147 (wg_c kw_1148 (wg_c kw_3 wg_n)))) kw_1149) rfl rfl rfl (by decide +kernel) ⟨by decide, by decide⟩) (pn_W "LatticeKeys$Kem" (en_ok g) (ci := 5) (kn := 24) (fl := [(3, 14), (3, 20), (3, 25), (3, 30), (3, 31), (3, 32), (3, 33), (3, 34), (3, 35), (3, 36)]) hK hO kr25 rfl hP hD hS hA hE [] rfl rfl rfl) rfl rfl hl.1 rfl (lv_room (Nat.le_of_ble_eq_true rfl)) dK_open_72 ⟨Nat.le_of_ble_eq_true rfl, Nat.le_of_ble_eq_true rfl⟩) (fun  u22 H locs hu22 hP hD hS => ?_)
      obtain ⟨s21, pl⟩ := u22
      obtain ⟨⟨eq22, hFc22, -⟩, hO⟩ := hu22
      have hO : okn g T s21 pl := hO
      have hP : va_P g.1 vcl ([] ++ pl) _ := hP
      have hD : va_D _ ([] ++ pl) := hD
      have hFc22 : frm (M_KM_decapsulate_0 2) q21.2 s21 := hFc22
      replace hR := bnd_step hR eq22
      have hF := frm_tr hF hFc22 (fun k hk => by unfold M_KM_decapsulate_0 at hk; unfold M_K_open; omega)
      have hf24 : s21.1 0 1 = nI tl := fc_F hf21 hFc22 (by unfold M_KM_decapsulate_0; omega)
      have hf25 : s21.1 0 3 = nI al := fc_F hf22 hFc22 (by unfold M_KM_decapsulate_0; omega)
      have hf26 : s21.1 0 5 = nI pn := fc_F hf23 hFc22 (by unfold M_KM_decapsulate_0; omega)
      refine W.widen (k := 0) (n := 0) (by omega) (by omega) ?_
      refine lv_aload_n hx hb dK_open_75 rfl (lv_at hl 2 rfl) ?_
      refine lv_iconst (v := nI 0) hx hb dK_open_76 (by decide) ?_
      refine nw_put (C := "LatticeKeys") (TT := T_K) (N := 11) hx hb hts (wg_ft i_K) ty_K k_K n_K hown hK hO hU k_h0 (kn := 0) (ci := 0) (fl := [(3, 1), (0, 0), (3, 2), (0, 0), (3, 3), (0, 0), (3, 4), (3, 8), (3, 12), (3, 24), (3, 39)]) rfl hP hD hS rfl 1 (by decide) (hts _ (wg_t kw_375)) (fun _ h9 => h9) rfl (by decide +kernel) rfl dK_open_77 (fun s22 pl H locs es21 hO hP hD hS => ?_)
      replace hR := bnd_step hR es21
      have hF := frm_sI hF es21 (by unfold M_K_open; omega)
      have hf28 : s22.1 0 3 = nI al := fc_ne hf25 es21 (by omega)
      have hf29 : s22.1 0 5 = nI pn := fc_ne hf26 es21 (by omega)
      have hf30 : s22.1 0 1 = nI 0 := fc_eq es21
      refine lv_aload_n hx hb dK_open_80 rfl (lv_at hl 2 rfl) ?_
      refine lv_bipush (v := nI 32) hx hb dK_open_81 (by decide) ?_
      refine nw_put (C := "LatticeKeys") (TT := T_K) (N := 11) hx hb hts (wg_ft i_K) ty_K k_K n_K hown hK hO hU k_h0 (kn := 0) (ci := 0) (fl := [(3, 1), (0, 0), (3, 2), (0, 0), (3, 3), (0, 0), (3, 4), (3, 8), (3, 12), (3, 24), (3, 39)]) rfl hP hD hS rfl 3 (by decide) (hts _ (wg_t kw_377)) (fun _ h9 => h9) rfl (by decide +kernel) rfl dK_open_83 (fun s23 pl H locs es22 hO hP hD hS => ?_)
      replace hR := bnd_step hR es22
      have hF := frm_sI hF es22 (by unfold M_K_open; omega)
      have hf32 : s23.1 0 5 = nI pn := fc_ne hf29 es22 (by omega)
      have hf33 : s23.1 0 1 = nI 0 := fc_ne hf30 es22 (by omega)
      have hf34 : s23.1 0 3 = nI 32 := fc_eq es22
      refine lv_aload_n hx hb dK_open_86 rfl (lv_at hl 2 rfl) ?_
      refine nw_get (C := "LatticeKeys") (TT := T_K) (N := 11) hx hb hts (wg_ft i_K) hown hK hO k_h0 (kn := 0) (ci := 0) (fl := [(3, 1), (0, 0), (3, 2), (0, 0), (3, 3), (0, 0), (3, 4), (3, 8), (3, 12), (3, 24), (3, 39)]) rfl hP rfl 3 (by decide) (hts _ (wg_t kw_377)) (fun _ h9 => h9) (cd := (0, 0)) rfl dK_open_87 (fun v29 hv30 => ?_)
      obtain rfl := (show v29 = .int (s23.1 0 3) from hv30)
      obtain ⟨z23, ez23, hz24, hz25⟩ := cl_of (b := 2147483648) hf34 (by omega) (by decide)
      replace hR := bnd_step hR ez23
      refine mi_as hz24 ?_
      refine et_ret ?_
      exact mp_iret hx hb hr hlk hP hD hS ((nI 0, nI z23, s23), pl) ⟨⟨hR.symm, rfl, rfl, hF, ⟨0, hf33, by omega⟩, ⟨32, hf34, by omega⟩, ⟨pn, hf32, by omega⟩, trivial⟩, hO⟩ [] rfl rfl rfl (by omega) (by omega) dK_open_90
    · replace hR := hR.trans (if_neg h21)
      exact et_throw (own := "LatticeKeys") (cls := "java/lang/IllegalArgumentException") (text := "the tape is not as long as a ciphertext") (names := ["java/lang/RuntimeException", "java/lang/Exception"]) (ik := 79) (is := 194) (ic := 83) hx hb htr ctr_IAE_0 ctr_IAE_1 ctr_IAE_2 ctr_IAE_5 hown (by decide) (by decide) (hts _ (wg_t kw_501)) (hts _ (wg_t kw_18)) (hX.2.2.2.2.2.1 14 ("LatticeKeys", 194, "the tape is not as long as a ciphertext") rfl) (hat_IAE hts hX.2) hS.1 (hl.1.trans hml.symm) dK_open_48 dK_open_51 dK_open_52 dK_open_54 dK_open_57 htab (Nat.le_of_ble_eq_true rfl) (Nat.le_of_ble_eq_true rfl) (Nat.le_of_ble_eq_true rfl) (Nat.le_of_ble_eq_true rfl) hlk (Nat.le_of_ble_eq_true rfl) (Nat.le_of_ble_eq_true rfl) (xls_at 1 (congrArg Prod.fst hR) (by decide) rfl) hS.2.2 (thr_st hX.2) (fun t hz9 hk9 => ⟨⟨((nI 2, nI 0, q21.2), pl), ⟨⟨hR.symm, hF, ⟨tl, hf21, by omega⟩, ⟨al, hf22, by omega⟩, ⟨pn, hf23, by omega⟩, trivial⟩, hO⟩, lc_P hP hk9, hD⟩, (lc_S hS hz9 hk9).F rfl⟩)
  replace hR := hR.trans (if_neg hs22)
  by_cases hs23 : q21.1 = nI 2
  · replace hR := hR.trans (if_pos hs23)
    obtain ⟨z24, q23, hz26, hv31, rfl, kr28⟩ := pfd_at (c := 1) hq21 (by decide) hs23
    have kr28 : T q23 = some (379 + 36 * z24 + 3) := kr28
    have ez24 : z24 = v.toNatClampNeg := by rw [hv31]; exact (nI_clamp (by omega)).symm
    replace hR := bnd_step hR ez24
    refine lv_astore_n (lv' := [(2, .ref q23), (0, .ref h0), (1, .int v)]) hx hb dK_open_5 rfl hl (by decide) rfl (fun ls hl => ?_)
    refine lv_aload_n hx hb dK_open_6 rfl (lv_at hl 0 rfl) ?_
    refine lv_ifnull hx hb dK_open_7 ?_
    refine lv_aload_n hx hb dK_open_10 rfl (lv_at hl 0 rfl) ?_
    refine nw_get (C := "LatticeKeys$KeyPair") (TT := T_KP) (N := 3) hx hb hts (wg_ft i_KP) hown hK hO kr28 (kn := (379 + 36 * z24 + 3)) (ci := 13) (fl := [(1, 1), (3, (379 + 36 * z24 + 4)), (3, (379 + 36 * z24 + 5))]) (pr_o1 (z := z24) (by omega)) hP rfl 2 (by decide) (hts _ (wg_t kw_752)) (fun _ h9 => h9) (cd := (3, (379 + 36 * z24 + 5))) rfl dK_open_11 (fun v30 hv32 => ?_)
    obtain ⟨r28, rfl, kr29⟩ := (show ∃ r : Nat, v30 = .ref r ∧ T r = some (379 + 36 * z24 + 5) from hv32)
    refine lv_ifnonnull (tgt := 27) hx hb dK_open_14 (by decide) ?_
    refine lv_aload_n hx hb dK_open_27 rfl (lv_at hl 1 rfl) ?_
    refine nw_get (C := "LatticeKeys") (TT := T_K) (N := 11) hx hb hts (wg_ft i_K) hown hK hO k_h0 (kn := 0) (ci := 0) (fl := [(3, 1), (0, 0), (3, 2), (0, 0), (3, 3), (0, 0), (3, 4), (3, 8), (3, 12), (3, 24), (3, 39)]) rfl hP rfl 6 (by decide) (hts _ (wg_t kw_380)) (fun _ h9 => h9) (cd := (3, 4)) rfl dK_open_28 (fun v31 hv33 => ?_)
    obtain ⟨r29, rfl, kr30⟩ := (show ∃ r : Nat, v31 = .ref r ∧ T r = some 4 from hv33)
    refine lv_aload_n hx hb dK_open_31 rfl (lv_at hl 0 rfl) ?_
    refine nw_get (C := "LatticeKeys$KeyPair") (TT := T_KP) (N := 3) hx hb hts (wg_ft i_KP) hown hK hO kr28 (kn := (379 + 36 * z24 + 3)) (ci := 13) (fl := [(1, 1), (3, (379 + 36 * z24 + 4)), (3, (379 + 36 * z24 + 5))]) (pr_o1 (z := z24) (by omega)) hP rfl 0 (by decide) (hts _ (wg_t kw_746)) (fun _ h9 => h9) (cd := (1, 1)) rfl dK_open_32 (fun v32 hv34 => ?_)
    obtain rfl := (show v32 = .int (nI 1) from hv34)
    refine nw_aald6 hx hb hK hO kr30 (k := 4) (b := 5) rfl hP (by omega) (by omega) dK_open_35 (fun r30 kr31 => ?_)
    refine lv_astore_n (lv' := [(3, .ref r30), (2, .ref q23), (0, .ref h0), (1, .int v)]) hx hb dK_open_36 rfl hl (by decide) rfl (fun ls hl => ?_)
    refine lv_aload_n hx hb dK_open_37 rfl (lv_at hl 2 rfl) ?_
    refine nw_get (C := "LatticeKeys") (TT := T_K) (N := 11) hx hb hts (wg_ft i_K) hown hK hO k_h0 (kn := 0) (ci := 0) (fl := [(3, 1), (0, 0), (3, 2), (0, 0), (3, 3), (0, 0), (3, 4), (3, 8), (3, 12), (3, 24), (3, 39)]) rfl hP rfl 1 (by decide) (hts _ (wg_t kw_375)) (fun _ h9 => h9) (cd := (0, 0)) rfl dK_open_38 (fun v33 hv35 => ?_)
    obtain rfl := (show v33 = .int (q21.2.1 0 1) from hv35)
    obtain ⟨z25, ez25, hz27, hz28⟩ := cl_of (b := 2147483648) hf21 (by omega) (by decide)
    replace hR := bnd_step hR ez25
    refine mi_as hz27 ?_
    refine lv_aload_n hx hb dK_open_41 rfl (lv_at hl 0 rfl) ?_
    refine nw_get (C := "LatticeKeys$KemSet") (TT := T_KS) (N := 10) hx hb hts (wg_ft i_KS) hown hK hO kr31 (kn := 6) (ci := 1) (fl := [(1, 3), (1, 2), (1, 10), (1, 4), (1, 1184), (1, 2400), (1, 1088), (1, 1152), (1, 2336), (1, 2368)]) rfl hP rfl 6 (by decide) (hts _ (wg_t kw_245)) (fun _ h9 => h9) (cd := (1, 1088)) rfl dK_open_42 (fun v34 hv36 => ?_)
    obtain rfl := (show v34 = .int (nI 1088) from hv36)
    refine mi_eq (tgt := 58) hx hb dK_open_45 (by decide) (by omega) (by omega) (fun h22 => ?_) (fun h22 => ?_)
    · replace hR := hR.trans (if_pos h22)
      refine lv_aload_n hx hb dK_open_58 rfl (lv_at hl 2 rfl) ?_
      refine nw_get (C := "LatticeKeys") (TT := T_K) (N := 11) hx hb hts (wg_ft i_K) hown hK hO k_h0 (kn := 0) (ci := 0) (fl := [(3, 1), (0, 0), (3, 2), (0, 0), (3, 3), (0, 0), (3, 4), (3, 8), (3, 12), (3, 24), (3, 39)]) rfl hP rfl 9 (by decide) (hts _ (wg_t kw_383)) (fun _ h9 => h9) (cd := (3, 24)) rfl dK_open_59 (fun v35 hv37 => ?_)
      obtain ⟨r31, rfl, kr32⟩ := (show ∃ r : Nat, v35 = .ref r ∧ T r = some 24 from hv37)
      refine lv_aload_n hx hb dK_open_62 rfl (lv_at hl 0 rfl) ?_
      refine lv_aload_n hx hb dK_open_63 rfl (lv_at hl 1 rfl) ?_
      refine lv_aload_n hx hb dK_open_64 rfl (lv_at hl 2 rfl) ?_
      refine nw_get (C := "LatticeKeys") (TT := T_K) (N := 11) hx hb hts (wg_ft i_K) hown hK hO k_h0 (kn := 0) (ci := 0) (fl := [(3, 1), (0, 0), (3, 2), (0, 0), (3, 3), (0, 0), (3, 4), (3, 8), (3, 12), (3, 24), (3, 39)]) rfl hP rfl 0 (by decide) (hts _ (wg_t kw_374)) (fun _ h9 => h9) (cd := (3, 1)) rfl dK_open_65 (fun v36 hv38 => ?_)
      obtain ⟨r32, rfl, kr33⟩ := (show ∃ r : Nat, v36 = .ref r ∧ T r = some 1 from hv38)
      refine lv_aload_n hx hb dK_open_68 rfl (lv_at hl 2 rfl) ?_
      refine nw_get (C := "LatticeKeys") (TT := T_K) (N := 11) hx hb hts (wg_ft i_K) hown hK hO k_h0 (kn := 0) (ci := 0) (fl := [(3, 1), (0, 0), (3, 2), (0, 0), (3, 3), (0, 0), (3, 4), (3, 8), (3, 12), (3, 24), (3, 39)]) rfl hP rfl 2 (by decide) (hts _ (wg_t kw_376)) (fun _ h9 => h9) (cd := (3, 2)) rfl dK_open_69 (fun v37 hv39 => ?_)
      obtain ⟨r33, rfl, kr34⟩ := (show ∃ r : Nat, v37 = .ref r ∧ T r = some 2 from hv39)
      refine mp_v (cx := []) (wr := []) hP hD hS hA [] [] rfl rfl rfl (by decide) (va_runV (As := [.ref r30, .ref q23, .ref r32, .ref r33]) (rest := []) F (N_KM_decapsulate_1 l g _ T q21.2 pl hO hU r31 r30 q23 r32 r33 (379 + 36 * z24 + 3) (379 + 36 * z24 + 4) (379 + 36 * z24 + 5) 1 16384 2 kr32 kr31 kr28 (pr_o1 (z := z24) (by omega)) (pr_p1 (z := z24) (by omega)) (pr_s1 (z := z24) (by omega)) kr33 rfl kr34 rfl (by omega) (by omega)) (cwV 4 hts (wg_app (wg_c kw_1146 (wg_c kw_1147 (wg_c kw_1148 (wg_c kw_3 wg_n)))) kw_1149) rfl rfl rfl (by decide +kernel) ⟨by decide, by decide⟩) (pn_W "LatticeKeys$Kem" (en_ok g) (ci := 5) (kn := 24) (fl := [(3, 14), (3, 20), (3, 25), (3, 30), (3, 31), (3, 32), (3, 33), (3, 34), (3, 35), (3, 36)]) hK hO kr32 rfl hP hD hS hA hE [] rfl rfl rfl) rfl rfl hl.1 rfl (lv_room (Nat.le_of_ble_eq_true rfl)) dK_open_72 ⟨Nat.le_of_ble_eq_true rfl, Nat.le_of_ble_eq_true rfl⟩) (fun  u23 H locs hu23 hP hD hS => ?_)
      obtain ⟨s24, pl⟩ := u23
      obtain ⟨⟨eq23, hFc23, -⟩, hO⟩ := hu23
      have hO : okn g T s24 pl := hO
      have hP : va_P g.1 vcl ([] ++ pl) _ := hP
      have hD : va_D _ ([] ++ pl) := hD
      have hFc23 : frm (M_KM_decapsulate_1 2) q21.2 s24 := hFc23
      replace hR := bnd_step hR eq23
      have hF := frm_tr hF hFc23 (fun k hk => by unfold M_KM_decapsulate_1 at hk; unfold M_K_open; omega)
      have hf35 : s24.1 0 1 = nI tl := fc_F hf21 hFc23 (by unfold M_KM_decapsulate_1; omega)
      have hf36 : s24.1 0 3 = nI al := fc_F hf22 hFc23 (by unfold M_KM_decapsulate_1; omega)
      have hf37 : s24.1 0 5 = nI pn := fc_F hf23 hFc23 (by unfold M_KM_decapsulate_1; omega)
      refine W.widen (k := 0) (n := 0) (by omega) (by omega) ?_
      refine lv_aload_n hx hb dK_open_75 rfl (lv_at hl 2 rfl) ?_
      refine lv_iconst (v := nI 0) hx hb dK_open_76 (by decide) ?_
      refine nw_put (C := "LatticeKeys") (TT := T_K) (N := 11) hx hb hts (wg_ft i_K) ty_K k_K n_K hown hK hO hU k_h0 (kn := 0) (ci := 0) (fl := [(3, 1), (0, 0), (3, 2), (0, 0), (3, 3), (0, 0), (3, 4), (3, 8), (3, 12), (3, 24), (3, 39)]) rfl hP hD hS rfl 1 (by decide) (hts _ (wg_t kw_375)) (fun _ h9 => h9) rfl (by decide +kernel) rfl dK_open_77 (fun s25 pl H locs es23 hO hP hD hS => ?_)
      replace hR := bnd_step hR es23
      have hF := frm_sI hF es23 (by unfold M_K_open; omega)
      have hf39 : s25.1 0 3 = nI al := fc_ne hf36 es23 (by omega)
      have hf40 : s25.1 0 5 = nI pn := fc_ne hf37 es23 (by omega)
      have hf41 : s25.1 0 1 = nI 0 := fc_eq es23
      refine lv_aload_n hx hb dK_open_80 rfl (lv_at hl 2 rfl) ?_
      refine lv_bipush (v := nI 32) hx hb dK_open_81 (by decide) ?_
      refine nw_put (C := "LatticeKeys") (TT := T_K) (N := 11) hx hb hts (wg_ft i_K) ty_K k_K n_K hown hK hO hU k_h0 (kn := 0) (ci := 0) (fl := [(3, 1), (0, 0), (3, 2), (0, 0), (3, 3), (0, 0), (3, 4), (3, 8), (3, 12), (3, 24), (3, 39)]) rfl hP hD hS rfl 3 (by decide) (hts _ (wg_t kw_377)) (fun _ h9 => h9) rfl (by decide +kernel) rfl dK_open_83 (fun s26 pl H locs es24 hO hP hD hS => ?_)
      replace hR := bnd_step hR es24
      have hF := frm_sI hF es24 (by unfold M_K_open; omega)
      have hf43 : s26.1 0 5 = nI pn := fc_ne hf40 es24 (by omega)
      have hf44 : s26.1 0 1 = nI 0 := fc_ne hf41 es24 (by omega)
      have hf45 : s26.1 0 3 = nI 32 := fc_eq es24
      refine lv_aload_n hx hb dK_open_86 rfl (lv_at hl 2 rfl) ?_
      refine nw_get (C := "LatticeKeys") (TT := T_K) (N := 11) hx hb hts (wg_ft i_K) hown hK hO k_h0 (kn := 0) (ci := 0) (fl := [(3, 1), (0, 0), (3, 2), (0, 0), (3, 3), (0, 0), (3, 4), (3, 8), (3, 12), (3, 24), (3, 39)]) rfl hP rfl 3 (by decide) (hts _ (wg_t kw_377)) (fun _ h9 => h9) (cd := (0, 0)) rfl dK_open_87 (fun v38 hv40 => ?_)
      obtain rfl := (show v38 = .int (s26.1 0 3) from hv40)
      obtain ⟨z26, ez26, hz29, hz30⟩ := cl_of (b := 2147483648) hf45 (by omega) (by decide)
      replace hR := bnd_step hR ez26
      refine mi_as hz29 ?_
      refine et_ret ?_
      exact mp_iret hx hb hr hlk hP hD hS ((nI 0, nI z26, s26), pl) ⟨⟨hR.symm, rfl, rfl, hF, ⟨0, hf44, by omega⟩, ⟨32, hf45, by omega⟩, ⟨pn, hf43, by omega⟩, trivial⟩, hO⟩ [] rfl rfl rfl (by omega) (by omega) dK_open_90
    · replace hR := hR.trans (if_neg h22)
      exact et_throw (own := "LatticeKeys") (cls := "java/lang/IllegalArgumentException") (text := "the tape is not as long as a ciphertext") (names := ["java/lang/RuntimeException", "java/lang/Exception"]) (ik := 79) (is := 194) (ic := 83) hx hb htr ctr_IAE_0 ctr_IAE_1 ctr_IAE_2 ctr_IAE_5 hown (by decide) (by decide) (hts _ (wg_t kw_501)) (hts _ (wg_t kw_18)) (hX.2.2.2.2.2.1 14 ("LatticeKeys", 194, "the tape is not as long as a ciphertext") rfl) (hat_IAE hts hX.2) hS.1 (hl.1.trans hml.symm) dK_open_48 dK_open_51 dK_open_52 dK_open_54 dK_open_57 htab (Nat.le_of_ble_eq_true rfl) (Nat.le_of_ble_eq_true rfl) (Nat.le_of_ble_eq_true rfl) (Nat.le_of_ble_eq_true rfl) hlk (Nat.le_of_ble_eq_true rfl) (Nat.le_of_ble_eq_true rfl) (xls_at 1 (congrArg Prod.fst hR) (by decide) rfl) hS.2.2 (thr_st hX.2) (fun t hz9 hk9 => ⟨⟨((nI 2, nI 0, q21.2), pl), ⟨⟨hR.symm, hF, ⟨tl, hf21, by omega⟩, ⟨al, hf22, by omega⟩, ⟨pn, hf23, by omega⟩, trivial⟩, hO⟩, lc_P hP hk9, hD⟩, (lc_S hS hz9 hk9).F rfl⟩)
  replace hR := hR.trans (if_neg hs23)
  by_cases hs24 : q21.1 = nI 3
  · replace hR := hR.trans (if_pos hs24)
    obtain ⟨z27, q24, hz31, hv41, rfl, kr35⟩ := pfd_at (c := 2) hq21 (by decide) hs24
    have kr35 : T q24 = some (379 + 36 * z27 + 6) := kr35
    have ez27 : z27 = v.toNatClampNeg := by rw [hv41]; exact (nI_clamp (by omega)).symm
    replace hR := bnd_step hR ez27
    refine lv_astore_n (lv' := [(2, .ref q24), (0, .ref h0), (1, .int v)]) hx hb dK_open_5 rfl hl (by decide) rfl (fun ls hl => ?_)
    refine lv_aload_n hx hb dK_open_6 rfl (lv_at hl 0 rfl) ?_
    refine lv_ifnull hx hb dK_open_7 ?_
    refine lv_aload_n hx hb dK_open_10 rfl (lv_at hl 0 rfl) ?_
    refine nw_get (C := "LatticeKeys$KeyPair") (TT := T_KP) (N := 3) hx hb hts (wg_ft i_KP) hown hK hO kr35 (kn := (379 + 36 * z27 + 6)) (ci := 13) (fl := [(1, 2), (3, (379 + 36 * z27 + 7)), (3, (379 + 36 * z27 + 8))]) (pr_o2 (z := z27) (by omega)) hP rfl 2 (by decide) (hts _ (wg_t kw_752)) (fun _ h9 => h9) (cd := (3, (379 + 36 * z27 + 8))) rfl dK_open_11 (fun v39 hv42 => ?_)
    obtain ⟨r34, rfl, kr36⟩ := (show ∃ r : Nat, v39 = .ref r ∧ T r = some (379 + 36 * z27 + 8) from hv42)
    refine lv_ifnonnull (tgt := 27) hx hb dK_open_14 (by decide) ?_
    refine lv_aload_n hx hb dK_open_27 rfl (lv_at hl 1 rfl) ?_
    refine nw_get (C := "LatticeKeys") (TT := T_K) (N := 11) hx hb hts (wg_ft i_K) hown hK hO k_h0 (kn := 0) (ci := 0) (fl := [(3, 1), (0, 0), (3, 2), (0, 0), (3, 3), (0, 0), (3, 4), (3, 8), (3, 12), (3, 24), (3, 39)]) rfl hP rfl 6 (by decide) (hts _ (wg_t kw_380)) (fun _ h9 => h9) (cd := (3, 4)) rfl dK_open_28 (fun v40 hv43 => ?_)
    obtain ⟨r35, rfl, kr37⟩ := (show ∃ r : Nat, v40 = .ref r ∧ T r = some 4 from hv43)
    refine lv_aload_n hx hb dK_open_31 rfl (lv_at hl 0 rfl) ?_
    refine nw_get (C := "LatticeKeys$KeyPair") (TT := T_KP) (N := 3) hx hb hts (wg_ft i_KP) hown hK hO kr35 (kn := (379 + 36 * z27 + 6)) (ci := 13) (fl := [(1, 2), (3, (379 + 36 * z27 + 7)), (3, (379 + 36 * z27 + 8))]) (pr_o2 (z := z27) (by omega)) hP rfl 0 (by decide) (hts _ (wg_t kw_746)) (fun _ h9 => h9) (cd := (1, 2)) rfl dK_open_32 (fun v41 hv44 => ?_)
    obtain rfl := (show v41 = .int (nI 2) from hv44)
    refine nw_aald6 hx hb hK hO kr37 (k := 4) (b := 5) rfl hP (by omega) (by omega) dK_open_35 (fun r36 kr38 => ?_)
    refine lv_astore_n (lv' := [(3, .ref r36), (2, .ref q24), (0, .ref h0), (1, .int v)]) hx hb dK_open_36 rfl hl (by decide) rfl (fun ls hl => ?_)
    refine lv_aload_n hx hb dK_open_37 rfl (lv_at hl 2 rfl) ?_
    refine nw_get (C := "LatticeKeys") (TT := T_K) (N := 11) hx hb hts (wg_ft i_K) hown hK hO k_h0 (kn := 0) (ci := 0) (fl := [(3, 1), (0, 0), (3, 2), (0, 0), (3, 3), (0, 0), (3, 4), (3, 8), (3, 12), (3, 24), (3, 39)]) rfl hP rfl 1 (by decide) (hts _ (wg_t kw_375)) (fun _ h9 => h9) (cd := (0, 0)) rfl dK_open_38 (fun v42 hv45 => ?_)
    obtain rfl := (show v42 = .int (q21.2.1 0 1) from hv45)
    obtain ⟨z28, ez28, hz32, hz33⟩ := cl_of (b := 2147483648) hf21 (by omega) (by decide)
    replace hR := bnd_step hR ez28
    refine mi_as hz32 ?_
    refine lv_aload_n hx hb dK_open_41 rfl (lv_at hl 0 rfl) ?_
    refine nw_get (C := "LatticeKeys$KemSet") (TT := T_KS) (N := 10) hx hb hts (wg_ft i_KS) hown hK hO kr38 (kn := 7) (ci := 1) (fl := [(1, 4), (1, 2), (1, 11), (1, 5), (1, 1568), (1, 3168), (1, 1568), (1, 1536), (1, 3104), (1, 3136)]) rfl hP rfl 6 (by decide) (hts _ (wg_t kw_245)) (fun _ h9 => h9) (cd := (1, 1568)) rfl dK_open_42 (fun v43 hv46 => ?_)
    obtain rfl := (show v43 = .int (nI 1568) from hv46)
    refine mi_eq (tgt := 58) hx hb dK_open_45 (by decide) (by omega) (by omega) (fun h23 => ?_) (fun h23 => ?_)
    · replace hR := hR.trans (if_pos h23)
      refine lv_aload_n hx hb dK_open_58 rfl (lv_at hl 2 rfl) ?_
      refine nw_get (C := "LatticeKeys") (TT := T_K) (N := 11) hx hb hts (wg_ft i_K) hown hK hO k_h0 (kn := 0) (ci := 0) (fl := [(3, 1), (0, 0), (3, 2), (0, 0), (3, 3), (0, 0), (3, 4), (3, 8), (3, 12), (3, 24), (3, 39)]) rfl hP rfl 9 (by decide) (hts _ (wg_t kw_383)) (fun _ h9 => h9) (cd := (3, 24)) rfl dK_open_59 (fun v44 hv47 => ?_)
      obtain ⟨r37, rfl, kr39⟩ := (show ∃ r : Nat, v44 = .ref r ∧ T r = some 24 from hv47)
      refine lv_aload_n hx hb dK_open_62 rfl (lv_at hl 0 rfl) ?_
      refine lv_aload_n hx hb dK_open_63 rfl (lv_at hl 1 rfl) ?_
      refine lv_aload_n hx hb dK_open_64 rfl (lv_at hl 2 rfl) ?_
      refine nw_get (C := "LatticeKeys") (TT := T_K) (N := 11) hx hb hts (wg_ft i_K) hown hK hO k_h0 (kn := 0) (ci := 0) (fl := [(3, 1), (0, 0), (3, 2), (0, 0), (3, 3), (0, 0), (3, 4), (3, 8), (3, 12), (3, 24), (3, 39)]) rfl hP rfl 0 (by decide) (hts _ (wg_t kw_374)) (fun _ h9 => h9) (cd := (3, 1)) rfl dK_open_65 (fun v45 hv48 => ?_)
      obtain ⟨r38, rfl, kr40⟩ := (show ∃ r : Nat, v45 = .ref r ∧ T r = some 1 from hv48)
      refine lv_aload_n hx hb dK_open_68 rfl (lv_at hl 2 rfl) ?_
      refine nw_get (C := "LatticeKeys") (TT := T_K) (N := 11) hx hb hts (wg_ft i_K) hown hK hO k_h0 (kn := 0) (ci := 0) (fl := [(3, 1), (0, 0), (3, 2), (0, 0), (3, 3), (0, 0), (3, 4), (3, 8), (3, 12), (3, 24), (3, 39)]) rfl hP rfl 2 (by decide) (hts _ (wg_t kw_376)) (fun _ h9 => h9) (cd := (3, 2)) rfl dK_open_69 (fun v46 hv49 => ?_)
      obtain ⟨r39, rfl, kr41⟩ := (show ∃ r : Nat, v46 = .ref r ∧ T r = some 2 from hv49)
      refine mp_v (cx := []) (wr := []) hP hD hS hA [] [] rfl rfl rfl (by decide) (va_runV (As := [.ref r36, .ref q24, .ref r38, .ref r39]) (rest := []) F (N_KM_decapsulate_2 l g _ T q21.2 pl hO hU r37 r36 q24 r38 r39 (379 + 36 * z27 + 6) (379 + 36 * z27 + 7) (379 + 36 * z27 + 8) 1 16384 2 kr39 kr38 kr35 (pr_o2 (z := z27) (by omega)) (pr_p2 (z := z27) (by omega)) (pr_s2 (z := z27) (by omega)) kr40 rfl kr41 rfl (by omega) (by omega)) (cwV 4 hts (wg_app (wg_c kw_1146 (wg_c kw_1147 (wg_c kw_1148 (wg_c kw_3 wg_n)))) kw_1149) rfl rfl rfl (by decide +kernel) ⟨by decide, by decide⟩) (pn_W "LatticeKeys$Kem" (en_ok g) (ci := 5) (kn := 24) (fl := [(3, 14), (3, 20), (3, 25), (3, 30), (3, 31), (3, 32), (3, 33), (3, 34), (3, 35), (3, 36)]) hK hO kr39 rfl hP hD hS hA hE [] rfl rfl rfl) rfl rfl hl.1 rfl (lv_room (Nat.le_of_ble_eq_true rfl)) dK_open_72 ⟨Nat.le_of_ble_eq_true rfl, Nat.le_of_ble_eq_true rfl⟩) (fun  u24 H locs hu24 hP hD hS => ?_)
      obtain ⟨s27, pl⟩ := u24
      obtain ⟨⟨eq24, hFc24, -⟩, hO⟩ := hu24
      have hO : okn g T s27 pl := hO
      have hP : va_P g.1 vcl ([] ++ pl) _ := hP
      have hD : va_D _ ([] ++ pl) := hD
      have hFc24 : frm (M_KM_decapsulate_2 2) q21.2 s27 := hFc24
      replace hR := bnd_step hR eq24
      have hF := frm_tr hF hFc24 (fun k hk => by unfold M_KM_decapsulate_2 at hk; unfold M_K_open; omega)
      have hf46 : s27.1 0 1 = nI tl := fc_F hf21 hFc24 (by unfold M_KM_decapsulate_2; omega)
      have hf47 : s27.1 0 3 = nI al := fc_F hf22 hFc24 (by unfold M_KM_decapsulate_2; omega)
      have hf48 : s27.1 0 5 = nI pn := fc_F hf23 hFc24 (by unfold M_KM_decapsulate_2; omega)
      refine W.widen (k := 0) (n := 0) (by omega) (by omega) ?_
      refine lv_aload_n hx hb dK_open_75 rfl (lv_at hl 2 rfl) ?_
      refine lv_iconst (v := nI 0) hx hb dK_open_76 (by decide) ?_
      refine nw_put (C := "LatticeKeys") (TT := T_K) (N := 11) hx hb hts (wg_ft i_K) ty_K k_K n_K hown hK hO hU k_h0 (kn := 0) (ci := 0) (fl := [(3, 1), (0, 0), (3, 2), (0, 0), (3, 3), (0, 0), (3, 4), (3, 8), (3, 12), (3, 24), (3, 39)]) rfl hP hD hS rfl 1 (by decide) (hts _ (wg_t kw_375)) (fun _ h9 => h9) rfl (by decide +kernel) rfl dK_open_77 (fun s28 pl H locs es25 hO hP hD hS => ?_)
      replace hR := bnd_step hR es25
      have hF := frm_sI hF es25 (by unfold M_K_open; omega)
      have hf50 : s28.1 0 3 = nI al := fc_ne hf47 es25 (by omega)
      have hf51 : s28.1 0 5 = nI pn := fc_ne hf48 es25 (by omega)
      have hf52 : s28.1 0 1 = nI 0 := fc_eq es25
      refine lv_aload_n hx hb dK_open_80 rfl (lv_at hl 2 rfl) ?_
      refine lv_bipush (v := nI 32) hx hb dK_open_81 (by decide) ?_
      refine nw_put (C := "LatticeKeys") (TT := T_K) (N := 11) hx hb hts (wg_ft i_K) ty_K k_K n_K hown hK hO hU k_h0 (kn := 0) (ci := 0) (fl := [(3, 1), (0, 0), (3, 2), (0, 0), (3, 3), (0, 0), (3, 4), (3, 8), (3, 12), (3, 24), (3, 39)]) rfl hP hD hS rfl 3 (by decide) (hts _ (wg_t kw_377)) (fun _ h9 => h9) rfl (by decide +kernel) rfl dK_open_83 (fun s29 pl H locs es26 hO hP hD hS => ?_)
      replace hR := bnd_step hR es26
      have hF := frm_sI hF es26 (by unfold M_K_open; omega)
      have hf54 : s29.1 0 5 = nI pn := fc_ne hf51 es26 (by omega)
      have hf55 : s29.1 0 1 = nI 0 := fc_ne hf52 es26 (by omega)
      have hf56 : s29.1 0 3 = nI 32 := fc_eq es26
      refine lv_aload_n hx hb dK_open_86 rfl (lv_at hl 2 rfl) ?_
      refine nw_get (C := "LatticeKeys") (TT := T_K) (N := 11) hx hb hts (wg_ft i_K) hown hK hO k_h0 (kn := 0) (ci := 0) (fl := [(3, 1), (0, 0), (3, 2), (0, 0), (3, 3), (0, 0), (3, 4), (3, 8), (3, 12), (3, 24), (3, 39)]) rfl hP rfl 3 (by decide) (hts _ (wg_t kw_377)) (fun _ h9 => h9) (cd := (0, 0)) rfl dK_open_87 (fun v47 hv50 => ?_)
      obtain rfl := (show v47 = .int (s29.1 0 3) from hv50)
      obtain ⟨z29, ez29, hz34, hz35⟩ := cl_of (b := 2147483648) hf56 (by omega) (by decide)
      replace hR := bnd_step hR ez29
      refine mi_as hz34 ?_
      refine et_ret ?_
      exact mp_iret hx hb hr hlk hP hD hS ((nI 0, nI z29, s29), pl) ⟨⟨hR.symm, rfl, rfl, hF, ⟨0, hf55, by omega⟩, ⟨32, hf56, by omega⟩, ⟨pn, hf54, by omega⟩, trivial⟩, hO⟩ [] rfl rfl rfl (by omega) (by omega) dK_open_90
    · replace hR := hR.trans (if_neg h23)
      exact et_throw (own := "LatticeKeys") (cls := "java/lang/IllegalArgumentException") (text := "the tape is not as long as a ciphertext") (names := ["java/lang/RuntimeException", "java/lang/Exception"]) (ik := 79) (is := 194) (ic := 83) hx hb htr ctr_IAE_0 ctr_IAE_1 ctr_IAE_2 ctr_IAE_5 hown (by decide) (by decide) (hts _ (wg_t kw_501)) (hts _ (wg_t kw_18)) (hX.2.2.2.2.2.1 14 ("LatticeKeys", 194, "the tape is not as long as a ciphertext") rfl) (hat_IAE hts hX.2) hS.1 (hl.1.trans hml.symm) dK_open_48 dK_open_51 dK_open_52 dK_open_54 dK_open_57 htab (Nat.le_of_ble_eq_true rfl) (Nat.le_of_ble_eq_true rfl) (Nat.le_of_ble_eq_true rfl) (Nat.le_of_ble_eq_true rfl) hlk (Nat.le_of_ble_eq_true rfl) (Nat.le_of_ble_eq_true rfl) (xls_at 1 (congrArg Prod.fst hR) (by decide) rfl) hS.2.2 (thr_st hX.2) (fun t hz9 hk9 => ⟨⟨((nI 2, nI 0, q21.2), pl), ⟨⟨hR.symm, hF, ⟨tl, hf21, by omega⟩, ⟨al, hf22, by omega⟩, ⟨pn, hf23, by omega⟩, trivial⟩, hO⟩, lc_P hP hk9, hD⟩, (lc_S hS hz9 hk9).F rfl⟩)
  replace hR := hR.trans (if_neg hs24)
  by_cases hs25 : q21.1 = nI 7
  · replace hR := hR.trans (if_pos hs25)
    obtain ⟨z30, q25, hz36, hv51, rfl, kr42⟩ := pfd_at (c := 6) hq21 (by decide) hs25
    have kr42 : T q25 = some (379 + 36 * z30 + 18) := kr42
    have ez30 : z30 = v.toNatClampNeg := by rw [hv51]; exact (nI_clamp (by omega)).symm
    replace hR := bnd_step hR ez30
    refine lv_astore_n (lv' := [(2, .ref q25), (0, .ref h0), (1, .int v)]) hx hb dK_open_5 rfl hl (by decide) rfl (fun ls hl => ?_)
    refine lv_aload_n hx hb dK_open_6 rfl (lv_at hl 0 rfl) ?_
    refine lv_ifnull hx hb dK_open_7 ?_
    refine lv_aload_n hx hb dK_open_10 rfl (lv_at hl 0 rfl) ?_
    refine nw_get (C := "LatticeKeys$KeyPair") (TT := T_KP) (N := 3) hx hb hts (wg_ft i_KP) hown hK hO kr42 (kn := (379 + 36 * z30 + 18)) (ci := 13) (fl := [(1, 0), (3, (379 + 36 * z30 + 19)), (5, 0)]) (pr_o6 (z := z30) (by omega)) hP rfl 2 (by decide) (hts _ (wg_t kw_752)) (fun _ h9 => h9) (cd := (5, 0)) rfl dK_open_11 (fun v48 hv52 => ?_)
    obtain rfl := (show v48 = .null from hv52)
    refine lv_ifnonnullN hx hb dK_open_14 ?_
    exact et_throw (own := "LatticeKeys") (cls := "java/util/NoSuchElementException") (text := "no such keys of ML-KEM with a secret part") (names := ["java/lang/RuntimeException", "java/lang/Exception"]) (ik := 156) (is := 192) (ic := 160) hx hb htr ctr_NSE_0 ctr_NSE_1 ctr_NSE_2 ctr_NSE_5 hown (by decide) (by decide) (hts _ (wg_t kw_1064)) (hts _ (wg_t kw_34)) (hX.2.2.2.2.2.1 13 ("LatticeKeys", 192, "no such keys of ML-KEM with a secret part") rfl) (hat_NSE hts hX.2) hS.1 (hl.1.trans hml.symm) dK_open_17 dK_open_20 dK_open_21 dK_open_23 dK_open_26 htab (Nat.le_of_ble_eq_true rfl) (Nat.le_of_ble_eq_true rfl) (Nat.le_of_ble_eq_true rfl) (Nat.le_of_ble_eq_true rfl) hlk (Nat.le_of_ble_eq_true rfl) (Nat.le_of_ble_eq_true rfl) (xls_at 0 (congrArg Prod.fst hR) (by decide) rfl) hS.2.2 (thr_st hX.2) (fun t hz9 hk9 => ⟨⟨((nI 1, nI 0, q21.2), pl), ⟨⟨hR.symm, hF, ⟨tl, hf21, by omega⟩, ⟨al, hf22, by omega⟩, ⟨pn, hf23, by omega⟩, trivial⟩, hO⟩, lc_P hP hk9, hD⟩, (lc_S hS hz9 hk9).F rfl⟩)
  replace hR := hR.trans (if_neg hs25)
  by_cases hs26 : q21.1 = nI 8
  · replace hR := hR.trans (if_pos hs26)
    obtain ⟨z31, q26, hz37, hv53, rfl, kr43⟩ := pfd_at (c := 7) hq21 (by decide) hs26
    have kr43 : T q26 = some (379 + 36 * z31 + 21) := kr43
    have ez31 : z31 = v.toNatClampNeg := by rw [hv53]; exact (nI_clamp (by omega)).symm
    replace hR := bnd_step hR ez31
    refine lv_astore_n (lv' := [(2, .ref q26), (0, .ref h0), (1, .int v)]) hx hb dK_open_5 rfl hl (by decide) rfl (fun ls hl => ?_)
    refine lv_aload_n hx hb dK_open_6 rfl (lv_at hl 0 rfl) ?_
    refine lv_ifnull hx hb dK_open_7 ?_
    refine lv_aload_n hx hb dK_open_10 rfl (lv_at hl 0 rfl) ?_
    refine nw_get (C := "LatticeKeys$KeyPair") (TT := T_KP) (N := 3) hx hb hts (wg_ft i_KP) hown hK hO kr43 (kn := (379 + 36 * z31 + 21)) (ci := 13) (fl := [(1, 1), (3, (379 + 36 * z31 + 22)), (5, 0)]) (pr_o7 (z := z31) (by omega)) hP rfl 2 (by decide) (hts _ (wg_t kw_752)) (fun _ h9 => h9) (cd := (5, 0)) rfl dK_open_11 (fun v49 hv54 => ?_)
    obtain rfl := (show v49 = .null from hv54)
    refine lv_ifnonnullN hx hb dK_open_14 ?_
    exact et_throw (own := "LatticeKeys") (cls := "java/util/NoSuchElementException") (text := "no such keys of ML-KEM with a secret part") (names := ["java/lang/RuntimeException", "java/lang/Exception"]) (ik := 156) (is := 192) (ic := 160) hx hb htr ctr_NSE_0 ctr_NSE_1 ctr_NSE_2 ctr_NSE_5 hown (by decide) (by decide) (hts _ (wg_t kw_1064)) (hts _ (wg_t kw_34)) (hX.2.2.2.2.2.1 13 ("LatticeKeys", 192, "no such keys of ML-KEM with a secret part") rfl) (hat_NSE hts hX.2) hS.1 (hl.1.trans hml.symm) dK_open_17 dK_open_20 dK_open_21 dK_open_23 dK_open_26 htab (Nat.le_of_ble_eq_true rfl) (Nat.le_of_ble_eq_true rfl) (Nat.le_of_ble_eq_true rfl) (Nat.le_of_ble_eq_true rfl) hlk (Nat.le_of_ble_eq_true rfl) (Nat.le_of_ble_eq_true rfl) (xls_at 0 (congrArg Prod.fst hR) (by decide) rfl) hS.2.2 (thr_st hX.2) (fun t hz9 hk9 => ⟨⟨((nI 1, nI 0, q21.2), pl), ⟨⟨hR.symm, hF, ⟨tl, hf21, by omega⟩, ⟨al, hf22, by omega⟩, ⟨pn, hf23, by omega⟩, trivial⟩, hO⟩, lc_P hP hk9, hD⟩, (lc_S hS hz9 hk9).F rfl⟩)
  replace hR := hR.trans (if_neg hs26)
  by_cases hs27 : q21.1 = nI 9
  · replace hR := hR.trans (if_pos hs27)
    obtain ⟨z32, q27, hz38, hv55, rfl, kr44⟩ := pfd_at (c := 8) hq21 (by decide) hs27
    have kr44 : T q27 = some (379 + 36 * z32 + 24) := kr44
    have ez32 : z32 = v.toNatClampNeg := by rw [hv55]; exact (nI_clamp (by omega)).symm
    replace hR := bnd_step hR ez32
    refine lv_astore_n (lv' := [(2, .ref q27), (0, .ref h0), (1, .int v)]) hx hb dK_open_5 rfl hl (by decide) rfl (fun ls hl => ?_)
    refine lv_aload_n hx hb dK_open_6 rfl (lv_at hl 0 rfl) ?_
    refine lv_ifnull hx hb dK_open_7 ?_
    refine lv_aload_n hx hb dK_open_10 rfl (lv_at hl 0 rfl) ?_
    refine nw_get (C := "LatticeKeys$KeyPair") (TT := T_KP) (N := 3) hx hb hts (wg_ft i_KP) hown hK hO kr44 (kn := (379 + 36 * z32 + 24)) (ci := 13) (fl := [(1, 2), (3, (379 + 36 * z32 + 25)), (5, 0)]) (pr_o8 (z := z32) (by omega)) hP rfl 2 (by decide) (hts _ (wg_t kw_752)) (fun _ h9 => h9) (cd := (5, 0)) rfl dK_open_11 (fun v50 hv56 => ?_)
    obtain rfl := (show v50 = .null from hv56)
    refine lv_ifnonnullN hx hb dK_open_14 ?_
    exact et_throw (own := "LatticeKeys") (cls := "java/util/NoSuchElementException") (text := "no such keys of ML-KEM with a secret part") (names := ["java/lang/RuntimeException", "java/lang/Exception"]) (ik := 156) (is := 192) (ic := 160) hx hb htr ctr_NSE_0 ctr_NSE_1 ctr_NSE_2 ctr_NSE_5 hown (by decide) (by decide) (hts _ (wg_t kw_1064)) (hts _ (wg_t kw_34)) (hX.2.2.2.2.2.1 13 ("LatticeKeys", 192, "no such keys of ML-KEM with a secret part") rfl) (hat_NSE hts hX.2) hS.1 (hl.1.trans hml.symm) dK_open_17 dK_open_20 dK_open_21 dK_open_23 dK_open_26 htab (Nat.le_of_ble_eq_true rfl) (Nat.le_of_ble_eq_true rfl) (Nat.le_of_ble_eq_true rfl) (Nat.le_of_ble_eq_true rfl) hlk (Nat.le_of_ble_eq_true rfl) (Nat.le_of_ble_eq_true rfl) (xls_at 0 (congrArg Prod.fst hR) (by decide) rfl) hS.2.2 (thr_st hX.2) (fun t hz9 hk9 => ⟨⟨((nI 1, nI 0, q21.2), pl), ⟨⟨hR.symm, hF, ⟨tl, hf21, by omega⟩, ⟨al, hf22, by omega⟩, ⟨pn, hf23, by omega⟩, trivial⟩, hO⟩, lc_P hP hk9, hD⟩, (lc_S hS hz9 hk9).F rfl⟩)
  replace hR := hR.trans (if_neg hs27)
  obtain ⟨c9, hc9, e9⟩ := pfd_mem hq21 hs21
  simp only [List.mem_cons, List.not_mem_nil, or_false] at hc9
  rcases hc9 with rfl | rfl | rfl | rfl | rfl | rfl
  · exact absurd e9 hs22
  · exact absurd e9 hs23
  · exact absurd e9 hs24
  · exact absurd e9 hs25
  · exact absurd e9 hs26
  · exact absurd e9 hs27
