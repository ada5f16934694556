set_option linter.all false
abbrev c_K_told : ByteArray := prog_1_method_10_code
abbrev y_K_told : MethodName := ⟨"LatticeKeys", "told", "(II)I"⟩
abbrev w_K_told : List Cond := Cond.code y_K_told c_K_told 4 (some .int) :: WG
theorem dK_told_0 : decode c_K_told 0 = .ok (.aload_n 0, 1) := by decide +kernel
theorem dK_told_1 : decode c_K_told 1 = .ok (.iload_n 1, 1) := by decide +kernel
theorem dK_told_2 : decode c_K_told 2 = .ok (.invokevirtual 163, 3) := by decide +kernel
theorem dK_told_5 : decode c_K_told 5 = .ok (.astore_n 3, 1) := by decide +kernel
theorem dK_told_6 : decode c_K_told 6 = .ok (.aload_n 3, 1) := by decide +kernel
theorem dK_told_7 : decode c_K_told 7 = .ok (.ifnonnull 13, 3) := by decide +kernel
theorem dK_told_10 : decode c_K_told 10 = .ok (.new 156, 3) := by decide +kernel
theorem dK_told_13 : decode c_K_told 13 = .ok (.dup, 1) := by decide +kernel
theorem dK_told_14 : decode c_K_told 14 = .ok (.ldc 166, 2) := by decide +kernel
theorem dK_told_16 : decode c_K_told 16 = .ok (.invokespecial 160, 3) := by decide +kernel
theorem dK_told_19 : decode c_K_told 19 = .ok (.athrow, 1) := by decide +kernel
theorem dK_told_20 : decode c_K_told 20 = .ok (.iload_n 2, 1) := by decide +kernel
theorem dK_told_21 : decode c_K_told 21 = .ok (.tableswitch 55 0 2 #[27, 32, 38], 27) := by decide +kernel
theorem dK_told_48 : decode c_K_told 48 = .ok (.aload_n 3, 1) := by decide +kernel
theorem dK_told_49 : decode c_K_told 49 = .ok (.getfield 168, 3) := by decide +kernel
theorem dK_told_52 : decode c_K_told 52 = .ok (.ireturn, 1) := by decide +kernel
theorem dK_told_53 : decode c_K_told 53 = .ok (.aload_n 3, 1) := by decide +kernel
theorem dK_told_54 : decode c_K_told 54 = .ok (.getfield 171, 3) := by decide +kernel
theorem dK_told_57 : decode c_K_told 57 = .ok (.arraylength, 1) := by decide +kernel
theorem dK_told_58 : decode c_K_told 58 = .ok (.ireturn, 1) := by decide +kernel
theorem dK_told_59 : decode c_K_told 59 = .ok (.aload_n 3, 1) := by decide +kernel
theorem dK_told_60 : decode c_K_told 60 = .ok (.getfield 174, 3) := by decide +kernel
theorem dK_told_63 : decode c_K_told 63 = .ok (.ifnonnull 7, 3) := by decide +kernel
theorem dK_told_66 : decode c_K_told 66 = .ok (.iconst 0, 1) := by decide +kernel
theorem dK_told_67 : decode c_K_told 67 = .ok (.goto 8, 3) := by decide +kernel
theorem dK_told_70 : decode c_K_told 70 = .ok (.aload_n 3, 1) := by decide +kernel
theorem dK_told_71 : decode c_K_told 71 = .ok (.getfield 174, 3) := by decide +kernel
theorem dK_told_74 : decode c_K_told 74 = .ok (.arraylength, 1) := by decide +kernel
theorem dK_told_75 : decode c_K_told 75 = .ok (.ireturn, 1) := by decide +kernel
theorem dK_told_76 : decode c_K_told 76 = .ok (.new 79, 3) := by decide +kernel
theorem dK_told_79 : decode c_K_told 79 = .ok (.dup, 1) := by decide +kernel
theorem dK_told_80 : decode c_K_told 80 = .ok (.ldc 177, 2) := by decide +kernel
theorem dK_told_82 : decode c_K_told 82 = .ok (.invokespecial 83, 3) := by decide +kernel
theorem dK_told_85 : decode c_K_told 85 = .ok (.athrow, 1) := by decide +kernel
def M_K_told (k : Nat) : Prop := (0 : Nat) = 1
noncomputable def F_K_told (v : Int32) (v2 : Int32) (s : Sto) : Int32 × Int32 × Sto := bnd (F_K_find v s) fun q21 => if q21.1 = nI 0 then (nI 1, nI 0, q21.2) else if q21.1 = nI 1 then bnd (v.toNatClampNeg) fun z21 => if v2 = nI 0 then (nI 0, nI 0, q21.2) else if v2 = nI 1 then (nI 0, nI 800, q21.2) else if v2 = nI 2 then (nI 0, nI 1632, q21.2) else (nI 2, nI 0, q21.2) else if q21.1 = nI 2 then bnd (v.toNatClampNeg) fun z22 => if v2 = nI 0 then (nI 0, nI 1, q21.2) else if v2 = nI 1 then (nI 0, nI 1184, q21.2) else if v2 = nI 2 then (nI 0, nI 2400, q21.2) else (nI 2, nI 0, q21.2) else if q21.1 = nI 3 then bnd (v.toNatClampNeg) fun z23 => if v2 = nI 0 then (nI 0, nI 2, q21.2) else if v2 = nI 1 then (nI 0, nI 1568, q21.2) else if v2 = nI 2 then (nI 0, nI 3168, q21.2) else (nI 2, nI 0, q21.2) else if q21.1 = nI 4 then bnd (v.toNatClampNeg) fun z24 => if v2 = nI 0 then (nI 0, nI 3, q21.2) else if v2 = nI 1 then (nI 0, nI 1312, q21.2) else if v2 = nI 2 then (nI 0, nI 2560, q21.2) else (nI 2, nI 0, q21.2) else if q21.1 = nI 5 then bnd (v.toNatClampNeg) fun z25 => if v2 = nI 0 then (nI 0, nI 4, q21.2) else if v2 = nI 1 then (nI 0, nI 1952, q21.2) else if v2 = nI 2 then (nI 0, nI 4032, q21.2) else (nI 2, nI 0, q21.2) else if q21.1 = nI 6 then bnd (v.toNatClampNeg) fun z26 => if v2 = nI 0 then (nI 0, nI 5, q21.2) else if v2 = nI 1 then (nI 0, nI 2592, q21.2) else if v2 = nI 2 then (nI 0, nI 4896, q21.2) else (nI 2, nI 0, q21.2) else if q21.1 = nI 7 then bnd (v.toNatClampNeg) fun z27 => if v2 = nI 0 then (nI 0, nI 0, q21.2) else if v2 = nI 1 then (nI 0, nI 800, q21.2) else if v2 = nI 2 then (nI 0, nI 0, q21.2) else (nI 2, nI 0, q21.2) else if q21.1 = nI 8 then bnd (v.toNatClampNeg) fun z28 => if v2 = nI 0 then (nI 0, nI 1, q21.2) else if v2 = nI 1 then (nI 0, nI 1184, q21.2) else if v2 = nI 2 then (nI 0, nI 0, q21.2) else (nI 2, nI 0, q21.2) else if q21.1 = nI 9 then bnd (v.toNatClampNeg) fun z29 => if v2 = nI 0 then (nI 0, nI 2, q21.2) else if v2 = nI 1 then (nI 0, nI 1568, q21.2) else if v2 = nI 2 then (nI 0, nI 0, q21.2) else (nI 2, nI 0, q21.2) else if q21.1 = nI 10 then bnd (v.toNatClampNeg) fun z30 => if v2 = nI 0 then (nI 0, nI 3, q21.2) else if v2 = nI 1 then (nI 0, nI 1312, q21.2) else if v2 = nI 2 then (nI 0, nI 0, q21.2) else (nI 2, nI 0, q21.2) else if q21.1 = nI 11 then bnd (v.toNatClampNeg) fun z31 => if v2 = nI 0 then (nI 0, nI 4, q21.2) else if v2 = nI 1 then (nI 0, nI 1952, q21.2) else if v2 = nI 2 then (nI 0, nI 0, q21.2) else (nI 2, nI 0, q21.2) else if q21.1 = nI 12 then bnd (v.toNatClampNeg) fun z32 => if v2 = nI 0 then (nI 0, nI 5, q21.2) else if v2 = nI 1 then (nI 0, nI 2592, q21.2) else if v2 = nI 2 then (nI 0, nI 0, q21.2) else (nI 2, nI 0, q21.2) else (nI 0, nI 0, q21.2)
set_option maxHeartbeats 2000000 in
set_option maxRecDepth 100000 in
theorem N_K_told (l : Launch) (htr : l.stackTraces = false) (g : Gd) (sz : Nat) (T : TyN) (s : Sto) (pl : va_W) (hO : okn g T s pl) (hU : inj T) (h0 : Nat) (v : Int32) (v2 : Int32) (tl : Nat) (al : Nat) (pn : Nat) (k_h0 : T h0 = some 0) (e_tl : s.1 0 1 = nI tl) (e_al : s.1 0 3 = nI al) (e_pn : s.1 0 5 = nI pn) (h1 : tl ≤ 16384) (h2 : al ≤ 8192) (h3 : pn ≤ 8)  : etMet l y_K_told w_K_told ({ frames := 6, cells := 1, slots := 6, locals := 90 } : Room) (va_Pc [.ref h0, .int v, .int v2] (pr (ex g) g.1 vcl sz ([] ++ pl))) (xls ["java/util/NoSuchElementException", "java/lang/IllegalArgumentException"] (F_K_told v v2 s).1) (va_Qi (fun (r : Int32) (u : (Int32 × Int32 × Sto) × va_W) => (u.1 = F_K_told v v2 s ∧ r = u.1.2.1 ∧ u.1.1 = nI 0 ∧ frm (M_K_told) s u.1.2.2 ∧ (∃ x : Nat, u.1.2.2.1 0 1 = nI x ∧ x ≤ 16384) ∧ (∃ x : Nat, u.1.2.2.1 0 3 = nI x ∧ x ≤ 8192) ∧ (∃ x : Nat, u.1.2.2.1 0 5 = nI x ∧ x = pn) ∧ True) ∧ okn g T u.1.2.2 u.2) (po g.1 vcl (va_A ([] ++ pl) sz) (fun (u : (Int32 × Int32 × Sto) × va_W) => [] ++ u.2)) (va_A ([] ++ pl) sz)) (xtP (fun (u : (Int32 × Int32 × Sto) × va_W) => (u.1 = F_K_told v v2 s ∧ frm (M_K_told) s u.1.2.2 ∧ (∃ x : Nat, u.1.2.2.1 0 1 = nI x ∧ x ≤ 16384) ∧ (∃ x : Nat, u.1.2.2.1 0 3 = nI x ∧ x ≤ 8192) ∧ (∃ x : Nat, u.1.2.2.1 0 5 = nI x ∧ x = pn) ∧ True) ∧ okn g T u.1.2.2 u.2) (po g.1 vcl (va_A ([] ++ pl) sz) (fun (u : (Int32 × Int32 × Sto) × va_W) => [] ++ u.2)) (va_A ([] ++ pl) sz)) 1 6 (va_A ([] ++ pl) sz) := by
  refine et_entry (cc := c_K_told) (maxL := 4) (ret := (some .int)) (by decide) rfl (Nat.le_of_ble_eq_true rfl) ?_
  intro p e s0 m args below meth c ls F hr hlk htab hsz hP hD hX hA hl
  obtain ⟨hx, hb, hml, hown, hts⟩ := id F
  have hE := hX.1
  have hK := hE.1
  generalize va_A ([] ++ pl) sz = A at hD hX hE hA ⊢
  have hS : va_S A s0.heap s0.heap [] := va_S.rf
  have hl : lv_has ls 4 [(0, .ref h0), (1, .int v), (2, .int v2)] := hl
  have hR : F_K_told v v2 s = F_K_told v v2 s := rfl
  have hF : frm (M_K_told) s s := frm_rf
  refine lv_aload_n hx hb dK_told_0 rfl (lv_at hl 0 rfl) ?_
  refine lv_iload_n hx hb dK_told_1 rfl (lv_at hl 1 rfl) ?_
  refine mp_q (cx := []) (wr := []) hP hD hS hA [] [] rfl rfl rfl (by decide) (va_runV (As := [.int v]) (rest := []) F (N_K_find l g _ T s pl hO hU h0 v tl al pn k_h0 e_tl e_al e_pn (by omega)) (cwV 1 hts (wg_app (wg_c kw_1060 (wg_c kw_1062 (wg_c ks_24 (wg_c kw_1 wg_n)))) kw_1063) rfl rfl rfl (by decide +kernel) ⟨by decide, by decide⟩) (pn_W "LatticeKeys" (en_ok g) (ci := 0) (kn := 0) (fl := [(3, 1), (0, 0), (3, 2), (0, 0), (3, 3), (0, 0), (3, 4), (3, 8), (3, 12), (3, 24), (3, 39)]) hK hO k_h0 rfl hP hD hS hA hE [] rfl rfl rfl) rfl rfl hl.1 rfl (lv_room (Nat.le_of_ble_eq_true rfl)) dK_told_2 ⟨Nat.le_of_ble_eq_true rfl, Nat.le_of_ble_eq_true rfl⟩) (fun r21 u21 H locs hu21 hP hD hS => ?_)
  obtain ⟨q21, pl⟩ := u21
  obtain ⟨⟨eq21, hq21, hFc21, -⟩, hO⟩ := hu21
  have hO : okn g T q21.2 pl := hO
  have hP : va_P g.1 vcl ([] ++ pl) _ := hP
  have hD : va_D _ ([] ++ pl) := hD
  have hFc21 : frm (M_K_find) s q21.2 := hFc21
  replace hR := bnd_step hR eq21
  have hF := frm_tr hF hFc21 (fun k hk => by unfold M_K_find at hk; unfold M_K_told; omega)
  have hf21 : q21.2.1 0 1 = nI tl := fc_F e_tl hFc21 (by unfold M_K_find; omega)
  have hf22 : q21.2.1 0 3 = nI al := fc_F e_al hFc21 (by unfold M_K_find; omega)
  have hf23 : q21.2.1 0 5 = nI pn := fc_F e_pn hFc21 (by unfold M_K_find; omega)
  refine W.widen (k := 0) (n := 0) (by omega) (by omega) ?_
  by_cases hs21 : q21.1 = nI 0
  · replace hR := hR.trans (if_pos hs21)
    obtain rfl : r21 = none := pfd_none hq21 hs21
    refine lv_astore_nN (lv' := [(3, .null), (0, .ref h0), (1, .int v), (2, .int v2)]) hx hb dK_told_5 rfl hl (by decide) rfl (fun ls hl => ?_)
    refine lv_aload_nN hx hb dK_told_6 rfl (lv_at hl 0 rfl) ?_
    refine lv_ifnonnullN hx hb dK_told_7 ?_
    exact et_throw (own := "LatticeKeys") (cls := "java/util/NoSuchElementException") (text := "no such keys") (names := ["java/lang/RuntimeException", "java/lang/Exception"]) (ik := 156) (is := 166) (ic := 160) hx hb htr ctr_NSE_0 ctr_NSE_1 ctr_NSE_2 ctr_NSE_5 hown (by decide) (by decide) (hts _ (wg_t kw_1064)) (hts _ (wg_t kw_34)) (hX.2.2.2.2.2.1 9 ("LatticeKeys", 166, "no such keys") rfl) (hat_NSE hts hX.2) hS.1 (hl.1.trans hml.symm) dK_told_10 dK_told_13 dK_told_14 dK_told_16 dK_told_19 htab (Nat.le_of_ble_eq_true rfl) (Nat.le_of_ble_eq_true rfl) (Nat.le_of_ble_eq_true rfl) (Nat.le_of_ble_eq_true rfl) hlk (Nat.le_of_ble_eq_true rfl) (Nat.le_of_ble_eq_true rfl) (xls_at 0 (congrArg Prod.fst hR) (by decide) rfl) hS.2.2 (thr_st hX.2) (fun t hz9 hk9 => ⟨⟨((nI 1, nI 0, q21.2), pl), ⟨⟨hR.symm, hF, ⟨tl, hf21, by omega⟩, ⟨al, hf22, by omega⟩, ⟨pn, hf23, by omega⟩, trivial⟩, hO⟩, lc_P hP hk9, hD⟩, (lc_S hS hz9 hk9).F rfl⟩)
  replace hR := hR.trans (if_neg hs21)
  by_cases hs22 : q21.1 = nI 1
  · replace hR := hR.trans (if_pos hs22)
    obtain ⟨z21, q22, hz21, hv21, rfl, kr21⟩ := pfd_at (c := 0) hq21 (by decide) hs22
    have kr21 : T q22 = some (379 + 36 * z21 + 0) := kr21
    have ez21 : z21 = v.toNatClampNeg := by rw [hv21]; exact (nI_clamp (by omega)).symm
    replace hR := bnd_step hR ez21
    refine lv_astore_n (lv' := [(3, .ref q22), (0, .ref h0), (1, .int v), (2, .int v2)]) hx hb dK_told_5 rfl hl (by decide) rfl (fun ls hl => ?_)
    refine lv_aload_n hx hb dK_told_6 rfl (lv_at hl 0 rfl) ?_
    refine lv_ifnonnull (tgt := 20) hx hb dK_told_7 (by decide) ?_
    refine lv_iload_n hx hb dK_told_20 rfl (lv_at hl 3 rfl) ?_
    by_cases hs34 : v2 = nI 0
    · replace hR := hR.trans (if_pos hs34)
      refine mi_as hs34 ?_
      refine lv_tableIn (off := 27) (tgt := 48) hx hb dK_told_21 (by decide) (by decide) (by decide) (by decide) ?_
      refine lv_aload_n hx hb dK_told_48 rfl (lv_at hl 0 rfl) ?_
      refine nw_get (C := "LatticeKeys$KeyPair") (TT := T_KP) (N := 3) hx hb hts (wg_ft i_KP) hown hK hO kr21 (kn := (379 + 36 * z21 + 0)) (ci := 13) (fl := [(1, 0), (3, (379 + 36 * z21 + 1)), (3, (379 + 36 * z21 + 2))]) (pr_o0 (z := z21) (by omega)) hP rfl 0 (by decide) (hts _ (wg_t kw_746)) (fun _ h9 => h9) (cd := (1, 0)) rfl dK_told_49 (fun v21 hv22 => ?_)
      obtain rfl := (show v21 = .int (nI 0) from hv22)
      refine et_ret ?_
      exact mp_iret hx hb hr hlk hP hD hS ((nI 0, nI 0, q21.2), pl) ⟨⟨hR.symm, rfl, rfl, hF, ⟨tl, hf21, by omega⟩, ⟨al, hf22, by omega⟩, ⟨pn, hf23, by omega⟩, trivial⟩, hO⟩ [] rfl rfl rfl (by omega) (by omega) dK_told_52
    replace hR := hR.trans (if_neg hs34)
    by_cases hs35 : v2 = nI 1
    · replace hR := hR.trans (if_pos hs35)
      refine mi_as hs35 ?_
      refine lv_tableIn (off := 32) (tgt := 53) hx hb dK_told_21 (by decide) (by decide) (by decide) (by decide) ?_
      refine lv_aload_n hx hb dK_told_53 rfl (lv_at hl 0 rfl) ?_
      refine nw_get (C := "LatticeKeys$KeyPair") (TT := T_KP) (N := 3) hx hb hts (wg_ft i_KP) hown hK hO kr21 (kn := (379 + 36 * z21 + 0)) (ci := 13) (fl := [(1, 0), (3, (379 + 36 * z21 + 1)), (3, (379 + 36 * z21 + 2))]) (pr_o0 (z := z21) (by omega)) hP rfl 1 (by decide) (hts _ (wg_t kw_749)) (fun _ h9 => h9) (cd := (3, (379 + 36 * z21 + 1))) rfl dK_told_54 (fun v22 hv23 => ?_)
      obtain ⟨r22, rfl, kr22⟩ := (show ∃ r : Nat, v22 = .ref r ∧ T r = some (379 + 36 * z21 + 1) from hv23)
      refine nw_alen1 hx hb hK hO kr22 (k := (379 + 36 * z21 + 1)) (pr_p0 (z := z21) (by omega)) hP dK_told_57 ?_
      refine et_ret ?_
      exact mp_iret hx hb hr hlk hP hD hS ((nI 0, nI 800, q21.2), pl) ⟨⟨hR.symm, rfl, rfl, hF, ⟨tl, hf21, by omega⟩, ⟨al, hf22, by omega⟩, ⟨pn, hf23, by omega⟩, trivial⟩, hO⟩ [] rfl rfl rfl (by omega) (by omega) dK_told_58
    replace hR := hR.trans (if_neg hs35)
    by_cases hs36 : v2 = nI 2
    · replace hR := hR.trans (if_pos hs36)
      refine mi_as hs36 ?_
      refine lv_tableIn (off := 38) (tgt := 59) hx hb dK_told_21 (by decide) (by decide) (by decide) (by decide) ?_
      refine lv_aload_n hx hb dK_told_59 rfl (lv_at hl 0 rfl) ?_
      refine nw_get (C := "LatticeKeys$KeyPair") (TT := T_KP) (N := 3) hx hb hts (wg_ft i_KP) hown hK hO kr21 (kn := (379 + 36 * z21 + 0)) (ci := 13) (fl := [(1, 0), (3, (379 + 36 * z21 + 1)), (3, (379 + 36 * z21 + 2))]) (pr_o0 (z := z21) (by omega)) hP rfl 2 (by decide) (hts _ (wg_t kw_752)) (fun _ h9 => h9) (cd := (3, (379 + 36 * z21 + 2))) rfl dK_told_60 (fun v23 hv24 => ?_)
      obtain ⟨r23, rfl, kr23⟩ := (show ∃ r : Nat, v23 = .ref r ∧ T r = some (379 + 36 * z21 + 2) from hv24)
      refine lv_ifnonnull (tgt := 70) hx hb dK_told_63 (by decide) ?_
      refine lv_aload_n hx hb dK_told_70 rfl (lv_at hl 0 rfl) ?_
      refine nw_get (C := "LatticeKeys$KeyPair") (TT := T_KP) (N := 3) hx hb hts (wg_ft i_KP) hown hK hO kr21 (kn := (379 + 36 * z21 + 0)) (ci := 13) (fl := [(1, 0), (3, (379 + 36 * z21 + 1)), (3, (379 + 36 * z21 + 2))]) (pr_o0 (z := z21) (by omega)) hP rfl 2 (by decide) (hts _ (wg_t kw_752)) (fun _ h9 => h9) (cd := (3, (379 + 36 * z21 + 2))) rfl dK_told_71 (fun v24 hv25 => ?_)
      obtain ⟨r24, rfl, kr24⟩ := (show ∃ r : Nat, v24 = .ref r ∧ T r = some (379 + 36 * z21 + 2) from hv25)
      refine nw_alen1 hx hb hK hO kr24 (k := (379 + 36 * z21 + 2)) (pr_s0 (z := z21) (by omega)) hP dK_told_74 ?_
      refine et_ret ?_
      exact mp_iret hx hb hr hlk hP hD hS ((nI 0, nI 1632, q21.2), pl) ⟨⟨hR.symm, rfl, rfl, hF, ⟨tl, hf21, by omega⟩, ⟨al, hf22, by omega⟩, ⟨pn, hf23, by omega⟩, trivial⟩, hO⟩ [] rfl rfl rfl (by omega) (by omega) dK_told_75
    replace hR := hR.trans (if_neg hs36)
    have hb9 := (rng (v := v2) 2 (by decide)).resolve_left (fun ⟨j9, hj9, e9⟩ => by
      have h9 : j9 = 0 ∨ j9 = 1 ∨ j9 = 2 := by omega
      rcases h9 with rfl | rfl | rfl
      · exact hs34 e9
      · exact hs35 e9
      · exact hs36 e9)
    refine lv_tableOut (tgt := 76) hx hb dK_told_21 (tout (by decide) hb9) (by decide) ?_
    exact et_throw (own := "LatticeKeys") (cls := "java/lang/IllegalArgumentException") (text := "nothing of that number is told") (names := ["java/lang/RuntimeException", "java/lang/Exception"]) (ik := 79) (is := 177) (ic := 83) hx hb htr ctr_IAE_0 ctr_IAE_1 ctr_IAE_2 ctr_IAE_5 hown (by decide) (by decide) (hts _ (wg_t kw_501)) (hts _ (wg_t kw_18)) (hX.2.2.2.2.2.1 10 ("LatticeKeys", 177, "nothing of that number is told") rfl) (hat_IAE hts hX.2) hS.1 (hl.1.trans hml.symm) dK_told_76 dK_told_79 dK_told_80 dK_told_82 dK_told_85 htab (Nat.le_of_ble_eq_true rfl) (Nat.le_of_ble_eq_true rfl) (Nat.le_of_ble_eq_true rfl) (Nat.le_of_ble_eq_true rfl) hlk (Nat.le_of_ble_eq_true rfl) (Nat.le_of_ble_eq_true rfl) (xls_at 1 (congrArg Prod.fst hR) (by decide) rfl) hS.2.2 (thr_st hX.2) (fun t hz9 hk9 => ⟨⟨((nI 2, nI 0, q21.2), pl), ⟨⟨hR.symm, hF, ⟨tl, hf21, by omega⟩, ⟨al, hf22, by omega⟩, ⟨pn, hf23, by omega⟩, trivial⟩, hO⟩, lc_P hP hk9, hD⟩, (lc_S hS hz9 hk9).F rfl⟩)
  replace hR := hR.trans (if_neg hs22)
  by_cases hs23 : q21.1 = nI 2
  · replace hR := hR.trans (if_pos hs23)
    obtain ⟨z22, q23, hz22, hv26, rfl, kr25⟩ := pfd_at (c := 1) hq21 (by decide) hs23
    have kr25 : T q23 = some (379 + 36 * z22 + 3) := kr25
    have ez22 : z22 = v.toNatClampNeg := by rw [hv26]; exact (nI_clamp (by omega)).symm
    replace hR := bnd_step hR ez22
    refine lv_astore_n (lv' := [(3, .ref q23), (0, .ref h0), (1, .int v), (2, .int v2)]) hx hb dK_told_5 rfl hl (by decide) rfl (fun ls hl => ?_)
    refine lv_aload_n hx hb dK_told_6 rfl (lv_at hl 0 rfl) ?_
    refine lv_ifnonnull (tgt := 20) hx hb dK_told_7 (by decide) ?_
    refine lv_iload_n hx hb dK_told_20 rfl (lv_at hl 3 rfl) ?_
    by_cases hs37 : v2 = nI 0
    · replace hR := hR.trans (if_pos hs37)
      refine mi_as hs37 ?_
      refine lv_tableIn (off := 27) (tgt := 48) hx hb dK_told_21 (by decide) (by decide) (by decide) (by decide) ?_
      refine lv_aload_n hx hb dK_told_48 rfl (lv_at hl 0 rfl) ?_
      refine nw_get (C := "LatticeKeys$KeyPair") (TT := T_KP) (N := 3) hx hb hts (wg_ft i_KP) hown hK hO kr25 (kn := (379 + 36 * z22 + 3)) (ci := 13) (fl := [(1, 1), (3, (379 + 36 * z22 + 4)), (3, (379 + 36 * z22 + 5))]) (pr_o1 (z := z22) (by omega)) hP rfl 0 (by decide) (hts _ (wg_t kw_746)) (fun _ h9 => h9) (cd := (1, 1)) rfl dK_told_49 (fun v25 hv27 => ?_)
      obtain rfl := (show v25 = .int (nI 1) from hv27)
      refine et_ret ?_
      exact mp_iret hx hb hr hlk hP hD hS ((nI 0, nI 1, q21.2), pl) ⟨⟨hR.symm, rfl, rfl, hF, ⟨tl, hf21, by omega⟩, ⟨al, hf22, by omega⟩, ⟨pn, hf23, by omega⟩, trivial⟩, hO⟩ [] rfl rfl rfl (by omega) (by omega) dK_told_52
    replace hR := hR.trans (if_neg hs37)
    by_cases hs38 : v2 = nI 1
    · replace hR := hR.trans (if_pos hs38)
      refine mi_as hs38 ?_
      refine lv_tableIn (off := 32) (tgt := 53) hx hb dK_told_21 (by decide) (by decide) (by decide) (by decide) ?_
      refine lv_aload_n hx hb dK_told_53 rfl (lv_at hl 0 rfl) ?_
      refine nw_get (C := "LatticeKeys$KeyPair") (TT := T_KP) (N := 3) hx hb hts (wg_ft i_KP) hown hK hO kr25 (kn := (379 + 36 * z22 + 3)) (ci := 13) (fl := [(1, 1), (3, (379 + 36 * z22 + 4)), (3, (379 + 36 * z22 + 5))]) (pr_o1 (z := z22) (by omega)) hP rfl 1 (by decide) (hts _ (wg_t kw_749)) (fun _ h9 => h9) (cd := (3, (379 + 36 * z22 + 4))) rfl dK_told_54 (fun v26 hv28 => ?_)
      obtain ⟨r25, rfl, kr26⟩ := (show ∃ r : Nat, v26 = .ref r ∧ T r = some (379 + 36 * z22 + 4) from hv28)
      refine nw_alen1 hx hb hK hO kr26 (k := (379 + 36 * z22 + 4)) (pr_p1 (z := z22) (by omega)) hP dK_told_57 ?_
      refine et_ret ?_
      exact mp_iret hx hb hr hlk hP hD hS ((nI 0, nI 1184, q21.2), pl) ⟨⟨hR.symm, rfl, rfl, hF, ⟨tl, hf21, by omega⟩, ⟨al, hf22, by omega⟩, ⟨pn, hf23, by omega⟩, trivial⟩, hO⟩ [] rfl rfl rfl (by omega) (by omega) dK_told_58
    replace hR := hR.trans (if_neg hs38)
    by_cases hs39 : v2 = nI 2
    · replace hR := hR.trans (if_pos hs39)
      refine mi_as hs39 ?_
      refine lv_tableIn (off := 38) (tgt := 59) hx hb dK_told_21 (by decide) (by decide) (by decide) (by decide) ?_
      refine lv_aload_n hx hb dK_told_59 rfl (lv_at hl 0 rfl) ?_
      refine nw_get (C := "LatticeKeys$KeyPair") (TT := T_KP) (N := 3) hx hb hts (wg_ft i_KP) hown hK hO kr25 (kn := (379 + 36 * z22 + 3)) (ci := 13) (fl := [(1, 1), (3, (379 + 36 * z22 + 4)), (3, (379 + 36 * z22 + 5))]) (pr_o1 (z := z22) (by omega)) hP rfl 2 (by decide) (hts _ (wg_t kw_752)) (fun _ h9 => h9) (cd := (3, (379 + 36 * z22 + 5))) rfl dK_told_60 (fun v27 hv29 => ?_)
      obtain ⟨r26, rfl, kr27⟩ := (show ∃ r : Nat, v27 = .ref r ∧ T r = some (379 + 36 * z22 + 5) from hv29)
      refine lv_ifnonnull (tgt := 70) hx hb dK_told_63 (by decide) ?_
      refine lv_aload_n hx hb dK_told_70 rfl (lv_at hl 0 rfl) ?_
      refine nw_get (C := "LatticeKeys$KeyPair") (TT := T_KP) (N := 3) hx hb hts (wg_ft i_KP) hown hK hO kr25 (kn := (379 + 36 * z22 + 3)) (ci := 13) (fl := [(1, 1), (3, (379 + 36 * z22 + 4)), (3, (379 + 36 * z22 + 5))]) (pr_o1 (z := z22) (by omega)) hP rfl 2 (by decide) (hts _ (wg_t kw_752)) (fun _ h9 => h9) (cd := (3, (379 + 36 * z22 + 5))) rfl dK_told_71 (fun v28 hv30 => ?_)
      obtain ⟨r27, rfl, kr28⟩ := (show ∃ r : Nat, v28 = .ref r ∧ T r = some (379 + 36 * z22 + 5) from hv30)
      refine nw_alen1 hx hb hK hO kr28 (k := (379 + 36 * z22 + 5)) (pr_s1 (z := z22) (by omega)) hP dK_told_74 ?_
      refine et_ret ?_
      exact mp_iret hx hb hr hlk hP hD hS ((nI 0, nI 2400, q21.2), pl) ⟨⟨hR.symm, rfl, rfl, hF, ⟨tl, hf21, by omega⟩, ⟨al, hf22, by omega⟩, ⟨pn, hf23, by omega⟩, trivial⟩, hO⟩ [] rfl rfl rfl (by omega) (by omega) dK_told_75
    replace hR := hR.trans (if_neg hs39)
    have hb9 := (rng (v := v2) 2 (by decide)).resolve_left (fun ⟨j9, hj9, e9⟩ => by
      have h9 : j9 = 0 ∨ j9 = 1 ∨ j9 = 2 := by omega
      rcases h9 with rfl | rfl | rfl
      · exact hs37 e9
      · exact hs38 e9
      · exact hs39 e9)
    refine lv_tableOut (tgt := 76) hx hb dK_told_21 (tout (by decide) hb9) (by decide) ?_
    exact et_throw (own := "LatticeKeys") (cls := "java/lang/IllegalArgumentException") (text := "nothing of that number is told") (names := ["java/lang/RuntimeException", "java/lang/Exception"]) (ik := 79) (is := 177) (ic := 83) hx hb htr ctr_IAE_0 ctr_IAE_1 ctr_IAE_2 ctr_IAE_5 hown (by decide) (by decide) (hts _ (wg_t kw_501)) (hts _ (wg_t kw_18)) (hX.2.2.2.2.2.1 10 ("LatticeKeys", 177, "nothing of that number is told") rfl) (hat_IAE hts hX.2) hS.1 (hl.1.trans hml.symm) dK_told_76 dK_told_79 dK_told_80 dK_told_82 dK_told_85 htab (Nat.le_of_ble_eq_true rfl) (Nat.le_of_ble_eq_true rfl) (Nat.le_of_ble_eq_true rfl) (Nat.le_of_ble_eq_true rfl) hlk (Nat.le_of_ble_eq_true rfl) (Nat.le_of_ble_eq_true rfl) (xls_at 1 (congrArg Prod.fst hR) (by decide) rfl) hS.2.2 (thr_st hX.2) (fun t hz9 hk9 => ⟨⟨((nI 2, nI 0, q21.2), pl), ⟨⟨hR.symm, hF, ⟨tl, hf21, by omega⟩, ⟨al, hf22, by omega⟩, ⟨pn, hf23, by omega⟩, trivial⟩, hO⟩, lc_P hP hk9, hD⟩, (lc_S hS hz9 hk9).F rfl⟩)
  replace hR := hR.trans (if_neg hs23)
  by_cases hs24 : q21.1 = nI 3
  · replace hR := hR.trans (if_pos hs24)
    obtain ⟨z23, q24, hz23, hv31, rfl, kr29⟩ := pfd_at (c := 2) hq21 (by decide) hs24
    have kr29 : T q24 = some (379 + 36 * z23 + 6) := kr29
    have ez23 : z23 = v.toNatClampNeg := by rw [hv31]; exact (nI_clamp (by omega)).symm
    replace hR := bnd_step hR ez23
    refine lv_astore_n (lv' := [(3, .ref q24), (0, .ref h0), (1, .int v), (2, .int v2)]) hx hb dK_told_5 rfl hl (by decide) rfl (fun ls hl => ?_)
    refine lv_aload_n hx hb dK_told_6 rfl (lv_at hl 0 rfl) ?_
    refine lv_ifnonnull (tgt := 20) hx hb dK_told_7 (by decide) ?_
    refine lv_iload_n hx hb dK_told_20 rfl (lv_at hl 3 rfl) ?_
    by_cases hs40 : v2 = nI 0
    · replace hR := hR.trans (if_pos hs40)
      refine mi_as hs40 ?_
      refine lv_tableIn (off := 27) (tgt := 48) hx hb dK_told_21 (by decide) (by decide) (by decide) (by decide) ?_
      refine lv_aload_n hx hb dK_told_48 rfl (lv_at hl 0 rfl) ?_
      refine nw_get (C := "LatticeKeys$KeyPair") (TT := T_KP) (N := 3) hx hb hts (wg_ft i_KP) hown hK hO kr29 (kn := (379 + 36 * z23 + 6)) (ci := 13) (fl := [(1, 2), (3, (379 + 36 * z23 + 7)), (3, (379 + 36 * z23 + 8))]) (pr_o2 (z := z23) (by omega)) hP rfl 0 (by decide) (hts _ (wg_t kw_746)) (fun _ h9 => h9) (cd := (1, 2)) rfl dK_told_49 (fun v29 hv32 => ?_)
      obtain rfl := (show v29 = .int (nI 2) from hv32)
      refine et_ret ?_
      exact mp_iret hx hb hr hlk hP hD hS ((nI 0, nI 2, q21.2), pl) ⟨⟨hR.symm, rfl, rfl, hF, ⟨tl, hf21, by omega⟩, ⟨al, hf22, by omega⟩, ⟨pn, hf23, by omega⟩, trivial⟩, hO⟩ [] rfl rfl rfl (by omega) (by omega) dK_told_52
    replace hR := hR.trans (if_neg hs40)
    by_cases hs41 : v2 = nI 1
    · replace hR := hR.trans (if_pos hs41)
      refine mi_as hs41 ?_
      refine lv_tableIn (off := 32) (tgt := 53) hx hb dK_told_21 (by decide) (by decide) (by decide) (by decide) ?_
      refine lv_aload_n hx hb dK_told_53 rfl (lv_at hl 0 rfl) ?_
      refine nw_get (C := "LatticeKeys$KeyPair") (TT := T_KP) (N := 3) hx hb hts (wg_ft i_KP) hown hK hO kr29 (kn := (379 + 36 * z23 + 6)) (ci := 13) (fl := [(1, 2), (3, (379 + 36 * z23 + 7)), (3, (379 + 36 * z23 + 8))]) (pr_o2 (z := z23) (by omega)) hP rfl 1 (by decide) (hts _ (wg_t kw_749)) (fun _ h9 => h9) (cd := (3, (379 + 36 * z23 + 7))) rfl dK_told_54 (fun v30 hv33 => ?_)
      obtain ⟨r28, rfl, kr30⟩ := (show ∃ r : Nat, v30 = .ref r ∧ T r = some (379 + 36 * z23 + 7) from hv33)
      refine nw_alen1 hx hb hK hO kr30 (k := (379 + 36 * z23 + 7)) (pr_p2 (z := z23) (by omega)) hP dK_told_57 ?_
      refine et_ret ?_
      exact mp_iret hx hb hr hlk hP hD hS ((nI 0, nI 1568, q21.2), pl) ⟨⟨hR.symm, rfl, rfl, hF, ⟨tl, hf21, by omega⟩, ⟨al, hf22, by omega⟩, ⟨pn, hf23, by omega⟩, trivial⟩, hO⟩ [] rfl rfl rfl (by omega) (by omega) dK_told_58
    replace hR := hR.trans (if_neg hs41)
    by_cases hs42 : v2 = nI 2
    · replace hR := hR.trans (if_pos hs42)
      refine mi_as hs42 ?_
      refine lv_tableIn (off := 38) (tgt := 59) hx hb dK_told_21 (by decide) (by decide) (by decide) (by decide) ?_
      refine lv_aload_n hx hb dK_told_59 rfl (lv_at hl 0 rfl) ?_
      refine nw_get (C := "LatticeKeys$KeyPair") (TT := T_KP) (N := 3) hx hb hts (wg_ft i_KP) hown hK hO kr29 (kn := (379 + 36 * z23 + 6)) (ci := 13) (fl := [(1, 2), (3, (379 + 36 * z23 + 7)), (3, (379 + 36 * z23 + 8))]) (pr_o2 (z := z23) (by omega)) hP rfl 2 (by decide) (hts _ (wg_t kw_752)) (fun _ h9 => h9) (cd := (3, (379 + 36 * z23 + 8))) rfl dK_told_60 (fun v31 hv34 => ?_)
      obtain ⟨r29, rfl, kr31⟩ := (show ∃ r : Nat, v31 = .ref r ∧ T r = some (379 + 36 * z23 + 8) from hv34)
      refine lv_ifnonnull (tgt := 70) hx hb dK_told_63 (by decide) ?_
      refine lv_aload_n hx hb dK_told_70 rfl (lv_at hl 0 rfl) ?_
      refine nw_get (C := "LatticeKeys$KeyPair") (TT := T_KP) (N := 3) hx hb hts (wg_ft i_KP) hown hK hO kr29 (kn := (379 + 36 * z23 + 6)) (ci := 13) (fl := [(1, 2), (3, (379 + 36 * z23 + 7)), (3, (379 + 36 * z23 + 8))]) (pr_o2 (z := z23) (by omega)) hP rfl 2 (by decide) (hts _ (wg_t kw_752)) (fun _ h9 => h9) (cd := (3, (379 + 36 * z23 + 8))) rfl dK_told_71 (fun v32 hv35 => ?_)
      obtain ⟨r30, rfl, kr32⟩ := (show ∃ r : Nat, v32 = .ref r ∧ T r = some (379 + 36 * z23 + 8) from hv35)
      refine nw_alen1 hx hb hK hO kr32 (k := (379 + 36 * z23 + 8)) (pr_s2 (z := z23) (by omega)) hP dK_told_74 ?_
      refine et_ret ?_
      exact mp_iret hx hb hr hlk hP hD hS ((nI 0, nI 3168, q21.2), pl) ⟨⟨hR.symm, rfl, rfl, hF, ⟨tl, hf21, by omega⟩, ⟨al, hf22, by omega⟩, ⟨pn, hf23, by omega⟩, trivial⟩, hO⟩ [] rfl rfl rfl (by omega) (by omega) dK_told_75
    replace hR := hR.trans (if_neg hs42)
    have hb9 := (rng (v := v2) 2 (by decide)).resolve_left (fun ⟨j9, hj9, e9⟩ => by
      have h9 : j9 = 0 ∨ j9 = 1 ∨ j9 = 2 := by omega
      rcases h9 with rfl | rfl | rfl
      · exact hs40 e9
      · exact hs41 e9
      · exact hs42 e9)
    refine lv_tableOut (tgt := 76) hx hb dK_told_21 (tout (by decide) hb9) (by decide) ?_
    exact et_throw (own := "LatticeKeys") (cls := "java/lang/IllegalArgumentException") (text := "nothing of that number is told") (names := ["java/lang/RuntimeException", "java/lang/Exception"]) (ik := 79) (is := 177) (ic := 83) hx hb htr ctr_IAE_0 ctr_IAE_1 ctr_IAE_2 ctr_IAE_5 hown (by decide) (by decide) (hts _ (wg_t kw_501)) (hts _ (wg_t kw_18)) (hX.2.2.2.2.2.1 10 ("LatticeKeys", 177, "nothing of that number is told") rfl) (hat_IAE hts hX.2) hS.1 (hl.1.trans hml.symm) dK_told_76 dK_told_79 dK_told_80 dK_told_82 dK_told_85 htab (Nat.le_of_ble_eq_true rfl) (Nat.le_of_ble_eq_true rfl) (Nat.le_of_ble_eq_true rfl) (Nat.le_of_ble_eq_true rfl) hlk (Nat.le_of_ble_eq_true rfl) (Nat.le_of_ble_eq_true rfl) (xls_at 1 (congrArg Prod.fst hR) (by decide) rfl) hS.2.2 (thr_st hX.2) (fun t hz9 hk9 => ⟨⟨((nI 2, nI 0, q21.2), pl), ⟨⟨hR.symm, hF, ⟨tl, hf21, by omega⟩, ⟨al, hf22, by omega⟩, ⟨pn, hf23, by omega⟩, trivial⟩, hO⟩, lc_P hP hk9, hD⟩, (lc_S hS hz9 hk9).F rfl⟩)
  replace hR := hR.trans (if_neg hs24)
  by_cases hs25 : q21.1 = nI 4
  · replace hR := hR.trans (if_pos hs25)
    obtain ⟨z24, q25, hz24, hv36, rfl, kr33⟩ := pfd_at (c := 3) hq21 (by decide) hs25
    have kr33 : T q25 = some (379 + 36 * z24 + 9) := kr33
    have ez24 : z24 = v.toNatClampNeg := by rw [hv36]; exact (nI_clamp (by omega)).symm
    replace hR := bnd_step hR ez24
    refine lv_astore_n (lv' := [(3, .ref q25), (0, .ref h0), (1, .int v), (2, .int v2)]) hx hb dK_told_5 rfl hl (by decide) rfl (fun ls hl => ?_)
    refine lv_aload_n hx hb dK_told_6 rfl (lv_at hl 0 rfl) ?_
    refine lv_ifnonnull (tgt := 20) hx hb dK_told_7 (by decide) ?_
    refine lv_iload_n hx hb dK_told_20 rfl (lv_at hl 3 rfl) ?_
    by_cases hs43 : v2 = nI 0
    · replace hR := hR.trans (if_pos hs43)
      refine mi_as hs43 ?_
      refine lv_tableIn (off := 27) (tgt := 48) hx hb dK_told_21 (by decide) (by decide) (by decide) (by decide) ?_
      refine lv_aload_n hx hb dK_told_48 rfl (lv_at hl 0 rfl) ?_
      refine nw_get (C := "LatticeKeys$KeyPair") (TT := T_KP) (N := 3) hx hb hts (wg_ft i_KP) hown hK hO kr33 (kn := (379 + 36 * z24 + 9)) (ci := 13) (fl := [(1, 3), (3, (379 + 36 * z24 + 10)), (3, (379 + 36 * z24 + 11))]) (pr_o3 (z := z24) (by omega)) hP rfl 0 (by decide) (hts _ (wg_t kw_746)) (fun _ h9 => h9) (cd := (1, 3)) rfl dK_told_49 (fun v33 hv37 => ?_)
      obtain rfl := (show v33 = .int (nI 3) from hv37)
      refine et_ret ?_
      exact mp_iret hx hb hr hlk hP hD hS ((nI 0, nI 3, q21.2), pl) ⟨⟨hR.symm, rfl, rfl, hF, ⟨tl, hf21, by omega⟩, ⟨al, hf22, by omega⟩, ⟨pn, hf23, by omega⟩, trivial⟩, hO⟩ [] rfl rfl rfl (by omega) (by omega) dK_told_52
    replace hR := hR.trans (if_neg hs43)
    by_cases hs44 : v2 = nI 1
    · replace hR := hR.trans (if_pos hs44)
      refine mi_as hs44 ?_
      refine lv_tableIn (off := 32) (tgt := 53) hx hb dK_told_21 (by decide) (by decide) (by decide) (by decide) ?_
      refine lv_aload_n hx hb dK_told_53 rfl (lv_at hl 0 rfl) ?_
      refine nw_get (C := "LatticeKeys$KeyPair") (TT := T_KP) (N := 3) hx hb hts (wg_ft i_KP) hown hK hO kr33 (kn := (379 + 36 * z24 + 9)) (ci := 13) (fl := [(1, 3), (3, (379 + 36 * z24 + 10)), (3, (379 + 36 * z24 + 11))]) (pr_o3 (z := z24) (by omega)) hP rfl 1 (by decide) (hts _ (wg_t kw_749)) (fun _ h9 => h9) (cd := (3, (379 + 36 * z24 + 10))) rfl dK_told_54 (fun v34 hv38 => ?_)
      obtain ⟨r31, rfl, kr34⟩ := (show ∃ r : Nat, v34 = .ref r ∧ T r = some (379 + 36 * z24 + 10) from hv38)
      refine nw_alen1 hx hb hK hO kr34 (k := (379 + 36 * z24 + 10)) (pr_p3 (z := z24) (by omega)) hP dK_told_57 ?_
      refine et_ret ?_
      exact mp_iret hx hb hr hlk hP hD hS ((nI 0, nI 1312, q21.2), pl) ⟨⟨hR.symm, rfl, rfl, hF, ⟨tl, hf21, by omega⟩, ⟨al, hf22, by omega⟩, ⟨pn, hf23, by omega⟩, trivial⟩, hO⟩ [] rfl rfl rfl (by omega) (by omega) dK_told_58
    replace hR := hR.trans (if_neg hs44)
    by_cases hs45 : v2 = nI 2
    · replace hR := hR.trans (if_pos hs45)
      refine mi_as hs45 ?_
      refine lv_tableIn (off := 38) (tgt := 59) hx hb dK_told_21 (by decide) (by decide) (by decide) (by decide) ?_
      refine lv_aload_n hx hb dK_told_59 rfl (lv_at hl 0 rfl) ?_
      refine nw_get (C := "LatticeKeys$KeyPair") (TT := T_KP) (N := 3) hx hb hts (wg_ft i_KP) hown hK hO kr33 (kn := (379 + 36 * z24 + 9)) (ci := 13) (fl := [(1, 3), (3, (379 + 36 * z24 + 10)), (3, (379 + 36 * z24 + 11))]) (pr_o3 (z := z24) (by omega)) hP rfl 2 (by decide) (hts _ (wg_t kw_752)) (fun _ h9 => h9) (cd := (3, (379 + 36 * z24 + 11))) rfl dK_told_60 (fun v35 hv39 => ?_)
      obtain ⟨r32, rfl, kr35⟩ := (show ∃ r : Nat, v35 = .ref r ∧ T r = some (379 + 36 * z24 + 11) from hv39)
      refine lv_ifnonnull (tgt := 70) hx hb dK_told_63 (by decide) ?_
      refine lv_aload_n hx hb dK_told_70 rfl (lv_at hl 0 rfl) ?_
      refine nw_get (C := "LatticeKeys$KeyPair") (TT := T_KP) (N := 3) hx hb hts (wg_ft i_KP) hown hK hO kr33 (kn := (379 + 36 * z24 + 9)) (ci := 13) (fl := [(1, 3), (3, (379 + 36 * z24 + 10)), (3, (379 + 36 * z24 + 11))]) (pr_o3 (z := z24) (by omega)) hP rfl 2 (by decide) (hts _ (wg_t kw_752)) (fun _ h9 => h9) (cd := (3, (379 + 36 * z24 + 11))) rfl dK_told_71 (fun v36 hv40 => ?_)
      obtain ⟨r33, rfl, kr36⟩ := (show ∃ r : Nat, v36 = .ref r ∧ T r = some (379 + 36 * z24 + 11) from hv40)
      refine nw_alen1 hx hb hK hO kr36 (k := (379 + 36 * z24 + 11)) (pr_s3 (z := z24) (by omega)) hP dK_told_74 ?_
      refine et_ret ?_
      exact mp_iret hx hb hr hlk hP hD hS ((nI 0, nI 2560, q21.2), pl) ⟨⟨hR.symm, rfl, rfl, hF, ⟨tl, hf21, by omega⟩, ⟨al, hf22, by omega⟩, ⟨pn, hf23, by omega⟩, trivial⟩, hO⟩ [] rfl rfl rfl (by omega) (by omega) dK_told_75
    replace hR := hR.trans (if_neg hs45)
    have hb9 := (rng (v := v2) 2 (by decide)).resolve_left (fun ⟨j9, hj9, e9⟩ => by
      have h9 : j9 = 0 ∨ j9 = 1 ∨ j9 = 2 := by omega
      rcases h9 with rfl | rfl | rfl
      · exact hs43 e9
      · exact hs44 e9
      · exact hs45 e9)
    refine lv_tableOut (tgt := 76) hx hb dK_told_21 (tout (by decide) hb9) (by decide) ?_
    exact et_throw (own := "LatticeKeys") (cls := "java/lang/IllegalArgumentException") (text := "nothing of that number is told") (names := ["java/lang/RuntimeException", "java/lang/Exception"]) (ik := 79) (is := 177) (ic := 83) hx hb htr ctr_IAE_0 ctr_IAE_1 ctr_IAE_2 ctr_IAE_5 hown (by decide) (by decide) (hts _ (wg_t kw_501)) (hts _ (wg_t kw_18)) (hX.2.2.2.2.2.1 10 ("LatticeKeys", 177, "nothing of that number is told") rfl) (hat_IAE hts hX.2) hS.1 (hl.1.trans hml.symm) dK_told_76 dK_told_79 dK_told_80 dK_told_82 dK_told_85 htab (Nat.le_of_ble_eq_true rfl) (Nat.le_of_ble_eq_true rfl) (Nat.le_of_ble_eq_true rfl) (Nat.le_of_ble_eq_true rfl) hlk (Nat.le_of_ble_eq_true rfl) (Nat.le_of_ble_eq_true rfl) (xls_at 1 (congrArg Prod.fst hR) (by decide) rfl) hS.2.2 (thr_st hX.2) (fun t hz9 hk9 => ⟨⟨((nI 2, nI 0, q21.2), pl), ⟨⟨hR.symm, hF, ⟨tl, hf21, by omega⟩, ⟨al, hf22, by omega⟩, ⟨pn, hf23, by omega⟩, trivial⟩, hO⟩, lc_P hP hk9, hD⟩, (lc_S hS hz9 hk9).F rfl⟩)
  replace hR := hR.trans (if_neg hs25)
  by_cases hs26 : q21.1 = nI 5
  · replace hR := hR.trans (if_pos hs26)
    obtain ⟨z25, q26, hz25, hv41, rfl, kr37⟩ := pfd_at (c := 4) hq21 (by decide) hs26
    have kr37 : T q26 = some (379 + 36 * z25 + 12) := kr37
    have ez25 : z25 = v.toNatClampNeg := by rw [hv41]; exact (nI_clamp (by omega)).symm
    replace hR := bnd_step hR ez25
    refine lv_astore_n (lv' := [(3, .ref q26), (0, .ref h0), (1, .int v), (2, .int v2)]) hx hb dK_told_5 rfl hl (by decide) rfl (fun ls hl => ?_)
    refine lv_aload_n hx hb dK_told_6 rfl (lv_at hl 0 rfl) ?_
    refine lv_ifnonnull (tgt := 20) hx hb dK_told_7 (by decide) ?_
    refine lv_iload_n hx hb dK_told_20 rfl (lv_at hl 3 rfl) ?_
    by_cases hs46 : v2 = nI 0
    · replace hR := hR.trans (if_pos hs46)
      refine mi_as hs46 ?_
      refine lv_tableIn (off := 27) (tgt := 48) hx hb dK_told_21 (by decide) (by decide) (by decide) (by decide) ?_
      refine lv_aload_n hx hb dK_told_48 rfl (lv_at hl 0 rfl) ?_
      refine nw_get (C := "LatticeKeys$KeyPair") (TT := T_KP) (N := 3) hx hb hts (wg_ft i_KP) hown hK hO kr37 (kn := (379 + 36 * z25 + 12)) (ci := 13) (fl := [(1, 4), (3, (379 + 36 * z25 + 13)), (3, (379 + 36 * z25 + 14))]) (pr_o4 (z := z25) (by omega)) hP rfl 0 (by decide) (hts _ (wg_t kw_746)) (fun _ h9 => h9) (cd := (1, 4)) rfl dK_told_49 (fun v37 hv42 => ?_)
      obtain rfl := (show v37 = .int (nI 4) from hv42)
      refine et_ret ?_
      exact mp_iret hx hb hr hlk hP hD hS ((nI 0, nI 4, q21.2), pl) ⟨⟨hR.symm, rfl, rfl, hF, ⟨tl, hf21, by omega⟩, ⟨al, hf22, by omega⟩, ⟨pn, hf23, by omega⟩, trivial⟩, hO⟩ [] rfl rfl rfl (by omega) (by omega) dK_told_52
    replace hR := hR.trans (if_neg hs46)
    by_cases hs47 : v2 = nI 1
    · replace hR := hR.trans (if_pos hs47)
      refine mi_as hs47 ?_
      refine lv_tableIn (off := 32) (tgt := 53) hx hb dK_told_21 (by decide) (by decide) (by decide) (by decide) ?_
      refine lv_aload_n hx hb dK_told_53 rfl (lv_at hl 0 rfl) ?_
      refine nw_get (C := "LatticeKeys$KeyPair") (TT := T_KP) (N := 3) hx hb hts (wg_ft i_KP) hown hK hO kr37 (kn := (379 + 36 * z25 + 12)) (ci := 13) (fl := [(1, 4), (3, (379 + 36 * z25 + 13)), (3, (379 + 36 * z25 + 14))]) (pr_o4 (z := z25) (by omega)) hP rfl 1 (by decide) (hts _ (wg_t kw_749)) (fun _ h9 => h9) (cd := (3, (379 + 36 * z25 + 13))) rfl dK_told_54 (fun v38 hv43 => ?_)
      obtain ⟨r34, rfl, kr38⟩ := (show ∃ r : Nat, v38 = .ref r ∧ T r = some (379 + 36 * z25 + 13) from hv43)
      refine nw_alen1 hx hb hK hO kr38 (k := (379 + 36 * z25 + 13)) (pr_p4 (z := z25) (by omega)) hP dK_told_57 ?_
      refine et_ret ?_
      exact mp_iret hx hb hr hlk hP hD hS ((nI 0, nI 1952, q21.2), pl) ⟨⟨hR.symm, rfl, rfl, hF, ⟨tl, hf21, by omega⟩, ⟨al, hf22, by omega⟩, ⟨pn, hf23, by omega⟩, trivial⟩, hO⟩ [] rfl rfl rfl (by omega) (by omega) dK_told_58
    replace hR := hR.trans (if_neg hs47)
    by_cases hs48 : v2 = nI 2
    · replace hR := hR.trans (if_pos hs48)
      refine mi_as hs48 ?_
      refine lv_tableIn (off := 38) (tgt := 59) hx hb dK_told_21 (by decide) (by decide) (by decide) (by decide) ?_
      refine lv_aload_n hx hb dK_told_59 rfl (lv_at hl 0 rfl) ?_
      refine nw_get (C := "LatticeKeys$KeyPair") (TT := T_KP) (N := 3) hx hb hts (wg_ft i_KP) hown hK hO kr37 (kn := (379 + 36 * z25 + 12)) (ci := 13) (fl := [(1, 4), (3, (379 + 36 * z25 + 13)), (3, (379 + 36 * z25 + 14))]) (pr_o4 (z := z25) (by omega)) hP rfl 2 (by decide) (hts _ (wg_t kw_752)) (fun _ h9 => h9) (cd := (3, (379 + 36 * z25 + 14))) rfl dK_told_60 (fun v39 hv44 => ?_)
      obtain ⟨r35, rfl, kr39⟩ := (show ∃ r : Nat, v39 = .ref r ∧ T r = some (379 + 36 * z25 + 14) from hv44)
      refine lv_ifnonnull (tgt := 70) hx hb dK_told_63 (by decide) ?_
      refine lv_aload_n hx hb dK_told_70 rfl (lv_at hl 0 rfl) ?_
      refine nw_get (C := "LatticeKeys$KeyPair") (TT := T_KP) (N := 3) hx hb hts (wg_ft i_KP) hown hK hO kr37 (kn := (379 + 36 * z25 + 12)) (ci := 13) (fl := [(1, 4), (3, (379 + 36 * z25 + 13)), (3, (379 + 36 * z25 + 14))]) (pr_o4 (z := z25) (by omega)) hP rfl 2 (by decide) (hts _ (wg_t kw_752)) (fun _ h9 => h9) (cd := (3, (379 + 36 * z25 + 14))) rfl dK_told_71 (fun v40 hv45 => ?_)
      obtain ⟨r36, rfl, kr40⟩ := (show ∃ r : Nat, v40 = .ref r ∧ T r = some (379 + 36 * z25 + 14) from hv45)
      refine nw_alen1 hx hb hK hO kr40 (k := (379 + 36 * z25 + 14)) (pr_s4 (z := z25) (by omega)) hP dK_told_74 ?_
      refine et_ret ?_
      exact mp_iret hx hb hr hlk hP hD hS ((nI 0, nI 4032, q21.2), pl) ⟨⟨hR.symm, rfl, rfl, hF, ⟨tl, hf21, by omega⟩, ⟨al, hf22, by omega⟩, ⟨pn, hf23, by omega⟩, trivial⟩, hO⟩ [] rfl rfl rfl (by omega) (by omega) dK_told_75
    replace hR := hR.trans (if_neg hs48)
    have hb9 := (rng (v := v2) 2 (by decide)).resolve_left (fun ⟨j9, hj9, e9⟩ => by
      have h9 : j9 = 0 ∨ j9 = 1 ∨ j9 = 2 := by omega
      rcases h9 with rfl | rfl | rfl
      · exact hs46 e9
      · exact hs47 e9
      · exact hs48 e9)
    refine lv_tableOut (tgt := 76) hx hb dK_told_21 (tout (by decide) hb9) (by decide) ?_
    exact et_throw (own := "LatticeKeys") (cls := "java/lang/IllegalArgumentException") (text := "nothing of that number is told") (names := ["java/lang/RuntimeException", "java/lang/Exception"]) (ik := 79) (is := 177) (ic := 83) hx hb htr ctr_IAE_0 ctr_IAE_1 ctr_IAE_2 ctr_IAE_5 hown (by decide) (by decide) (hts _ (wg_t kw_501)) (hts _ (wg_t kw_18)) (hX.2.2.2.2.2.1 10 ("LatticeKeys", 177, "nothing of that number is told") rfl) (hat_IAE hts hX.2) hS.1 (hl.1.trans hml.symm) dK_told_76 dK_told_79 dK_told_80 dK_told_82 dK_told_85 htab (Nat.le_of_ble_eq_true rfl) (Nat.le_of_ble_eq_true rfl) (Nat.le_of_ble_eq_true rfl) (Nat.le_of_ble_eq_true rfl) hlk (Nat.le_of_ble_eq_true rfl) (Nat.le_of_ble_eq_true rfl) (xls_at 1 (congrArg Prod.fst hR) (by decide) rfl) hS.2.2 (thr_st hX.2) (fun t hz9 hk9 => ⟨⟨((nI 2, nI 0, q21.2), pl), ⟨⟨hR.symm, hF, ⟨tl, hf21, by omega⟩, ⟨al, hf22, by omega⟩, ⟨pn, hf23, by omega⟩, trivial⟩, hO⟩, lc_P hP hk9, hD⟩, (lc_S hS hz9 hk9).F rfl⟩)
  replace hR := hR.trans (if_neg hs26)
  by_cases hs27 : q21.1 = nI 6
  · replace hR := hR.trans (if_pos hs27)
    obtain ⟨z26, q27, hz26, hv46, rfl, kr41⟩ := pfd_at (c := 5) hq21 (by decide) hs27
    have kr41 : T q27 = some (379 + 36 * z26 + 15) := kr41
    have ez26 : z26 = v.toNatClampNeg := by rw [hv46]; exact (nI_clamp (by omega)).symm
    replace hR := bnd_step hR ez26
    refine lv_astore_n (lv' := [(3, .ref q27), (0, .ref h0), (1, .int v), (2, .int v2)]) hx hb dK_told_5 rfl hl (by decide) rfl (fun ls hl => ?_)
    refine lv_aload_n hx hb dK_told_6 rfl (lv_at hl 0 rfl) ?_
    refine lv_ifnonnull (tgt := 20) hx hb dK_told_7 (by decide) ?_
    refine lv_iload_n hx hb dK_told_20 rfl (lv_at hl 3 rfl) ?_
    by_cases hs49 : v2 = nI 0
    · replace hR := hR.trans (if_pos hs49)
      refine mi_as hs49 ?_
      refine lv_tableIn (off := 27) (tgt := 48) hx hb dK_told_21 (by decide) (by decide) (by decide) (by decide) ?_
      refine lv_aload_n hx hb dK_told_48 rfl (lv_at hl 0 rfl) ?_
      refine nw_get (C := "LatticeKeys$KeyPair") (TT := T_KP) (N := 3) hx hb hts (wg_ft i_KP) hown hK hO kr41 (kn := (379 + 36 * z26 + 15)) (ci := 13) (fl := [(1, 5), (3, (379 + 36 * z26 + 16)), (3, (379 + 36 * z26 + 17))]) (pr_o5 (z := z26) (by omega)) hP rfl 0 (by decide) (hts _ (wg_t kw_746)) (fun _ h9 => h9) (cd := (1, 5)) rfl dK_told_49 (fun v41 hv47 => ?_)
      obtain rfl := (show v41 = .int (nI 5) from hv47)
      refine et_ret ?_
      exact mp_iret hx hb hr hlk hP hD hS ((nI 0, nI 5, q21.2), pl) ⟨⟨hR.symm, rfl, rfl, hF, ⟨tl, hf21, by omega⟩, ⟨al, hf22, by omega⟩, ⟨pn, hf23, by omega⟩, trivial⟩, hO⟩ [] rfl rfl rfl (by omega) (by omega) dK_told_52
    replace hR := hR.trans (if_neg hs49)
    by_cases hs50 : v2 = nI 1
    · replace hR := hR.trans (if_pos hs50)
      refine mi_as hs50 ?_
      refine lv_tableIn (off := 32) (tgt := 53) hx hb dK_told_21 (by decide) (by decide) (by decide) (by decide) ?_
      refine lv_aload_n hx hb dK_told_53 rfl (lv_at hl 0 rfl) ?_
      refine nw_get (C := "LatticeKeys$KeyPair") (TT := T_KP) (N := 3) hx hb hts (wg_ft i_KP) hown hK hO kr41 (kn := (379 + 36 * z26 + 15)) (ci := 13) (fl := [(1, 5), (3, (379 + 36 * z26 + 16)), (3, (379 + 36 * z26 + 17))]) (pr_o5 (z := z26) (by omega)) hP rfl 1 (by decide) (hts _ (wg_t kw_749)) (fun _ h9 => h9) (cd := (3, (379 + 36 * z26 + 16))) rfl dK_told_54 (fun v42 hv48 => ?_)
      obtain ⟨r37, rfl, kr42⟩ := (show ∃ r : Nat, v42 = .ref r ∧ T r = some (379 + 36 * z26 + 16) from hv48)
      refine nw_alen1 hx hb hK hO kr42 (k := (379 + 36 * z26 + 16)) (pr_p5 (z := z26) (by omega)) hP dK_told_57 ?_
      refine et_ret ?_
      exact mp_iret hx hb hr hlk hP hD hS ((nI 0, nI 2592, q21.2), pl) ⟨⟨hR.symm, rfl, rfl, hF, ⟨tl, hf21, by omega⟩, ⟨al, hf22, by omega⟩, ⟨pn, hf23, by omega⟩, trivial⟩, hO⟩ [] rfl rfl rfl (by omega) (by omega) dK_told_58
    replace hR := hR.trans (if_neg hs50)
    by_cases hs51 : v2 = nI 2
    · replace hR := hR.trans (if_pos hs51)
      refine mi_as hs51 ?_
      refine lv_tableIn (off := 38) (tgt := 59) hx hb dK_told_21 (by decide) (by decide) (by decide) (by decide) ?_
      refine lv_aload_n hx hb dK_told_59 rfl (lv_at hl 0 rfl) ?_
      refine nw_get (C := "LatticeKeys$KeyPair") (TT := T_KP) (N := 3) hx hb hts (wg_ft i_KP) hown hK hO kr41 (kn := (379 + 36 * z26 + 15)) (ci := 13) (fl := [(1, 5), (3, (379 + 36 * z26 + 16)), (3, (379 + 36 * z26 + 17))]) (pr_o5 (z := z26) (by omega)) hP rfl 2 (by decide) (hts _ (wg_t kw_752)) (fun _ h9 => h9) (cd := (3, (379 + 36 * z26 + 17))) rfl dK_told_60 (fun v43 hv49 => ?_)
      obtain ⟨r38, rfl, kr43⟩ := (show ∃ r : Nat, v43 = .ref r ∧ T r = some (379 + 36 * z26 + 17) from hv49)
      refine lv_ifnonnull (tgt := 70) hx hb dK_told_63 (by decide) ?_
      refine lv_aload_n hx hb dK_told_70 rfl (lv_at hl 0 rfl) ?_
      refine nw_get (C := "LatticeKeys$KeyPair") (TT := T_KP) (N := 3) hx hb hts (wg_ft i_KP) hown hK hO kr41 (kn := (379 + 36 * z26 + 15)) (ci := 13) (fl := [(1, 5), (3, (379 + 36 * z26 + 16)), (3, (379 + 36 * z26 + 17))]) (pr_o5 (z := z26) (by omega)) hP rfl 2 (by decide) (hts _ (wg_t kw_752)) (fun _ h9 => h9) (cd := (3, (379 + 36 * z26 + 17))) rfl dK_told_71 (fun v44 hv50 => ?_)
      obtain ⟨r39, rfl, kr44⟩ := (show ∃ r : Nat, v44 = .ref r ∧ T r = some (379 + 36 * z26 + 17) from hv50)
      refine nw_alen1 hx hb hK hO kr44 (k := (379 + 36 * z26 + 17)) (pr_s5 (z := z26) (by omega)) hP dK_told_74 ?_
      refine et_ret ?_
      exact mp_iret hx hb hr hlk hP hD hS ((nI 0, nI 4896, q21.2), pl) ⟨⟨hR.symm, rfl, rfl, hF, ⟨tl, hf21, by omega⟩, ⟨al, hf22, by omega⟩, ⟨pn, hf23, by omega⟩, trivial⟩, hO⟩ [] rfl rfl rfl (by omega) (by omega) dK_told_75
    replace hR := hR.trans (if_neg hs51)
    have hb9 := (rng (v := v2) 2 (by decide)).resolve_left (fun ⟨j9, hj9, e9⟩ => by
      have h9 : j9 = 0 ∨ j9 = 1 ∨ j9 = 2 := by omega
      rcases h9 with rfl | rfl | rfl
      · exact hs49 e9
      · exact hs50 e9
      · exact hs51 e9)
    refine lv_tableOut (tgt := 76) hx hb dK_told_21 (tout (by decide) hb9) (by decide) ?_
    exact et_throw (own := "LatticeKeys") (cls := "java/lang/IllegalArgumentException") (text := "nothing of that number is told") (names := ["java/lang/RuntimeException", "java/lang/Exception"]) (ik := 79) (is := 177) (ic := 83) hx hb htr ctr_IAE_0 ctr_IAE_1 ctr_IAE_2 ctr_IAE_5 hown (by decide) (by decide) (hts _ (wg_t kw_501)) (hts _ (wg_t kw_18)) (hX.2.2.2.2.2.1 10 ("LatticeKeys", 177, "nothing of that number is told") rfl) (hat_IAE hts hX.2) hS.1 (hl.1.trans hml.symm) dK_told_76 dK_told_79 dK_told_80 dK_told_82 dK_told_85 htab (Nat.le_of_ble_eq_true rfl) (Nat.le_of_ble_eq_true rfl) (Nat.le_of_ble_eq_true rfl) (Nat.le_of_ble_eq_true rfl) hlk (Nat.le_of_ble_eq_true rfl) (Nat.le_of_ble_eq_true rfl) (xls_at 1 (congrArg Prod.fst hR) (by decide) rfl) hS.2.2 (thr_st hX.2) (fun t hz9 hk9 => ⟨⟨((nI 2, nI 0, q21.2), pl), ⟨⟨hR.symm, hF, ⟨tl, hf21, by omega⟩, ⟨al, hf22, by omega⟩, ⟨pn, hf23, by omega⟩, trivial⟩, hO⟩, lc_P hP hk9, hD⟩, (lc_S hS hz9 hk9).F rfl⟩)
  replace hR := hR.trans (if_neg hs27)
  by_cases hs28 : q21.1 = nI 7
  · replace hR := hR.trans (if_pos hs28)
    obtain ⟨z27, q28, hz27, hv51, rfl, kr45⟩ := pfd_at (c := 6) hq21 (by decide) hs28
    have kr45 : T q28 = some (379 + 36 * z27 + 18) := kr45
    have ez27 : z27 = v.toNatClampNeg := by rw [hv51]; exact (nI_clamp (by omega)).symm
    replace hR := bnd_step hR ez27
    refine lv_astore_n (lv' := [(3, .ref q28), (0, .ref h0), (1, .int v), (2, .int v2)]) hx hb dK_told_5 rfl hl (by decide) rfl (fun ls hl => ?_)
    refine lv_aload_n hx hb dK_told_6 rfl (lv_at hl 0 rfl) ?_
    refine lv_ifnonnull (tgt := 20) hx hb dK_told_7 (by decide) ?_
    refine lv_iload_n hx hb dK_told_20 rfl (lv_at hl 3 rfl) ?_
    by_cases hs52 : v2 = nI 0
    · replace hR := hR.trans (if_pos hs52)
      refine mi_as hs52 ?_
      refine lv_tableIn (off := 27) (tgt := 48) hx hb dK_told_21 (by decide) (by decide) (by decide) (by decide) ?_
      refine lv_aload_n hx hb dK_told_48 rfl (lv_at hl 0 rfl) ?_
      refine nw_get (C := "LatticeKeys$KeyPair") (TT := T_KP) (N := 3) hx hb hts (wg_ft i_KP) hown hK hO kr45 (kn := (379 + 36 * z27 + 18)) (ci := 13) (fl := [(1, 0), (3, (379 + 36 * z27 + 19)), (5, 0)]) (pr_o6 (z := z27) (by omega)) hP rfl 0 (by decide) (hts _ (wg_t kw_746)) (fun _ h9 => h9) (cd := (1, 0)) rfl dK_told_49 (fun v45 hv52 => ?_)
      obtain rfl := (show v45 = .int (nI 0) from hv52)
      refine et_ret ?_
      exact mp_iret hx hb hr hlk hP hD hS ((nI 0, nI 0, q21.2), pl) ⟨⟨hR.symm, rfl, rfl, hF, ⟨tl, hf21, by omega⟩, ⟨al, hf22, by omega⟩, ⟨pn, hf23, by omega⟩, trivial⟩, hO⟩ [] rfl rfl rfl (by omega) (by omega) dK_told_52
    replace hR := hR.trans (if_neg hs52)
    by_cases hs53 : v2 = nI 1
    · replace hR := hR.trans (if_pos hs53)
      refine mi_as hs53 ?_
      refine lv_tableIn (off := 32) (tgt := 53) hx hb dK_told_21 (by decide) (by decide) (by decide) (by decide) ?_
      refine lv_aload_n hx hb dK_told_53 rfl (lv_at hl 0 rfl) ?_
      refine nw_get (C := "LatticeKeys$KeyPair") (TT := T_KP) (N := 3) hx hb hts (wg_ft i_KP) hown hK hO kr45 (kn := (379 + 36 * z27 + 18)) (ci := 13) (fl := [(1, 0), (3, (379 + 36 * z27 + 19)), (5, 0)]) (pr_o6 (z := z27) (by omega)) hP rfl 1 (by decide) (hts _ (wg_t kw_749)) (fun _ h9 => h9) (cd := (3, (379 + 36 * z27 + 19))) rfl dK_told_54 (fun v46 hv53 => ?_)
      obtain ⟨r40, rfl, kr46⟩ := (show ∃ r : Nat, v46 = .ref r ∧ T r = some (379 + 36 * z27 + 19) from hv53)
      refine nw_alen1 hx hb hK hO kr46 (k := (379 + 36 * z27 + 19)) (pr_p6 (z := z27) (by omega)) hP dK_told_57 ?_
      refine et_ret ?_
      exact mp_iret hx hb hr hlk hP hD hS ((nI 0, nI 800, q21.2), pl) ⟨⟨hR.symm, rfl, rfl, hF, ⟨tl, hf21, by omega⟩, ⟨al, hf22, by omega⟩, ⟨pn, hf23, by omega⟩, trivial⟩, hO⟩ [] rfl rfl rfl (by omega) (by omega) dK_told_58
    replace hR := hR.trans (if_neg hs53)
    by_cases hs54 : v2 = nI 2
    · replace hR := hR.trans (if_pos hs54)
      refine mi_as hs54 ?_
      refine lv_tableIn (off := 38) (tgt := 59) hx hb dK_told_21 (by decide) (by decide) (by decide) (by decide) ?_
      refine lv_aload_n hx hb dK_told_59 rfl (lv_at hl 0 rfl) ?_
      refine nw_get (C := "LatticeKeys$KeyPair") (TT := T_KP) (N := 3) hx hb hts (wg_ft i_KP) hown hK hO kr45 (kn := (379 + 36 * z27 + 18)) (ci := 13) (fl := [(1, 0), (3, (379 + 36 * z27 + 19)), (5, 0)]) (pr_o6 (z := z27) (by omega)) hP rfl 2 (by decide) (hts _ (wg_t kw_752)) (fun _ h9 => h9) (cd := (5, 0)) rfl dK_told_60 (fun v47 hv54 => ?_)
      obtain rfl := (show v47 = .null from hv54)
      refine lv_ifnonnullN hx hb dK_told_63 ?_
      refine lv_iconst (v := nI 0) hx hb dK_told_66 (by decide) ?_
      refine lv_goto (tgt := 75) hx hb dK_told_67 (by decide) ?_
      refine et_ret ?_
      exact mp_iret hx hb hr hlk hP hD hS ((nI 0, nI 0, q21.2), pl) ⟨⟨hR.symm, rfl, rfl, hF, ⟨tl, hf21, by omega⟩, ⟨al, hf22, by omega⟩, ⟨pn, hf23, by omega⟩, trivial⟩, hO⟩ [] rfl rfl rfl (by omega) (by omega) dK_told_75
    replace hR := hR.trans (if_neg hs54)
    have hb9 := (rng (v := v2) 2 (by decide)).resolve_left (fun ⟨j9, hj9, e9⟩ => by
      have h9 : j9 = 0 ∨ j9 = 1 ∨ j9 = 2 := by omega
      rcases h9 with rfl | rfl | rfl
      · exact hs52 e9
      · exact hs53 e9
      · exact hs54 e9)
    refine lv_tableOut (tgt := 76) hx hb dK_told_21 (tout (by decide) hb9) (by decide) ?_
    exact et_throw (own := "LatticeKeys") (cls := "java/lang/IllegalArgumentException") (text := "nothing of that number is told") (names := ["java/lang/RuntimeException", "java/lang/Exception"]) (ik := 79) (is := 177) (ic := 83) hx hb htr ctr_IAE_0 ctr_IAE_1 ctr_IAE_2 ctr_IAE_5 hown (by decide) (by decide) (hts _ (wg_t kw_501)) (hts _ (wg_t kw_18)) (hX.2.2.2.2.2.1 10 ("LatticeKeys", 177, "nothing of that number is told") rfl) (hat_IAE hts hX.2) hS.1 (hl.1.trans hml.symm) dK_told_76 dK_told_79 dK_told_80 dK_told_82 dK_told_85 htab (Nat.le_of_ble_eq_true rfl) (Nat.le_of_ble_eq_true rfl) (Nat.le_of_ble_eq_true rfl) (Nat.le_of_ble_eq_true rfl) hlk (Nat.le_of_ble_eq_true rfl) (Nat.le_of_ble_eq_true rfl) (xls_at 1 (congrArg Prod.fst hR) (by decide) rfl) hS.2.2 (thr_st hX.2) (fun t hz9 hk9 => ⟨⟨((nI 2, nI 0, q21.2), pl), ⟨⟨hR.symm, hF, ⟨tl, hf21, by omega⟩, ⟨al, hf22, by omega⟩, ⟨pn, hf23, by omega⟩, trivial⟩, hO⟩, lc_P hP hk9, hD⟩, (lc_S hS hz9 hk9).F rfl⟩)
  replace hR := hR.trans (if_neg hs28)
  by_cases hs29 : q21.1 = nI 8
  · replace hR := hR.trans (if_pos hs29)
    obtain ⟨z28, q29, hz28, hv55, rfl, kr47⟩ := pfd_at (c := 7) hq21 (by decide) hs29
    have kr47 : T q29 = some (379 + 36 * z28 + 21) := kr47
    have ez28 : z28 = v.toNatClampNeg := by rw [hv55]; exact (nI_clamp (by omega)).symm
    replace hR := bnd_step hR ez28
    refine lv_astore_n (lv' := [(3, .ref q29), (0, .ref h0), (1, .int v), (2, .int v2)]) hx hb dK_told_5 rfl hl (by decide) rfl (fun ls hl => ?_)
    refine lv_aload_n hx hb dK_told_6 rfl (lv_at hl 0 rfl) ?_
    refine lv_ifnonnull (tgt := 20) hx hb dK_told_7 (by decide) ?_
    refine lv_iload_n hx hb dK_told_20 rfl (lv_at hl 3 rfl) ?_
    by_cases hs55 : v2 = nI 0
    · replace hR := hR.trans (if_pos hs55)
      refine mi_as hs55 ?_
      refine lv_tableIn (off := 27) (tgt := 48) hx hb dK_told_21 (by decide) (by decide) (by decide) (by decide) ?_
      refine lv_aload_n hx hb dK_told_48 rfl (lv_at hl 0 rfl) ?_
      refine nw_get (C := "LatticeKeys$KeyPair") (TT := T_KP) (N := 3) hx hb hts (wg_ft i_KP) hown hK hO kr47 (kn := (379 + 36 * z28 + 21)) (ci := 13) (fl := [(1, 1), (3, (379 + 36 * z28 + 22)), (5, 0)]) (pr_o7 (z := z28) (by omega)) hP rfl 0 (by decide) (hts _ (wg_t kw_746)) (fun _ h9 => h9) (cd := (1, 1)) rfl dK_told_49 (fun v48 hv56 => ?_)
      obtain rfl := (show v48 = .int (nI 1) from hv56)
      refine et_ret ?_
      exact mp_iret hx hb hr hlk hP hD hS ((nI 0, nI 1, q21.2), pl) ⟨⟨hR.symm, rfl, rfl, hF, ⟨tl, hf21, by omega⟩, ⟨al, hf22, by omega⟩, ⟨pn, hf23, by omega⟩, trivial⟩, hO⟩ [] rfl rfl rfl (by omega) (by omega) dK_told_52
    replace hR := hR.trans (if_neg hs55)
    by_cases hs56 : v2 = nI 1
    · replace hR := hR.trans (if_pos hs56)
      refine mi_as hs56 ?_
      refine lv_tableIn (off := 32) (tgt := 53) hx hb dK_told_21 (by decide) (by decide) (by decide) (by decide) ?_
      refine lv_aload_n hx hb dK_told_53 rfl (lv_at hl 0 rfl) ?_
      refine nw_get (C := "LatticeKeys$KeyPair") (TT := T_KP) (N := 3) hx hb hts (wg_ft i_KP) hown hK hO kr47 (kn := (379 + 36 * z28 + 21)) (ci := 13) (fl := [(1, 1), (3, (379 + 36 * z28 + 22)), (5, 0)]) (pr_o7 (z := z28) (by omega)) hP rfl 1 (by decide) (hts _ (wg_t kw_749)) (fun _ h9 => h9) (cd := (3, (379 + 36 * z28 + 22))) rfl dK_told_54 (fun v49 hv57 => ?_)
      obtain ⟨r41, rfl, kr48⟩ := (show ∃ r : Nat, v49 = .ref r ∧ T r = some (379 + 36 * z28 + 22) from hv57)
      refine nw_alen1 hx hb hK hO kr48 (k := (379 + 36 * z28 + 22)) (pr_p7 (z := z28) (by omega)) hP dK_told_57 ?_
      refine et_ret ?_
      exact mp_iret hx hb hr hlk hP hD hS ((nI 0, nI 1184, q21.2), pl) ⟨⟨hR.symm, rfl, rfl, hF, ⟨tl, hf21, by omega⟩, ⟨al, hf22, by omega⟩, ⟨pn, hf23, by omega⟩, trivial⟩, hO⟩ [] rfl rfl rfl (by omega) (by omega) dK_told_58
    replace hR := hR.trans (if_neg hs56)
    by_cases hs57 : v2 = nI 2
    · replace hR := hR.trans (if_pos hs57)
      refine mi_as hs57 ?_
      refine lv_tableIn (off := 38) (tgt := 59) hx hb dK_told_21 (by decide) (by decide) (by decide) (by decide) ?_
      refine lv_aload_n hx hb dK_told_59 rfl (lv_at hl 0 rfl) ?_
      refine nw_get (C := "LatticeKeys$KeyPair") (TT := T_KP) (N := 3) hx hb hts (wg_ft i_KP) hown hK hO kr47 (kn := (379 + 36 * z28 + 21)) (ci := 13) (fl := [(1, 1), (3, (379 + 36 * z28 + 22)), (5, 0)]) (pr_o7 (z := z28) (by omega)) hP rfl 2 (by decide) (hts _ (wg_t kw_752)) (fun _ h9 => h9) (cd := (5, 0)) rfl dK_told_60 (fun v50 hv58 => ?_)
      obtain rfl := (show v50 = .null from hv58)
      refine lv_ifnonnullN hx hb dK_told_63 ?_
      refine lv_iconst (v := nI 0) hx hb dK_told_66 (by decide) ?_
      refine lv_goto (tgt := 75) hx hb dK_told_67 (by decide) ?_
      refine et_ret ?_
      exact mp_iret hx hb hr hlk hP hD hS ((nI 0, nI 0, q21.2), pl) ⟨⟨hR.symm, rfl, rfl, hF, ⟨tl, hf21, by omega⟩, ⟨al, hf22, by omega⟩, ⟨pn, hf23, by omega⟩, trivial⟩, hO⟩ [] rfl rfl rfl (by omega) (by omega) dK_told_75
    replace hR := hR.trans (if_neg hs57)
    have hb9 := (rng (v := v2) 2 (by decide)).resolve_left (fun ⟨j9, hj9, e9⟩ => by
      have h9 : j9 = 0 ∨ j9 = 1 ∨ j9 = 2 := by omega
      rcases h9 with rfl | rfl | rfl
      · exact hs55 e9
      · exact hs56 e9
      · exact hs57 e9)
    refine lv_tableOut (tgt := 76) hx hb dK_told_21 (tout (by decide) hb9) (by decide) ?_
    exact et_throw (own := "LatticeKeys") (cls := "java/lang/IllegalArgumentException") (text := "nothing of that number is told") (names := ["java/lang/RuntimeException", "java/lang/Exception"]) (ik := 79) (is := 177) (ic := 83) hx hb htr ctr_IAE_0 ctr_IAE_1 ctr_IAE_2 ctr_IAE_5 hown (by decide) (by decide) (hts _ (wg_t kw_501)) (hts _ (wg_t kw_18)) (hX.2.2.2.2.2.1 10 ("LatticeKeys", 177, "nothing of that number is told") rfl) (hat_IAE hts hX.2) hS.1 (hl.1.trans hml.symm) dK_told_76 dK_told_79 dK_told_80 dK_told_82 dK_told_85 htab (Nat.le_of_ble_eq_true rfl) (Nat.le_of_ble_eq_true rfl) (Nat.le_of_ble_eq_true rfl) (Nat.le_of_ble_eq_true rfl) hlk (Nat.le_of_ble_eq_true rfl) (Nat.le_of_ble_eq_true rfl) (xls_at 1 (congrArg Prod.fst hR) (by decide) rfl) hS.2.2 (thr_st hX.2) (fun t hz9 hk9 => ⟨⟨((nI 2, nI 0, q21.2), pl), ⟨⟨hR.symm, hF, ⟨tl, hf21, by omega⟩, ⟨al, hf22, by omega⟩, ⟨pn, hf23, by omega⟩, trivial⟩, hO⟩, lc_P hP hk9, hD⟩, (lc_S hS hz9 hk9).F rfl⟩)
  replace hR := hR.trans (if_neg hs29)
  by_cases hs30 : q21.1 = nI 9
  · replace hR := hR.trans (if_pos hs30)
    obtain ⟨z29, q30, hz29, hv59, rfl, kr49⟩ := pfd_at (c := 8) hq21 (by decide) hs30
    have kr49 : T q30 = some (379 + 36 * z29 + 24) := kr49
    have ez29 : z29 = v.toNatClampNeg := by rw [hv59]; exact (nI_clamp (by omega)).symm
    replace hR := bnd_step hR ez29
    refine lv_astore_n (lv' := [(3, .ref q30), (0, .ref h0), (1, .int v), (2, .int v2)]) hx hb dK_told_5 rfl hl (by decide) rfl (fun ls hl => ?_)
    refine lv_aload_n hx hb dK_told_6 rfl (lv_at hl 0 rfl) ?_
    refine lv_ifnonnull (tgt := 20) hx hb dK_told_7 (by decide) ?_
    refine lv_iload_n hx hb dK_told_20 rfl (lv_at hl 3 rfl) ?_
    by_cases hs58 : v2 = nI 0
    · replace hR := hR.trans (if_pos hs58)
      refine mi_as hs58 ?_
      refine lv_tableIn (off := 27) (tgt := 48) hx hb dK_told_21 (by decide) (by decide) (by decide) (by decide) ?_
      refine lv_aload_n hx hb dK_told_48 rfl (lv_at hl 0 rfl) ?_
      refine nw_get (C := "LatticeKeys$KeyPair") (TT := T_KP) (N := 3) hx hb hts (wg_ft i_KP) hown hK hO kr49 (kn := (379 + 36 * z29 + 24)) (ci := 13) (fl := [(1, 2), (3, (379 + 36 * z29 + 25)), (5, 0)]) (pr_o8 (z := z29) (by omega)) hP rfl 0 (by decide) (hts _ (wg_t kw_746)) (fun _ h9 => h9) (cd := (1, 2)) rfl dK_told_49 (fun v51 hv60 => ?_)
      obtain rfl := (show v51 = .int (nI 2) from hv60)
      refine et_ret ?_
      exact mp_iret hx hb hr hlk hP hD hS ((nI 0, nI 2, q21.2), pl) ⟨⟨hR.symm, rfl, rfl, hF, ⟨tl, hf21, by omega⟩, ⟨al, hf22, by omega⟩, ⟨pn, hf23, by omega⟩, trivial⟩, hO⟩ [] rfl rfl rfl (by omega) (by omega) dK_told_52
    replace hR := hR.trans (if_neg hs58)
    by_cases hs59 : v2 = nI 1
    · replace hR := hR.trans (if_pos hs59)
      refine mi_as hs59 ?_
      refine lv_tableIn (off := 32) (tgt := 53) hx hb dK_told_21 (by decide) (by decide) (by decide) (by decide) ?_
      refine lv_aload_n hx hb dK_told_53 rfl (lv_at hl 0 rfl) ?_
      refine nw_get (C := "LatticeKeys$KeyPair") (TT := T_KP) (N := 3) hx hb hts (wg_ft i_KP) hown hK hO kr49 (kn := (379 + 36 * z29 + 24)) (ci := 13) (fl := [(1, 2), (3, (379 + 36 * z29 + 25)), (5, 0)]) (pr_o8 (z := z29) (by omega)) hP rfl 1 (by decide) (hts _ (wg_t kw_749)) (fun _ h9 => h9) (cd := (3, (379 + 36 * z29 + 25))) rfl dK_told_54 (fun v52 hv61 => ?_)
      obtain ⟨r42, rfl, kr50⟩ := (show ∃ r : Nat, v52 = .ref r ∧ T r = some (379 + 36 * z29 + 25) from hv61)
      refine nw_alen1 hx hb hK hO kr50 (k := (379 + 36 * z29 + 25)) (pr_p8 (z := z29) (by omega)) hP dK_told_57 ?_
      refine et_ret ?_
      exact mp_iret hx hb hr hlk hP hD hS ((nI 0, nI 1568, q21.2), pl) ⟨⟨hR.symm, rfl, rfl, hF, ⟨tl, hf21, by omega⟩, ⟨al, hf22, by omega⟩, ⟨pn, hf23, by omega⟩, trivial⟩, hO⟩ [] rfl rfl rfl (by omega) (by omega) dK_told_58
    replace hR := hR.trans (if_neg hs59)
    by_cases hs60 : v2 = nI 2
    · replace hR := hR.trans (if_pos hs60)
      refine mi_as hs60 ?_
      refine lv_tableIn (off := 38) (tgt := 59) hx hb dK_told_21 (by decide) (by decide) (by decide) (by decide) ?_
      refine lv_aload_n hx hb dK_told_59 rfl (lv_at hl 0 rfl) ?_
      refine nw_get (C := "LatticeKeys$KeyPair") (TT := T_KP) (N := 3) hx hb hts (wg_ft i_KP) hown hK hO kr49 (kn := (379 + 36 * z29 + 24)) (ci := 13) (fl := [(1, 2), (3, (379 + 36 * z29 + 25)), (5, 0)]) (pr_o8 (z := z29) (by omega)) hP rfl 2 (by decide) (hts _ (wg_t kw_752)) (fun _ h9 => h9) (cd := (5, 0)) rfl dK_told_60 (fun v53 hv62 => ?_)
      obtain rfl := (show v53 = .null from hv62)
      refine lv_ifnonnullN hx hb dK_told_63 ?_
      refine lv_iconst (v := nI 0) hx hb dK_told_66 (by decide) ?_
      refine lv_goto (tgt := 75) hx hb dK_told_67 (by decide) ?_
      refine et_ret ?_
      exact mp_iret hx hb hr hlk hP hD hS ((nI 0, nI 0, q21.2), pl) ⟨⟨hR.symm, rfl, rfl, hF, ⟨tl, hf21, by omega⟩, ⟨al, hf22, by omega⟩, ⟨pn, hf23, by omega⟩, trivial⟩, hO⟩ [] rfl rfl rfl (by omega) (by omega) dK_told_75
    replace hR := hR.trans (if_neg hs60)
    have hb9 := (rng (v := v2) 2 (by decide)).resolve_left (fun ⟨j9, hj9, e9⟩ => by
      have h9 : j9 = 0 ∨ j9 = 1 ∨ j9 = 2 := by omega
      rcases h9 with rfl | rfl | rfl
      · exact hs58 e9
      · exact hs59 e9
      · exact hs60 e9)
    refine lv_tableOut (tgt := 76) hx hb dK_told_21 (tout (by decide) hb9) (by decide) ?_
    exact et_throw (own := "LatticeKeys") (cls := "java/lang/IllegalArgumentException") (text := "nothing of that number is told") (names := ["java/lang/RuntimeException", "java/lang/Exception"]) (ik := 79) (is := 177) (ic := 83) hx hb htr ctr_IAE_0 ctr_IAE_1 ctr_IAE_2 ctr_IAE_5 hown (by decide) (by decide) (hts _ (wg_t kw_501)) (hts _ (wg_t kw_18)) (hX.2.2.2.2.2.1 10 ("LatticeKeys", 177, "nothing of that number is told") rfl) (hat_IAE hts hX.2) hS.1 (hl.1.trans hml.symm) dK_told_76 dK_told_79 dK_told_80 dK_told_82 dK_told_85 htab (Nat.le_of_ble_eq_true rfl) (Nat.le_of_ble_eq_true rfl) (Nat.le_of_ble_eq_true rfl) (Nat.le_of_ble_eq_true rfl) hlk (Nat.le_of_ble_eq_true rfl) (Nat.le_of_ble_eq_true rfl) (xls_at 1 (congrArg Prod.fst hR) (by decide) rfl) hS.2.2 (thr_st hX.2) (fun t hz9 hk9 => ⟨⟨((nI 2, nI 0, q21.2), pl), ⟨⟨hR.symm, hF, ⟨tl, hf21, by omega⟩, ⟨al, hf22, by omega⟩, ⟨pn, hf23, by omega⟩, trivial⟩, hO⟩, lc_P hP hk9, hD⟩, (lc_S hS hz9 hk9).F rfl⟩)
  replace hR := hR.trans (if_neg hs30)
  by_cases hs31 : q21.1 = nI 10
  · replace hR := hR.trans (if_pos hs31)
    obtain ⟨z30, q31, hz30, hv63, rfl, kr51⟩ := pfd_at (c := 9) hq21 (by decide) hs31
    have kr51 : T q31 = some (379 + 36 * z30 + 27) := kr51
    have ez30 : z30 = v.toNatClampNeg := by rw [hv63]; exact (nI_clamp (by omega)).symm
    replace hR := bnd_step hR ez30
    refine lv_astore_n (lv' := [(3, .ref q31), (0, .ref h0), (1, .int v), (2, .int v2)]) hx hb dK_told_5 rfl hl (by decide) rfl (fun ls hl => ?_)
    refine lv_aload_n hx hb dK_told_6 rfl (lv_at hl 0 rfl) ?_
    refine lv_ifnonnull (tgt := 20) hx hb dK_told_7 (by decide) ?_
    refine lv_iload_n hx hb dK_told_20 rfl (lv_at hl 3 rfl) ?_
    by_cases hs61 : v2 = nI 0
    · replace hR := hR.trans (if_pos hs61)
      refine mi_as hs61 ?_
      refine lv_tableIn (off := 27) (tgt := 48) hx hb dK_told_21 (by decide) (by decide) (by decide) (by decide) ?_
      refine lv_aload_n hx hb dK_told_48 rfl (lv_at hl 0 rfl) ?_
      refine nw_get (C := "LatticeKeys$KeyPair") (TT := T_KP) (N := 3) hx hb hts (wg_ft i_KP) hown hK hO kr51 (kn := (379 + 36 * z30 + 27)) (ci := 13) (fl := [(1, 3), (3, (379 + 36 * z30 + 28)), (5, 0)]) (pr_o9 (z := z30) (by omega)) hP rfl 0 (by decide) (hts _ (wg_t kw_746)) (fun _ h9 => h9) (cd := (1, 3)) rfl dK_told_49 (fun v54 hv64 => ?_)
      obtain rfl := (show v54 = .int (nI 3) from hv64)
      refine et_ret ?_
      exact mp_iret hx hb hr hlk hP hD hS ((nI 0, nI 3, q21.2), pl) ⟨⟨hR.symm, rfl, rfl, hF, ⟨tl, hf21, by omega⟩, ⟨al, hf22, by omega⟩, ⟨pn, hf23, by omega⟩, trivial⟩, hO⟩ [] rfl rfl rfl (by omega) (by omega) dK_told_52
    replace hR := hR.trans (if_neg hs61)
    by_cases hs62 : v2 = nI 1
    · replace hR := hR.trans (if_pos hs62)
      refine mi_as hs62 ?_
      refine lv_tableIn (off := 32) (tgt := 53) hx hb dK_told_21 (by decide) (by decide) (by decide) (by decide) ?_
      refine lv_aload_n hx hb dK_told_53 rfl (lv_at hl 0 rfl) ?_
      refine nw_get (C := "LatticeKeys$KeyPair") (TT := T_KP) (N := 3) hx hb hts (wg_ft i_KP) hown hK hO kr51 (kn := (379 + 36 * z30 + 27)) (ci := 13) (fl := [(1, 3), (3, (379 + 36 * z30 + 28)), (5, 0)]) (pr_o9 (z := z30) (by omega)) hP rfl 1 (by decide) (hts _ (wg_t kw_749)) (fun _ h9 => h9) (cd := (3, (379 + 36 * z30 + 28))) rfl dK_told_54 (fun v55 hv65 => ?_)
      obtain ⟨r43, rfl, kr52⟩ := (show ∃ r : Nat, v55 = .ref r ∧ T r = some (379 + 36 * z30 + 28) from hv65)
      refine nw_alen1 hx hb hK hO kr52 (k := (379 + 36 * z30 + 28)) (pr_p9 (z := z30) (by omega)) hP dK_told_57 ?_
      refine et_ret ?_
      exact mp_iret hx hb hr hlk hP hD hS ((nI 0, nI 1312, q21.2), pl) ⟨⟨hR.symm, rfl, rfl, hF, ⟨tl, hf21, by omega⟩, ⟨al, hf22, by omega⟩, ⟨pn, hf23, by omega⟩, trivial⟩, hO⟩ [] rfl rfl rfl (by omega) (by omega) dK_told_58
    replace hR := hR.trans (if_neg hs62)
    by_cases hs63 : v2 = nI 2
    · replace hR := hR.trans (if_pos hs63)
      refine mi_as hs63 ?_
      refine lv_tableIn (off := 38) (tgt := 59) hx hb dK_told_21 (by decide) (by decide) (by decide) (by decide) ?_
      refine lv_aload_n hx hb dK_told_59 rfl (lv_at hl 0 rfl) ?_
      refine nw_get (C := "LatticeKeys$KeyPair") (TT := T_KP) (N := 3) hx hb hts (wg_ft i_KP) hown hK hO kr51 (kn := (379 + 36 * z30 + 27)) (ci := 13) (fl := [(1, 3), (3, (379 + 36 * z30 + 28)), (5, 0)]) (pr_o9 (z := z30) (by omega)) hP rfl 2 (by decide) (hts _ (wg_t kw_752)) (fun _ h9 => h9) (cd := (5, 0)) rfl dK_told_60 (fun v56 hv66 => ?_)
      obtain rfl := (show v56 = .null from hv66)
      refine lv_ifnonnullN hx hb dK_told_63 ?_
      refine lv_iconst (v := nI 0) hx hb dK_told_66 (by decide) ?_
      refine lv_goto (tgt := 75) hx hb dK_told_67 (by decide) ?_
      refine et_ret ?_
      exact mp_iret hx hb hr hlk hP hD hS ((nI 0, nI 0, q21.2), pl) ⟨⟨hR.symm, rfl, rfl, hF, ⟨tl, hf21, by omega⟩, ⟨al, hf22, by omega⟩, ⟨pn, hf23, by omega⟩, trivial⟩, hO⟩ [] rfl rfl rfl (by omega) (by omega) dK_told_75
    replace hR := hR.trans (if_neg hs63)
    have hb9 := (rng (v := v2) 2 (by decide)).resolve_left (fun ⟨j9, hj9, e9⟩ => by
      have h9 : j9 = 0 ∨ j9 = 1 ∨ j9 = 2 := by omega
      rcases h9 with rfl | rfl | rfl
      · exact hs61 e9
      · exact hs62 e9
      · exact hs63 e9)
    refine lv_tableOut (tgt := 76) hx hb dK_told_21 (tout (by decide) hb9) (by decide) ?_
    exact et_throw (own := "LatticeKeys") (cls := "java/lang/IllegalArgumentException") (text := "nothing of that number is told") (names := ["java/lang/RuntimeException", "java/lang/Exception"]) (ik := 79) (is := 177) (ic := 83) hx hb htr ctr_IAE_0 ctr_IAE_1 ctr_IAE_2 ctr_IAE_5 hown (by decide) (by decide) (hts _ (wg_t kw_501)) (hts _ (wg_t kw_18)) (hX.2.2.2.2.2.1 10 ("LatticeKeys", 177, "nothing of that number is told") rfl) (hat_IAE hts hX.2) hS.1 (hl.1.trans hml.symm) dK_told_76 dK_told_79 dK_told_80 dK_told_82 dK_told_85 htab (Nat.le_of_ble_eq_true rfl) (Nat.le_of_ble_eq_true rfl) (Nat.le_of_ble_eq_true rfl) (Nat.le_of_ble_eq_true rfl) hlk (Nat.le_of_ble_eq_true rfl) (Nat.le_of_ble_eq_true rfl) (xls_at 1 (congrArg Prod.fst hR) (by decide) rfl) hS.2.2 (thr_st hX.2) (fun t hz9 hk9 => ⟨⟨((nI 2, nI 0, q21.2), pl), ⟨⟨hR.symm, hF, ⟨tl, hf21, by omega⟩, ⟨al, hf22, by omega⟩, ⟨pn, hf23, by omega⟩, trivial⟩, hO⟩, lc_P hP hk9, hD⟩, (lc_S hS hz9 hk9).F rfl⟩)
  replace hR := hR.trans (if_neg hs31)
  by_cases hs32 : q21.1 = nI 11
  · replace hR := hR.trans (if_pos hs32)
    obtain ⟨z31, q32, hz31, hv67, rfl, kr53⟩ := pfd_at (c := 10) hq21 (by decide) hs32
    have kr53 : T q32 = some (379 + 36 * z31 + 30) := kr53
    have ez31 : z31 = v.toNatClampNeg := by rw [hv67]; exact (nI_clamp (by omega)).symm
    replace hR := bnd_step hR ez31
    refine lv_astore_n (lv' := [(3, .ref q32), (0, .ref h0), (1, .int v), (2, .int v2)]) hx hb dK_told_5 rfl hl (by decide) rfl (fun ls hl => ?_)
    refine lv_aload_n hx hb dK_told_6 rfl (lv_at hl 0 rfl) ?_
    refine lv_ifnonnull (tgt := 20) hx hb dK_told_7 (by decide) ?_
    refine lv_iload_n hx hb dK_told_20 rfl (lv_at hl 3 rfl) ?_
    by_cases hs64 : v2 = nI 0
    · replace hR := hR.trans (if_pos hs64)
      refine mi_as hs64 ?_
      refine lv_tableIn (off := 27) (tgt := 48) hx hb dK_told_21 (by decide) (by decide) (by decide) (by decide) ?_
      refine lv_aload_n hx hb dK_told_48 rfl (lv_at hl 0 rfl) ?_
      refine nw_get (C := "LatticeKeys$KeyPair") (TT := T_KP) (N := 3) hx hb hts (wg_ft i_KP) hown hK hO kr53 (kn := (379 + 36 * z31 + 30)) (ci := 13) (fl := [(1, 4), (3, (379 + 36 * z31 + 31)), (5, 0)]) (pr_o10 (z := z31) (by omega)) hP rfl 0 (by decide) (hts _ (wg_t kw_746)) (fun _ h9 => h9) (cd := (1, 4)) rfl dK_told_49 (fun v57 hv68 => ?_)
      obtain rfl := (show v57 = .int (nI 4) from hv68)
      refine et_ret ?_
      exact mp_iret hx hb hr hlk hP hD hS ((nI 0, nI 4, q21.2), pl) ⟨⟨hR.symm, rfl, rfl, hF, ⟨tl, hf21, by omega⟩, ⟨al, hf22, by omega⟩, ⟨pn, hf23, by omega⟩, trivial⟩, hO⟩ [] rfl rfl rfl (by omega) (by omega) dK_told_52
    replace hR := hR.trans (if_neg hs64)
    by_cases hs65 : v2 = nI 1
    · replace hR := hR.trans (if_pos hs65)
      refine mi_as hs65 ?_
      refine lv_tableIn (off := 32) (tgt := 53) hx hb dK_told_21 (by decide) (by decide) (by decide) (by decide) ?_
      refine lv_aload_n hx hb dK_told_53 rfl (lv_at hl 0 rfl) ?_
      refine nw_get (C := "LatticeKeys$KeyPair") (TT := T_KP) (N := 3) hx hb hts (wg_ft i_KP) hown hK hO kr53 (kn := (379 + 36 * z31 + 30)) (ci := 13) (fl := [(1, 4), (3, (379 + 36 * z31 + 31)), (5, 0)]) (pr_o10 (z := z31) (by omega)) hP rfl 1 (by decide) (hts _ (wg_t kw_749)) (fun _ h9 => h9) (cd := (3, (379 + 36 * z31 + 31))) rfl dK_told_54 (fun v58 hv69 => ?_)
      obtain ⟨r44, rfl, kr54⟩ := (show ∃ r : Nat, v58 = .ref r ∧ T r = some (379 + 36 * z31 + 31) from hv69)
      refine nw_alen1 hx hb hK hO kr54 (k := (379 + 36 * z31 + 31)) (pr_p10 (z := z31) (by omega)) hP dK_told_57 ?_
      refine et_ret ?_
      exact mp_iret hx hb hr hlk hP hD hS ((nI 0, nI 1952, q21.2), pl) ⟨⟨hR.symm, rfl, rfl, hF, ⟨tl, hf21, by omega⟩, ⟨al, hf22, by omega⟩, ⟨pn, hf23, by omega⟩, trivial⟩, hO⟩ [] rfl rfl rfl (by omega) (by omega) dK_told_58
    replace hR := hR.trans (if_neg hs65)
    by_cases hs66 : v2 = nI 2
    · replace hR := hR.trans (if_pos hs66)
      refine mi_as hs66 ?_
      refine lv_tableIn (off := 38) (tgt := 59) hx hb dK_told_21 (by decide) (by decide) (by decide) (by decide) ?_
      refine lv_aload_n hx hb dK_told_59 rfl (lv_at hl 0 rfl) ?_
      refine nw_get (C := "LatticeKeys$KeyPair") (TT := T_KP) (N := 3) hx hb hts (wg_ft i_KP) hown hK hO kr53 (kn := (379 + 36 * z31 + 30)) (ci := 13) (fl := [(1, 4), (3, (379 + 36 * z31 + 31)), (5, 0)]) (pr_o10 (z := z31) (by omega)) hP rfl 2 (by decide) (hts _ (wg_t kw_752)) (fun _ h9 => h9) (cd := (5, 0)) rfl dK_told_60 (fun v59 hv70 => ?_)
      obtain rfl := (show v59 = .null from hv70)
      refine lv_ifnonnullN hx hb dK_told_63 ?_
      refine lv_iconst (v := nI 0) hx hb dK_told_66 (by decide) ?_
      refine lv_goto (tgt := 75) hx hb dK_told_67 (by decide) ?_
      refine et_ret ?_
      exact mp_iret hx hb hr hlk hP hD hS ((nI 0, nI 0, q21.2), pl) ⟨⟨hR.symm, rfl, rfl, hF, ⟨tl, hf21, by omega⟩, ⟨al, hf22, by omega⟩, ⟨pn, hf23, by omega⟩, trivial⟩, hO⟩ [] rfl rfl rfl (by omega) (by omega) dK_told_75
    replace hR := hR.trans (if_neg hs66)
    have hb9 := (rng (v := v2) 2 (by decide)).resolve_left (fun ⟨j9, hj9, e9⟩ => by
      have h9 : j9 = 0 ∨ j9 = 1 ∨ j9 = 2 := by omega
      rcases h9 with rfl | rfl | rfl
      · exact hs64 e9
      · exact hs65 e9
      · exact hs66 e9)
    refine lv_tableOut (tgt := 76) hx hb dK_told_21 (tout (by decide) hb9) (by decide) ?_
    exact et_throw (own := "LatticeKeys") (cls := "java/lang/IllegalArgumentException") (text := "nothing of that number is told") (names := ["java/lang/RuntimeException", "java/lang/Exception"]) (ik := 79) (is := 177) (ic := 83) hx hb htr ctr_IAE_0 ctr_IAE_1 ctr_IAE_2 ctr_IAE_5 hown (by decide) (by decide) (hts _ (wg_t kw_501)) (hts _ (wg_t kw_18)) (hX.2.2.2.2.2.1 10 ("LatticeKeys", 177, "nothing of that number is told") rfl) (hat_IAE hts hX.2) hS.1 (hl.1.trans hml.symm) dK_told_76 dK_told_79 dK_told_80 dK_told_82 dK_told_85 htab (Nat.le_of_ble_eq_true rfl) (Nat.le_of_ble_eq_true rfl) (Nat.le_of_ble_eq_true rfl) (Nat.le_of_ble_eq_true rfl) hlk (Nat.le_of_ble_eq_true rfl) (Nat.le_of_ble_eq_true rfl) (xls_at 1 (congrArg Prod.fst hR) (by decide) rfl) hS.2.2 (thr_st hX.2) (fun t hz9 hk9 => ⟨⟨((nI 2, nI 0, q21.2), pl), ⟨⟨hR.symm, hF, ⟨tl, hf21, by omega⟩, ⟨al, hf22, by omega⟩, ⟨pn, hf23, by omega⟩, trivial⟩, hO⟩, lc_P hP hk9, hD⟩, (lc_S hS hz9 hk9).F rfl⟩)
  replace hR := hR.trans (if_neg hs32)
  by_cases hs33 : q21.1 = nI 12
  · replace hR := hR.trans (if_pos hs33)
    obtain ⟨z32, q33, hz32, hv71, rfl, kr55⟩ := pfd_at (c := 11) hq21 (by decide) hs33
    have kr55 : T q33 = some (379 + 36 * z32 + 33) := kr55
    have ez32 : z32 = v.toNatClampNeg := by rw [hv71]; exact (nI_clamp (by omega)).symm
    replace hR := bnd_step hR ez32
    refine lv_astore_n (lv' := [(3, .ref q33), (0, .ref h0), (1, .int v), (2, .int v2)]) hx hb dK_told_5 rfl hl (by decide) rfl (fun ls hl => ?_)
    refine lv_aload_n hx hb dK_told_6 rfl (lv_at hl 0 rfl) ?_
    refine lv_ifnonnull (tgt := 20) hx hb dK_told_7 (by decide) ?_
    refine lv_iload_n hx hb dK_told_20 rfl (lv_at hl 3 rfl) ?_
    by_cases hs67 : v2 = nI 0
    · replace hR := hR.trans (if_pos hs67)
      refine mi_as hs67 ?_
      refine lv_tableIn (off := 27) (tgt := 48) hx hb dK_told_21 (by decide) (by decide) (by decide) (by decide) ?_
      refine lv_aload_n hx hb dK_told_48 rfl (lv_at hl 0 rfl) ?_
      refine nw_get (C := "LatticeKeys$KeyPair") (TT := T_KP) (N := 3) hx hb hts (wg_ft i_KP) hown hK hO kr55 (kn := (379 + 36 * z32 + 33)) (ci := 13) (fl := [(1, 5), (3, (379 + 36 * z32 + 34)), (5, 0)]) (pr_o11 (z := z32) (by omega)) hP rfl 0 (by decide) (hts _ (wg_t kw_746)) (fun _ h9 => h9) (cd := (1, 5)) rfl dK_told_49 (fun v60 hv72 => ?_)
      obtain rfl := (show v60 = .int (nI 5) from hv72)
      refine et_ret ?_
      exact mp_iret hx hb hr hlk hP hD hS ((nI 0, nI 5, q21.2), pl) ⟨⟨hR.symm, rfl, rfl, hF, ⟨tl, hf21, by omega⟩, ⟨al, hf22, by omega⟩, ⟨pn, hf23, by omega⟩, trivial⟩, hO⟩ [] rfl rfl rfl (by omega) (by omega) dK_told_52
    replace hR := hR.trans (if_neg hs67)
    by_cases hs68 : v2 = nI 1
    · replace hR := hR.trans (if_pos hs68)
      refine mi_as hs68 ?_
      refine lv_tableIn (off := 32) (tgt := 53) hx hb dK_told_21 (by decide) (by decide) (by decide) (by decide) ?_
      refine lv_aload_n hx hb dK_told_53 rfl (lv_at hl 0 rfl) ?_
      refine nw_get (C := "LatticeKeys$KeyPair") (TT := T_KP) (N := 3) hx hb hts (wg_ft i_KP) hown hK hO kr55 (kn := (379 + 36 * z32 + 33)) (ci := 13) (fl := [(1, 5), (3, (379 + 36 * z32 + 34)), (5, 0)]) (pr_o11 (z := z32) (by omega)) hP rfl 1 (by decide) (hts _ (wg_t kw_749)) (fun _ h9 => h9) (cd := (3, (379 + 36 * z32 + 34))) rfl dK_told_54 (fun v61 hv73 => ?_)
      obtain ⟨r45, rfl, kr56⟩ := (show ∃ r : Nat, v61 = .ref r ∧ T r = some (379 + 36 * z32 + 34) from hv73)
      refine nw_alen1 hx hb hK hO kr56 (k := (379 + 36 * z32 + 34)) (pr_p11 (z := z32) (by omega)) hP dK_told_57 ?_
      refine et_ret ?_
      exact mp_iret hx hb hr hlk hP hD hS ((nI 0, nI 2592, q21.2), pl) ⟨⟨hR.symm, rfl, rfl, hF, ⟨tl, hf21, by omega⟩, ⟨al, hf22, by omega⟩, ⟨pn, hf23, by omega⟩, trivial⟩, hO⟩ [] rfl rfl rfl (by omega) (by omega) dK_told_58
    replace hR := hR.trans (if_neg hs68)
    by_cases hs69 : v2 = nI 2
    · replace hR := hR.trans (if_pos hs69)
      refine mi_as hs69 ?_
      refine lv_tableIn (off := 38) (tgt := 59) hx hb dK_told_21 (by decide) (by decide) (by decide) (by decide) ?_
      refine lv_aload_n hx hb dK_told_59 rfl (lv_at hl 0 rfl) ?_
      refine nw_get (C := "LatticeKeys$KeyPair") (TT := T_KP) (N := 3) hx hb hts (wg_ft i_KP) hown hK hO kr55 (kn := (379 + 36 * z32 + 33)) (ci := 13) (fl := [(1, 5), (3, (379 + 36 * z32 + 34)), (5, 0)]) (pr_o11 (z := z32) (by omega)) hP rfl 2 (by decide) (hts _ (wg_t kw_752)) (fun _ h9 => h9) (cd := (5, 0)) rfl dK_told_60 (fun v62 hv74 => ?_)
      obtain rfl := (show v62 = .null from hv74)
      refine lv_ifnonnullN hx hb dK_told_63 ?_
      refine lv_iconst (v := nI 0) hx hb dK_told_66 (by decide) ?_
      refine lv_goto (tgt := 75) hx hb dK_told_67 (by decide) ?_
      refine et_ret ?_
      exact mp_iret hx hb hr hlk hP hD hS ((nI 0, nI 0, q21.2), pl) ⟨⟨hR.symm, rfl, rfl, hF, ⟨tl, hf21, by omega⟩, ⟨al, hf22, by omega⟩, ⟨pn, hf23, by omega⟩, trivial⟩, hO⟩ [] rfl rfl rfl (by omega) (by omega) dK_told_75
    replace hR := hR.trans (if_neg hs69)
    have hb9 := (rng (v := v2) 2 (by decide)).resolve_left (fun ⟨j9, hj9, e9⟩ => by
      have h9 : j9 = 0 ∨ j9 = 1 ∨ j9 = 2 := by omega
      rcases h9 with rfl | rfl | rfl
      · exact hs67 e9
      · exact hs68 e9
      · exact hs69 e9)
    refine lv_tableOut (tgt := 76) hx hb dK_told_21 (tout (by decide) hb9) (by decide) ?_
    exact et_throw (own := "LatticeKeys") (cls := "java/lang/IllegalArgumentException") (text := "nothing of that number is told") (names := ["java/lang/RuntimeException", "java/lang/Exception"]) (ik := 79) (is := 177) (ic := 83) hx hb htr ctr_IAE_0 ctr_IAE_1 ctr_IAE_2 ctr_IAE_5 hown (by decide) (by decide) (hts _ (wg_t kw_501)) (hts _ (wg_t kw_18)) (hX.2.2.2.2.2.1 10 ("LatticeKeys", 177, "nothing of that number is told") rfl) (hat_IAE hts hX.2) hS.1 (hl.1.trans hml.symm) dK_told_76 dK_told_79 dK_told_80 dK_told_82 dK_told_85 htab (Nat.le_of_ble_eq_true rfl) (Nat.le_of_ble_eq_true rfl) (Nat.le_of_ble_eq_true rfl) (Nat.le_of_ble_eq_true rfl) hlk (Nat.le_of_ble_eq_true rfl) (Nat.le_of_ble_eq_true rfl) (xls_at 1 (congrArg Prod.fst hR) (by decide) rfl) hS.2.2 (thr_st hX.2) (fun t hz9 hk9 => ⟨⟨((nI 2, nI 0, q21.2), pl), ⟨⟨hR.symm, hF, ⟨tl, hf21, by omega⟩, ⟨al, hf22, by omega⟩, ⟨pn, hf23, by omega⟩, trivial⟩, hO⟩, lc_P hP hk9, hD⟩, (lc_S hS hz9 hk9).F rfl⟩)
  replace hR := hR.trans (if_neg hs33)
  obtain ⟨c9, hc9, e9⟩ := pfd_mem hq21 hs21
  simp only [List.mem_cons, List.not_mem_nil, or_false] at hc9
  rcases hc9 with rfl | rfl | rfl | rfl | rfl | rfl | rfl | rfl | rfl | rfl | rfl | rfl
  · exact absurd e9 hs22
  · exact absurd e9 hs23
  · exact absurd e9 hs24
  · exact absurd e9 hs25
  · exact absurd e9 hs26
  · exact absurd e9 hs27
  · exact absurd e9 hs28
  · exact absurd e9 hs29
  · exact absurd e9 hs30
  · exact absurd e9 hs31
  · exact absurd e9 hs32
  · exact absurd e9 hs33
