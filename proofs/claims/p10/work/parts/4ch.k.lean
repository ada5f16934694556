set_option linter.all false
set_option maxRecDepth 100000 in
theorem kw_34 : (Jvm.Cond.initialized "java/util/NoSuchElementException") ∈ WG := wgr_1 34 (by rfl) (by rfl)
abbrev c_K_part : ByteArray := prog_1_method_8_code
abbrev y_K_part : MethodName := ⟨"LatticeKeys", "part", "(IZI)I"⟩
abbrev w_K_part : List Cond := Cond.code y_K_part c_K_part 5 (some .int) :: WG
theorem dK_part_0 : decode c_K_part 0 = .ok (.aload_n 0, 1) := by decide +kernel
theorem dK_part_1 : decode c_K_part 1 = .ok (.iload_n 1, 1) := by decide +kernel
theorem dK_part_2 : decode c_K_part 2 = .ok (.iload_n 2, 1) := by decide +kernel
theorem dK_part_3 : decode c_K_part 3 = .ok (.invokevirtual 152, 3) := by decide +kernel
theorem dK_part_6 : decode c_K_part 6 = .ok (.astore 4, 2) := by decide +kernel
theorem dK_part_8 : decode c_K_part 8 = .ok (.aload 4, 2) := by decide +kernel
theorem dK_part_10 : decode c_K_part 10 = .ok (.ifnonnull 13, 3) := by decide +kernel
theorem dK_part_13 : decode c_K_part 13 = .ok (.new 156, 3) := by decide +kernel
theorem dK_part_16 : decode c_K_part 16 = .ok (.dup, 1) := by decide +kernel
theorem dK_part_17 : decode c_K_part 17 = .ok (.ldc 158, 2) := by decide +kernel
theorem dK_part_19 : decode c_K_part 19 = .ok (.invokespecial 160, 3) := by decide +kernel
theorem dK_part_22 : decode c_K_part 22 = .ok (.athrow, 1) := by decide +kernel
theorem dK_part_23 : decode c_K_part 23 = .ok (.iload_n 3, 1) := by decide +kernel
theorem dK_part_24 : decode c_K_part 24 = .ok (.ifCond .lt 10, 3) := by decide +kernel
theorem dK_part_27 : decode c_K_part 27 = .ok (.iload_n 3, 1) := by decide +kernel
theorem dK_part_28 : decode c_K_part 28 = .ok (.aload 4, 2) := by decide +kernel
theorem dK_part_30 : decode c_K_part 30 = .ok (.arraylength, 1) := by decide +kernel
theorem dK_part_31 : decode c_K_part 31 = .ok (.if_icmp .lt 13, 3) := by decide +kernel
theorem dK_part_34 : decode c_K_part 34 = .ok (.new 90, 3) := by decide +kernel
theorem dK_part_37 : decode c_K_part 37 = .ok (.dup, 1) := by decide +kernel
theorem dK_part_38 : decode c_K_part 38 = .ok (.ldc 161, 2) := by decide +kernel
theorem dK_part_40 : decode c_K_part 40 = .ok (.invokespecial 94, 3) := by decide +kernel
theorem dK_part_43 : decode c_K_part 43 = .ok (.athrow, 1) := by decide +kernel
theorem dK_part_44 : decode c_K_part 44 = .ok (.aload 4, 2) := by decide +kernel
theorem dK_part_46 : decode c_K_part 46 = .ok (.iload_n 3, 1) := by decide +kernel
theorem dK_part_47 : decode c_K_part 47 = .ok (.baload, 1) := by decide +kernel
theorem dK_part_48 : decode c_K_part 48 = .ok (.sipush 255, 3) := by decide +kernel
theorem dK_part_51 : decode c_K_part 51 = .ok (.iand, 1) := by decide +kernel
theorem dK_part_52 : decode c_K_part 52 = .ok (.ireturn, 1) := by decide +kernel
def M_K_part (k : Nat) : Prop := (0 : Nat) = 1
noncomputable def F_K_part (v : Int32) (sc : Int32) (v3 : Int32) (s : Sto) : Int32 × Int32 × Sto := bnd (F_K_partOf v sc s) fun q21 => if sc = 0 then if q21.1 = nI 0 then (nI 1, nI 0, q21.2) else if q21.1 = nI 1 then bnd (v.toNatClampNeg) fun z21 => if v3 < 0 then (nI 2, nI 0, q21.2) else if v3 < (nI 800) then bnd (v3.toNatClampNeg) fun z22 => (nI 0, ((q21.2.1 ((379 + 36 * z21 + 1)) z22) &&& (nI 255)), q21.2) else (nI 2, nI 0, q21.2) else if q21.1 = nI 2 then bnd (v.toNatClampNeg) fun z23 => if v3 < 0 then (nI 2, nI 0, q21.2) else if v3 < (nI 1184) then bnd (v3.toNatClampNeg) fun z24 => (nI 0, ((q21.2.1 ((379 + 36 * z23 + 4)) z24) &&& (nI 255)), q21.2) else (nI 2, nI 0, q21.2) else if q21.1 = nI 3 then bnd (v.toNatClampNeg) fun z25 => if v3 < 0 then (nI 2, nI 0, q21.2) else if v3 < (nI 1568) then bnd (v3.toNatClampNeg) fun z26 => (nI 0, ((q21.2.1 ((379 + 36 * z25 + 7)) z26) &&& (nI 255)), q21.2) else (nI 2, nI 0, q21.2) else if q21.1 = nI 4 then bnd (v.toNatClampNeg) fun z27 => if v3 < 0 then (nI 2, nI 0, q21.2) else if v3 < (nI 1312) then bnd (v3.toNatClampNeg) fun z28 => (nI 0, ((q21.2.1 ((379 + 36 * z27 + 10)) z28) &&& (nI 255)), q21.2) else (nI 2, nI 0, q21.2) else if q21.1 = nI 5 then bnd (v.toNatClampNeg) fun z29 => if v3 < 0 then (nI 2, nI 0, q21.2) else if v3 < (nI 1952) then bnd (v3.toNatClampNeg) fun z30 => (nI 0, ((q21.2.1 ((379 + 36 * z29 + 13)) z30) &&& (nI 255)), q21.2) else (nI 2, nI 0, q21.2) else if q21.1 = nI 6 then bnd (v.toNatClampNeg) fun z31 => if v3 < 0 then (nI 2, nI 0, q21.2) else if v3 < (nI 2592) then bnd (v3.toNatClampNeg) fun z32 => (nI 0, ((q21.2.1 ((379 + 36 * z31 + 16)) z32) &&& (nI 255)), q21.2) else (nI 2, nI 0, q21.2) else if q21.1 = nI 7 then bnd (v.toNatClampNeg) fun z33 => if v3 < 0 then (nI 2, nI 0, q21.2) else if v3 < (nI 800) then bnd (v3.toNatClampNeg) fun z34 => (nI 0, ((q21.2.1 ((379 + 36 * z33 + 19)) z34) &&& (nI 255)), q21.2) else (nI 2, nI 0, q21.2) else if q21.1 = nI 8 then bnd (v.toNatClampNeg) fun z35 => if v3 < 0 then (nI 2, nI 0, q21.2) else if v3 < (nI 1184) then bnd (v3.toNatClampNeg) fun z36 => (nI 0, ((q21.2.1 ((379 + 36 * z35 + 22)) z36) &&& (nI 255)), q21.2) else (nI 2, nI 0, q21.2) else if q21.1 = nI 9 then bnd (v.toNatClampNeg) fun z37 => if v3 < 0 then (nI 2, nI 0, q21.2) else if v3 < (nI 1568) then bnd (v3.toNatClampNeg) fun z38 => (nI 0, ((q21.2.1 ((379 + 36 * z37 + 25)) z38) &&& (nI 255)), q21.2) else (nI 2, nI 0, q21.2) else if q21.1 = nI 10 then bnd (v.toNatClampNeg) fun z39 => if v3 < 0 then (nI 2, nI 0, q21.2) else if v3 < (nI 1312) then bnd (v3.toNatClampNeg) fun z40 => (nI 0, ((q21.2.1 ((379 + 36 * z39 + 28)) z40) &&& (nI 255)), q21.2) else (nI 2, nI 0, q21.2) else if q21.1 = nI 11 then bnd (v.toNatClampNeg) fun z41 => if v3 < 0 then (nI 2, nI 0, q21.2) else if v3 < (nI 1952) then bnd (v3.toNatClampNeg) fun z42 => (nI 0, ((q21.2.1 ((379 + 36 * z41 + 31)) z42) &&& (nI 255)), q21.2) else (nI 2, nI 0, q21.2) else if q21.1 = nI 12 then bnd (v.toNatClampNeg) fun z43 => if v3 < 0 then (nI 2, nI 0, q21.2) else if v3 < (nI 2592) then bnd (v3.toNatClampNeg) fun z44 => (nI 0, ((q21.2.1 ((379 + 36 * z43 + 34)) z44) &&& (nI 255)), q21.2) else (nI 2, nI 0, q21.2) else (nI 0, nI 0, q21.2) else if q21.1 = nI 0 then (nI 1, nI 0, q21.2) else if q21.1 = nI 1 then bnd (v.toNatClampNeg) fun z45 => if v3 < 0 then (nI 2, nI 0, q21.2) else if v3 < (nI 1632) then bnd (v3.toNatClampNeg) fun z46 => (nI 0, ((q21.2.1 ((379 + 36 * z45 + 2)) z46) &&& (nI 255)), q21.2) else (nI 2, nI 0, q21.2) else if q21.1 = nI 2 then bnd (v.toNatClampNeg) fun z47 => if v3 < 0 then (nI 2, nI 0, q21.2) else if v3 < (nI 2400) then bnd (v3.toNatClampNeg) fun z48 => (nI 0, ((q21.2.1 ((379 + 36 * z47 + 5)) z48) &&& (nI 255)), q21.2) else (nI 2, nI 0, q21.2) else if q21.1 = nI 3 then bnd (v.toNatClampNeg) fun z49 => if v3 < 0 then (nI 2, nI 0, q21.2) else if v3 < (nI 3168) then bnd (v3.toNatClampNeg) fun z50 => (nI 0, ((q21.2.1 ((379 + 36 * z49 + 8)) z50) &&& (nI 255)), q21.2) else (nI 2, nI 0, q21.2) else if q21.1 = nI 4 then bnd (v.toNatClampNeg) fun z51 => if v3 < 0 then (nI 2, nI 0, q21.2) else if v3 < (nI 2560) then bnd (v3.toNatClampNeg) fun z52 => (nI 0, ((q21.2.1 ((379 + 36 * z51 + 11)) z52) &&& (nI 255)), q21.2) else (nI 2, nI 0, q21.2) else if q21.1 = nI 5 then bnd (v.toNatClampNeg) fun z53 => if v3 < 0 then (nI 2, nI 0, q21.2) else if v3 < (nI 4032) then bnd (v3.toNatClampNeg) fun z54 => (nI 0, ((q21.2.1 ((379 + 36 * z53 + 14)) z54) &&& (nI 255)), q21.2) else (nI 2, nI 0, q21.2) else if q21.1 = nI 6 then bnd (v.toNatClampNeg) fun z55 => if v3 < 0 then (nI 2, nI 0, q21.2) else if v3 < (nI 4896) then bnd (v3.toNatClampNeg) fun z56 => (nI 0, ((q21.2.1 ((379 + 36 * z55 + 17)) z56) &&& (nI 255)), q21.2) else (nI 2, nI 0, q21.2) else (nI 0, nI 0, q21.2)
set_option maxHeartbeats 2000000 in
set_option maxRecDepth 100000 in
theorem N_K_part (l : Launch) (htr : l.stackTraces = false) (g : Gd) (sz : Nat) (T : TyN) (s : Sto) (pl : va_W) (hO : okn g T s pl) (hU : inj T) (h0 : Nat) (v : Int32) (sc : Int32) (v3 : Int32) (tl : Nat) (al : Nat) (pn : Nat) (k_h0 : T h0 = some 0) (e_tl : s.1 0 1 = nI tl) (e_al : s.1 0 3 = nI al) (e_pn : s.1 0 5 = nI pn) (h1 : tl ≤ 16384) (h2 : al ≤ 8192) (h3 : pn ≤ 8)  : etMet l y_K_part w_K_part ({ frames := 6, cells := 1, slots := 6, locals := 90 } : Room) (va_Pc [.ref h0, .int v, .int sc, .int v3] (pr (ex g) g.1 vcl sz ([] ++ pl))) (xls ["java/util/NoSuchElementException", "java/lang/IndexOutOfBoundsException"] (F_K_part v sc v3 s).1) (va_Qi (fun (r : Int32) (u : (Int32 × Int32 × Sto) × va_W) => (u.1 = F_K_part v sc v3 s ∧ r = u.1.2.1 ∧ u.1.1 = nI 0 ∧ frm (M_K_part) s u.1.2.2 ∧ (∃ x : Nat, u.1.2.2.1 0 1 = nI x ∧ x ≤ 16384) ∧ (∃ x : Nat, u.1.2.2.1 0 3 = nI x ∧ x ≤ 8192) ∧ (∃ x : Nat, u.1.2.2.1 0 5 = nI x ∧ x = pn) ∧ True) ∧ okn g T u.1.2.2 u.2) (po g.1 vcl (va_A ([] ++ pl) sz) (fun (u : (Int32 × Int32 × Sto) × va_W) => [] ++ u.2)) (va_A ([] ++ pl) sz)) (xtP (fun (u : (Int32 × Int32 × Sto) × va_W) => (u.1 = F_K_part v sc v3 s ∧ frm (M_K_part) s u.1.2.2 ∧ (∃ x : Nat, u.1.2.2.1 0 1 = nI x ∧ x ≤ 16384) ∧ (∃ x : Nat, u.1.2.2.1 0 3 = nI x ∧ x ≤ 8192) ∧ (∃ x : Nat, u.1.2.2.1 0 5 = nI x ∧ x = pn) ∧ True) ∧ okn g T u.1.2.2 u.2) (po g.1 vcl (va_A ([] ++ pl) sz) (fun (u : (Int32 × Int32 × Sto) × va_W) => [] ++ u.2)) (va_A ([] ++ pl) sz)) 1 6 (va_A ([] ++ pl) sz) := by
  refine et_entry (cc := c_K_part) (maxL := 5) (ret := (some .int)) (by decide) rfl (Nat.le_of_ble_eq_true rfl) ?_
  intro p e s0 m args below meth c ls F hr hlk htab hsz hP hD hX hA hl
  obtain ⟨hx, hb, hml, hown, hts⟩ := id F
  have hE := hX.1
  have hK := hE.1
  generalize va_A ([] ++ pl) sz = A at hD hX hE hA ⊢
  have hS : va_S A s0.heap s0.heap [] := va_S.rf
  have hl : lv_has ls 5 [(0, .ref h0), (1, .int v), (2, .int sc), (3, .int v3)] := hl
  have hR : F_K_part v sc v3 s = F_K_part v sc v3 s := rfl
  have hF : frm (M_K_part) s s := frm_rf
  refine lv_aload_n hx hb dK_part_0 rfl (lv_at hl 0 rfl) ?_
  refine lv_iload_n hx hb dK_part_1 rfl (lv_at hl 1 rfl) ?_
  refine lv_iload_n hx hb dK_part_2 rfl (lv_at hl 2 rfl) ?_
  refine mp_q (cx := []) (wr := []) hP hD hS hA [] [] rfl rfl rfl (by decide) (va_runV (As := [.int v, .int sc]) (rest := []) F (N_K_partOf l g _ T s pl hO hU h0 v sc tl al pn k_h0 e_tl e_al e_pn (by omega)) (cwV 2 hts (wg_app (wg_c kw_1056 (wg_c kw_1058 (wg_c ks_23 (wg_c kw_1 wg_n)))) kw_1059) rfl rfl rfl (by decide +kernel) ⟨by decide, by decide⟩) (pn_W "LatticeKeys" (en_ok g) (ci := 0) (kn := 0) (fl := [(3, 1), (0, 0), (3, 2), (0, 0), (3, 3), (0, 0), (3, 4), (3, 8), (3, 12), (3, 24), (3, 39)]) hK hO k_h0 rfl hP hD hS hA hE [] rfl rfl rfl) rfl rfl hl.1 rfl (lv_room (Nat.le_of_ble_eq_true rfl)) dK_part_3 ⟨Nat.le_of_ble_eq_true rfl, Nat.le_of_ble_eq_true rfl⟩) (fun r21 u21 H locs hu21 hP hD hS => ?_)
  obtain ⟨q21, pl⟩ := u21
  obtain ⟨⟨eq21, hq21, hFc21, -⟩, hO⟩ := hu21
  have hO : okn g T q21.2 pl := hO
  have hP : va_P g.1 vcl ([] ++ pl) _ := hP
  have hD : va_D _ ([] ++ pl) := hD
  have hFc21 : frm (M_K_partOf) s q21.2 := hFc21
  replace hR := bnd_step hR eq21
  have hF := frm_tr hF hFc21 (fun k hk => by unfold M_K_partOf at hk; unfold M_K_part; omega)
  have hf21 : q21.2.1 0 1 = nI tl := fc_F e_tl hFc21 (by unfold M_K_partOf; omega)
  have hf22 : q21.2.1 0 3 = nI al := fc_F e_al hFc21 (by unfold M_K_partOf; omega)
  have hf23 : q21.2.1 0 5 = nI pn := fc_F e_pn hFc21 (by unfold M_K_partOf; omega)
  refine W.widen (k := 0) (n := 0) (by omega) (by omega) ?_
  by_cases hs21 : sc = 0
  · replace hR := hR.trans (if_pos hs21)
    have hq21 := hq21.1 hs21
    by_cases hs22 : q21.1 = nI 0
    · replace hR := hR.trans (if_pos hs22)
      obtain rfl : r21 = none := pfd_none hq21 hs22
      refine lv_astoreN (lv' := [(4, .null), (0, .ref h0), (1, .int v), (2, .int sc), (3, .int v3)]) hx hb dK_part_6 hl (by decide) rfl (fun ls hl => ?_)
      refine lv_aloadN hx hb dK_part_8 (lv_at hl 0 rfl) ?_
      refine lv_ifnonnullN hx hb dK_part_10 ?_
      exact et_throw (own := "LatticeKeys") (cls := "java/util/NoSuchElementException") (text := "no such keys or part") (names := ["java/lang/RuntimeException", "java/lang/Exception"]) (ik := 156) (is := 158) (ic := 160) hx hb htr ctr_NSE_0 ctr_NSE_1 ctr_NSE_2 ctr_NSE_5 hown (by decide) (by decide) (hts _ (wg_t kw_1064)) (hts _ (wg_t kw_34)) (hX.2.2.2.2.2.1 7 ("LatticeKeys", 158, "no such keys or part") rfl) (hat_NSE hts hX.2) hS.1 (hl.1.trans hml.symm) dK_part_13 dK_part_16 dK_part_17 dK_part_19 dK_part_22 htab (Nat.le_of_ble_eq_true rfl) (Nat.le_of_ble_eq_true rfl) (Nat.le_of_ble_eq_true rfl) (Nat.le_of_ble_eq_true rfl) hlk (Nat.le_of_ble_eq_true rfl) (Nat.le_of_ble_eq_true rfl) (xls_at 0 (congrArg Prod.fst hR) (by decide) rfl) hS.2.2 (thr_st hX.2) (fun t hz9 hk9 => ⟨⟨((nI 1, nI 0, q21.2), pl), ⟨⟨hR.symm, hF, ⟨tl, hf21, by omega⟩, ⟨al, hf22, by omega⟩, ⟨pn, hf23, by omega⟩, trivial⟩, hO⟩, lc_P hP hk9, hD⟩, (lc_S hS hz9 hk9).F rfl⟩)
    replace hR := hR.trans (if_neg hs22)
    by_cases hs23 : q21.1 = nI 1
    · replace hR := hR.trans (if_pos hs23)
      obtain ⟨z21, q22, hz21, hv21, rfl, kr21⟩ := pfd_at (c := 0) hq21 (by decide) hs23
      have kr21 : T q22 = some (379 + 36 * z21 + 1) := kr21
      have ez21 : z21 = v.toNatClampNeg := by rw [hv21]; exact (nI_clamp (by omega)).symm
      replace hR := bnd_step hR ez21
      refine lv_astore (lv' := [(4, .ref q22), (0, .ref h0), (1, .int v), (2, .int sc), (3, .int v3)]) hx hb dK_part_6 hl (by decide) rfl (fun ls hl => ?_)
      refine lv_aload hx hb dK_part_8 (lv_at hl 0 rfl) ?_
      refine lv_ifnonnull (tgt := 23) hx hb dK_part_10 (by decide) ?_
      refine lv_iload_n hx hb dK_part_23 rfl (lv_at hl 4 rfl) ?_
      refine lv_if_lt (tgt := 34) hx hb dK_part_24 (by decide) (fun h21 => ?_) (fun h21 => ?_)
      · replace hR := hR.trans (if_pos h21)
        exact et_throw (own := "LatticeKeys") (cls := "java/lang/IndexOutOfBoundsException") (text := "no such byte in the part") (names := ["java/lang/RuntimeException", "java/lang/Exception"]) (ik := 90) (is := 161) (ic := 94) hx hb htr ctr_IOB_0 ctr_IOB_1 ctr_IOB_2 ctr_IOB_5 hown (by decide) (by decide) (hts _ (wg_t kw_535)) (hts _ (wg_t kw_20)) (hX.2.2.2.2.2.1 8 ("LatticeKeys", 161, "no such byte in the part") rfl) (hat_IOB hts hX.2) hS.1 (hl.1.trans hml.symm) dK_part_34 dK_part_37 dK_part_38 dK_part_40 dK_part_43 htab (Nat.le_of_ble_eq_true rfl) (Nat.le_of_ble_eq_true rfl) (Nat.le_of_ble_eq_true rfl) (Nat.le_of_ble_eq_true rfl) hlk (Nat.le_of_ble_eq_true rfl) (Nat.le_of_ble_eq_true rfl) (xls_at 1 (congrArg Prod.fst hR) (by decide) rfl) hS.2.2 (thr_st hX.2) (fun t hz9 hk9 => ⟨⟨((nI 2, nI 0, q21.2), pl), ⟨⟨hR.symm, hF, ⟨tl, hf21, by omega⟩, ⟨al, hf22, by omega⟩, ⟨pn, hf23, by omega⟩, trivial⟩, hO⟩, lc_P hP hk9, hD⟩, (lc_S hS hz9 hk9).F rfl⟩)
      · replace hR := hR.trans (if_neg h21)
        refine lv_iload_n hx hb dK_part_27 rfl (lv_at hl 4 rfl) ?_
        refine lv_aload hx hb dK_part_28 (lv_at hl 0 rfl) ?_
        refine nw_alen1 hx hb hK hO kr21 (k := (379 + 36 * z21 + 1)) (pr_p0 (z := z21) (by omega)) hP dK_part_30 ?_
        refine lv_icmp_lt (tgt := 44) hx hb dK_part_31 (by decide) (fun h22 => ?_) (fun h22 => ?_)
        · replace hR := hR.trans (if_pos h22)
          obtain ⟨z22, hz22, hv22⟩ := i32_ltc h21 (by omega) h22
          have ez22 : z22 = v3.toNatClampNeg := by rw [hv22]; exact (nI_clamp (by omega)).symm
          replace hR := bnd_step hR ez22
          rw [hv22] at hl
          refine lv_aload hx hb dK_part_44 (lv_at hl 0 rfl) ?_
          refine lv_iload_n hx hb dK_part_46 rfl (lv_at hl 4 rfl) ?_
          refine nw_bald hx hb hK hO kr21 (k := (379 + 36 * z21 + 1)) (pr_p0 (z := z21) (by omega)) hP (by omega) (by omega) dK_part_47 ?_
          refine lv_sipush (v := nI 255) hx hb dK_part_48 (by decide) ?_
          refine lv_iand hx hb dK_part_51 ?_
          refine et_ret ?_
          exact mp_iret hx hb hr hlk hP hD hS ((nI 0, ((q21.2.1 ((379 + 36 * z21 + 1)) z22) &&& (nI 255)), q21.2), pl) ⟨⟨hR.symm, rfl, rfl, hF, ⟨tl, hf21, by omega⟩, ⟨al, hf22, by omega⟩, ⟨pn, hf23, by omega⟩, trivial⟩, hO⟩ [] rfl rfl rfl (by omega) (by omega) dK_part_52
        · replace hR := hR.trans (if_neg h22)
          exact et_throw (own := "LatticeKeys") (cls := "java/lang/IndexOutOfBoundsException") (text := "no such byte in the part") (names := ["java/lang/RuntimeException", "java/lang/Exception"]) (ik := 90) (is := 161) (ic := 94) hx hb htr ctr_IOB_0 ctr_IOB_1 ctr_IOB_2 ctr_IOB_5 hown (by decide) (by decide) (hts _ (wg_t kw_535)) (hts _ (wg_t kw_20)) (hX.2.2.2.2.2.1 8 ("LatticeKeys", 161, "no such byte in the part") rfl) (hat_IOB hts hX.2) hS.1 (hl.1.trans hml.symm) dK_part_34 dK_part_37 dK_part_38 dK_part_40 dK_part_43 htab (Nat.le_of_ble_eq_true rfl) (Nat.le_of_ble_eq_true rfl) (Nat.le_of_ble_eq_true rfl) (Nat.le_of_ble_eq_true rfl) hlk (Nat.le_of_ble_eq_true rfl) (Nat.le_of_ble_eq_true rfl) (xls_at 1 (congrArg Prod.fst hR) (by decide) rfl) hS.2.2 (thr_st hX.2) (fun t hz9 hk9 => ⟨⟨((nI 2, nI 0, q21.2), pl), ⟨⟨hR.symm, hF, ⟨tl, hf21, by omega⟩, ⟨al, hf22, by omega⟩, ⟨pn, hf23, by omega⟩, trivial⟩, hO⟩, lc_P hP hk9, hD⟩, (lc_S hS hz9 hk9).F rfl⟩)
    replace hR := hR.trans (if_neg hs23)
    by_cases hs24 : q21.1 = nI 2
    · replace hR := hR.trans (if_pos hs24)
      obtain ⟨z23, q23, hz23, hv23, rfl, kr22⟩ := pfd_at (c := 1) hq21 (by decide) hs24
      have kr22 : T q23 = some (379 + 36 * z23 + 4) := kr22
      have ez23 : z23 = v.toNatClampNeg := by rw [hv23]; exact (nI_clamp (by omega)).symm
      replace hR := bnd_step hR ez23
      refine lv_astore (lv' := [(4, .ref q23), (0, .ref h0), (1, .int v), (2, .int sc), (3, .int v3)]) hx hb dK_part_6 hl (by decide) rfl (fun ls hl => ?_)
      refine lv_aload hx hb dK_part_8 (lv_at hl 0 rfl) ?_
      refine lv_ifnonnull (tgt := 23) hx hb dK_part_10 (by decide) ?_
      refine lv_iload_n hx hb dK_part_23 rfl (lv_at hl 4 rfl) ?_
      refine lv_if_lt (tgt := 34) hx hb dK_part_24 (by decide) (fun h23 => ?_) (fun h23 => ?_)
      · replace hR := hR.trans (if_pos h23)
        exact et_throw (own := "LatticeKeys") (cls := "java/lang/IndexOutOfBoundsException") (text := "no such byte in the part") (names := ["java/lang/RuntimeException", "java/lang/Exception"]) (ik := 90) (is := 161) (ic := 94) hx hb htr ctr_IOB_0 ctr_IOB_1 ctr_IOB_2 ctr_IOB_5 hown (by decide) (by decide) (hts _ (wg_t kw_535)) (hts _ (wg_t kw_20)) (hX.2.2.2.2.2.1 8 ("LatticeKeys", 161, "no such byte in the part") rfl) (hat_IOB hts hX.2) hS.1 (hl.1.trans hml.symm) dK_part_34 dK_part_37 dK_part_38 dK_part_40 dK_part_43 htab (Nat.le_of_ble_eq_true rfl) (Nat.le_of_ble_eq_true rfl) (Nat.le_of_ble_eq_true rfl) (Nat.le_of_ble_eq_true rfl) hlk (Nat.le_of_ble_eq_true rfl) (Nat.le_of_ble_eq_true rfl) (xls_at 1 (congrArg Prod.fst hR) (by decide) rfl) hS.2.2 (thr_st hX.2) (fun t hz9 hk9 => ⟨⟨((nI 2, nI 0, q21.2), pl), ⟨⟨hR.symm, hF, ⟨tl, hf21, by omega⟩, ⟨al, hf22, by omega⟩, ⟨pn, hf23, by omega⟩, trivial⟩, hO⟩, lc_P hP hk9, hD⟩, (lc_S hS hz9 hk9).F rfl⟩)
      · replace hR := hR.trans (if_neg h23)
        refine lv_iload_n hx hb dK_part_27 rfl (lv_at hl 4 rfl) ?_
        refine lv_aload hx hb dK_part_28 (lv_at hl 0 rfl) ?_
        refine nw_alen1 hx hb hK hO kr22 (k := (379 + 36 * z23 + 4)) (pr_p1 (z := z23) (by omega)) hP dK_part_30 ?_
        refine lv_icmp_lt (tgt := 44) hx hb dK_part_31 (by decide) (fun h24 => ?_) (fun h24 => ?_)
        · replace hR := hR.trans (if_pos h24)
          obtain ⟨z24, hz24, hv24⟩ := i32_ltc h23 (by omega) h24
          have ez24 : z24 = v3.toNatClampNeg := by rw [hv24]; exact (nI_clamp (by omega)).symm
          replace hR := bnd_step hR ez24
          rw [hv24] at hl
          refine lv_aload hx hb dK_part_44 (lv_at hl 0 rfl) ?_
          refine lv_iload_n hx hb dK_part_46 rfl (lv_at hl 4 rfl) ?_
          refine nw_bald hx hb hK hO kr22 (k := (379 + 36 * z23 + 4)) (pr_p1 (z := z23) (by omega)) hP (by omega) (by omega) dK_part_47 ?_
          refine lv_sipush (v := nI 255) hx hb dK_part_48 (by decide) ?_
          refine lv_iand hx hb dK_part_51 ?_
          refine et_ret ?_
          exact mp_iret hx hb hr hlk hP hD hS ((nI 0, ((q21.2.1 ((379 + 36 * z23 + 4)) z24) &&& (nI 255)), q21.2), pl) ⟨⟨hR.symm, rfl, rfl, hF, ⟨tl, hf21, by omega⟩, ⟨al, hf22, by omega⟩, ⟨pn, hf23, by omega⟩, trivial⟩, hO⟩ [] rfl rfl rfl (by omega) (by omega) dK_part_52
        · replace hR := hR.trans (if_neg h24)
          exact et_throw (own := "LatticeKeys") (cls := "java/lang/IndexOutOfBoundsException") (text := "no such byte in the part") (names := ["java/lang/RuntimeException", "java/lang/Exception"]) (ik := 90) (is := 161) (ic := 94) hx hb htr ctr_IOB_0 ctr_IOB_1 ctr_IOB_2 ctr_IOB_5 hown (by decide) (by decide) (hts _ (wg_t kw_535)) (hts _ (wg_t kw_20)) (hX.2.2.2.2.2.1 8 ("LatticeKeys", 161, "no such byte in the part") rfl) (hat_IOB hts hX.2) hS.1 (hl.1.trans hml.symm) dK_part_34 dK_part_37 dK_part_38 dK_part_40 dK_part_43 htab (Nat.le_of_ble_eq_true rfl) (Nat.le_of_ble_eq_true rfl) (Nat.le_of_ble_eq_true rfl) (Nat.le_of_ble_eq_true rfl) hlk (Nat.le_of_ble_eq_true rfl) (Nat.le_of_ble_eq_true rfl) (xls_at 1 (congrArg Prod.fst hR) (by decide) rfl) hS.2.2 (thr_st hX.2) (fun t hz9 hk9 => ⟨⟨((nI 2, nI 0, q21.2), pl), ⟨⟨hR.symm, hF, ⟨tl, hf21, by omega⟩, ⟨al, hf22, by omega⟩, ⟨pn, hf23, by omega⟩, trivial⟩, hO⟩, lc_P hP hk9, hD⟩, (lc_S hS hz9 hk9).F rfl⟩)
    replace hR := hR.trans (if_neg hs24)
    by_cases hs25 : q21.1 = nI 3
    · replace hR := hR.trans (if_pos hs25)
      obtain ⟨z25, q24, hz25, hv25, rfl, kr23⟩ := pfd_at (c := 2) hq21 (by decide) hs25
      have kr23 : T q24 = some (379 + 36 * z25 + 7) := kr23
      have ez25 : z25 = v.toNatClampNeg := by rw [hv25]; exact (nI_clamp (by omega)).symm
      replace hR := bnd_step hR ez25
      refine lv_astore (lv' := [(4, .ref q24), (0, .ref h0), (1, .int v), (2, .int sc), (3, .int v3)]) hx hb dK_part_6 hl (by decide) rfl (fun ls hl => ?_)
      refine lv_aload hx hb dK_part_8 (lv_at hl 0 rfl) ?_
      refine lv_ifnonnull (tgt := 23) hx hb dK_part_10 (by decide) ?_
      refine lv_iload_n hx hb dK_part_23 rfl (lv_at hl 4 rfl) ?_
      refine lv_if_lt (tgt := 34) hx hb dK_part_24 (by decide) (fun h25 => ?_) (fun h25 => ?_)
      · replace hR := hR.trans (if_pos h25)
        exact et_throw (own := "LatticeKeys") (cls := "java/lang/IndexOutOfBoundsException") (text := "no such byte in the part") (names := ["java/lang/RuntimeException", "java/lang/Exception"]) (ik := 90) (is := 161) (ic := 94) hx hb htr ctr_IOB_0 ctr_IOB_1 ctr_IOB_2 ctr_IOB_5 hown (by decide) (by decide) (hts _ (wg_t kw_535)) (hts _ (wg_t kw_20)) (hX.2.2.2.2.2.1 8 ("LatticeKeys", 161, "no such byte in the part") rfl) (hat_IOB hts hX.2) hS.1 (hl.1.trans hml.symm) dK_part_34 dK_part_37 dK_part_38 dK_part_40 dK_part_43 htab (Nat.le_of_ble_eq_true rfl) (Nat.le_of_ble_eq_true rfl) (Nat.le_of_ble_eq_true rfl) (Nat.le_of_ble_eq_true rfl) hlk (Nat.le_of_ble_eq_true rfl) (Nat.le_of_ble_eq_true rfl) (xls_at 1 (congrArg Prod.fst hR) (by decide) rfl) hS.2.2 (thr_st hX.2) (fun t hz9 hk9 => ⟨⟨((nI 2, nI 0, q21.2), pl), ⟨⟨hR.symm, hF, ⟨tl, hf21, by omega⟩, ⟨al, hf22, by omega⟩, ⟨pn, hf23, by omega⟩, trivial⟩, hO⟩, lc_P hP hk9, hD⟩, (lc_S hS hz9 hk9).F rfl⟩)
      · replace hR := hR.trans (if_neg h25)
        refine lv_iload_n hx hb dK_part_27 rfl (lv_at hl 4 rfl) ?_
        refine lv_aload hx hb dK_part_28 (lv_at hl 0 rfl) ?_
        refine nw_alen1 hx hb hK hO kr23 (k := (379 + 36 * z25 + 7)) (pr_p2 (z := z25) (by omega)) hP dK_part_30 ?_
        refine lv_icmp_lt (tgt := 44) hx hb dK_part_31 (by decide) (fun h26 => ?_) (fun h26 => ?_)
        · replace hR := hR.trans (if_pos h26)
          obtain ⟨z26, hz26, hv26⟩ := i32_ltc h25 (by omega) h26
          have ez26 : z26 = v3.toNatClampNeg := by rw [hv26]; exact (nI_clamp (by omega)).symm
          replace hR := bnd_step hR ez26
          rw [hv26] at hl
          refine lv_aload hx hb dK_part_44 (lv_at hl 0 rfl) ?_
          refine lv_iload_n hx hb dK_part_46 rfl (lv_at hl 4 rfl) ?_
          refine nw_bald hx hb hK hO kr23 (k := (379 + 36 * z25 + 7)) (pr_p2 (z := z25) (by omega)) hP (by omega) (by omega) dK_part_47 ?_
          refine lv_sipush (v := nI 255) hx hb dK_part_48 (by decide) ?_
          refine lv_iand hx hb dK_part_51 ?_
          refine et_ret ?_
          exact mp_iret hx hb hr hlk hP hD hS ((nI 0, ((q21.2.1 ((379 + 36 * z25 + 7)) z26) &&& (nI 255)), q21.2), pl) ⟨⟨hR.symm, rfl, rfl, hF, ⟨tl, hf21, by omega⟩, ⟨al, hf22, by omega⟩, ⟨pn, hf23, by omega⟩, trivial⟩, hO⟩ [] rfl rfl rfl (by omega) (by omega) dK_part_52
        · replace hR := hR.trans (if_neg h26)
          exact et_throw (own := "LatticeKeys") (cls := "java/lang/IndexOutOfBoundsException") (text := "no such byte in the part") (names := ["java/lang/RuntimeException", "java/lang/Exception"]) (ik := 90) (is := 161) (ic := 94) hx hb htr ctr_IOB_0 ctr_IOB_1 ctr_IOB_2 ctr_IOB_5 hown (by decide) (by decide) (hts _ (wg_t kw_535)) (hts _ (wg_t kw_20)) (hX.2.2.2.2.2.1 8 ("LatticeKeys", 161, "no such byte in the part") rfl) (hat_IOB hts hX.2) hS.1 (hl.1.trans hml.symm) dK_part_34 dK_part_37 dK_part_38 dK_part_40 dK_part_43 htab (Nat.le_of_ble_eq_true rfl) (Nat.le_of_ble_eq_true rfl) (Nat.le_of_ble_eq_true rfl) (Nat.le_of_ble_eq_true rfl) hlk (Nat.le_of_ble_eq_true rfl) (Nat.le_of_ble_eq_true rfl) (xls_at 1 (congrArg Prod.fst hR) (by decide) rfl) hS.2.2 (thr_st hX.2) (fun t hz9 hk9 => ⟨⟨((nI 2, nI 0, q21.2), pl), ⟨⟨hR.symm, hF, ⟨tl, hf21, by omega⟩, ⟨al, hf22, by omega⟩, ⟨pn, hf23, by omega⟩, trivial⟩, hO⟩, lc_P hP hk9, hD⟩, (lc_S hS hz9 hk9).F rfl⟩)
    replace hR := hR.trans (if_neg hs25)
    by_cases hs26 : q21.1 = nI 4
    · replace hR := hR.trans (if_pos hs26)
      obtain ⟨z27, q25, hz27, hv27, rfl, kr24⟩ := pfd_at (c := 3) hq21 (by decide) hs26
      have kr24 : T q25 = some (379 + 36 * z27 + 10) := kr24
      have ez27 : z27 = v.toNatClampNeg := by rw [hv27]; exact (nI_clamp (by omega)).symm
      replace hR := bnd_step hR ez27
      refine lv_astore (lv' := [(4, .ref q25), (0, .ref h0), (1, .int v), (2, .int sc), (3, .int v3)]) hx hb dK_part_6 hl (by decide) rfl (fun ls hl => ?_)
      refine lv_aload hx hb dK_part_8 (lv_at hl 0 rfl) ?_
      refine lv_ifnonnull (tgt := 23) hx hb dK_part_10 (by decide) ?_
      refine lv_iload_n hx hb dK_part_23 rfl (lv_at hl 4 rfl) ?_
      refine lv_if_lt (tgt := 34) hx hb dK_part_24 (by decide) (fun h27 => ?_) (fun h27 => ?_)
      · replace hR := hR.trans (if_pos h27)
        exact et_throw (own := "LatticeKeys") (cls := "java/lang/IndexOutOfBoundsException") (text := "no such byte in the part") (names := ["java/lang/RuntimeException", "java/lang/Exception"]) (ik := 90) (is := 161) (ic := 94) hx hb htr ctr_IOB_0 ctr_IOB_1 ctr_IOB_2 ctr_IOB_5 hown (by decide) (by decide) (hts _ (wg_t kw_535)) (hts _ (wg_t kw_20)) (hX.2.2.2.2.2.1 8 ("LatticeKeys", 161, "no such byte in the part") rfl) (hat_IOB hts hX.2) hS.1 (hl.1.trans hml.symm) dK_part_34 dK_part_37 dK_part_38 dK_part_40 dK_part_43 htab (Nat.le_of_ble_eq_true rfl) (Nat.le_of_ble_eq_true rfl) (Nat.le_of_ble_eq_true rfl) (Nat.le_of_ble_eq_true rfl) hlk (Nat.le_of_ble_eq_true rfl) (Nat.le_of_ble_eq_true rfl) (xls_at 1 (congrArg Prod.fst hR) (by decide) rfl) hS.2.2 (thr_st hX.2) (fun t hz9 hk9 => ⟨⟨((nI 2, nI 0, q21.2), pl), ⟨⟨hR.symm, hF, ⟨tl, hf21, by omega⟩, ⟨al, hf22, by omega⟩, ⟨pn, hf23, by omega⟩, trivial⟩, hO⟩, lc_P hP hk9, hD⟩, (lc_S hS hz9 hk9).F rfl⟩)
      · replace hR := hR.trans (if_neg h27)
        refine lv_iload_n hx hb dK_part_27 rfl (lv_at hl 4 rfl) ?_
        refine lv_aload hx hb dK_part_28 (lv_at hl 0 rfl) ?_
        refine nw_alen1 hx hb hK hO kr24 (k := (379 + 36 * z27 + 10)) (pr_p3 (z := z27) (by omega)) hP dK_part_30 ?_
        refine lv_icmp_lt (tgt := 44) hx hb dK_part_31 (by decide) (fun h28 => ?_) (fun h28 => ?_)
        · replace hR := hR.trans (if_pos h28)
          obtain ⟨z28, hz28, hv28⟩ := i32_ltc h27 (by omega) h28
          have ez28 : z28 = v3.toNatClampNeg := by rw [hv28]; exact (nI_clamp (by omega)).symm
          replace hR := bnd_step hR ez28
          rw [hv28] at hl
          refine lv_aload hx hb dK_part_44 (lv_at hl 0 rfl) ?_
          refine lv_iload_n hx hb dK_part_46 rfl (lv_at hl 4 rfl) ?_
          refine nw_bald hx hb hK hO kr24 (k := (379 + 36 * z27 + 10)) (pr_p3 (z := z27) (by omega)) hP (by omega) (by omega) dK_part_47 ?_
          refine lv_sipush (v := nI 255) hx hb dK_part_48 (by decide) ?_
          refine lv_iand hx hb dK_part_51 ?_
          refine et_ret ?_
          exact mp_iret hx hb hr hlk hP hD hS ((nI 0, ((q21.2.1 ((379 + 36 * z27 + 10)) z28) &&& (nI 255)), q21.2), pl) ⟨⟨hR.symm, rfl, rfl, hF, ⟨tl, hf21, by omega⟩, ⟨al, hf22, by omega⟩, ⟨pn, hf23, by omega⟩, trivial⟩, hO⟩ [] rfl rfl rfl (by omega) (by omega) dK_part_52
        · replace hR := hR.trans (if_neg h28)
          exact et_throw (own := "LatticeKeys") (cls := "java/lang/IndexOutOfBoundsException") (text := "no such byte in the part") (names := ["java/lang/RuntimeException", "java/lang/Exception"]) (ik := 90) (is := 161) (ic := 94) hx hb htr ctr_IOB_0 ctr_IOB_1 ctr_IOB_2 ctr_IOB_5 hown (by decide) (by decide) (hts _ (wg_t kw_535)) (hts _ (wg_t kw_20)) (hX.2.2.2.2.2.1 8 ("LatticeKeys", 161, "no such byte in the part") rfl) (hat_IOB hts hX.2) hS.1 (hl.1.trans hml.symm) dK_part_34 dK_part_37 dK_part_38 dK_part_40 dK_part_43 htab (Nat.le_of_ble_eq_true rfl) (Nat.le_of_ble_eq_true rfl) (Nat.le_of_ble_eq_true rfl) (Nat.le_of_ble_eq_true rfl) hlk (Nat.le_of_ble_eq_true rfl) (Nat.le_of_ble_eq_true rfl) (xls_at 1 (congrArg Prod.fst hR) (by decide) rfl) hS.2.2 (thr_st hX.2) (fun t hz9 hk9 => ⟨⟨((nI 2, nI 0, q21.2), pl), ⟨⟨hR.symm, hF, ⟨tl, hf21, by omega⟩, ⟨al, hf22, by omega⟩, ⟨pn, hf23, by omega⟩, trivial⟩, hO⟩, lc_P hP hk9, hD⟩, (lc_S hS hz9 hk9).F rfl⟩)
    replace hR := hR.trans (if_neg hs26)
    by_cases hs27 : q21.1 = nI 5
    · replace hR := hR.trans (if_pos hs27)
      obtain ⟨z29, q26, hz29, hv29, rfl, kr25⟩ := pfd_at (c := 4) hq21 (by decide) hs27
      have kr25 : T q26 = some (379 + 36 * z29 + 13) := kr25
      have ez29 : z29 = v.toNatClampNeg := by rw [hv29]; exact (nI_clamp (by omega)).symm
      replace hR := bnd_step hR ez29
      refine lv_astore (lv' := [(4, .ref q26), (0, .ref h0), (1, .int v), (2, .int sc), (3, .int v3)]) hx hb dK_part_6 hl (by decide) rfl (fun ls hl => ?_)
      refine lv_aload hx hb dK_part_8 (lv_at hl 0 rfl) ?_
      refine lv_ifnonnull (tgt := 23) hx hb dK_part_10 (by decide) ?_
      refine lv_iload_n hx hb dK_part_23 rfl (lv_at hl 4 rfl) ?_
      refine lv_if_lt (tgt := 34) hx hb dK_part_24 (by decide) (fun h29 => ?_) (fun h29 => ?_)
      · replace hR := hR.trans (if_pos h29)
        exact et_throw (own := "LatticeKeys") (cls := "java/lang/IndexOutOfBoundsException") (text := "no such byte in the part") (names := ["java/lang/RuntimeException", "java/lang/Exception"]) (ik := 90) (is := 161) (ic := 94) hx hb htr ctr_IOB_0 ctr_IOB_1 ctr_IOB_2 ctr_IOB_5 hown (by decide) (by decide) (hts _ (wg_t kw_535)) (hts _ (wg_t kw_20)) (hX.2.2.2.2.2.1 8 ("LatticeKeys", 161, "no such byte in the part") rfl) (hat_IOB hts hX.2) hS.1 (hl.1.trans hml.symm) dK_part_34 dK_part_37 dK_part_38 dK_part_40 dK_part_43 htab (Nat.le_of_ble_eq_true rfl) (Nat.le_of_ble_eq_true rfl) (Nat.le_of_ble_eq_true rfl) (Nat.le_of_ble_eq_true rfl) hlk (Nat.le_of_ble_eq_true rfl) (Nat.le_of_ble_eq_true rfl) (xls_at 1 (congrArg Prod.fst hR) (by decide) rfl) hS.2.2 (thr_st hX.2) (fun t hz9 hk9 => ⟨⟨((nI 2, nI 0, q21.2), pl), ⟨⟨hR.symm, hF, ⟨tl, hf21, by omega⟩, ⟨al, hf22, by omega⟩, ⟨pn, hf23, by omega⟩, trivial⟩, hO⟩, lc_P hP hk9, hD⟩, (lc_S hS hz9 hk9).F rfl⟩)
      · replace hR := hR.trans (if_neg h29)
        refine lv_iload_n hx hb dK_part_27 rfl (lv_at hl 4 rfl) ?_
        refine lv_aload hx hb dK_part_28 (lv_at hl 0 rfl) ?_
        refine nw_alen1 hx hb hK hO kr25 (k := (379 + 36 * z29 + 13)) (pr_p4 (z := z29) (by omega)) hP dK_part_30 ?_
        refine lv_icmp_lt (tgt := 44) hx hb dK_part_31 (by decide) (fun h30 => ?_) (fun h30 => ?_)
        · replace hR := hR.trans (if_pos h30)
          obtain ⟨z30, hz30, hv30⟩ := i32_ltc h29 (by omega) h30
          have ez30 : z30 = v3.toNatClampNeg := by rw [hv30]; exact (nI_clamp (by omega)).symm
          replace hR := bnd_step hR ez30
          rw [hv30] at hl
          refine lv_aload hx hb dK_part_44 (lv_at hl 0 rfl) ?_
          refine lv_iload_n hx hb dK_part_46 rfl (lv_at hl 4 rfl) ?_
          refine nw_bald hx hb hK hO kr25 (k := (379 + 36 * z29 + 13)) (pr_p4 (z := z29) (by omega)) hP (by omega) (by omega) dK_part_47 ?_
          refine lv_sipush (v := nI 255) hx hb dK_part_48 (by decide) ?_
          refine lv_iand hx hb dK_part_51 ?_
          refine et_ret ?_
          exact mp_iret hx hb hr hlk hP hD hS ((nI 0, ((q21.2.1 ((379 + 36 * z29 + 13)) z30) &&& (nI 255)), q21.2), pl) ⟨⟨hR.symm, rfl, rfl, hF, ⟨tl, hf21, by omega⟩, ⟨al, hf22, by omega⟩, ⟨pn, hf23, by omega⟩, trivial⟩, hO⟩ [] rfl rfl rfl (by omega) (by omega) dK_part_52
        · replace hR := hR.trans (if_neg h30)
          exact et_throw (own := "LatticeKeys") (cls := "java/lang/IndexOutOfBoundsException") (text := "no such byte in the part") (names := ["java/lang/RuntimeException", "java/lang/Exception"]) (ik := 90) (is := 161) (ic := 94) hx hb htr ctr_IOB_0 ctr_IOB_1 ctr_IOB_2 ctr_IOB_5 hown (by decide) (by decide) (hts _ (wg_t kw_535)) (hts _ (wg_t kw_20)) (hX.2.2.2.2.2.1 8 ("LatticeKeys", 161, "no such byte in the part") rfl) (hat_IOB hts hX.2) hS.1 (hl.1.trans hml.symm) dK_part_34 dK_part_37 dK_part_38 dK_part_40 dK_part_43 htab (Nat.le_of_ble_eq_true rfl) (Nat.le_of_ble_eq_true rfl) (Nat.le_of_ble_eq_true rfl) (Nat.le_of_ble_eq_true rfl) hlk (Nat.le_of_ble_eq_true rfl) (Nat.le_of_ble_eq_true rfl) (xls_at 1 (congrArg Prod.fst hR) (by decide) rfl) hS.2.2 (thr_st hX.2) (fun t hz9 hk9 => ⟨⟨((nI 2, nI 0, q21.2), pl), ⟨⟨hR.symm, hF, ⟨tl, hf21, by omega⟩, ⟨al, hf22, by omega⟩, ⟨pn, hf23, by omega⟩, trivial⟩, hO⟩, lc_P hP hk9, hD⟩, (lc_S hS hz9 hk9).F rfl⟩)
    replace hR := hR.trans (if_neg hs27)
    by_cases hs28 : q21.1 = nI 6
    · replace hR := hR.trans (if_pos hs28)
      obtain ⟨z31, q27, hz31, hv31, rfl, kr26⟩ := pfd_at (c := 5) hq21 (by decide) hs28
      have kr26 : T q27 = some (379 + 36 * z31 + 16) := kr26
      have ez31 : z31 = v.toNatClampNeg := by rw [hv31]; exact (nI_clamp (by omega)).symm
      replace hR := bnd_step hR ez31
      refine lv_astore (lv' := [(4, .ref q27), (0, .ref h0), (1, .int v), (2, .int sc), (3, .int v3)]) hx hb dK_part_6 hl (by decide) rfl (fun ls hl => ?_)
      refine lv_aload hx hb dK_part_8 (lv_at hl 0 rfl) ?_
      refine lv_ifnonnull (tgt := 23) hx hb dK_part_10 (by decide) ?_
      refine lv_iload_n hx hb dK_part_23 rfl (lv_at hl 4 rfl) ?_
      refine lv_if_lt (tgt := 34) hx hb dK_part_24 (by decide) (fun h31 => ?_) (fun h31 => ?_)
      · replace hR := hR.trans (if_pos h31)
        exact et_throw (own := "LatticeKeys") (cls := "java/lang/IndexOutOfBoundsException") (text := "no such byte in the part") (names := ["java/lang/RuntimeException", "java/lang/Exception"]) (ik := 90) (is := 161) (ic := 94) hx hb htr ctr_IOB_0 ctr_IOB_1 ctr_IOB_2 ctr_IOB_5 hown (by decide) (by decide) (hts _ (wg_t kw_535)) (hts _ (wg_t kw_20)) (hX.2.2.2.2.2.1 8 ("LatticeKeys", 161, "no such byte in the part") rfl) (hat_IOB hts hX.2) hS.1 (hl.1.trans hml.symm) dK_part_34 dK_part_37 dK_part_38 dK_part_40 dK_part_43 htab (Nat.le_of_ble_eq_true rfl) (Nat.le_of_ble_eq_true rfl) (Nat.le_of_ble_eq_true rfl) (Nat.le_of_ble_eq_true rfl) hlk (Nat.le_of_ble_eq_true rfl) (Nat.le_of_ble_eq_true rfl) (xls_at 1 (congrArg Prod.fst hR) (by decide) rfl) hS.2.2 (thr_st hX.2) (fun t hz9 hk9 => ⟨⟨((nI 2, nI 0, q21.2), pl), ⟨⟨hR.symm, hF, ⟨tl, hf21, by omega⟩, ⟨al, hf22, by omega⟩, ⟨pn, hf23, by omega⟩, trivial⟩, hO⟩, lc_P hP hk9, hD⟩, (lc_S hS hz9 hk9).F rfl⟩)
      · replace hR := hR.trans (if_neg h31)
        refine lv_iload_n hx hb dK_part_27 rfl (lv_at hl 4 rfl) ?_
        refine lv_aload hx hb dK_part_28 (lv_at hl 0 rfl) ?_
        refine nw_alen1 hx hb hK hO kr26 (k := (379 + 36 * z31 + 16)) (pr_p5 (z := z31) (by omega)) hP dK_part_30 ?_
        refine lv_icmp_lt (tgt := 44) hx hb dK_part_31 (by decide) (fun h32 => ?_) (fun h32 => ?_)
        · replace hR := hR.trans (if_pos h32)
          obtain ⟨z32, hz32, hv32⟩ := i32_ltc h31 (by omega) h32
          have ez32 : z32 = v3.toNatClampNeg := by rw [hv32]; exact (nI_clamp (by omega)).symm
          replace hR := bnd_step hR ez32
          rw [hv32] at hl
          refine lv_aload hx hb dK_part_44 (lv_at hl 0 rfl) ?_
          refine lv_iload_n hx hb dK_part_46 rfl (lv_at hl 4 rfl) ?_
          refine nw_bald hx hb hK hO kr26 (k := (379 + 36 * z31 + 16)) (pr_p5 (z := z31) (by omega)) hP (by omega) (by omega) dK_part_47 ?_
          refine lv_sipush (v := nI 255) hx hb dK_part_48 (by decide) ?_
          refine lv_iand hx hb dK_part_51 ?_
          refine et_ret ?_
          exact mp_iret hx hb hr hlk hP hD hS ((nI 0, ((q21.2.1 ((379 + 36 * z31 + 16)) z32) &&& (nI 255)), q21.2), pl) ⟨⟨hR.symm, rfl, rfl, hF, ⟨tl, hf21, by omega⟩, ⟨al, hf22, by omega⟩, ⟨pn, hf23, by omega⟩, trivial⟩, hO⟩ [] rfl rfl rfl (by omega) (by omega) dK_part_52
        · replace hR := hR.trans (if_neg h32)
          exact et_throw (own := "LatticeKeys") (cls := "java/lang/IndexOutOfBoundsException") (text := "no such byte in the part") (names := ["java/lang/RuntimeException", "java/lang/Exception"]) (ik := 90) (is := 161) (ic := 94) hx hb htr ctr_IOB_0 ctr_IOB_1 ctr_IOB_2 ctr_IOB_5 hown (by decide) (by decide) (hts _ (wg_t kw_535)) (hts _ (wg_t kw_20)) (hX.2.2.2.2.2.1 8 ("LatticeKeys", 161, "no such byte in the part") rfl) (hat_IOB hts hX.2) hS.1 (hl.1.trans hml.symm) dK_part_34 dK_part_37 dK_part_38 dK_part_40 dK_part_43 htab (Nat.le_of_ble_eq_true rfl) (Nat.le_of_ble_eq_true rfl) (Nat.le_of_ble_eq_true rfl) (Nat.le_of_ble_eq_true rfl) hlk (Nat.le_of_ble_eq_true rfl) (Nat.le_of_ble_eq_true rfl) (xls_at 1 (congrArg Prod.fst hR) (by decide) rfl) hS.2.2 (thr_st hX.2) (fun t hz9 hk9 => ⟨⟨((nI 2, nI 0, q21.2), pl), ⟨⟨hR.symm, hF, ⟨tl, hf21, by omega⟩, ⟨al, hf22, by omega⟩, ⟨pn, hf23, by omega⟩, trivial⟩, hO⟩, lc_P hP hk9, hD⟩, (lc_S hS hz9 hk9).F rfl⟩)
    replace hR := hR.trans (if_neg hs28)
    by_cases hs29 : q21.1 = nI 7
    · replace hR := hR.trans (if_pos hs29)
      obtain ⟨z33, q28, hz33, hv33, rfl, kr27⟩ := pfd_at (c := 6) hq21 (by decide) hs29
      have kr27 : T q28 = some (379 + 36 * z33 + 19) := kr27
      have ez33 : z33 = v.toNatClampNeg := by rw [hv33]; exact (nI_clamp (by omega)).symm
      replace hR := bnd_step hR ez33
      refine lv_astore (lv' := [(4, .ref q28), (0, .ref h0), (1, .int v), (2, .int sc), (3, .int v3)]) hx hb dK_part_6 hl (by decide) rfl (fun ls hl => ?_)
      refine lv_aload hx hb dK_part_8 (lv_at hl 0 rfl) ?_
      refine lv_ifnonnull (tgt := 23) hx hb dK_part_10 (by decide) ?_
      refine lv_iload_n hx hb dK_part_23 rfl (lv_at hl 4 rfl) ?_
      refine lv_if_lt (tgt := 34) hx hb dK_part_24 (by decide) (fun h33 => ?_) (fun h33 => ?_)
      · replace hR := hR.trans (if_pos h33)
        exact et_throw (own := "LatticeKeys") (cls := "java/lang/IndexOutOfBoundsException") (text := "no such byte in the part") (names := ["java/lang/RuntimeException", "java/lang/Exception"]) (ik := 90) (is := 161) (ic := 94) hx hb htr ctr_IOB_0 ctr_IOB_1 ctr_IOB_2 ctr_IOB_5 hown (by decide) (by decide) (hts _ (wg_t kw_535)) (hts _ (wg_t kw_20)) (hX.2.2.2.2.2.1 8 ("LatticeKeys", 161, "no such byte in the part") rfl) (hat_IOB hts hX.2) hS.1 (hl.1.trans hml.symm) dK_part_34 dK_part_37 dK_part_38 dK_part_40 dK_part_43 htab (Nat.le_of_ble_eq_true rfl) (Nat.le_of_ble_eq_true rfl) (Nat.le_of_ble_eq_true rfl) (Nat.le_of_ble_eq_true rfl) hlk (Nat.le_of_ble_eq_true rfl) (Nat.le_of_ble_eq_true rfl) (xls_at 1 (congrArg Prod.fst hR) (by decide) rfl) hS.2.2 (thr_st hX.2) (fun t hz9 hk9 => ⟨⟨((nI 2, nI 0, q21.2), pl), ⟨⟨hR.symm, hF, ⟨tl, hf21, by omega⟩, ⟨al, hf22, by omega⟩, ⟨pn, hf23, by omega⟩, trivial⟩, hO⟩, lc_P hP hk9, hD⟩, (lc_S hS hz9 hk9).F rfl⟩)
      · replace hR := hR.trans (if_neg h33)
        refine lv_iload_n hx hb dK_part_27 rfl (lv_at hl 4 rfl) ?_
        refine lv_aload hx hb dK_part_28 (lv_at hl 0 rfl) ?_
        refine nw_alen1 hx hb hK hO kr27 (k := (379 + 36 * z33 + 19)) (pr_p6 (z := z33) (by omega)) hP dK_part_30 ?_
        refine lv_icmp_lt (tgt := 44) hx hb dK_part_31 (by decide) (fun h34 => ?_) (fun h34 => ?_)
        · replace hR := hR.trans (if_pos h34)
          obtain ⟨z34, hz34, hv34⟩ := i32_ltc h33 (by omega) h34
          have ez34 : z34 = v3.toNatClampNeg := by rw [hv34]; exact (nI_clamp (by omega)).symm
          replace hR := bnd_step hR ez34
          rw [hv34] at hl
          refine lv_aload hx hb dK_part_44 (lv_at hl 0 rfl) ?_
          refine lv_iload_n hx hb dK_part_46 rfl (lv_at hl 4 rfl) ?_
          refine nw_bald hx hb hK hO kr27 (k := (379 + 36 * z33 + 19)) (pr_p6 (z := z33) (by omega)) hP (by omega) (by omega) dK_part_47 ?_
          refine lv_sipush (v := nI 255) hx hb dK_part_48 (by decide) ?_
          refine lv_iand hx hb dK_part_51 ?_
          refine et_ret ?_
          exact mp_iret hx hb hr hlk hP hD hS ((nI 0, ((q21.2.1 ((379 + 36 * z33 + 19)) z34) &&& (nI 255)), q21.2), pl) ⟨⟨hR.symm, rfl, rfl, hF, ⟨tl, hf21, by omega⟩, ⟨al, hf22, by omega⟩, ⟨pn, hf23, by omega⟩, trivial⟩, hO⟩ [] rfl rfl rfl (by omega) (by omega) dK_part_52
        · replace hR := hR.trans (if_neg h34)
          exact et_throw (own := "LatticeKeys") (cls := "java/lang/IndexOutOfBoundsException") (text := "no such byte in the part") (names := ["java/lang/RuntimeException", "java/lang/Exception"]) (ik := 90) (is := 161) (ic := 94) hx hb htr ctr_IOB_0 ctr_IOB_1 ctr_IOB_2 ctr_IOB_5 hown (by decide) (by decide) (hts _ (wg_t kw_535)) (hts _ (wg_t kw_20)) (hX.2.2.2.2.2.1 8 ("LatticeKeys", 161, "no such byte in the part") rfl) (hat_IOB hts hX.2) hS.1 (hl.1.trans hml.symm) dK_part_34 dK_part_37 dK_part_38 dK_part_40 dK_part_43 htab (Nat.le_of_ble_eq_true rfl) (Nat.le_of_ble_eq_true rfl) (Nat.le_of_ble_eq_true rfl) (Nat.le_of_ble_eq_true rfl) hlk (Nat.le_of_ble_eq_true rfl) (Nat.le_of_ble_eq_true rfl) (xls_at 1 (congrArg Prod.fst hR) (by decide) rfl) hS.2.2 (thr_st hX.2) (fun t hz9 hk9 => ⟨⟨((nI 2, nI 0, q21.2), pl), ⟨⟨hR.symm, hF, ⟨tl, hf21, by omega⟩, ⟨al, hf22, by omega⟩, ⟨pn, hf23, by omega⟩, trivial⟩, hO⟩, lc_P hP hk9, hD⟩, (lc_S hS hz9 hk9).F rfl⟩)
    replace hR := hR.trans (if_neg hs29)
    by_cases hs30 : q21.1 = nI 8
    · replace hR := hR.trans (if_pos hs30)
      obtain ⟨z35, q29, hz35, hv35, rfl, kr28⟩ := pfd_at (c := 7) hq21 (by decide) hs30
      have kr28 : T q29 = some (379 + 36 * z35 + 22) := kr28
      have ez35 : z35 = v.toNatClampNeg := by rw [hv35]; exact (nI_clamp (by omega)).symm
      replace hR := bnd_step hR ez35
      refine lv_astore (lv' := [(4, .ref q29), (0, .ref h0), (1, .int v), (2, .int sc), (3, .int v3)]) hx hb dK_part_6 hl (by decide) rfl (fun ls hl => ?_)
      refine lv_aload hx hb dK_part_8 (lv_at hl 0 rfl) ?_
      refine lv_ifnonnull (tgt := 23) hx hb dK_part_10 (by decide) ?_
      refine lv_iload_n hx hb dK_part_23 rfl (lv_at hl 4 rfl) ?_
      refine lv_if_lt (tgt := 34) hx hb dK_part_24 (by decide) (fun h35 => ?_) (fun h35 => ?_)
      · replace hR := hR.trans (if_pos h35)
        exact et_throw (own := "LatticeKeys") (cls := "java/lang/IndexOutOfBoundsException") (text := "no such byte in the part") (names := ["java/lang/RuntimeException", "java/lang/Exception"]) (ik := 90) (is := 161) (ic := 94) hx hb htr ctr_IOB_0 ctr_IOB_1 ctr_IOB_2 ctr_IOB_5 hown (by decide) (by decide) (hts _ (wg_t kw_535)) (hts _ (wg_t kw_20)) (hX.2.2.2.2.2.1 8 ("LatticeKeys", 161, "no such byte in the part") rfl) (hat_IOB hts hX.2) hS.1 (hl.1.trans hml.symm) dK_part_34 dK_part_37 dK_part_38 dK_part_40 dK_part_43 htab (Nat.le_of_ble_eq_true rfl) (Nat.le_of_ble_eq_true rfl) (Nat.le_of_ble_eq_true rfl) (Nat.le_of_ble_eq_true rfl) hlk (Nat.le_of_ble_eq_true rfl) (Nat.le_of_ble_eq_true rfl) (xls_at 1 (congrArg Prod.fst hR) (by decide) rfl) hS.2.2 (thr_st hX.2) (fun t hz9 hk9 => ⟨⟨((nI 2, nI 0, q21.2), pl), ⟨⟨hR.symm, hF, ⟨tl, hf21, by omega⟩, ⟨al, hf22, by omega⟩, ⟨pn, hf23, by omega⟩, trivial⟩, hO⟩, lc_P hP hk9, hD⟩, (lc_S hS hz9 hk9).F rfl⟩)
      · replace hR := hR.trans (if_neg h35)
        refine lv_iload_n hx hb dK_part_27 rfl (lv_at hl 4 rfl) ?_
        refine lv_aload hx hb dK_part_28 (lv_at hl 0 rfl) ?_
        refine nw_alen1 hx hb hK hO kr28 (k := (379 + 36 * z35 + 22)) (pr_p7 (z := z35) (by omega)) hP dK_part_30 ?_
        refine lv_icmp_lt (tgt := 44) hx hb dK_part_31 (by decide) (fun h36 => ?_) (fun h36 => ?_)
        · replace hR := hR.trans (if_pos h36)
          obtain ⟨z36, hz36, hv36⟩ := i32_ltc h35 (by omega) h36
          have ez36 : z36 = v3.toNatClampNeg := by rw [hv36]; exact (nI_clamp (by omega)).symm
          replace hR := bnd_step hR ez36
          rw [hv36] at hl
          refine lv_aload hx hb dK_part_44 (lv_at hl 0 rfl) ?_
          refine lv_iload_n hx hb dK_part_46 rfl (lv_at hl 4 rfl) ?_
          refine nw_bald hx hb hK hO kr28 (k := (379 + 36 * z35 + 22)) (pr_p7 (z := z35) (by omega)) hP (by omega) (by omega) dK_part_47 ?_
          refine lv_sipush (v := nI 255) hx hb dK_part_48 (by decide) ?_
          refine lv_iand hx hb dK_part_51 ?_
          refine et_ret ?_
          exact mp_iret hx hb hr hlk hP hD hS ((nI 0, ((q21.2.1 ((379 + 36 * z35 + 22)) z36) &&& (nI 255)), q21.2), pl) ⟨⟨hR.symm, rfl, rfl, hF, ⟨tl, hf21, by omega⟩, ⟨al, hf22, by omega⟩, ⟨pn, hf23, by omega⟩, trivial⟩, hO⟩ [] rfl rfl rfl (by omega) (by omega) dK_part_52
        · replace hR := hR.trans (if_neg h36)
          exact et_throw (own := "LatticeKeys") (cls := "java/lang/IndexOutOfBoundsException") (text := "no such byte in the part") (names := ["java/lang/RuntimeException", "java/lang/Exception"]) (ik := 90) (is := 161) (ic := 94) hx hb htr ctr_IOB_0 ctr_IOB_1 ctr_IOB_2 ctr_IOB_5 hown (by decide) (by decide) (hts _ (wg_t kw_535)) (hts _ (wg_t kw_20)) (hX.2.2.2.2.2.1 8 ("LatticeKeys", 161, "no such byte in the part") rfl) (hat_IOB hts hX.2) hS.1 (hl.1.trans hml.symm) dK_part_34 dK_part_37 dK_part_38 dK_part_40 dK_part_43 htab (Nat.le_of_ble_eq_true rfl) (Nat.le_of_ble_eq_true rfl) (Nat.le_of_ble_eq_true rfl) (Nat.le_of_ble_eq_true rfl) hlk (Nat.le_of_ble_eq_true rfl) (Nat.le_of_ble_eq_true rfl) (xls_at 1 (congrArg Prod.fst hR) (by decide) rfl) hS.2.2 (thr_st hX.2) (fun t hz9 hk9 => ⟨⟨((nI 2, nI 0, q21.2), pl), ⟨⟨hR.symm, hF, ⟨tl, hf21, by omega⟩, ⟨al, hf22, by omega⟩, ⟨pn, hf23, by omega⟩, trivial⟩, hO⟩, lc_P hP hk9, hD⟩, (lc_S hS hz9 hk9).F rfl⟩)
    replace hR := hR.trans (if_neg hs30)
    by_cases hs31 : q21.1 = nI 9
    · replace hR := hR.trans (if_pos hs31)
      obtain ⟨z37, q30, hz37, hv37, rfl, kr29⟩ := pfd_at (c := 8) hq21 (by decide) hs31
      have kr29 : T q30 = some (379 + 36 * z37 + 25) := kr29
      have ez37 : z37 = v.toNatClampNeg := by rw [hv37]; exact (nI_clamp (by omega)).symm
      replace hR := bnd_step hR ez37
      refine lv_astore (lv' := [(4, .ref q30), (0, .ref h0), (1, .int v), (2, .int sc), (3, .int v3)]) hx hb dK_part_6 hl (by decide) rfl (fun ls hl => ?_)
      refine lv_aload hx hb dK_part_8 (lv_at hl 0 rfl) ?_
      refine lv_ifnonnull (tgt := 23) hx hb dK_part_10 (by decide) ?_
      refine lv_iload_n hx hb dK_part_23 rfl (lv_at hl 4 rfl) ?_
      refine lv_if_lt (tgt := 34) hx hb dK_part_24 (by decide) (fun h37 => ?_) (fun h37 => ?_)
      · replace hR := hR.trans (if_pos h37)
        exact et_throw (own := "LatticeKeys") (cls := "java/lang/IndexOutOfBoundsException") (text := "no such byte in the part") (names := ["java/lang/RuntimeException", "java/lang/Exception"]) (ik := 90) (is := 161) (ic := 94) hx hb htr ctr_IOB_0 ctr_IOB_1 ctr_IOB_2 ctr_IOB_5 hown (by decide) (by decide) (hts _ (wg_t kw_535)) (hts _ (wg_t kw_20)) (hX.2.2.2.2.2.1 8 ("LatticeKeys", 161, "no such byte in the part") rfl) (hat_IOB hts hX.2) hS.1 (hl.1.trans hml.symm) dK_part_34 dK_part_37 dK_part_38 dK_part_40 dK_part_43 htab (Nat.le_of_ble_eq_true rfl) (Nat.le_of_ble_eq_true rfl) (Nat.le_of_ble_eq_true rfl) (Nat.le_of_ble_eq_true rfl) hlk (Nat.le_of_ble_eq_true rfl) (Nat.le_of_ble_eq_true rfl) (xls_at 1 (congrArg Prod.fst hR) (by decide) rfl) hS.2.2 (thr_st hX.2) (fun t hz9 hk9 => ⟨⟨((nI 2, nI 0, q21.2), pl), ⟨⟨hR.symm, hF, ⟨tl, hf21, by omega⟩, ⟨al, hf22, by omega⟩, ⟨pn, hf23, by omega⟩, trivial⟩, hO⟩, lc_P hP hk9, hD⟩, (lc_S hS hz9 hk9).F rfl⟩)
      · replace hR := hR.trans (if_neg h37)
        refine lv_iload_n hx hb dK_part_27 rfl (lv_at hl 4 rfl) ?_
        refine lv_aload hx hb dK_part_28 (lv_at hl 0 rfl) ?_
        refine nw_alen1 hx hb hK hO kr29 (k := (379 + 36 * z37 + 25)) (pr_p8 (z := z37) (by omega)) hP dK_part_30 ?_
        refine lv_icmp_lt (tgt := 44) hx hb dK_part_31 (by decide) (fun h38 => ?_) (fun h38 => ?_)
        · replace hR := hR.trans (if_pos h38)
          obtain ⟨z38, hz38, hv38⟩ := i32_ltc h37 (by omega) h38
          have ez38 : z38 = v3.toNatClampNeg := by rw [hv38]; exact (nI_clamp (by omega)).symm
          replace hR := bnd_step hR ez38
          rw [hv38] at hl
          refine lv_aload hx hb dK_part_44 (lv_at hl 0 rfl) ?_
          refine lv_iload_n hx hb dK_part_46 rfl (lv_at hl 4 rfl) ?_
          refine nw_bald hx hb hK hO kr29 (k := (379 + 36 * z37 + 25)) (pr_p8 (z := z37) (by omega)) hP (by omega) (by omega) dK_part_47 ?_
          refine lv_sipush (v := nI 255) hx hb dK_part_48 (by decide) ?_
          refine lv_iand hx hb dK_part_51 ?_
          refine et_ret ?_
          exact mp_iret hx hb hr hlk hP hD hS ((nI 0, ((q21.2.1 ((379 + 36 * z37 + 25)) z38) &&& (nI 255)), q21.2), pl) ⟨⟨hR.symm, rfl, rfl, hF, ⟨tl, hf21, by omega⟩, ⟨al, hf22, by omega⟩, ⟨pn, hf23, by omega⟩, trivial⟩, hO⟩ [] rfl rfl rfl (by omega) (by omega) dK_part_52
        · replace hR := hR.trans (if_neg h38)
          exact et_throw (own := "LatticeKeys") (cls := "java/lang/IndexOutOfBoundsException") (text := "no such byte in the part") (names := ["java/lang/RuntimeException", "java/lang/Exception"]) (ik := 90) (is := 161) (ic := 94) hx hb htr ctr_IOB_0 ctr_IOB_1 ctr_IOB_2 ctr_IOB_5 hown (by decide) (by decide) (hts _ (wg_t kw_535)) (hts _ (wg_t kw_20)) (hX.2.2.2.2.2.1 8 ("LatticeKeys", 161, "no such byte in the part") rfl) (hat_IOB hts hX.2) hS.1 (hl.1.trans hml.symm) dK_part_34 dK_part_37 dK_part_38 dK_part_40 dK_part_43 htab (Nat.le_of_ble_eq_true rfl) (Nat.le_of_ble_eq_true rfl) (Nat.le_of_ble_eq_true rfl) (Nat.le_of_ble_eq_true rfl) hlk (Nat.le_of_ble_eq_true rfl) (Nat.le_of_ble_eq_true rfl) (xls_at 1 (congrArg Prod.fst hR) (by decide) rfl) hS.2.2 (thr_st hX.2) (fun t hz9 hk9 => ⟨⟨((nI 2, nI 0, q21.2), pl), ⟨⟨hR.symm, hF, ⟨tl, hf21, by omega⟩, ⟨al, hf22, by omega⟩, ⟨pn, hf23, by omega⟩, trivial⟩, hO⟩, lc_P hP hk9, hD⟩, (lc_S hS hz9 hk9).F rfl⟩)
    replace hR := hR.trans (if_neg hs31)
    by_cases hs32 : q21.1 = nI 10
    · replace hR := hR.trans (if_pos hs32)
      obtain ⟨z39, q31, hz39, hv39, rfl, kr30⟩ := pfd_at (c := 9) hq21 (by decide) hs32
      have kr30 : T q31 = some (379 + 36 * z39 + 28) := kr30
      have ez39 : z39 = v.toNatClampNeg := by rw [hv39]; exact (nI_clamp (by omega)).symm
      replace hR := bnd_step hR ez39
      refine lv_astore (lv' := [(4, .ref q31), (0, .ref h0), (1, .int v), (2, .int sc), (3, .int v3)]) hx hb dK_part_6 hl (by decide) rfl (fun ls hl => ?_)
      refine lv_aload hx hb dK_part_8 (lv_at hl 0 rfl) ?_
      refine lv_ifnonnull (tgt := 23) hx hb dK_part_10 (by decide) ?_
      refine lv_iload_n hx hb dK_part_23 rfl (lv_at hl 4 rfl) ?_
      refine lv_if_lt (tgt := 34) hx hb dK_part_24 (by decide) (fun h39 => ?_) (fun h39 => ?_)
      · replace hR := hR.trans (if_pos h39)
        exact et_throw (own := "LatticeKeys") (cls := "java/lang/IndexOutOfBoundsException") (text := "no such byte in the part") (names := ["java/lang/RuntimeException", "java/lang/Exception"]) (ik := 90) (is := 161) (ic := 94) hx hb htr ctr_IOB_0 ctr_IOB_1 ctr_IOB_2 ctr_IOB_5 hown (by decide) (by decide) (hts _ (wg_t kw_535)) (hts _ (wg_t kw_20)) (hX.2.2.2.2.2.1 8 ("LatticeKeys", 161, "no such byte in the part") rfl) (hat_IOB hts hX.2) hS.1 (hl.1.trans hml.symm) dK_part_34 dK_part_37 dK_part_38 dK_part_40 dK_part_43 htab (Nat.le_of_ble_eq_true rfl) (Nat.le_of_ble_eq_true rfl) (Nat.le_of_ble_eq_true rfl) (Nat.le_of_ble_eq_true rfl) hlk (Nat.le_of_ble_eq_true rfl) (Nat.le_of_ble_eq_true rfl) (xls_at 1 (congrArg Prod.fst hR) (by decide) rfl) hS.2.2 (thr_st hX.2) (fun t hz9 hk9 => ⟨⟨((nI 2, nI 0, q21.2), pl), ⟨⟨hR.symm, hF, ⟨tl, hf21, by omega⟩, ⟨al, hf22, by omega⟩, ⟨pn, hf23, by omega⟩, trivial⟩, hO⟩, lc_P hP hk9, hD⟩, (lc_S hS hz9 hk9).F rfl⟩)
      · replace hR := hR.trans (if_neg h39)
        refine lv_iload_n hx hb dK_part_27 rfl (lv_at hl 4 rfl) ?_
        refine lv_aload hx hb dK_part_28 (lv_at hl 0 rfl) ?_
        refine nw_alen1 hx hb hK hO kr30 (k := (379 + 36 * z39 + 28)) (pr_p9 (z := z39) (by omega)) hP dK_part_30 ?_
        refine lv_icmp_lt (tgt := 44) hx hb dK_part_31 (by decide) (fun h40 => ?_) (fun h40 => ?_)
        · replace hR := hR.trans (if_pos h40)
          obtain ⟨z40, hz40, hv40⟩ := i32_ltc h39 (by omega) h40
          have ez40 : z40 = v3.toNatClampNeg := by rw [hv40]; exact (nI_clamp (by omega)).symm
          replace hR := bnd_step hR ez40
          rw [hv40] at hl
          refine lv_aload hx hb dK_part_44 (lv_at hl 0 rfl) ?_
          refine lv_iload_n hx hb dK_part_46 rfl (lv_at hl 4 rfl) ?_
          refine nw_bald hx hb hK hO kr30 (k := (379 + 36 * z39 + 28)) (pr_p9 (z := z39) (by omega)) hP (by omega) (by omega) dK_part_47 ?_
          refine lv_sipush (v := nI 255) hx hb dK_part_48 (by decide) ?_
          refine lv_iand hx hb dK_part_51 ?_
          refine et_ret ?_
          exact mp_iret hx hb hr hlk hP hD hS ((nI 0, ((q21.2.1 ((379 + 36 * z39 + 28)) z40) &&& (nI 255)), q21.2), pl) ⟨⟨hR.symm, rfl, rfl, hF, ⟨tl, hf21, by omega⟩, ⟨al, hf22, by omega⟩, ⟨pn, hf23, by omega⟩, trivial⟩, hO⟩ [] rfl rfl rfl (by omega) (by omega) dK_part_52
        · replace hR := hR.trans (if_neg h40)
          exact et_throw (own := "LatticeKeys") (cls := "java/lang/IndexOutOfBoundsException") (text := "no such byte in the part") (names := ["java/lang/RuntimeException", "java/lang/Exception"]) (ik := 90) (is := 161) (ic := 94) hx hb htr ctr_IOB_0 ctr_IOB_1 ctr_IOB_2 ctr_IOB_5 hown (by decide) (by decide) (hts _ (wg_t kw_535)) (hts _ (wg_t kw_20)) (hX.2.2.2.2.2.1 8 ("LatticeKeys", 161, "no such byte in the part") rfl) (hat_IOB hts hX.2) hS.1 (hl.1.trans hml.symm) dK_part_34 dK_part_37 dK_part_38 dK_part_40 dK_part_43 htab (Nat.le_of_ble_eq_true rfl) (Nat.le_of_ble_eq_true rfl) (Nat.le_of_ble_eq_true rfl) (Nat.le_of_ble_eq_true rfl) hlk (Nat.le_of_ble_eq_true rfl) (Nat.le_of_ble_eq_true rfl) (xls_at 1 (congrArg Prod.fst hR) (by decide) rfl) hS.2.2 (thr_st hX.2) (fun t hz9 hk9 => ⟨⟨((nI 2, nI 0, q21.2), pl), ⟨⟨hR.symm, hF, ⟨tl, hf21, by omega⟩, ⟨al, hf22, by omega⟩, ⟨pn, hf23, by omega⟩, trivial⟩, hO⟩, lc_P hP hk9, hD⟩, (lc_S hS hz9 hk9).F rfl⟩)
    replace hR := hR.trans (if_neg hs32)
    by_cases hs33 : q21.1 = nI 11
    · replace hR := hR.trans (if_pos hs33)
      obtain ⟨z41, q32, hz41, hv41, rfl, kr31⟩ := pfd_at (c := 10) hq21 (by decide) hs33
      have kr31 : T q32 = some (379 + 36 * z41 + 31) := kr31
      have ez41 : z41 = v.toNatClampNeg := by rw [hv41]; exact (nI_clamp (by omega)).symm
      replace hR := bnd_step hR ez41
      refine lv_astore (lv' := [(4, .ref q32), (0, .ref h0), (1, .int v), (2, .int sc), (3, .int v3)]) hx hb dK_part_6 hl (by decide) rfl (fun ls hl => ?_)
      refine lv_aload hx hb dK_part_8 (lv_at hl 0 rfl) ?_
      refine lv_ifnonnull (tgt := 23) hx hb dK_part_10 (by decide) ?_
      refine lv_iload_n hx hb dK_part_23 rfl (lv_at hl 4 rfl) ?_
      refine lv_if_lt (tgt := 34) hx hb dK_part_24 (by decide) (fun h41 => ?_) (fun h41 => ?_)
      · replace hR := hR.trans (if_pos h41)
        exact et_throw (own := "LatticeKeys") (cls := "java/lang/IndexOutOfBoundsException") (text := "no such byte in the part") (names := ["java/lang/RuntimeException", "java/lang/Exception"]) (ik := 90) (is := 161) (ic := 94) hx hb htr ctr_IOB_0 ctr_IOB_1 ctr_IOB_2 ctr_IOB_5 hown (by decide) (by decide) (hts _ (wg_t kw_535)) (hts _ (wg_t kw_20)) (hX.2.2.2.2.2.1 8 ("LatticeKeys", 161, "no such byte in the part") rfl) (hat_IOB hts hX.2) hS.1 (hl.1.trans hml.symm) dK_part_34 dK_part_37 dK_part_38 dK_part_40 dK_part_43 htab (Nat.le_of_ble_eq_true rfl) (Nat.le_of_ble_eq_true rfl) (Nat.le_of_ble_eq_true rfl) (Nat.le_of_ble_eq_true rfl) hlk (Nat.le_of_ble_eq_true rfl) (Nat.le_of_ble_eq_true rfl) (xls_at 1 (congrArg Prod.fst hR) (by decide) rfl) hS.2.2 (thr_st hX.2) (fun t hz9 hk9 => ⟨⟨((nI 2, nI 0, q21.2), pl), ⟨⟨hR.symm, hF, ⟨tl, hf21, by omega⟩, ⟨al, hf22, by omega⟩, ⟨pn, hf23, by omega⟩, trivial⟩, hO⟩, lc_P hP hk9, hD⟩, (lc_S hS hz9 hk9).F rfl⟩)
      · replace hR := hR.trans (if_neg h41)
        refine lv_iload_n hx hb dK_part_27 rfl (lv_at hl 4 rfl) ?_
        refine lv_aload hx hb dK_part_28 (lv_at hl 0 rfl) ?_
        refine nw_alen1 hx hb hK hO kr31 (k := (379 + 36 * z41 + 31)) (pr_p10 (z := z41) (by omega)) hP dK_part_30 ?_
        refine lv_icmp_lt (tgt := 44) hx hb dK_part_31 (by decide) (fun h42 => ?_) (fun h42 => ?_)
        · replace hR := hR.trans (if_pos h42)
          obtain ⟨z42, hz42, hv42⟩ := i32_ltc h41 (by omega) h42
          have ez42 : z42 = v3.toNatClampNeg := by rw [hv42]; exact (nI_clamp (by omega)).symm
          replace hR := bnd_step hR ez42
          rw [hv42] at hl
          refine lv_aload hx hb dK_part_44 (lv_at hl 0 rfl) ?_
          refine lv_iload_n hx hb dK_part_46 rfl (lv_at hl 4 rfl) ?_
          refine nw_bald hx hb hK hO kr31 (k := (379 + 36 * z41 + 31)) (pr_p10 (z := z41) (by omega)) hP (by omega) (by omega) dK_part_47 ?_
          refine lv_sipush (v := nI 255) hx hb dK_part_48 (by decide) ?_
          refine lv_iand hx hb dK_part_51 ?_
          refine et_ret ?_
          exact mp_iret hx hb hr hlk hP hD hS ((nI 0, ((q21.2.1 ((379 + 36 * z41 + 31)) z42) &&& (nI 255)), q21.2), pl) ⟨⟨hR.symm, rfl, rfl, hF, ⟨tl, hf21, by omega⟩, ⟨al, hf22, by omega⟩, ⟨pn, hf23, by omega⟩, trivial⟩, hO⟩ [] rfl rfl rfl (by omega) (by omega) dK_part_52
        · replace hR := hR.trans (if_neg h42)
          exact et_throw (own := "LatticeKeys") (cls := "java/lang/IndexOutOfBoundsException") (text := "no such byte in the part") (names := ["java/lang/RuntimeException", "java/lang/Exception"]) (ik := 90) (is := 161) (ic := 94) hx hb htr ctr_IOB_0 ctr_IOB_1 ctr_IOB_2 ctr_IOB_5 hown (by decide) (by decide) (hts _ (wg_t kw_535)) (hts _ (wg_t kw_20)) (hX.2.2.2.2.2.1 8 ("LatticeKeys", 161, "no such byte in the part") rfl) (hat_IOB hts hX.2) hS.1 (hl.1.trans hml.symm) dK_part_34 dK_part_37 dK_part_38 dK_part_40 dK_part_43 htab (Nat.le_of_ble_eq_true rfl) (Nat.le_of_ble_eq_true rfl) (Nat.le_of_ble_eq_true rfl) (Nat.le_of_ble_eq_true rfl) hlk (Nat.le_of_ble_eq_true rfl) (Nat.le_of_ble_eq_true rfl) (xls_at 1 (congrArg Prod.fst hR) (by decide) rfl) hS.2.2 (thr_st hX.2) (fun t hz9 hk9 => ⟨⟨((nI 2, nI 0, q21.2), pl), ⟨⟨hR.symm, hF, ⟨tl, hf21, by omega⟩, ⟨al, hf22, by omega⟩, ⟨pn, hf23, by omega⟩, trivial⟩, hO⟩, lc_P hP hk9, hD⟩, (lc_S hS hz9 hk9).F rfl⟩)
    replace hR := hR.trans (if_neg hs33)
    by_cases hs34 : q21.1 = nI 12
    · replace hR := hR.trans (if_pos hs34)
      obtain ⟨z43, q33, hz43, hv43, rfl, kr32⟩ := pfd_at (c := 11) hq21 (by decide) hs34
      have kr32 : T q33 = some (379 + 36 * z43 + 34) := kr32
      have ez43 : z43 = v.toNatClampNeg := by rw [hv43]; exact (nI_clamp (by omega)).symm
      replace hR := bnd_step hR ez43
      refine lv_astore (lv' := [(4, .ref q33), (0, .ref h0), (1, .int v), (2, .int sc), (3, .int v3)]) hx hb dK_part_6 hl (by decide) rfl (fun ls hl => ?_)
      refine lv_aload hx hb dK_part_8 (lv_at hl 0 rfl) ?_
      refine lv_ifnonnull (tgt := 23) hx hb dK_part_10 (by decide) ?_
      refine lv_iload_n hx hb dK_part_23 rfl (lv_at hl 4 rfl) ?_
      refine lv_if_lt (tgt := 34) hx hb dK_part_24 (by decide) (fun h43 => ?_) (fun h43 => ?_)
      · replace hR := hR.trans (if_pos h43)
        exact et_throw (own := "LatticeKeys") (cls := "java/lang/IndexOutOfBoundsException") (text := "no such byte in the part") (names := ["java/lang/RuntimeException", "java/lang/Exception"]) (ik := 90) (is := 161) (ic := 94) hx hb htr ctr_IOB_0 ctr_IOB_1 ctr_IOB_2 ctr_IOB_5 hown (by decide) (by decide) (hts _ (wg_t kw_535)) (hts _ (wg_t kw_20)) (hX.2.2.2.2.2.1 8 ("LatticeKeys", 161, "no such byte in the part") rfl) (hat_IOB hts hX.2) hS.1 (hl.1.trans hml.symm) dK_part_34 dK_part_37 dK_part_38 dK_part_40 dK_part_43 htab (Nat.le_of_ble_eq_true rfl) (Nat.le_of_ble_eq_true rfl) (Nat.le_of_ble_eq_true rfl) (Nat.le_of_ble_eq_true rfl) hlk (Nat.le_of_ble_eq_true rfl) (Nat.le_of_ble_eq_true rfl) (xls_at 1 (congrArg Prod.fst hR) (by decide) rfl) hS.2.2 (thr_st hX.2) (fun t hz9 hk9 => ⟨⟨((nI 2, nI 0, q21.2), pl), ⟨⟨hR.symm, hF, ⟨tl, hf21, by omega⟩, ⟨al, hf22, by omega⟩, ⟨pn, hf23, by omega⟩, trivial⟩, hO⟩, lc_P hP hk9, hD⟩, (lc_S hS hz9 hk9).F rfl⟩)
      · replace hR := hR.trans (if_neg h43)
        refine lv_iload_n hx hb dK_part_27 rfl (lv_at hl 4 rfl) ?_
        refine lv_aload hx hb dK_part_28 (lv_at hl 0 rfl) ?_
        refine nw_alen1 hx hb hK hO kr32 (k := (379 + 36 * z43 + 34)) (pr_p11 (z := z43) (by omega)) hP dK_part_30 ?_
        refine lv_icmp_lt (tgt := 44) hx hb dK_part_31 (by decide) (fun h44 => ?_) (fun h44 => ?_)
        · replace hR := hR.trans (if_pos h44)
          obtain ⟨z44, hz44, hv44⟩ := i32_ltc h43 (by omega) h44
          have ez44 : z44 = v3.toNatClampNeg := by rw [hv44]; exact (nI_clamp (by omega)).symm
          replace hR := bnd_step hR ez44
          rw [hv44] at hl
          refine lv_aload hx hb dK_part_44 (lv_at hl 0 rfl) ?_
          refine lv_iload_n hx hb dK_part_46 rfl (lv_at hl 4 rfl) ?_
          refine nw_bald hx hb hK hO kr32 (k := (379 + 36 * z43 + 34)) (pr_p11 (z := z43) (by omega)) hP (by omega) (by omega) dK_part_47 ?_
          refine lv_sipush (v := nI 255) hx hb dK_part_48 (by decide) ?_
          refine lv_iand hx hb dK_part_51 ?_
          refine et_ret ?_
          exact mp_iret hx hb hr hlk hP hD hS ((nI 0, ((q21.2.1 ((379 + 36 * z43 + 34)) z44) &&& (nI 255)), q21.2), pl) ⟨⟨hR.symm, rfl, rfl, hF, ⟨tl, hf21, by omega⟩, ⟨al, hf22, by omega⟩, ⟨pn, hf23, by omega⟩, trivial⟩, hO⟩ [] rfl rfl rfl (by omega) (by omega) dK_part_52
        · replace hR := hR.trans (if_neg h44)
          exact et_throw (own := "LatticeKeys") (cls := "java/lang/IndexOutOfBoundsException") (text := "no such byte in the part") (names := ["java/lang/RuntimeException", "java/lang/Exception"]) (ik := 90) (is := 161) (ic := 94) hx hb htr ctr_IOB_0 ctr_IOB_1 ctr_IOB_2 ctr_IOB_5 hown (by decide) (by decide) (hts _ (wg_t kw_535)) (hts _ (wg_t kw_20)) (hX.2.2.2.2.2.1 8 ("LatticeKeys", 161, "no such byte in the part") rfl) (hat_IOB hts hX.2) hS.1 (hl.1.trans hml.symm) dK_part_34 dK_part_37 dK_part_38 dK_part_40 dK_part_43 htab (Nat.le_of_ble_eq_true rfl) (Nat.le_of_ble_eq_true rfl) (Nat.le_of_ble_eq_true rfl) (Nat.le_of_ble_eq_true rfl) hlk (Nat.le_of_ble_eq_true rfl) (Nat.le_of_ble_eq_true rfl) (xls_at 1 (congrArg Prod.fst hR) (by decide) rfl) hS.2.2 (thr_st hX.2) (fun t hz9 hk9 => ⟨⟨((nI 2, nI 0, q21.2), pl), ⟨⟨hR.symm, hF, ⟨tl, hf21, by omega⟩, ⟨al, hf22, by omega⟩, ⟨pn, hf23, by omega⟩, trivial⟩, hO⟩, lc_P hP hk9, hD⟩, (lc_S hS hz9 hk9).F rfl⟩)
    replace hR := hR.trans (if_neg hs34)
    obtain ⟨c9, hc9, e9⟩ := pfd_mem hq21 hs22
    simp only [List.mem_cons, List.not_mem_nil, or_false] at hc9
    rcases hc9 with rfl | rfl | rfl | rfl | rfl | rfl | rfl | rfl | rfl | rfl | rfl | rfl
    · exact absurd e9 hs23
    · exact absurd e9 hs24
    · exact absurd e9 hs25
    · exact absurd e9 hs26
    · exact absurd e9 hs27
    · exact absurd e9 hs28
    · exact absurd e9 hs29
    · exact absurd e9 hs30
    · exact absurd e9 hs31
    · exact absurd e9 hs32
    · exact absurd e9 hs33
    · exact absurd e9 hs34
  replace hR := hR.trans (if_neg hs21)
  have hq21 := hq21.2 hs21
  by_cases hs35 : q21.1 = nI 0
  · replace hR := hR.trans (if_pos hs35)
    obtain rfl : r21 = none := pfd_none hq21 hs35
    refine lv_astoreN (lv' := [(4, .null), (0, .ref h0), (1, .int v), (2, .int sc), (3, .int v3)]) hx hb dK_part_6 hl (by decide) rfl (fun ls hl => ?_)
    refine lv_aloadN hx hb dK_part_8 (lv_at hl 0 rfl) ?_
    refine lv_ifnonnullN hx hb dK_part_10 ?_
    exact et_throw (own := "LatticeKeys") (cls := "java/util/NoSuchElementException") (text := "no such keys or part") (names := ["java/lang/RuntimeException", "java/lang/Exception"]) (ik := 156) (is := 158) (ic := 160) hx hb htr ctr_NSE_0 ctr_NSE_1 ctr_NSE_2 ctr_NSE_5 hown (by decide) (by decide) (hts _ (wg_t kw_1064)) (hts _ (wg_t kw_34)) (hX.2.2.2.2.2.1 7 ("LatticeKeys", 158, "no such keys or part") rfl) (hat_NSE hts hX.2) hS.1 (hl.1.trans hml.symm) dK_part_13 dK_part_16 dK_part_17 dK_part_19 dK_part_22 htab (Nat.le_of_ble_eq_true rfl) (Nat.le_of_ble_eq_true rfl) (Nat.le_of_ble_eq_true rfl) (Nat.le_of_ble_eq_true rfl) hlk (Nat.le_of_ble_eq_true rfl) (Nat.le_of_ble_eq_true rfl) (xls_at 0 (congrArg Prod.fst hR) (by decide) rfl) hS.2.2 (thr_st hX.2) (fun t hz9 hk9 => ⟨⟨((nI 1, nI 0, q21.2), pl), ⟨⟨hR.symm, hF, ⟨tl, hf21, by omega⟩, ⟨al, hf22, by omega⟩, ⟨pn, hf23, by omega⟩, trivial⟩, hO⟩, lc_P hP hk9, hD⟩, (lc_S hS hz9 hk9).F rfl⟩)
  replace hR := hR.trans (if_neg hs35)
  by_cases hs36 : q21.1 = nI 1
  · replace hR := hR.trans (if_pos hs36)
    obtain ⟨z45, q34, hz45, hv45, rfl, kr33⟩ := pfd_at (c := 0) hq21 (by decide) hs36
    have kr33 : T q34 = some (379 + 36 * z45 + 2) := kr33
    have ez45 : z45 = v.toNatClampNeg := by rw [hv45]; exact (nI_clamp (by omega)).symm
    replace hR := bnd_step hR ez45
    refine lv_astore (lv' := [(4, .ref q34), (0, .ref h0), (1, .int v), (2, .int sc), (3, .int v3)]) hx hb dK_part_6 hl (by decide) rfl (fun ls hl => ?_)
    refine lv_aload hx hb dK_part_8 (lv_at hl 0 rfl) ?_
    refine lv_ifnonnull (tgt := 23) hx hb dK_part_10 (by decide) ?_
    refine lv_iload_n hx hb dK_part_23 rfl (lv_at hl 4 rfl) ?_
    refine lv_if_lt (tgt := 34) hx hb dK_part_24 (by decide) (fun h45 => ?_) (fun h45 => ?_)
    · replace hR := hR.trans (if_pos h45)
      exact et_throw (own := "LatticeKeys") (cls := "java/lang/IndexOutOfBoundsException") (text := "no such byte in the part") (names := ["java/lang/RuntimeException", "java/lang/Exception"]) (ik := 90) (is := 161) (ic := 94) hx hb htr ctr_IOB_0 ctr_IOB_1 ctr_IOB_2 ctr_IOB_5 hown (by decide) (by decide) (hts _ (wg_t kw_535)) (hts _ (wg_t kw_20)) (hX.2.2.2.2.2.1 8 ("LatticeKeys", 161, "no such byte in the part") rfl) (hat_IOB hts hX.2) hS.1 (hl.1.trans hml.symm) dK_part_34 dK_part_37 dK_part_38 dK_part_40 dK_part_43 htab (Nat.le_of_ble_eq_true rfl) (Nat.le_of_ble_eq_true rfl) (Nat.le_of_ble_eq_true rfl) (Nat.le_of_ble_eq_true rfl) hlk (Nat.le_of_ble_eq_true rfl) (Nat.le_of_ble_eq_true rfl) (xls_at 1 (congrArg Prod.fst hR) (by decide) rfl) hS.2.2 (thr_st hX.2) (fun t hz9 hk9 => ⟨⟨((nI 2, nI 0, q21.2), pl), ⟨⟨hR.symm, hF, ⟨tl, hf21, by omega⟩, ⟨al, hf22, by omega⟩, ⟨pn, hf23, by omega⟩, trivial⟩, hO⟩, lc_P hP hk9, hD⟩, (lc_S hS hz9 hk9).F rfl⟩)
    · replace hR := hR.trans (if_neg h45)
      refine lv_iload_n hx hb dK_part_27 rfl (lv_at hl 4 rfl) ?_
      refine lv_aload hx hb dK_part_28 (lv_at hl 0 rfl) ?_
      refine nw_alen1 hx hb hK hO kr33 (k := (379 + 36 * z45 + 2)) (pr_s0 (z := z45) (by omega)) hP dK_part_30 ?_
      refine lv_icmp_lt (tgt := 44) hx hb dK_part_31 (by decide) (fun h46 => ?_) (fun h46 => ?_)
      · replace hR := hR.trans (if_pos h46)
        obtain ⟨z46, hz46, hv46⟩ := i32_ltc h45 (by omega) h46
        have ez46 : z46 = v3.toNatClampNeg := by rw [hv46]; exact (nI_clamp (by omega)).symm
        replace hR := bnd_step hR ez46
        rw [hv46] at hl
        refine lv_aload hx hb dK_part_44 (lv_at hl 0 rfl) ?_
        refine lv_iload_n hx hb dK_part_46 rfl (lv_at hl 4 rfl) ?_
        refine nw_bald hx hb hK hO kr33 (k := (379 + 36 * z45 + 2)) (pr_s0 (z := z45) (by omega)) hP (by omega) (by omega) dK_part_47 ?_
        refine lv_sipush (v := nI 255) hx hb dK_part_48 (by decide) ?_
        refine lv_iand hx hb dK_part_51 ?_
        refine et_ret ?_
        exact mp_iret hx hb hr hlk hP hD hS ((nI 0, ((q21.2.1 ((379 + 36 * z45 + 2)) z46) &&& (nI 255)), q21.2), pl) ⟨⟨hR.symm, rfl, rfl, hF, ⟨tl, hf21, by omega⟩, ⟨al, hf22, by omega⟩, ⟨pn, hf23, by omega⟩, trivial⟩, hO⟩ [] rfl rfl rfl (by omega) (by omega) dK_part_52
      · replace hR := hR.trans (if_neg h46)
        exact et_throw (own := "LatticeKeys") (cls := "java/lang/IndexOutOfBoundsException") (text := "no such byte in the part") (names := ["java/lang/RuntimeException", "java/lang/Exception"]) (ik := 90) (is := 161) (ic := 94) hx hb htr ctr_IOB_0 ctr_IOB_1 ctr_IOB_2 ctr_IOB_5 hown (by decide) (by decide) (hts _ (wg_t kw_535)) (hts _ (wg_t kw_20)) (hX.2.2.2.2.2.1 8 ("LatticeKeys", 161, "no such byte in the part") rfl) (hat_IOB hts hX.2) hS.1 (hl.1.trans hml.symm) dK_part_34 dK_part_37 dK_part_38 dK_part_40 dK_part_43 htab (Nat.le_of_ble_eq_true rfl) (Nat.le_of_ble_eq_true rfl) (Nat.le_of_ble_eq_true rfl) (Nat.le_of_ble_eq_true rfl) hlk (Nat.le_of_ble_eq_true rfl) (Nat.le_of_ble_eq_true rfl) (xls_at 1 (congrArg Prod.fst hR) (by decide) rfl) hS.2.2 (thr_st hX.2) (fun t hz9 hk9 => ⟨⟨((nI 2, nI 0, q21.2), pl), ⟨⟨hR.symm, hF, ⟨tl, hf21, by omega⟩, ⟨al, hf22, by omega⟩, ⟨pn, hf23, by omega⟩, trivial⟩, hO⟩, lc_P hP hk9, hD⟩, (lc_S hS hz9 hk9).F rfl⟩)
  replace hR := hR.trans (if_neg hs36)
  by_cases hs37 : q21.1 = nI 2
  · replace hR := hR.trans (if_pos hs37)
    obtain ⟨z47, q35, hz47, hv47, rfl, kr34⟩ := pfd_at (c := 1) hq21 (by decide) hs37
    have kr34 : T q35 = some (379 + 36 * z47 + 5) := kr34
    have ez47 : z47 = v.toNatClampNeg := by rw [hv47]; exact (nI_clamp (by omega)).symm
    replace hR := bnd_step hR ez47
    refine lv_astore (lv' := [(4, .ref q35), (0, .ref h0), (1, .int v), (2, .int sc), (3, .int v3)]) hx hb dK_part_6 hl (by decide) rfl (fun ls hl => ?_)
    refine lv_aload hx hb dK_part_8 (lv_at hl 0 rfl) ?_
    refine lv_ifnonnull (tgt := 23) hx hb dK_part_10 (by decide) ?_
    refine lv_iload_n hx hb dK_part_23 rfl (lv_at hl 4 rfl) ?_
    refine lv_if_lt (tgt := 34) hx hb dK_part_24 (by decide) (fun h47 => ?_) (fun h47 => ?_)
    · replace hR := hR.trans (if_pos h47)
      exact et_throw (own := "LatticeKeys") (cls := "java/lang/IndexOutOfBoundsException") (text := "no such byte in the part") (names := ["java/lang/RuntimeException", "java/lang/Exception"]) (ik := 90) (is := 161) (ic := 94) hx hb htr ctr_IOB_0 ctr_IOB_1 ctr_IOB_2 ctr_IOB_5 hown (by decide) (by decide) (hts _ (wg_t kw_535)) (hts _ (wg_t kw_20)) (hX.2.2.2.2.2.1 8 ("LatticeKeys", 161, "no such byte in the part") rfl) (hat_IOB hts hX.2) hS.1 (hl.1.trans hml.symm) dK_part_34 dK_part_37 dK_part_38 dK_part_40 dK_part_43 htab (Nat.le_of_ble_eq_true rfl) (Nat.le_of_ble_eq_true rfl) (Nat.le_of_ble_eq_true rfl) (Nat.le_of_ble_eq_true rfl) hlk (Nat.le_of_ble_eq_true rfl) (Nat.le_of_ble_eq_true rfl) (xls_at 1 (congrArg Prod.fst hR) (by decide) rfl) hS.2.2 (thr_st hX.2) (fun t hz9 hk9 => ⟨⟨((nI 2, nI 0, q21.2), pl), ⟨⟨hR.symm, hF, ⟨tl, hf21, by omega⟩, ⟨al, hf22, by omega⟩, ⟨pn, hf23, by omega⟩, trivial⟩, hO⟩, lc_P hP hk9, hD⟩, (lc_S hS hz9 hk9).F rfl⟩)
    · replace hR := hR.trans (if_neg h47)
      refine lv_iload_n hx hb dK_part_27 rfl (lv_at hl 4 rfl) ?_
      refine lv_aload hx hb dK_part_28 (lv_at hl 0 rfl) ?_
      refine nw_alen1 hx hb hK hO kr34 (k := (379 + 36 * z47 + 5)) (pr_s1 (z := z47) (by omega)) hP dK_part_30 ?_
      refine lv_icmp_lt (tgt := 44) hx hb dK_part_31 (by decide) (fun h48 => ?_) (fun h48 => ?_)
      · replace hR := hR.trans (if_pos h48)
        obtain ⟨z48, hz48, hv48⟩ := i32_ltc h47 (by omega) h48
        have ez48 : z48 = v3.toNatClampNeg := by rw [hv48]; exact (nI_clamp (by omega)).symm
        replace hR := bnd_step hR ez48
        rw [hv48] at hl
        refine lv_aload hx hb dK_part_44 (lv_at hl 0 rfl) ?_
        refine lv_iload_n hx hb dK_part_46 rfl (lv_at hl 4 rfl) ?_
        refine nw_bald hx hb hK hO kr34 (k := (379 + 36 * z47 + 5)) (pr_s1 (z := z47) (by omega)) hP (by omega) (by omega) dK_part_47 ?_
        refine lv_sipush (v := nI 255) hx hb dK_part_48 (by decide) ?_
        refine lv_iand hx hb dK_part_51 ?_
        refine et_ret ?_
        exact mp_iret hx hb hr hlk hP hD hS ((nI 0, ((q21.2.1 ((379 + 36 * z47 + 5)) z48) &&& (nI 255)), q21.2), pl) ⟨⟨hR.symm, rfl, rfl, hF, ⟨tl, hf21, by omega⟩, ⟨al, hf22, by omega⟩, ⟨pn, hf23, by omega⟩, trivial⟩, hO⟩ [] rfl rfl rfl (by omega) (by omega) dK_part_52
      · replace hR := hR.trans (if_neg h48)
        exact et_throw (own := "LatticeKeys") (cls := "java/lang/IndexOutOfBoundsException") (text := "no such byte in the part") (names := ["java/lang/RuntimeException", "java/lang/Exception"]) (ik := 90) (is := 161) (ic := 94) hx hb htr ctr_IOB_0 ctr_IOB_1 ctr_IOB_2 ctr_IOB_5 hown (by decide) (by decide) (hts _ (wg_t kw_535)) (hts _ (wg_t kw_20)) (hX.2.2.2.2.2.1 8 ("LatticeKeys", 161, "no such byte in the part") rfl) (hat_IOB hts hX.2) hS.1 (hl.1.trans hml.symm) dK_part_34 dK_part_37 dK_part_38 dK_part_40 dK_part_43 htab (Nat.le_of_ble_eq_true rfl) (Nat.le_of_ble_eq_true rfl) (Nat.le_of_ble_eq_true rfl) (Nat.le_of_ble_eq_true rfl) hlk (Nat.le_of_ble_eq_true rfl) (Nat.le_of_ble_eq_true rfl) (xls_at 1 (congrArg Prod.fst hR) (by decide) rfl) hS.2.2 (thr_st hX.2) (fun t hz9 hk9 => ⟨⟨((nI 2, nI 0, q21.2), pl), ⟨⟨hR.symm, hF, ⟨tl, hf21, by omega⟩, ⟨al, hf22, by omega⟩, ⟨pn, hf23, by omega⟩, trivial⟩, hO⟩, lc_P hP hk9, hD⟩, (lc_S hS hz9 hk9).F rfl⟩)
  replace hR := hR.trans (if_neg hs37)
  by_cases hs38 : q21.1 = nI 3
  · replace hR := hR.trans (if_pos hs38)
    obtain ⟨z49, q36, hz49, hv49, rfl, kr35⟩ := pfd_at (c := 2) hq21 (by decide) hs38
    have kr35 : T q36 = some (379 + 36 * z49 + 8) := kr35
    have ez49 : z49 = v.toNatClampNeg := by rw [hv49]; exact (nI_clamp (by omega)).symm
    replace hR := bnd_step hR ez49
    refine lv_astore (lv' := [(4, .ref q36), (0, .ref h0), (1, .int v), (2, .int sc), (3, .int v3)]) hx hb dK_part_6 hl (by decide) rfl (fun ls hl => ?_)
    refine lv_aload hx hb dK_part_8 (lv_at hl 0 rfl) ?_
    refine lv_ifnonnull (tgt := 23) hx hb dK_part_10 (by decide) ?_
    refine lv_iload_n hx hb dK_part_23 rfl (lv_at hl 4 rfl) ?_
    refine lv_if_lt (tgt := 34) hx hb dK_part_24 (by decide) (fun h49 => ?_) (fun h49 => ?_)
    · replace hR := hR.trans (if_pos h49)
      exact et_throw (own := "LatticeKeys") (cls := "java/lang/IndexOutOfBoundsException") (text := "no such byte in the part") (names := ["java/lang/RuntimeException", "java/lang/Exception"]) (ik := 90) (is := 161) (ic := 94) hx hb htr ctr_IOB_0 ctr_IOB_1 ctr_IOB_2 ctr_IOB_5 hown (by decide) (by decide) (hts _ (wg_t kw_535)) (hts _ (wg_t kw_20)) (hX.2.2.2.2.2.1 8 ("LatticeKeys", 161, "no such byte in the part") rfl) (hat_IOB hts hX.2) hS.1 (hl.1.trans hml.symm) dK_part_34 dK_part_37 dK_part_38 dK_part_40 dK_part_43 htab (Nat.le_of_ble_eq_true rfl) (Nat.le_of_ble_eq_true rfl) (Nat.le_of_ble_eq_true rfl) (Nat.le_of_ble_eq_true rfl) hlk (Nat.le_of_ble_eq_true rfl) (Nat.le_of_ble_eq_true rfl) (xls_at 1 (congrArg Prod.fst hR) (by decide) rfl) hS.2.2 (thr_st hX.2) (fun t hz9 hk9 => ⟨⟨((nI 2, nI 0, q21.2), pl), ⟨⟨hR.symm, hF, ⟨tl, hf21, by omega⟩, ⟨al, hf22, by omega⟩, ⟨pn, hf23, by omega⟩, trivial⟩, hO⟩, lc_P hP hk9, hD⟩, (lc_S hS hz9 hk9).F rfl⟩)
    · replace hR := hR.trans (if_neg h49)
      refine lv_iload_n hx hb dK_part_27 rfl (lv_at hl 4 rfl) ?_
      refine lv_aload hx hb dK_part_28 (lv_at hl 0 rfl) ?_
      refine nw_alen1 hx hb hK hO kr35 (k := (379 + 36 * z49 + 8)) (pr_s2 (z := z49) (by omega)) hP dK_part_30 ?_
      refine lv_icmp_lt (tgt := 44) hx hb dK_part_31 (by decide) (fun h50 => ?_) (fun h50 => ?_)
      · replace hR := hR.trans (if_pos h50)
        obtain ⟨z50, hz50, hv50⟩ := i32_ltc h49 (by omega) h50
        have ez50 : z50 = v3.toNatClampNeg := by rw [hv50]; exact (nI_clamp (by omega)).symm
        replace hR := bnd_step hR ez50
        rw [hv50] at hl
        refine lv_aload hx hb dK_part_44 (lv_at hl 0 rfl) ?_
        refine lv_iload_n hx hb dK_part_46 rfl (lv_at hl 4 rfl) ?_
        refine nw_bald hx hb hK hO kr35 (k := (379 + 36 * z49 + 8)) (pr_s2 (z := z49) (by omega)) hP (by omega) (by omega) dK_part_47 ?_
        refine lv_sipush (v := nI 255) hx hb dK_part_48 (by decide) ?_
        refine lv_iand hx hb dK_part_51 ?_
        refine et_ret ?_
        exact mp_iret hx hb hr hlk hP hD hS ((nI 0, ((q21.2.1 ((379 + 36 * z49 + 8)) z50) &&& (nI 255)), q21.2), pl) ⟨⟨hR.symm, rfl, rfl, hF, ⟨tl, hf21, by omega⟩, ⟨al, hf22, by omega⟩, ⟨pn, hf23, by omega⟩, trivial⟩, hO⟩ [] rfl rfl rfl (by omega) (by omega) dK_part_52
      · replace hR := hR.trans (if_neg h50)
        exact et_throw (own := "LatticeKeys") (cls := "java/lang/IndexOutOfBoundsException") (text := "no such byte in the part") (names := ["java/lang/RuntimeException", "java/lang/Exception"]) (ik := 90) (is := 161) (ic := 94) hx hb htr ctr_IOB_0 ctr_IOB_1 ctr_IOB_2 ctr_IOB_5 hown (by decide) (by decide) (hts _ (wg_t kw_535)) (hts _ (wg_t kw_20)) (hX.2.2.2.2.2.1 8 ("LatticeKeys", 161, "no such byte in the part") rfl) (hat_IOB hts hX.2) hS.1 (hl.1.trans hml.symm) dK_part_34 dK_part_37 dK_part_38 dK_part_40 dK_part_43 htab (Nat.le_of_ble_eq_true rfl) (Nat.le_of_ble_eq_true rfl) (Nat.le_of_ble_eq_true rfl) (Nat.le_of_ble_eq_true rfl) hlk (Nat.le_of_ble_eq_true rfl) (Nat.le_of_ble_eq_true rfl) (xls_at 1 (congrArg Prod.fst hR) (by decide) rfl) hS.2.2 (thr_st hX.2) (fun t hz9 hk9 => ⟨⟨((nI 2, nI 0, q21.2), pl), ⟨⟨hR.symm, hF, ⟨tl, hf21, by omega⟩, ⟨al, hf22, by omega⟩, ⟨pn, hf23, by omega⟩, trivial⟩, hO⟩, lc_P hP hk9, hD⟩, (lc_S hS hz9 hk9).F rfl⟩)
  replace hR := hR.trans (if_neg hs38)
  by_cases hs39 : q21.1 = nI 4
  · replace hR := hR.trans (if_pos hs39)
    obtain ⟨z51, q37, hz51, hv51, rfl, kr36⟩ := pfd_at (c := 3) hq21 (by decide) hs39
    have kr36 : T q37 = some (379 + 36 * z51 + 11) := kr36
    have ez51 : z51 = v.toNatClampNeg := by rw [hv51]; exact (nI_clamp (by omega)).symm
    replace hR := bnd_step hR ez51
    refine lv_astore (lv' := [(4, .ref q37), (0, .ref h0), (1, .int v), (2, .int sc), (3, .int v3)]) hx hb dK_part_6 hl (by decide) rfl (fun ls hl => ?_)
    refine lv_aload hx hb dK_part_8 (lv_at hl 0 rfl) ?_
    refine lv_ifnonnull (tgt := 23) hx hb dK_part_10 (by decide) ?_
    refine lv_iload_n hx hb dK_part_23 rfl (lv_at hl 4 rfl) ?_
    refine lv_if_lt (tgt := 34) hx hb dK_part_24 (by decide) (fun h51 => ?_) (fun h51 => ?_)
    · replace hR := hR.trans (if_pos h51)
      exact et_throw (own := "LatticeKeys") (cls := "java/lang/IndexOutOfBoundsException") (text := "no such byte in the part") (names := ["java/lang/RuntimeException", "java/lang/Exception"]) (ik := 90) (is := 161) (ic := 94) hx hb htr ctr_IOB_0 ctr_IOB_1 ctr_IOB_2 ctr_IOB_5 hown (by decide) (by decide) (hts _ (wg_t kw_535)) (hts _ (wg_t kw_20)) (hX.2.2.2.2.2.1 8 ("LatticeKeys", 161, "no such byte in the part") rfl) (hat_IOB hts hX.2) hS.1 (hl.1.trans hml.symm) dK_part_34 dK_part_37 dK_part_38 dK_part_40 dK_part_43 htab (Nat.le_of_ble_eq_true rfl) (Nat.le_of_ble_eq_true rfl) (Nat.le_of_ble_eq_true rfl) (Nat.le_of_ble_eq_true rfl) hlk (Nat.le_of_ble_eq_true rfl) (Nat.le_of_ble_eq_true rfl) (xls_at 1 (congrArg Prod.fst hR) (by decide) rfl) hS.2.2 (thr_st hX.2) (fun t hz9 hk9 => ⟨⟨((nI 2, nI 0, q21.2), pl), ⟨⟨hR.symm, hF, ⟨tl, hf21, by omega⟩, ⟨al, hf22, by omega⟩, ⟨pn, hf23, by omega⟩, trivial⟩, hO⟩, lc_P hP hk9, hD⟩, (lc_S hS hz9 hk9).F rfl⟩)
    · replace hR := hR.trans (if_neg h51)
      refine lv_iload_n hx hb dK_part_27 rfl (lv_at hl 4 rfl) ?_
      refine lv_aload hx hb dK_part_28 (lv_at hl 0 rfl) ?_
      refine nw_alen1 hx hb hK hO kr36 (k := (379 + 36 * z51 + 11)) (pr_s3 (z := z51) (by omega)) hP dK_part_30 ?_
      refine lv_icmp_lt (tgt := 44) hx hb dK_part_31 (by decide) (fun h52 => ?_) (fun h52 => ?_)
      · replace hR := hR.trans (if_pos h52)
        obtain ⟨z52, hz52, hv52⟩ := i32_ltc h51 (by omega) h52
        have ez52 : z52 = v3.toNatClampNeg := by rw [hv52]; exact (nI_clamp (by omega)).symm
        replace hR := bnd_step hR ez52
        rw [hv52] at hl
        refine lv_aload hx hb dK_part_44 (lv_at hl 0 rfl) ?_
        refine lv_iload_n hx hb dK_part_46 rfl (lv_at hl 4 rfl) ?_
        refine nw_bald hx hb hK hO kr36 (k := (379 + 36 * z51 + 11)) (pr_s3 (z := z51) (by omega)) hP (by omega) (by omega) dK_part_47 ?_
        refine lv_sipush (v := nI 255) hx hb dK_part_48 (by decide) ?_
        refine lv_iand hx hb dK_part_51 ?_
        refine et_ret ?_
        exact mp_iret hx hb hr hlk hP hD hS ((nI 0, ((q21.2.1 ((379 + 36 * z51 + 11)) z52) &&& (nI 255)), q21.2), pl) ⟨⟨hR.symm, rfl, rfl, hF, ⟨tl, hf21, by omega⟩, ⟨al, hf22, by omega⟩, ⟨pn, hf23, by omega⟩, trivial⟩, hO⟩ [] rfl rfl rfl (by omega) (by omega) dK_part_52
      · replace hR := hR.trans (if_neg h52)
        exact et_throw (own := "LatticeKeys") (cls := "java/lang/IndexOutOfBoundsException") (text := "no such byte in the part") (names := ["java/lang/RuntimeException", "java/lang/Exception"]) (ik := 90) (is := 161) (ic := 94) hx hb htr ctr_IOB_0 ctr_IOB_1 ctr_IOB_2 ctr_IOB_5 hown (by decide) (by decide) (hts _ (wg_t kw_535)) (hts _ (wg_t kw_20)) (hX.2.2.2.2.2.1 8 ("LatticeKeys", 161, "no such byte in the part") rfl) (hat_IOB hts hX.2) hS.1 (hl.1.trans hml.symm) dK_part_34 dK_part_37 dK_part_38 dK_part_40 dK_part_43 htab (Nat.le_of_ble_eq_true rfl) (Nat.le_of_ble_eq_true rfl) (Nat.le_of_ble_eq_true rfl) (Nat.le_of_ble_eq_true rfl) hlk (Nat.le_of_ble_eq_true rfl) (Nat.le_of_ble_eq_true rfl) (xls_at 1 (congrArg Prod.fst hR) (by decide) rfl) hS.2.2 (thr_st hX.2) (fun t hz9 hk9 => ⟨⟨((nI 2, nI 0, q21.2), pl), ⟨⟨hR.symm, hF, ⟨tl, hf21, by omega⟩, ⟨al, hf22, by omega⟩, ⟨pn, hf23, by omega⟩, trivial⟩, hO⟩, lc_P hP hk9, hD⟩, (lc_S hS hz9 hk9).F rfl⟩)
  replace hR := hR.trans (if_neg hs39)
  by_cases hs40 : q21.1 = nI 5
  · replace hR := hR.trans (if_pos hs40)
    obtain ⟨z53, q38, hz53, hv53, rfl, kr37⟩ := pfd_at (c := 4) hq21 (by decide) hs40
    have kr37 : T q38 = some (379 + 36 * z53 + 14) := kr37
    have ez53 : z53 = v.toNatClampNeg := by rw [hv53]; exact (nI_clamp (by omega)).symm
    replace hR := bnd_step hR ez53
    refine lv_astore (lv' := [(4, .ref q38), (0, .ref h0), (1, .int v), (2, .int sc), (3, .int v3)]) hx hb dK_part_6 hl (by decide) rfl (fun ls hl => ?_)
    refine lv_aload hx hb dK_part_8 (lv_at hl 0 rfl) ?_
    refine lv_ifnonnull (tgt := 23) hx hb dK_part_10 (by decide) ?_
    refine lv_iload_n hx hb dK_part_23 rfl (lv_at hl 4 rfl) ?_
    refine lv_if_lt (tgt := 34) hx hb dK_part_24 (by decide) (fun h53 => ?_) (fun h53 => ?_)
    · replace hR := hR.trans (if_pos h53)
      exact et_throw (own := "LatticeKeys") (cls := "java/lang/IndexOutOfBoundsException") (text := "no such byte in the part") (names := ["java/lang/RuntimeException", "java/lang/Exception"]) (ik := 90) (is := 161) (ic := 94) hx hb htr ctr_IOB_0 ctr_IOB_1 ctr_IOB_2 ctr_IOB_5 hown (by decide) (by decide) (hts _ (wg_t kw_535)) (hts _ (wg_t kw_20)) (hX.2.2.2.2.2.1 8 ("LatticeKeys", 161, "no such byte in the part") rfl) (hat_IOB hts hX.2) hS.1 (hl.1.trans hml.symm) dK_part_34 dK_part_37 dK_part_38 dK_part_40 dK_part_43 htab (Nat.le_of_ble_eq_true rfl) (Nat.le_of_ble_eq_true rfl) (Nat.le_of_ble_eq_true rfl) (Nat.le_of_ble_eq_true rfl) hlk (Nat.le_of_ble_eq_true rfl) (Nat.le_of_ble_eq_true rfl) (xls_at 1 (congrArg Prod.fst hR) (by decide) rfl) hS.2.2 (thr_st hX.2) (fun t hz9 hk9 => ⟨⟨((nI 2, nI 0, q21.2), pl), ⟨⟨hR.symm, hF, ⟨tl, hf21, by omega⟩, ⟨al, hf22, by omega⟩, ⟨pn, hf23, by omega⟩, trivial⟩, hO⟩, lc_P hP hk9, hD⟩, (lc_S hS hz9 hk9).F rfl⟩)
    · replace hR := hR.trans (if_neg h53)
      refine lv_iload_n hx hb dK_part_27 rfl (lv_at hl 4 rfl) ?_
      refine lv_aload hx hb dK_part_28 (lv_at hl 0 rfl) ?_
      refine nw_alen1 hx hb hK hO kr37 (k := (379 + 36 * z53 + 14)) (pr_s4 (z := z53) (by omega)) hP dK_part_30 ?_
      refine lv_icmp_lt (tgt := 44) hx hb dK_part_31 (by decide) (fun h54 => ?_) (fun h54 => ?_)
      · replace hR := hR.trans (if_pos h54)
        obtain ⟨z54, hz54, hv54⟩ := i32_ltc h53 (by omega) h54
        have ez54 : z54 = v3.toNatClampNeg := by rw [hv54]; exact (nI_clamp (by omega)).symm
        replace hR := bnd_step hR ez54
        rw [hv54] at hl
        refine lv_aload hx hb dK_part_44 (lv_at hl 0 rfl) ?_
        refine lv_iload_n hx hb dK_part_46 rfl (lv_at hl 4 rfl) ?_
        refine nw_bald hx hb hK hO kr37 (k := (379 + 36 * z53 + 14)) (pr_s4 (z := z53) (by omega)) hP (by omega) (by omega) dK_part_47 ?_
        refine lv_sipush (v := nI 255) hx hb dK_part_48 (by decide) ?_
        refine lv_iand hx hb dK_part_51 ?_
        refine et_ret ?_
        exact mp_iret hx hb hr hlk hP hD hS ((nI 0, ((q21.2.1 ((379 + 36 * z53 + 14)) z54) &&& (nI 255)), q21.2), pl) ⟨⟨hR.symm, rfl, rfl, hF, ⟨tl, hf21, by omega⟩, ⟨al, hf22, by omega⟩, ⟨pn, hf23, by omega⟩, trivial⟩, hO⟩ [] rfl rfl rfl (by omega) (by omega) dK_part_52
      · replace hR := hR.trans (if_neg h54)
        exact et_throw (own := "LatticeKeys") (cls := "java/lang/IndexOutOfBoundsException") (text := "no such byte in the part") (names := ["java/lang/RuntimeException", "java/lang/Exception"]) (ik := 90) (is := 161) (ic := 94) hx hb htr ctr_IOB_0 ctr_IOB_1 ctr_IOB_2 ctr_IOB_5 hown (by decide) (by decide) (hts _ (wg_t kw_535)) (hts _ (wg_t kw_20)) (hX.2.2.2.2.2.1 8 ("LatticeKeys", 161, "no such byte in the part") rfl) (hat_IOB hts hX.2) hS.1 (hl.1.trans hml.symm) dK_part_34 dK_part_37 dK_part_38 dK_part_40 dK_part_43 htab (Nat.le_of_ble_eq_true rfl) (Nat.le_of_ble_eq_true rfl) (Nat.le_of_ble_eq_true rfl) (Nat.le_of_ble_eq_true rfl) hlk (Nat.le_of_ble_eq_true rfl) (Nat.le_of_ble_eq_true rfl) (xls_at 1 (congrArg Prod.fst hR) (by decide) rfl) hS.2.2 (thr_st hX.2) (fun t hz9 hk9 => ⟨⟨((nI 2, nI 0, q21.2), pl), ⟨⟨hR.symm, hF, ⟨tl, hf21, by omega⟩, ⟨al, hf22, by omega⟩, ⟨pn, hf23, by omega⟩, trivial⟩, hO⟩, lc_P hP hk9, hD⟩, (lc_S hS hz9 hk9).F rfl⟩)
  replace hR := hR.trans (if_neg hs40)
  by_cases hs41 : q21.1 = nI 6
  · replace hR := hR.trans (if_pos hs41)
    obtain ⟨z55, q39, hz55, hv55, rfl, kr38⟩ := pfd_at (c := 5) hq21 (by decide) hs41
    have kr38 : T q39 = some (379 + 36 * z55 + 17) := kr38
    have ez55 : z55 = v.toNatClampNeg := by rw [hv55]; exact (nI_clamp (by omega)).symm
    replace hR := bnd_step hR ez55
    refine lv_astore (lv' := [(4, .ref q39), (0, .ref h0), (1, .int v), (2, .int sc), (3, .int v3)]) hx hb dK_part_6 hl (by decide) rfl (fun ls hl => ?_)
    refine lv_aload hx hb dK_part_8 (lv_at hl 0 rfl) ?_
    refine lv_ifnonnull (tgt := 23) hx hb dK_part_10 (by decide) ?_
    refine lv_iload_n hx hb dK_part_23 rfl (lv_at hl 4 rfl) ?_
    refine lv_if_lt (tgt := 34) hx hb dK_part_24 (by decide) (fun h55 => ?_) (fun h55 => ?_)
    · replace hR := hR.trans (if_pos h55)
      exact et_throw (own := "LatticeKeys") (cls := "java/lang/IndexOutOfBoundsException") (text := "no such byte in the part") (names := ["java/lang/RuntimeException", "java/lang/Exception"]) (ik := 90) (is := 161) (ic := 94) hx hb htr ctr_IOB_0 ctr_IOB_1 ctr_IOB_2 ctr_IOB_5 hown (by decide) (by decide) (hts _ (wg_t kw_535)) (hts _ (wg_t kw_20)) (hX.2.2.2.2.2.1 8 ("LatticeKeys", 161, "no such byte in the part") rfl) (hat_IOB hts hX.2) hS.1 (hl.1.trans hml.symm) dK_part_34 dK_part_37 dK_part_38 dK_part_40 dK_part_43 htab (Nat.le_of_ble_eq_true rfl) (Nat.le_of_ble_eq_true rfl) (Nat.le_of_ble_eq_true rfl) (Nat.le_of_ble_eq_true rfl) hlk (Nat.le_of_ble_eq_true rfl) (Nat.le_of_ble_eq_true rfl) (xls_at 1 (congrArg Prod.fst hR) (by decide) rfl) hS.2.2 (thr_st hX.2) (fun t hz9 hk9 => ⟨⟨((nI 2, nI 0, q21.2), pl), ⟨⟨hR.symm, hF, ⟨tl, hf21, by omega⟩, ⟨al, hf22, by omega⟩, ⟨pn, hf23, by omega⟩, trivial⟩, hO⟩, lc_P hP hk9, hD⟩, (lc_S hS hz9 hk9).F rfl⟩)
    · replace hR := hR.trans (if_neg h55)
      refine lv_iload_n hx hb dK_part_27 rfl (lv_at hl 4 rfl) ?_
      refine lv_aload hx hb dK_part_28 (lv_at hl 0 rfl) ?_
      refine nw_alen1 hx hb hK hO kr38 (k := (379 + 36 * z55 + 17)) (pr_s5 (z := z55) (by omega)) hP dK_part_30 ?_
      refine lv_icmp_lt (tgt := 44) hx hb dK_part_31 (by decide) (fun h56 => ?_) (fun h56 => ?_)
      · replace hR := hR.trans (if_pos h56)
        obtain ⟨z56, hz56, hv56⟩ := i32_ltc h55 (by omega) h56
        have ez56 : z56 = v3.toNatClampNeg := by rw [hv56]; exact (nI_clamp (by omega)).symm
        replace hR := bnd_step hR ez56
        rw [hv56] at hl
        refine lv_aload hx hb dK_part_44 (lv_at hl 0 rfl) ?_
        refine lv_iload_n hx hb dK_part_46 rfl (lv_at hl 4 rfl) ?_
        refine nw_bald hx hb hK hO kr38 (k := (379 + 36 * z55 + 17)) (pr_s5 (z := z55) (by omega)) hP (by omega) (by omega) dK_part_47 ?_
        refine lv_sipush (v := nI 255) hx hb dK_part_48 (by decide) ?_
        refine lv_iand hx hb dK_part_51 ?_
        refine et_ret ?_
        exact mp_iret hx hb hr hlk hP hD hS ((nI 0, ((q21.2.1 ((379 + 36 * z55 + 17)) z56) &&& (nI 255)), q21.2), pl) ⟨⟨hR.symm, rfl, rfl, hF, ⟨tl, hf21, by omega⟩, ⟨al, hf22, by omega⟩, ⟨pn, hf23, by omega⟩, trivial⟩, hO⟩ [] rfl rfl rfl (by omega) (by omega) dK_part_52
      · replace hR := hR.trans (if_neg h56)
        exact et_throw (own := "LatticeKeys") (cls := "java/lang/IndexOutOfBoundsException") (text := "no such byte in the part") (names := ["java/lang/RuntimeException", "java/lang/Exception"]) (ik := 90) (is := 161) (ic := 94) hx hb htr ctr_IOB_0 ctr_IOB_1 ctr_IOB_2 ctr_IOB_5 hown (by decide) (by decide) (hts _ (wg_t kw_535)) (hts _ (wg_t kw_20)) (hX.2.2.2.2.2.1 8 ("LatticeKeys", 161, "no such byte in the part") rfl) (hat_IOB hts hX.2) hS.1 (hl.1.trans hml.symm) dK_part_34 dK_part_37 dK_part_38 dK_part_40 dK_part_43 htab (Nat.le_of_ble_eq_true rfl) (Nat.le_of_ble_eq_true rfl) (Nat.le_of_ble_eq_true rfl) (Nat.le_of_ble_eq_true rfl) hlk (Nat.le_of_ble_eq_true rfl) (Nat.le_of_ble_eq_true rfl) (xls_at 1 (congrArg Prod.fst hR) (by decide) rfl) hS.2.2 (thr_st hX.2) (fun t hz9 hk9 => ⟨⟨((nI 2, nI 0, q21.2), pl), ⟨⟨hR.symm, hF, ⟨tl, hf21, by omega⟩, ⟨al, hf22, by omega⟩, ⟨pn, hf23, by omega⟩, trivial⟩, hO⟩, lc_P hP hk9, hD⟩, (lc_S hS hz9 hk9).F rfl⟩)
  replace hR := hR.trans (if_neg hs41)
  obtain ⟨c9, hc9, e9⟩ := pfd_mem hq21 hs35
  simp only [List.mem_cons, List.not_mem_nil, or_false] at hc9
  rcases hc9 with rfl | rfl | rfl | rfl | rfl | rfl
  · exact absurd e9 hs36
  · exact absurd e9 hs37
  · exact absurd e9 hs38
  · exact absurd e9 hs39
  · exact absurd e9 hs40
  · exact absurd e9 hs41
