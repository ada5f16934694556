set_option linter.all false
set_option maxRecDepth 100000 in
theorem kw_25 : (Jvm.Cond.initialized "java/lang/UnsupportedOperationException") ∈ WG := wgr_1 25 (by rfl) (by rfl)
abbrev c_K_load : ByteArray := prog_1_method_7_code
abbrev y_K_load : MethodName := ⟨"LatticeKeys", "load", "(IZ)I"⟩
abbrev w_K_load : List Cond := Cond.code y_K_load c_K_load 4 (some .int) :: WG
theorem dK_load_0 : decode c_K_load 0 = .ok (.aload_n 0, 1) := by decide +kernel
theorem dK_load_1 : decode c_K_load 1 = .ok (.iload_n 1, 1) := by decide +kernel
theorem dK_load_2 : decode c_K_load 2 = .ok (.iload_n 2, 1) := by decide +kernel
theorem dK_load_3 : decode c_K_load 3 = .ok (.invokevirtual 127, 3) := by decide +kernel
theorem dK_load_6 : decode c_K_load 6 = .ok (.ifCond .ne 13, 3) := by decide +kernel
theorem dK_load_9 : decode c_K_load 9 = .ok (.new 79, 3) := by decide +kernel
theorem dK_load_12 : decode c_K_load 12 = .ok (.dup, 1) := by decide +kernel
theorem dK_load_13 : decode c_K_load 13 = .ok (.ldc 131, 2) := by decide +kernel
theorem dK_load_15 : decode c_K_load 15 = .ok (.invokespecial 83, 3) := by decide +kernel
theorem dK_load_18 : decode c_K_load 18 = .ok (.athrow, 1) := by decide +kernel
theorem dK_load_19 : decode c_K_load 19 = .ok (.iload_n 1, 1) := by decide +kernel
theorem dK_load_20 : decode c_K_load 20 = .ok (.iconst 3, 1) := by decide +kernel
theorem dK_load_21 : decode c_K_load 21 = .ok (.if_icmp .ge 27, 3) := by decide +kernel
theorem dK_load_24 : decode c_K_load 24 = .ok (.aload_n 0, 1) := by decide +kernel
theorem dK_load_25 : decode c_K_load 25 = .ok (.aload_n 0, 1) := by decide +kernel
theorem dK_load_26 : decode c_K_load 26 = .ok (.getfield 34, 3) := by decide +kernel
theorem dK_load_29 : decode c_K_load 29 = .ok (.iload_n 1, 1) := by decide +kernel
theorem dK_load_30 : decode c_K_load 30 = .ok (.aaload, 1) := by decide +kernel
theorem dK_load_31 : decode c_K_load 31 = .ok (.iload_n 2, 1) := by decide +kernel
theorem dK_load_32 : decode c_K_load 32 = .ok (.invokevirtual 133, 3) := by decide +kernel
theorem dK_load_35 : decode c_K_load 35 = .ok (.ifCond .ne 13, 3) := by decide +kernel
theorem dK_load_38 : decode c_K_load 38 = .ok (.new 137, 3) := by decide +kernel
theorem dK_load_41 : decode c_K_load 41 = .ok (.dup, 1) := by decide +kernel
theorem dK_load_42 : decode c_K_load 42 = .ok (.ldc 139, 2) := by decide +kernel
theorem dK_load_44 : decode c_K_load 44 = .ok (.invokespecial 141, 3) := by decide +kernel
theorem dK_load_47 : decode c_K_load 47 = .ok (.athrow, 1) := by decide +kernel
theorem dK_load_48 : decode c_K_load 48 = .ok (.aload_n 0, 1) := by decide +kernel
theorem dK_load_49 : decode c_K_load 49 = .ok (.getfield 29, 3) := by decide +kernel
theorem dK_load_52 : decode c_K_load 52 = .ok (.bipush 8, 2) := by decide +kernel
theorem dK_load_54 : decode c_K_load 54 = .ok (.if_icmp .lt 13, 3) := by decide +kernel
theorem dK_load_57 : decode c_K_load 57 = .ok (.new 69, 3) := by decide +kernel
theorem dK_load_60 : decode c_K_load 60 = .ok (.dup, 1) := by decide +kernel
theorem dK_load_61 : decode c_K_load 61 = .ok (.ldc 105, 2) := by decide +kernel
theorem dK_load_63 : decode c_K_load 63 = .ok (.invokespecial 73, 3) := by decide +kernel
theorem dK_load_66 : decode c_K_load 66 = .ok (.athrow, 1) := by decide +kernel
theorem dK_load_67 : decode c_K_load 67 = .ok (.iload_n 2, 1) := by decide +kernel
theorem dK_load_68 : decode c_K_load 68 = .ok (.ifCond .eq 11, 3) := by decide +kernel
theorem dK_load_71 : decode c_K_load 71 = .ok (.aload_n 0, 1) := by decide +kernel
theorem dK_load_72 : decode c_K_load 72 = .ok (.iload_n 1, 1) := by decide +kernel
theorem dK_load_73 : decode c_K_load 73 = .ok (.invokevirtual 142, 3) := by decide +kernel
theorem dK_load_76 : decode c_K_load 76 = .ok (.goto 23, 3) := by decide +kernel
theorem dK_load_79 : decode c_K_load 79 = .ok (.new 23, 3) := by decide +kernel
theorem dK_load_82 : decode c_K_load 82 = .ok (.dup, 1) := by decide +kernel
theorem dK_load_83 : decode c_K_load 83 = .ok (.iload_n 1, 1) := by decide +kernel
theorem dK_load_84 : decode c_K_load 84 = .ok (.aload_n 0, 1) := by decide +kernel
theorem dK_load_85 : decode c_K_load 85 = .ok (.getfield 9, 3) := by decide +kernel
theorem dK_load_88 : decode c_K_load 88 = .ok (.aload_n 0, 1) := by decide +kernel
theorem dK_load_89 : decode c_K_load 89 = .ok (.getfield 13, 3) := by decide +kernel
theorem dK_load_92 : decode c_K_load 92 = .ok (.invokestatic 146, 3) := by decide +kernel
theorem dK_load_95 : decode c_K_load 95 = .ok (.aconst_null, 1) := by decide +kernel
theorem dK_load_96 : decode c_K_load 96 = .ok (.invokespecial 120, 3) := by decide +kernel
theorem dK_load_99 : decode c_K_load 99 = .ok (.astore_n 3, 1) := by decide +kernel
theorem dK_load_100 : decode c_K_load 100 = .ok (.aload_n 0, 1) := by decide +kernel
theorem dK_load_101 : decode c_K_load 101 = .ok (.iconst 0, 1) := by decide +kernel
theorem dK_load_102 : decode c_K_load 102 = .ok (.putfield 13, 3) := by decide +kernel
theorem dK_load_105 : decode c_K_load 105 = .ok (.aload_n 0, 1) := by decide +kernel
theorem dK_load_106 : decode c_K_load 106 = .ok (.aload_n 3, 1) := by decide +kernel
theorem dK_load_107 : decode c_K_load 107 = .ok (.invokevirtual 123, 3) := by decide +kernel
theorem dK_load_110 : decode c_K_load 110 = .ok (.ireturn, 1) := by decide +kernel
def M_K_load (k : Nat) : Prop := (379 ≤ k ∧ k < 667) ∨ k = 0 ∨ k = 14 ∨ k = 3 ∨ k = 31 ∨ k = 33 ∨ (0 : Nat) = 1
noncomputable def F_K_load (v : Int32) (sc : Int32) (pn : Nat) (s : Sto) : Int32 × Int32 × Sto := bnd (F_K_isLoadable v sc s) fun q21 => if (q21.1) = 0 then (nI 1, nI 0, q21.2) else bnd (v.toNatClampNeg) fun z21 => if sc = 0 then if z21 = 0 then bnd (F_K_isSound_0 sc q21.2) fun q22 => if (q22.1) = 0 then (nI 2, nI 0, q22.2) else bnd ((q22.2.1 0 5).toNatClampNeg) fun z22 => if z22 < 8 then bnd ((q22.2.1 0 1).toNatClampNeg) fun z23 => bnd (F_AR_copyOf z23 (379 + 36 * pn + 19) q22.2) fun s21 => bnd (sI s21 0 1 (nI 0)) fun s22 => bnd (F_K_keep 6 s22) fun q25 => (nI 0, q25.1, q25.2) else (nI 3, nI 0, q22.2) else if z21 = 1 then bnd (F_K_isSound_1 sc q21.2) fun q26 => if (q26.1) = 0 then (nI 2, nI 0, q26.2) else bnd ((q26.2.1 0 5).toNatClampNeg) fun z24 => if z24 < 8 then bnd ((q26.2.1 0 1).toNatClampNeg) fun z25 => bnd (F_AR_copyOf z25 (379 + 36 * pn + 22) q26.2) fun s23 => bnd (sI s23 0 1 (nI 0)) fun s24 => bnd (F_K_keep 7 s24) fun q29 => (nI 0, q29.1, q29.2) else (nI 3, nI 0, q26.2) else if z21 = 2 then bnd (F_K_isSound_2 sc q21.2) fun q30 => if (q30.1) = 0 then (nI 2, nI 0, q30.2) else bnd ((q30.2.1 0 5).toNatClampNeg) fun z26 => if z26 < 8 then bnd ((q30.2.1 0 1).toNatClampNeg) fun z27 => bnd (F_AR_copyOf z27 (379 + 36 * pn + 25) q30.2) fun s25 => bnd (sI s25 0 1 (nI 0)) fun s26 => bnd (F_K_keep 8 s26) fun q33 => (nI 0, q33.1, q33.2) else (nI 3, nI 0, q30.2) else if z21 = 3 then bnd ((q21.2.1 0 5).toNatClampNeg) fun z28 => if z28 < 8 then bnd ((q21.2.1 0 1).toNatClampNeg) fun z29 => bnd (F_AR_copyOf z29 (379 + 36 * pn + 28) q21.2) fun s27 => bnd (sI s27 0 1 (nI 0)) fun s28 => bnd (F_K_keep 9 s28) fun q36 => (nI 0, q36.1, q36.2) else (nI 3, nI 0, q21.2) else if z21 = 4 then bnd ((q21.2.1 0 5).toNatClampNeg) fun z30 => if z30 < 8 then bnd ((q21.2.1 0 1).toNatClampNeg) fun z31 => bnd (F_AR_copyOf z31 (379 + 36 * pn + 31) q21.2) fun s29 => bnd (sI s29 0 1 (nI 0)) fun s30 => bnd (F_K_keep 10 s30) fun q39 => (nI 0, q39.1, q39.2) else (nI 3, nI 0, q21.2) else bnd ((q21.2.1 0 5).toNatClampNeg) fun z32 => if z32 < 8 then bnd ((q21.2.1 0 1).toNatClampNeg) fun z33 => bnd (F_AR_copyOf z33 (379 + 36 * pn + 34) q21.2) fun s31 => bnd (sI s31 0 1 (nI 0)) fun s32 => bnd (F_K_keep 11 s32) fun q42 => (nI 0, q42.1, q42.2) else (nI 3, nI 0, q21.2) else if z21 = 0 then bnd (F_K_isSound_0 sc q21.2) fun q43 => if (q43.1) = 0 then (nI 2, nI 0, q43.2) else bnd ((q43.2.1 0 5).toNatClampNeg) fun z34 => if z34 < 8 then bnd (F_K_secretFromTape_0 pn q43.2) fun s33 => bnd (sI s33 0 1 (nI 0)) fun s34 => bnd (F_K_keep 0 s34) fun q45 => (nI 0, q45.1, q45.2) else (nI 3, nI 0, q43.2) else if z21 = 1 then bnd (F_K_isSound_1 sc q21.2) fun q46 => if (q46.1) = 0 then (nI 2, nI 0, q46.2) else bnd ((q46.2.1 0 5).toNatClampNeg) fun z35 => if z35 < 8 then bnd (F_K_secretFromTape_1 pn q46.2) fun s35 => bnd (sI s35 0 1 (nI 0)) fun s36 => bnd (F_K_keep 1 s36) fun q48 => (nI 0, q48.1, q48.2) else (nI 3, nI 0, q46.2) else bnd (F_K_isSound_2 sc q21.2) fun q49 => if (q49.1) = 0 then (nI 2, nI 0, q49.2) else bnd ((q49.2.1 0 5).toNatClampNeg) fun z36 => if z36 < 8 then bnd (F_K_secretFromTape_2 pn q49.2) fun s37 => bnd (sI s37 0 1 (nI 0)) fun s38 => bnd (F_K_keep 2 s38) fun q51 => (nI 0, q51.1, q51.2) else (nI 3, nI 0, q49.2)
set_option maxHeartbeats 2000000 in
set_option maxRecDepth 100000 in
theorem N_K_load (l : Launch) (htr : l.stackTraces = false) (g : Gd) (sz : Nat) (T : TyN) (s : Sto) (pl : va_W) (hO : okn g T s pl) (hU : inj T) (h0 : Nat) (v : Int32) (sc : Int32) (tl : Nat) (al : Nat) (pn : Nat) (k_h0 : T h0 = some 0) (e_tl : s.1 0 1 = nI tl) (e_al : s.1 0 3 = nI al) (e_pn : s.1 0 5 = nI pn) (h1 : tl ≤ 16384) (h2 : al ≤ 8192) (h3 : pn ≤ 8) (hlow : lowT T (379 + 36 * pn))  : etMet l y_K_load w_K_load ({ frames := 6, cells := 3, slots := 7491, locals := 168 } : Room) (va_Pc [.ref h0, .int v, .int sc] (pr (ex g) g.1 vcl sz ([] ++ pl))) (xls ["java/lang/IllegalArgumentException", "java/lang/UnsupportedOperationException", "java/lang/IllegalStateException"] (F_K_load v sc pn s).1) (va_Qi (fun (r : Int32) (u : ((Int32 × Int32 × Sto) × TyN) × va_W) => (u.1.1 = F_K_load v sc pn s ∧ r = u.1.1.2.1 ∧ u.1.1.1 = nI 0 ∧ frm (M_K_load) s u.1.1.2.2 ∧ (∃ x : Nat, u.1.1.2.2.1 0 1 = nI x ∧ x ≤ 16384) ∧ (∃ x : Nat, u.1.1.2.2.1 0 3 = nI x ∧ x ≤ 8192) ∧ (∃ x : Nat, u.1.1.2.2.1 0 5 = nI x ∧ x ≤ 8) ∧ True ∧ extN T u.1.2 ∧ inj u.1.2 ∧ (∃ x : Nat, u.1.1.2.2.1 0 5 = nI x ∧ x ≤ 8 ∧ lowT u.1.2 (379 + 36 * x))) ∧ okn g u.1.2 u.1.1.2.2 u.2) (po g.1 vcl (va_A ([] ++ pl) sz) (fun (u : ((Int32 × Int32 × Sto) × TyN) × va_W) => [] ++ u.2)) (va_A ([] ++ pl) sz)) (xtP (fun (u : ((Int32 × Int32 × Sto) × TyN) × va_W) => (u.1.1 = F_K_load v sc pn s ∧ frm (M_K_load) s u.1.1.2.2 ∧ (∃ x : Nat, u.1.1.2.2.1 0 1 = nI x ∧ x ≤ 16384) ∧ (∃ x : Nat, u.1.1.2.2.1 0 3 = nI x ∧ x ≤ 8192) ∧ (∃ x : Nat, u.1.1.2.2.1 0 5 = nI x ∧ x ≤ 8) ∧ True ∧ extN T u.1.2 ∧ inj u.1.2 ∧ (∃ x : Nat, u.1.1.2.2.1 0 5 = nI x ∧ x ≤ 8 ∧ lowT u.1.2 (379 + 36 * x))) ∧ okn g u.1.2 u.1.1.2.2 u.2) (po g.1 vcl (va_A ([] ++ pl) sz) (fun (u : ((Int32 × Int32 × Sto) × TyN) × va_W) => [] ++ u.2)) (va_A ([] ++ pl) sz)) 3 7491 (va_A ([] ++ pl) sz) := by
  refine et_entry (cc := c_K_load) (maxL := 4) (ret := (some .int)) (by decide) rfl (Nat.le_of_ble_eq_true rfl) ?_
  intro p e s0 m args below meth c ls F hr hlk htab hsz hP hD hX hA hl
  obtain ⟨hx, hb, hml, hown, hts⟩ := id F
  have hE := hX.1
  have hK := hE.1
  generalize va_A ([] ++ pl) sz = A at hD hX hE hA ⊢
  have hS : va_S A s0.heap s0.heap [] := va_S.rf
  have hl : lv_has ls 4 [(0, .ref h0), (1, .int v), (2, .int sc)] := hl
  have hR : F_K_load v sc pn s = F_K_load v sc pn s := rfl
  have hF : frm (M_K_load) s s := frm_rf
  have hXT : extN T T := extN_rf
  refine lv_aload_n hx hb dK_load_0 rfl (lv_at hl 0 rfl) ?_
  refine lv_iload_n hx hb dK_load_1 rfl (lv_at hl 1 rfl) ?_
  refine lv_iload_n hx hb dK_load_2 rfl (lv_at hl 2 rfl) ?_
  refine mp_i (cx := []) (wr := []) hP hD hS hA [] [] rfl rfl rfl (by decide) (va_runV (As := [.int v, .int sc]) (rest := []) F (N_K_isLoadable l g _ T s pl hO hU h0 v sc tl al pn k_h0 e_tl e_al e_pn (by omega) (by omega) (by omega)) (cwV 2 hts (wg_app (wg_c kw_772 (wg_c kw_774 (wg_c ks_20 (wg_c kw_1 wg_n)))) kw_775) rfl rfl rfl (by decide +kernel) ⟨by decide, by decide⟩) (pn_W "LatticeKeys" (en_ok g) (ci := 0) (kn := 0) (fl := [(3, 1), (0, 0), (3, 2), (0, 0), (3, 3), (0, 0), (3, 4), (3, 8), (3, 12), (3, 24), (3, 39)]) hK hO k_h0 rfl hP hD hS hA hE [] rfl rfl rfl) rfl rfl hl.1 rfl (lv_room (Nat.le_of_ble_eq_true rfl)) dK_load_3 ⟨Nat.le_of_ble_eq_true rfl, Nat.le_of_ble_eq_true rfl⟩) (fun r21 u21 H locs hu21 hP hD hS => ?_)
  obtain ⟨q21, pl⟩ := u21
  obtain ⟨⟨eq21, rfl, hFc21, hxp21, -⟩, hO⟩ := hu21
  have hO : okn g T q21.2 pl := hO
  have hP : va_P g.1 vcl ([] ++ pl) _ := hP
  have hD : va_D _ ([] ++ pl) := hD
  have hFc21 : frm (M_K_isLoadable) s q21.2 := hFc21
  replace hR := bnd_step hR eq21
  have hF := frm_tr hF hFc21 (fun k hk => by unfold M_K_isLoadable at hk; unfold M_K_load; omega)
  have hf21 : q21.2.1 0 1 = nI tl := fc_F e_tl hFc21 (by unfold M_K_isLoadable; omega)
  have hf22 : q21.2.1 0 3 = nI al := fc_F e_al hFc21 (by unfold M_K_isLoadable; omega)
  have hf23 : q21.2.1 0 5 = nI pn := fc_F e_pn hFc21 (by unfold M_K_isLoadable; omega)
  refine W.widen (k := 0) (n := 0) (by omega) (by omega) ?_
  refine lv_if_ne (tgt := 19) hx hb dK_load_6 (by decide) (fun h21 => ?_) (fun h21 => ?_)
  · replace hR := hR.trans (if_neg h21)
    obtain ⟨z21, hz21, hv21, hp21, hp22⟩ := (hxp21.resolve_left (fun h9 => h21 (h9.trans (by decide)))).2
    have ez21 : z21 = v.toNatClampNeg := by rw [hv21]; exact (nI_clamp (by omega)).symm
    replace hR := bnd_step hR ez21
    rw [hv21] at hl
    by_cases hs21 : sc = 0
    · replace hR := hR.trans (if_pos hs21)
      by_cases hs22 : z21 = 0
      · replace hR := hR.trans (if_pos hs22)
        subst hs22
        have htl : tl = 800 := hp21 hs21
        refine lv_iload_n hx hb dK_load_19 rfl (lv_at hl 1 rfl) ?_
        refine lv_iconst (v := nI 3) hx hb dK_load_20 (by decide) ?_
        refine mi_ge (tgt := 48) hx hb dK_load_21 (by decide) (by omega) (by omega) (fun h22 => absurd h22 (by omega)) (fun h22 => ?_)
        refine lv_aload_n hx hb dK_load_24 rfl (lv_at hl 0 rfl) ?_
        refine lv_aload_n hx hb dK_load_25 rfl (lv_at hl 0 rfl) ?_
        refine nw_get (C := "LatticeKeys") (TT := T_K) (N := 11) hx hb hts (wg_ft i_K) hown hK hO k_h0 (kn := 0) (ci := 0) (fl := [(3, 1), (0, 0), (3, 2), (0, 0), (3, 3), (0, 0), (3, 4), (3, 8), (3, 12), (3, 24), (3, 39)]) rfl hP rfl 6 (by decide) (hts _ (wg_t kw_380)) (fun _ h9 => h9) (cd := (3, 4)) rfl dK_load_26 (fun v21 hv22 => ?_)
        obtain ⟨r22, rfl, kr21⟩ := (show ∃ r : Nat, v21 = .ref r ∧ T r = some 4 from hv22)
        refine lv_iload_n hx hb dK_load_29 rfl (lv_at hl 1 rfl) ?_
        refine nw_aald6 hx hb hK hO kr21 (k := 4) (b := 5) rfl hP (by omega) (by omega) dK_load_30 (fun r23 kr22 => ?_)
        refine lv_iload_n hx hb dK_load_31 rfl (lv_at hl 2 rfl) ?_
        refine mp_i (cx := []) (wr := []) hP hD hS hA [] [] rfl rfl rfl (by decide) (va_runV (As := [.ref r23, .int sc]) (rest := []) F (N_K_isSound_0 l g _ T q21.2 pl hO hU h0 r23 sc k_h0 kr22) (cwV 2 hts (wg_app (wg_c kw_777 (wg_c kw_779 (wg_c ks_21 (wg_c kw_1 wg_n)))) kw_780) rfl rfl rfl (by decide +kernel) ⟨by decide, by decide⟩) (pn_W "LatticeKeys" (en_ok g) (ci := 0) (kn := 0) (fl := [(3, 1), (0, 0), (3, 2), (0, 0), (3, 3), (0, 0), (3, 4), (3, 8), (3, 12), (3, 24), (3, 39)]) hK hO k_h0 rfl hP hD hS hA hE [] rfl rfl rfl) rfl rfl hl.1 rfl (lv_room (Nat.le_of_ble_eq_true rfl)) dK_load_32 ⟨Nat.le_of_ble_eq_true rfl, Nat.le_of_ble_eq_true rfl⟩) (fun r24 u22 H locs hu22 hP hD hS => ?_)
        obtain ⟨q22, pl⟩ := u22
        obtain ⟨⟨eq22, rfl, hFc22, hxp22, -⟩, hO⟩ := hu22
        have hO : okn g T q22.2 pl := hO
        have hP : va_P g.1 vcl ([] ++ pl) _ := hP
        have hD : va_D _ ([] ++ pl) := hD
        have hFc22 : frm (M_K_isSound_0) q21.2 q22.2 := hFc22
        replace hR := bnd_step hR eq22
        have hF := frm_tr hF hFc22 (fun k hk => by unfold M_K_isSound_0 at hk; unfold M_K_load; omega)
        have hf24 : q22.2.1 0 1 = nI tl := fc_F hf21 hFc22 (by unfold M_K_isSound_0; omega)
        have hf25 : q22.2.1 0 3 = nI al := fc_F hf22 hFc22 (by unfold M_K_isSound_0; omega)
        have hf26 : q22.2.1 0 5 = nI pn := fc_F hf23 hFc22 (by unfold M_K_isSound_0; omega)
        refine W.widen (k := 0) (n := 0) (by omega) (by omega) ?_
        refine lv_if_ne (tgt := 48) hx hb dK_load_35 (by decide) (fun h23 => ?_) (fun h23 => ?_)
        · replace hR := hR.trans (if_neg h23)
          refine lv_aload_n hx hb dK_load_48 rfl (lv_at hl 0 rfl) ?_
          refine nw_get (C := "LatticeKeys") (TT := T_K) (N := 11) hx hb hts (wg_ft i_K) hown hK hO k_h0 (kn := 0) (ci := 0) (fl := [(3, 1), (0, 0), (3, 2), (0, 0), (3, 3), (0, 0), (3, 4), (3, 8), (3, 12), (3, 24), (3, 39)]) rfl hP rfl 5 (by decide) (hts _ (wg_t kw_379)) (fun _ h9 => h9) (cd := (0, 0)) rfl dK_load_49 (fun v22 hv23 => ?_)
          obtain rfl := (show v22 = .int (q22.2.1 0 5) from hv23)
          obtain ⟨z22, ez22, hz22, hz23⟩ := cl_of (b := 2147483648) hf26 (by omega) (by decide)
          replace hR := bnd_step hR ez22
          refine mi_as hz22 ?_
          refine lv_bipush (v := nI 8) hx hb dK_load_52 (by decide) ?_
          refine mi_lt (tgt := 67) hx hb dK_load_54 (by decide) (by omega) (by omega) (fun h24 => ?_) (fun h24 => ?_)
          · replace hR := hR.trans (if_pos h24)
            refine lv_iload_n hx hb dK_load_67 rfl (lv_at hl 2 rfl) ?_
            refine lv_if_eq (tgt := 79) hx hb dK_load_68 (by decide) (fun h9 => ?_) (fun h9 => absurd hs21 h9)
            have hfr21 : frT T (379 + 36 * pn + 18) := frT_low hlow (by omega)
            have hfr22 : frT T (379 + 36 * pn + 19) := frT_low hlow (by omega)
            have hfr23 : frT T (379 + 36 * pn + 20) := frT_low hlow (by omega)
            have hlw21 : lowT T (379 + 36 * (pn + 1)) := lowT_up hlow (by omega)
            refine va_new (ws := [] ++ pl) (ci := 13) (fs := [.int 0, .null, .null]) (C := "LatticeKeys$KeyPair") (T := T_KP) (N := 3) hx hb hts (wg_ft i_KP) ty_KP k_KP hown (hts _ (wg_t kw_43)) (hts _ (wg_t kw_740)) (hts _ (wg_t kw_24)) hK hP hD hS hA rfl z_KP (Nat.le_of_ble_eq_true rfl) (Nat.le_of_ble_eq_true rfl) dK_load_79 (fun q23 H hP hD hS => ?_)
            obtain ⟨hP, hD⟩ := mv_first hP hD
            have hP : va_P g.1 vcl ([(q23, .inr (13, [.int 0, .null, .null]))] ++ pl) _ := hP
            have hD : va_D _ ([(q23, .inr (13, [.int 0, .null, .null]))] ++ pl) := hD
            refine W.widen (k := 1) (n := 3) (by omega) (by omega) ?_
            refine lv_dup hx hb dK_load_82 rfl ?_
            refine lv_iload_n hx hb dK_load_83 rfl (lv_at hl 1 rfl) ?_
            refine lv_aload_n hx hb dK_load_84 rfl (lv_at hl 0 rfl) ?_
            refine nw_get (C := "LatticeKeys") (TT := T_K) (N := 11) hx hb hts (wg_ft i_K) hown hK hO k_h0 (kn := 0) (ci := 0) (fl := [(3, 1), (0, 0), (3, 2), (0, 0), (3, 3), (0, 0), (3, 4), (3, 8), (3, 12), (3, 24), (3, 39)]) rfl hP rfl 0 (by decide) (hts _ (wg_t kw_374)) (fun _ h9 => h9) (cd := (3, 1)) rfl dK_load_85 (fun v23 hv24 => ?_)
            obtain ⟨r25, rfl, kr23⟩ := (show ∃ r : Nat, v23 = .ref r ∧ T r = some 1 from hv24)
            refine lv_aload_n hx hb dK_load_88 rfl (lv_at hl 0 rfl) ?_
            refine nw_get (C := "LatticeKeys") (TT := T_K) (N := 11) hx hb hts (wg_ft i_K) hown hK hO k_h0 (kn := 0) (ci := 0) (fl := [(3, 1), (0, 0), (3, 2), (0, 0), (3, 3), (0, 0), (3, 4), (3, 8), (3, 12), (3, 24), (3, 39)]) rfl hP rfl 1 (by decide) (hts _ (wg_t kw_375)) (fun _ h9 => h9) (cd := (0, 0)) rfl dK_load_89 (fun v24 hv25 => ?_)
            obtain rfl := (show v24 = .int (q22.2.1 0 1) from hv25)
            obtain ⟨z23, ez23, hz24, hz25⟩ := cl_of (b := 2147483648) hf24 (by omega) (by decide)
            replace hR := bnd_step hR ez23
            refine mi_as hz24 ?_
            refine mp_q (cx := []) (wr := [(q23, .inr (13, [.int 0, .null, .null]))]) hP hD hS hA [] [0] rfl rfl rfl (by decide) (va_runS (As := [.ref r25, .int (nI z23)]) (rest := [.int (nI 0), .ref q23, .ref q23]) F (N_AR_copyOf l g _ T q22.2 pl hO hU (379 + 36 * pn + 19) r25 z23 kr23 (by omega) (by omega) (by rw [show z23 = 800 by omega]; exact (pr_p6 (z := pn) (by omega))) hfr22 (by omega)) (va_cwS 2 hts (wg_app (wg_c kw_1047 (wg_c kw_880 (wg_c kw_21 wg_n))) kw_881) rfl rfl rfl (by decide +kernel) ⟨by decide, by decide⟩) (pp_S (en_ok g) hP hD hS hA hE [] rfl rfl) rfl rfl hl.1 rfl (lv_room (Nat.le_of_ble_eq_true rfl)) dK_load_92 ⟨Nat.le_of_ble_eq_true rfl, Nat.le_of_ble_eq_true rfl⟩) (fun r26 u23 H locs hu23 hP hD hS => ?_)
            obtain ⟨⟨s21, T⟩, pl⟩ := u23
            obtain ⟨⟨eq23, ⟨q24, rfl, kr24⟩, hFc23, hxt21, hU, hnf21, hnl21⟩, hO⟩ := hu23
            have hO : okn g T s21 pl := hO
            have hP : va_P g.1 vcl ([(q23, .inr (13, [.int 0, .null, .null]))] ++ pl) _ := hP
            have hD : va_D _ ([(q23, .inr (13, [.int 0, .null, .null]))] ++ pl) := hD
            have hU : inj T := hU
            have eq23 : s21 = F_AR_copyOf z23 (379 + 36 * pn + 19) q22.2 := eq23
            have hFc23 : frm (M_AR_copyOf (379 + 36 * pn + 19)) q22.2 s21 := hFc23
            replace hR := bnd_step hR eq23
            have hF := frm_tr hF hFc23 (fun k hk => by unfold M_AR_copyOf at hk; unfold M_K_load; omega)
            have hf27 : s21.1 0 1 = nI tl := fc_F hf24 hFc23 (by unfold M_AR_copyOf; omega)
            have hf28 : s21.1 0 3 = nI al := fc_F hf25 hFc23 (by unfold M_AR_copyOf; omega)
            have hf29 : s21.1 0 5 = nI pn := fc_F hf26 hFc23 (by unfold M_AR_copyOf; omega)
            have hnf21 : ∀ k' : Nat, k' ≠ (379 + 36 * pn + 19) → frT _ k' → frT T k' := hnf21
            have hnl21 : ∀ b : Nat, (379 + 36 * pn + 19) < b → lowT _ b → lowT T b := hnl21
            have kr25 := hxt21 _ _ k_h0
            have kr26 := hxt21 _ _ kr21
            have kr27 := hxt21 _ _ kr22
            have kr28 := hxt21 _ _ kr23
            have hXT := extN_tr hXT hxt21
            have hfr24 := hnf21 _ (by omega) hfr21
            have hfr25 := hnf21 _ (by omega) hfr23
            have hlw22 := hnl21 _ (by omega) hlw21
            refine W.widen (k := 2) (n := 4899) (by omega) (by omega) ?_
            refine lv_null hx hb dK_load_95 ?_
            refine mq_v (cx := [(q23, .inr (13, [.int 0, .null, .null]))]) (wr := []) hP hD hS hA [0] [] rfl rfl rfl (by decide) (va_runI (As := [.int (nI 0), .ref q24, .null]) (rest := [.ref q23]) F (m_KP_init_n l g _ q23 q24 (nI 0)) (cwI 3 hts (wg_in kw_743) rfl rfl rfl (hts _ (wg_t kw_24)) (hts _ (wg_t kw_741)) (hts _ (wg_t kw_742)) rfl (by decide +kernel) ⟨by decide, by decide⟩) (pr_S (en_ok g) hP hD hS hA hE [0] rfl rfl) rfl rfl hl.1 rfl (lv_room (Nat.le_of_ble_eq_true rfl)) dK_load_96 ⟨Nat.le_of_ble_eq_true rfl, Nat.le_of_ble_eq_true rfl⟩) (fun _ H locs _ hP hD hS => ?_)
            obtain ⟨hP, hD⟩ := mv_last (X := []) (c := (q23, .inr (13, [.int (nI 0), .ref q24, .null]))) hP hD
            refine W.widen (k := 2) (n := 4899) (by omega) (by omega) ?_
            obtain ⟨T, pl, hxt22, hU, kr29, hO, hP, hD, hnf22, hnl22⟩ := absorbN (s21) (379 + 36 * pn + 18) hP hD hO hU hfr24 (fun _ _ => rfl) (fun _ _ => rfl) (fun _ h9 _ => fitP0 (pr_o6 (z := pn) (by omega)) (h9 _ _ kr24))
            have kr30 := hxt22 _ _ kr25
            have kr31 := hxt22 _ _ kr26
            have kr32 := hxt22 _ _ kr27
            have kr33 := hxt22 _ _ kr28
            have kr34 := hxt22 _ _ kr24
            have hXT := extN_tr hXT hxt22
            have hfr26 := hnf22 _ (by omega) hfr25
            have hlw23 := hnl22 _ (by omega) hlw22
            refine lv_astore_n (lv' := [(3, .ref q23), (0, .ref h0), (1, .int (nI 0)), (2, .int sc)]) hx hb dK_load_99 rfl hl (by decide) rfl (fun ls hl => ?_)
            refine lv_aload_n hx hb dK_load_100 rfl (lv_at hl 1 rfl) ?_
            refine lv_iconst (v := nI 0) hx hb dK_load_101 (by decide) ?_
            refine nw_put (C := "LatticeKeys") (TT := T_K) (N := 11) hx hb hts (wg_ft i_K) ty_K k_K n_K hown hK hO hU kr30 (kn := 0) (ci := 0) (fl := [(3, 1), (0, 0), (3, 2), (0, 0), (3, 3), (0, 0), (3, 4), (3, 8), (3, 12), (3, 24), (3, 39)]) rfl hP hD hS rfl 1 (by decide) (hts _ (wg_t kw_375)) (fun _ h9 => h9) rfl (by decide +kernel) rfl dK_load_102 (fun s22 pl H locs es21 hO hP hD hS => ?_)
            replace hR := bnd_step hR es21
            have hF := frm_sI hF es21 (by unfold M_K_load; omega)
            have hf31 : s22.1 0 3 = nI al := fc_ne hf28 es21 (by omega)
            have hf32 : s22.1 0 5 = nI pn := fc_ne hf29 es21 (by omega)
            have hf33 : s22.1 0 1 = nI 0 := fc_eq es21
            refine lv_aload_n hx hb dK_load_105 rfl (lv_at hl 1 rfl) ?_
            refine lv_aload_n hx hb dK_load_106 rfl (lv_at hl 0 rfl) ?_
            refine mp_i (cx := []) (wr := []) hP hD hS hA [] [] rfl rfl rfl (by decide) (va_runV (As := [.ref q23]) (rest := []) F (N_K_keep l g _ T s22 pl hO hU h0 q23 6 0 al pn kr30 kr29 hf33 hf31 hf32 (by omega) (by omega) (by omega) (by omega)) (cwV 1 hts (wg_app (wg_c kw_760 (wg_c kw_762 (wg_c ks_19 (wg_c kw_1 wg_n)))) kw_763) rfl rfl rfl (by decide +kernel) ⟨by decide, by decide⟩) (pn_W "LatticeKeys" (en_ok g) (ci := 0) (kn := 0) (fl := [(3, 1), (0, 0), (3, 2), (0, 0), (3, 3), (0, 0), (3, 4), (3, 8), (3, 12), (3, 24), (3, 39)]) hK hO kr30 rfl hP hD hS hA hE [] rfl rfl rfl) rfl rfl hl.1 rfl (lv_room (Nat.le_of_ble_eq_true rfl)) dK_load_107 ⟨Nat.le_of_ble_eq_true rfl, Nat.le_of_ble_eq_true rfl⟩) (fun r27 u24 H locs hu24 hP hD hS => ?_)
            obtain ⟨q25, pl⟩ := u24
            obtain ⟨⟨eq24, rfl, hFc24, ⟨x23, hx_23, hb_23⟩, ⟨x24, hx_24, hb_24⟩, ⟨x25, hx_25, hb_25⟩, -⟩, hO⟩ := hu24
            have hO : okn g T q25.2 pl := hO
            have hP : va_P g.1 vcl ([] ++ pl) _ := hP
            have hD : va_D _ ([] ++ pl) := hD
            have hFc24 : frm (M_K_keep) s22 q25.2 := hFc24
            have hb_23 : x23 = 0 := hb_23
            have hb_24 : x24 = al := hb_24
            have hb_25 : x25 = pn + 1 := hb_25
            replace hR := bnd_step hR eq24
            have hF := frm_tr hF hFc24 (fun k hk => by unfold M_K_keep at hk; unfold M_K_load; omega)
            refine W.widen (k := 2) (n := 4899) (by omega) (by omega) ?_
            refine et_ret ?_
            exact mp_iret hx hb hr hlk hP hD hS (((nI 0, q25.1, q25.2), T), pl) ⟨⟨hR.symm, rfl, rfl, hF, ⟨x23, hx_23, by omega⟩, ⟨x24, hx_24, by omega⟩, ⟨x25, hx_25, by omega⟩, trivial, hXT, hU, ⟨x25, hx_25, by omega, (lowT_up hlw23 (by omega))⟩⟩, hO⟩ [] rfl rfl rfl (by omega) (by omega) dK_load_110
          · replace hR := hR.trans (if_neg (Nat.not_lt.mpr h24))
            exact et_throw (own := "LatticeKeys") (cls := "java/lang/IllegalStateException") (text := "no room for more keys") (names := ["java/lang/RuntimeException", "java/lang/Exception"]) (ik := 69) (is := 105) (ic := 73) hx hb htr ctr_ISE_0 ctr_ISE_1 ctr_ISE_2 ctr_ISE_5 hown (by decide) (by decide) (hts _ (wg_t kw_420)) (hts _ (wg_t kw_17)) (hX.2.2.2.2.2.1 4 ("LatticeKeys", 105, "no room for more keys") rfl) (hat_ISE hts hX.2) hS.1 (hl.1.trans hml.symm) dK_load_57 dK_load_60 dK_load_61 dK_load_63 dK_load_66 htab (Nat.le_of_ble_eq_true rfl) (Nat.le_of_ble_eq_true rfl) (Nat.le_of_ble_eq_true rfl) (Nat.le_of_ble_eq_true rfl) hlk (Nat.le_of_ble_eq_true rfl) (Nat.le_of_ble_eq_true rfl) (xls_at 2 (congrArg Prod.fst hR) (by decide) rfl) hS.2.2 (thr_st hX.2) (fun t hz9 hk9 => ⟨⟨(((nI 3, nI 0, q22.2), T), pl), ⟨⟨hR.symm, hF, ⟨tl, hf24, by omega⟩, ⟨al, hf25, by omega⟩, ⟨pn, hf26, by omega⟩, trivial, hXT, hU, ⟨pn, hf26, by omega, (lowT_up hlow (by omega))⟩⟩, hO⟩, lc_P hP hk9, hD⟩, (lc_S hS hz9 hk9).F rfl⟩)
        · replace hR := hR.trans (if_pos h23)
          exact et_throw (own := "LatticeKeys") (cls := "java/lang/UnsupportedOperationException") (text := "the check of the key fails") (names := ["java/lang/RuntimeException", "java/lang/Exception"]) (ik := 137) (is := 139) (ic := 141) hx hb htr ctr_UOE_0 ctr_UOE_1 ctr_UOE_2 ctr_UOE_5 hown (by decide) (by decide) (hts _ (wg_t kw_789)) (hts _ (wg_t kw_25)) (hX.2.2.2.2.2.1 6 ("LatticeKeys", 139, "the check of the key fails") rfl) (hat_UOE hts hX.2) hS.1 (hl.1.trans hml.symm) dK_load_38 dK_load_41 dK_load_42 dK_load_44 dK_load_47 htab (Nat.le_of_ble_eq_true rfl) (Nat.le_of_ble_eq_true rfl) (Nat.le_of_ble_eq_true rfl) (Nat.le_of_ble_eq_true rfl) hlk (Nat.le_of_ble_eq_true rfl) (Nat.le_of_ble_eq_true rfl) (xls_at 1 (congrArg Prod.fst hR) (by decide) rfl) hS.2.2 (thr_st hX.2) (fun t hz9 hk9 => ⟨⟨(((nI 2, nI 0, q22.2), T), pl), ⟨⟨hR.symm, hF, ⟨tl, hf24, by omega⟩, ⟨al, hf25, by omega⟩, ⟨pn, hf26, by omega⟩, trivial, hXT, hU, ⟨pn, hf26, by omega, (lowT_up hlow (by omega))⟩⟩, hO⟩, lc_P hP hk9, hD⟩, (lc_S hS hz9 hk9).F rfl⟩)
      replace hR := hR.trans (if_neg hs22)
      by_cases hs23 : z21 = 1
      · replace hR := hR.trans (if_pos hs23)
        subst hs23
        have htl : tl = 1184 := hp21 hs21
        refine lv_iload_n hx hb dK_load_19 rfl (lv_at hl 1 rfl) ?_
        refine lv_iconst (v := nI 3) hx hb dK_load_20 (by decide) ?_
        refine mi_ge (tgt := 48) hx hb dK_load_21 (by decide) (by omega) (by omega) (fun h25 => absurd h25 (by omega)) (fun h25 => ?_)
        refine lv_aload_n hx hb dK_load_24 rfl (lv_at hl 0 rfl) ?_
        refine lv_aload_n hx hb dK_load_25 rfl (lv_at hl 0 rfl) ?_
        refine nw_get (C := "LatticeKeys") (TT := T_K) (N := 11) hx hb hts (wg_ft i_K) hown hK hO k_h0 (kn := 0) (ci := 0) (fl := [(3, 1), (0, 0), (3, 2), (0, 0), (3, 3), (0, 0), (3, 4), (3, 8), (3, 12), (3, 24), (3, 39)]) rfl hP rfl 6 (by decide) (hts _ (wg_t kw_380)) (fun _ h9 => h9) (cd := (3, 4)) rfl dK_load_26 (fun v25 hv26 => ?_)
        obtain ⟨r28, rfl, kr35⟩ := (show ∃ r : Nat, v25 = .ref r ∧ T r = some 4 from hv26)
        refine lv_iload_n hx hb dK_load_29 rfl (lv_at hl 1 rfl) ?_
        refine nw_aald6 hx hb hK hO kr35 (k := 4) (b := 5) rfl hP (by omega) (by omega) dK_load_30 (fun r29 kr36 => ?_)
        refine lv_iload_n hx hb dK_load_31 rfl (lv_at hl 2 rfl) ?_
        refine mp_i (cx := []) (wr := []) hP hD hS hA [] [] rfl rfl rfl (by decide) (va_runV (As := [.ref r29, .int sc]) (rest := []) F (N_K_isSound_1 l g _ T q21.2 pl hO hU h0 r29 sc k_h0 kr36) (cwV 2 hts (wg_app (wg_c kw_777 (wg_c kw_779 (wg_c ks_21 (wg_c kw_1 wg_n)))) kw_780) rfl rfl rfl (by decide +kernel) ⟨by decide, by decide⟩) (pn_W "LatticeKeys" (en_ok g) (ci := 0) (kn := 0) (fl := [(3, 1), (0, 0), (3, 2), (0, 0), (3, 3), (0, 0), (3, 4), (3, 8), (3, 12), (3, 24), (3, 39)]) hK hO k_h0 rfl hP hD hS hA hE [] rfl rfl rfl) rfl rfl hl.1 rfl (lv_room (Nat.le_of_ble_eq_true rfl)) dK_load_32 ⟨Nat.le_of_ble_eq_true rfl, Nat.le_of_ble_eq_true rfl⟩) (fun r30 u25 H locs hu25 hP hD hS => ?_)
        obtain ⟨q26, pl⟩ := u25
        obtain ⟨⟨eq25, rfl, hFc25, hxp24, -⟩, hO⟩ := hu25
        have hO : okn g T q26.2 pl := hO
        have hP : va_P g.1 vcl ([] ++ pl) _ := hP
        have hD : va_D _ ([] ++ pl) := hD
        have hFc25 : frm (M_K_isSound_1) q21.2 q26.2 := hFc25
        replace hR := bnd_step hR eq25
        have hF := frm_tr hF hFc25 (fun k hk => by unfold M_K_isSound_1 at hk; unfold M_K_load; omega)
        have hf34 : q26.2.1 0 1 = nI tl := fc_F hf21 hFc25 (by unfold M_K_isSound_1; omega)
        have hf35 : q26.2.1 0 3 = nI al := fc_F hf22 hFc25 (by unfold M_K_isSound_1; omega)
        have hf36 : q26.2.1 0 5 = nI pn := fc_F hf23 hFc25 (by unfold M_K_isSound_1; omega)
        refine W.widen (k := 0) (n := 0) (by omega) (by omega) ?_
        refine lv_if_ne (tgt := 48) hx hb dK_load_35 (by decide) (fun h26 => ?_) (fun h26 => ?_)
        · replace hR := hR.trans (if_neg h26)
          refine lv_aload_n hx hb dK_load_48 rfl (lv_at hl 0 rfl) ?_
          refine nw_get (C := "LatticeKeys") (TT := T_K) (N := 11) hx hb hts (wg_ft i_K) hown hK hO k_h0 (kn := 0) (ci := 0) (fl := [(3, 1), (0, 0), (3, 2), (0, 0), (3, 3), (0, 0), (3, 4), (3, 8), (3, 12), (3, 24), (3, 39)]) rfl hP rfl 5 (by decide) (hts _ (wg_t kw_379)) (fun _ h9 => h9) (cd := (0, 0)) rfl dK_load_49 (fun v26 hv27 => ?_)
          obtain rfl := (show v26 = .int (q26.2.1 0 5) from hv27)
          obtain ⟨z24, ez24, hz26, hz27⟩ := cl_of (b := 2147483648) hf36 (by omega) (by decide)
          replace hR := bnd_step hR ez24
          refine mi_as hz26 ?_
          refine lv_bipush (v := nI 8) hx hb dK_load_52 (by decide) ?_
          refine mi_lt (tgt := 67) hx hb dK_load_54 (by decide) (by omega) (by omega) (fun h27 => ?_) (fun h27 => ?_)
          · replace hR := hR.trans (if_pos h27)
            refine lv_iload_n hx hb dK_load_67 rfl (lv_at hl 2 rfl) ?_
            refine lv_if_eq (tgt := 79) hx hb dK_load_68 (by decide) (fun h9 => ?_) (fun h9 => absurd hs21 h9)
            have hfr27 : frT T (379 + 36 * pn + 21) := frT_low hlow (by omega)
            have hfr28 : frT T (379 + 36 * pn + 22) := frT_low hlow (by omega)
            have hfr29 : frT T (379 + 36 * pn + 23) := frT_low hlow (by omega)
            have hlw24 : lowT T (379 + 36 * (pn + 1)) := lowT_up hlow (by omega)
            refine va_new (ws := [] ++ pl) (ci := 13) (fs := [.int 0, .null, .null]) (C := "LatticeKeys$KeyPair") (T := T_KP) (N := 3) hx hb hts (wg_ft i_KP) ty_KP k_KP hown (hts _ (wg_t kw_43)) (hts _ (wg_t kw_740)) (hts _ (wg_t kw_24)) hK hP hD hS hA rfl z_KP (Nat.le_of_ble_eq_true rfl) (Nat.le_of_ble_eq_true rfl) dK_load_79 (fun q27 H hP hD hS => ?_)
            obtain ⟨hP, hD⟩ := mv_first hP hD
            have hP : va_P g.1 vcl ([(q27, .inr (13, [.int 0, .null, .null]))] ++ pl) _ := hP
            have hD : va_D _ ([(q27, .inr (13, [.int 0, .null, .null]))] ++ pl) := hD
            refine W.widen (k := 1) (n := 3) (by omega) (by omega) ?_
            refine lv_dup hx hb dK_load_82 rfl ?_
            refine lv_iload_n hx hb dK_load_83 rfl (lv_at hl 1 rfl) ?_
            refine lv_aload_n hx hb dK_load_84 rfl (lv_at hl 0 rfl) ?_
            refine nw_get (C := "LatticeKeys") (TT := T_K) (N := 11) hx hb hts (wg_ft i_K) hown hK hO k_h0 (kn := 0) (ci := 0) (fl := [(3, 1), (0, 0), (3, 2), (0, 0), (3, 3), (0, 0), (3, 4), (3, 8), (3, 12), (3, 24), (3, 39)]) rfl hP rfl 0 (by decide) (hts _ (wg_t kw_374)) (fun _ h9 => h9) (cd := (3, 1)) rfl dK_load_85 (fun v27 hv28 => ?_)
            obtain ⟨r31, rfl, kr37⟩ := (show ∃ r : Nat, v27 = .ref r ∧ T r = some 1 from hv28)
            refine lv_aload_n hx hb dK_load_88 rfl (lv_at hl 0 rfl) ?_
            refine nw_get (C := "LatticeKeys") (TT := T_K) (N := 11) hx hb hts (wg_ft i_K) hown hK hO k_h0 (kn := 0) (ci := 0) (fl := [(3, 1), (0, 0), (3, 2), (0, 0), (3, 3), (0, 0), (3, 4), (3, 8), (3, 12), (3, 24), (3, 39)]) rfl hP rfl 1 (by decide) (hts _ (wg_t kw_375)) (fun _ h9 => h9) (cd := (0, 0)) rfl dK_load_89 (fun v28 hv29 => ?_)
            obtain rfl := (show v28 = .int (q26.2.1 0 1) from hv29)
            obtain ⟨z25, ez25, hz28, hz29⟩ := cl_of (b := 2147483648) hf34 (by omega) (by decide)
            replace hR := bnd_step hR ez25
            refine mi_as hz28 ?_
            refine mp_q (cx := []) (wr := [(q27, .inr (13, [.int 0, .null, .null]))]) hP hD hS hA [] [0] rfl rfl rfl (by decide) (va_runS (As := [.ref r31, .int (nI z25)]) (rest := [.int (nI 1), .ref q27, .ref q27]) F (N_AR_copyOf l g _ T q26.2 pl hO hU (379 + 36 * pn + 22) r31 z25 kr37 (by omega) (by omega) (by rw [show z25 = 1184 by omega]; exact (pr_p7 (z := pn) (by omega))) hfr28 (by omega)) (va_cwS 2 hts (wg_app (wg_c kw_1047 (wg_c kw_880 (wg_c kw_21 wg_n))) kw_881) rfl rfl rfl (by decide +kernel) ⟨by decide, by decide⟩) (pp_S (en_ok g) hP hD hS hA hE [] rfl rfl) rfl rfl hl.1 rfl (lv_room (Nat.le_of_ble_eq_true rfl)) dK_load_92 ⟨Nat.le_of_ble_eq_true rfl, Nat.le_of_ble_eq_true rfl⟩) (fun r32 u26 H locs hu26 hP hD hS => ?_)
            obtain ⟨⟨s23, T⟩, pl⟩ := u26
            obtain ⟨⟨eq26, ⟨q28, rfl, kr38⟩, hFc26, hxt23, hU, hnf23, hnl23⟩, hO⟩ := hu26
            have hO : okn g T s23 pl := hO
            have hP : va_P g.1 vcl ([(q27, .inr (13, [.int 0, .null, .null]))] ++ pl) _ := hP
            have hD : va_D _ ([(q27, .inr (13, [.int 0, .null, .null]))] ++ pl) := hD
            have hU : inj T := hU
            have eq26 : s23 = F_AR_copyOf z25 (379 + 36 * pn + 22) q26.2 := eq26
            have hFc26 : frm (M_AR_copyOf (379 + 36 * pn + 22)) q26.2 s23 := hFc26
            replace hR := bnd_step hR eq26
            have hF := frm_tr hF hFc26 (fun k hk => by unfold M_AR_copyOf at hk; unfold M_K_load; omega)
            have hf37 : s23.1 0 1 = nI tl := fc_F hf34 hFc26 (by unfold M_AR_copyOf; omega)
            have hf38 : s23.1 0 3 = nI al := fc_F hf35 hFc26 (by unfold M_AR_copyOf; omega)
            have hf39 : s23.1 0 5 = nI pn := fc_F hf36 hFc26 (by unfold M_AR_copyOf; omega)
            have hnf23 : ∀ k' : Nat, k' ≠ (379 + 36 * pn + 22) → frT _ k' → frT T k' := hnf23
            have hnl23 : ∀ b : Nat, (379 + 36 * pn + 22) < b → lowT _ b → lowT T b := hnl23
            have kr39 := hxt23 _ _ k_h0
            have kr40 := hxt23 _ _ kr35
            have kr41 := hxt23 _ _ kr36
            have kr42 := hxt23 _ _ kr37
            have hXT := extN_tr hXT hxt23
            have hfr30 := hnf23 _ (by omega) hfr27
            have hfr31 := hnf23 _ (by omega) hfr29
            have hlw25 := hnl23 _ (by omega) hlw24
            refine W.widen (k := 2) (n := 4899) (by omega) (by omega) ?_
            refine lv_null hx hb dK_load_95 ?_
            refine mq_v (cx := [(q27, .inr (13, [.int 0, .null, .null]))]) (wr := []) hP hD hS hA [0] [] rfl rfl rfl (by decide) (va_runI (As := [.int (nI 1), .ref q28, .null]) (rest := [.ref q27]) F (m_KP_init_n l g _ q27 q28 (nI 1)) (cwI 3 hts (wg_in kw_743) rfl rfl rfl (hts _ (wg_t kw_24)) (hts _ (wg_t kw_741)) (hts _ (wg_t kw_742)) rfl (by decide +kernel) ⟨by decide, by decide⟩) (pr_S (en_ok g) hP hD hS hA hE [0] rfl rfl) rfl rfl hl.1 rfl (lv_room (Nat.le_of_ble_eq_true rfl)) dK_load_96 ⟨Nat.le_of_ble_eq_true rfl, Nat.le_of_ble_eq_true rfl⟩) (fun _ H locs _ hP hD hS => ?_)
            obtain ⟨hP, hD⟩ := mv_last (X := []) (c := (q27, .inr (13, [.int (nI 1), .ref q28, .null]))) hP hD
            refine W.widen (k := 2) (n := 4899) (by omega) (by omega) ?_
            obtain ⟨T, pl, hxt24, hU, kr43, hO, hP, hD, hnf24, hnl24⟩ := absorbN (s23) (379 + 36 * pn + 21) hP hD hO hU hfr30 (fun _ _ => rfl) (fun _ _ => rfl) (fun _ h9 _ => fitP0 (pr_o7 (z := pn) (by omega)) (h9 _ _ kr38))
            have kr44 := hxt24 _ _ kr39
            have kr45 := hxt24 _ _ kr40
            have kr46 := hxt24 _ _ kr41
            have kr47 := hxt24 _ _ kr42
            have kr48 := hxt24 _ _ kr38
            have hXT := extN_tr hXT hxt24
            have hfr32 := hnf24 _ (by omega) hfr31
            have hlw26 := hnl24 _ (by omega) hlw25
            refine lv_astore_n (lv' := [(3, .ref q27), (0, .ref h0), (1, .int (nI 1)), (2, .int sc)]) hx hb dK_load_99 rfl hl (by decide) rfl (fun ls hl => ?_)
            refine lv_aload_n hx hb dK_load_100 rfl (lv_at hl 1 rfl) ?_
            refine lv_iconst (v := nI 0) hx hb dK_load_101 (by decide) ?_
            refine nw_put (C := "LatticeKeys") (TT := T_K) (N := 11) hx hb hts (wg_ft i_K) ty_K k_K n_K hown hK hO hU kr44 (kn := 0) (ci := 0) (fl := [(3, 1), (0, 0), (3, 2), (0, 0), (3, 3), (0, 0), (3, 4), (3, 8), (3, 12), (3, 24), (3, 39)]) rfl hP hD hS rfl 1 (by decide) (hts _ (wg_t kw_375)) (fun _ h9 => h9) rfl (by decide +kernel) rfl dK_load_102 (fun s24 pl H locs es22 hO hP hD hS => ?_)
            replace hR := bnd_step hR es22
            have hF := frm_sI hF es22 (by unfold M_K_load; omega)
            have hf41 : s24.1 0 3 = nI al := fc_ne hf38 es22 (by omega)
            have hf42 : s24.1 0 5 = nI pn := fc_ne hf39 es22 (by omega)
            have hf43 : s24.1 0 1 = nI 0 := fc_eq es22
            refine lv_aload_n hx hb dK_load_105 rfl (lv_at hl 1 rfl) ?_
            refine lv_aload_n hx hb dK_load_106 rfl (lv_at hl 0 rfl) ?_
            refine mp_i (cx := []) (wr := []) hP hD hS hA [] [] rfl rfl rfl (by decide) (va_runV (As := [.ref q27]) (rest := []) F (N_K_keep l g _ T s24 pl hO hU h0 q27 7 0 al pn kr44 kr43 hf43 hf41 hf42 (by omega) (by omega) (by omega) (by omega)) (cwV 1 hts (wg_app (wg_c kw_760 (wg_c kw_762 (wg_c ks_19 (wg_c kw_1 wg_n)))) kw_763) rfl rfl rfl (by decide +kernel) ⟨by decide, by decide⟩) (pn_W "LatticeKeys" (en_ok g) (ci := 0) (kn := 0) (fl := [(3, 1), (0, 0), (3, 2), (0, 0), (3, 3), (0, 0), (3, 4), (3, 8), (3, 12), (3, 24), (3, 39)]) hK hO kr44 rfl hP hD hS hA hE [] rfl rfl rfl) rfl rfl hl.1 rfl (lv_room (Nat.le_of_ble_eq_true rfl)) dK_load_107 ⟨Nat.le_of_ble_eq_true rfl, Nat.le_of_ble_eq_true rfl⟩) (fun r33 u27 H locs hu27 hP hD hS => ?_)
            obtain ⟨q29, pl⟩ := u27
            obtain ⟨⟨eq27, rfl, hFc27, ⟨x28, hx_28, hb_28⟩, ⟨x29, hx_29, hb_29⟩, ⟨x30, hx_30, hb_30⟩, -⟩, hO⟩ := hu27
            have hO : okn g T q29.2 pl := hO
            have hP : va_P g.1 vcl ([] ++ pl) _ := hP
            have hD : va_D _ ([] ++ pl) := hD
            have hFc27 : frm (M_K_keep) s24 q29.2 := hFc27
            have hb_28 : x28 = 0 := hb_28
            have hb_29 : x29 = al := hb_29
            have hb_30 : x30 = pn + 1 := hb_30
            replace hR := bnd_step hR eq27
            have hF := frm_tr hF hFc27 (fun k hk => by unfold M_K_keep at hk; unfold M_K_load; omega)
            refine W.widen (k := 2) (n := 4899) (by omega) (by omega) ?_
            refine et_ret ?_
            exact mp_iret hx hb hr hlk hP hD hS (((nI 0, q29.1, q29.2), T), pl) ⟨⟨hR.symm, rfl, rfl, hF, ⟨x28, hx_28, by omega⟩, ⟨x29, hx_29, by omega⟩, ⟨x30, hx_30, by omega⟩, trivial, hXT, hU, ⟨x30, hx_30, by omega, (lowT_up hlw26 (by omega))⟩⟩, hO⟩ [] rfl rfl rfl (by omega) (by omega) dK_load_110
          · replace hR := hR.trans (if_neg (Nat.not_lt.mpr h27))
            exact et_throw (own := "LatticeKeys") (cls := "java/lang/IllegalStateException") (text := "no room for more keys") (names := ["java/lang/RuntimeException", "java/lang/Exception"]) (ik := 69) (is := 105) (ic := 73) hx hb htr ctr_ISE_0 ctr_ISE_1 ctr_ISE_2 ctr_ISE_5 hown (by decide) (by decide) (hts _ (wg_t kw_420)) (hts _ (wg_t kw_17)) (hX.2.2.2.2.2.1 4 ("LatticeKeys", 105, "no room for more keys") rfl) (hat_ISE hts hX.2) hS.1 (hl.1.trans hml.symm) dK_load_57 dK_load_60 dK_load_61 dK_load_63 dK_load_66 htab (Nat.le_of_ble_eq_true rfl) (Nat.le_of_ble_eq_true rfl) (Nat.le_of_ble_eq_true rfl) (Nat.le_of_ble_eq_true rfl) hlk (Nat.le_of_ble_eq_true rfl) (Nat.le_of_ble_eq_true rfl) (xls_at 2 (congrArg Prod.fst hR) (by decide) rfl) hS.2.2 (thr_st hX.2) (fun t hz9 hk9 => ⟨⟨(((nI 3, nI 0, q26.2), T), pl), ⟨⟨hR.symm, hF, ⟨tl, hf34, by omega⟩, ⟨al, hf35, by omega⟩, ⟨pn, hf36, by omega⟩, trivial, hXT, hU, ⟨pn, hf36, by omega, (lowT_up hlow (by omega))⟩⟩, hO⟩, lc_P hP hk9, hD⟩, (lc_S hS hz9 hk9).F rfl⟩)
        · replace hR := hR.trans (if_pos h26)
          exact et_throw (own := "LatticeKeys") (cls := "java/lang/UnsupportedOperationException") (text := "the check of the key fails") (names := ["java/lang/RuntimeException", "java/lang/Exception"]) (ik := 137) (is := 139) (ic := 141) hx hb htr ctr_UOE_0 ctr_UOE_1 ctr_UOE_2 ctr_UOE_5 hown (by decide) (by decide) (hts _ (wg_t kw_789)) (hts _ (wg_t kw_25)) (hX.2.2.2.2.2.1 6 ("LatticeKeys", 139, "the check of the key fails") rfl) (hat_UOE hts hX.2) hS.1 (hl.1.trans hml.symm) dK_load_38 dK_load_41 dK_load_42 dK_load_44 dK_load_47 htab (Nat.le_of_ble_eq_true rfl) (Nat.le_of_ble_eq_true rfl) (Nat.le_of_ble_eq_true rfl) (Nat.le_of_ble_eq_true rfl) hlk (Nat.le_of_ble_eq_true rfl) (Nat.le_of_ble_eq_true rfl) (xls_at 1 (congrArg Prod.fst hR) (by decide) rfl) hS.2.2 (thr_st hX.2) (fun t hz9 hk9 => ⟨⟨(((nI 2, nI 0, q26.2), T), pl), ⟨⟨hR.symm, hF, ⟨tl, hf34, by omega⟩, ⟨al, hf35, by omega⟩, ⟨pn, hf36, by omega⟩, trivial, hXT, hU, ⟨pn, hf36, by omega, (lowT_up hlow (by omega))⟩⟩, hO⟩, lc_P hP hk9, hD⟩, (lc_S hS hz9 hk9).F rfl⟩)
      replace hR := hR.trans (if_neg hs23)
      by_cases hs24 : z21 = 2
      · replace hR := hR.trans (if_pos hs24)
        subst hs24
        have htl : tl = 1568 := hp21 hs21
        refine lv_iload_n hx hb dK_load_19 rfl (lv_at hl 1 rfl) ?_
        refine lv_iconst (v := nI 3) hx hb dK_load_20 (by decide) ?_
        refine mi_ge (tgt := 48) hx hb dK_load_21 (by decide) (by omega) (by omega) (fun h28 => absurd h28 (by omega)) (fun h28 => ?_)
        refine lv_aload_n hx hb dK_load_24 rfl (lv_at hl 0 rfl) ?_
        refine lv_aload_n hx hb dK_load_25 rfl (lv_at hl 0 rfl) ?_
        refine nw_get (C := "LatticeKeys") (TT := T_K) (N := 11) hx hb hts (wg_ft i_K) hown hK hO k_h0 (kn := 0) (ci := 0) (fl := [(3, 1), (0, 0), (3, 2), (0, 0), (3, 3), (0, 0), (3, 4), (3, 8), (3, 12), (3, 24), (3, 39)]) rfl hP rfl 6 (by decide) (hts _ (wg_t kw_380)) (fun _ h9 => h9) (cd := (3, 4)) rfl dK_load_26 (fun v29 hv30 => ?_)
        obtain ⟨r34, rfl, kr49⟩ := (show ∃ r : Nat, v29 = .ref r ∧ T r = some 4 from hv30)
        refine lv_iload_n hx hb dK_load_29 rfl (lv_at hl 1 rfl) ?_
        refine nw_aald6 hx hb hK hO kr49 (k := 4) (b := 5) rfl hP (by omega) (by omega) dK_load_30 (fun r35 kr50 => ?_)
        refine lv_iload_n hx hb dK_load_31 rfl (lv_at hl 2 rfl) ?_
        refine mp_i (cx := []) (wr := []) hP hD hS hA [] [] rfl rfl rfl (by decide) (va_runV (As := [.ref r35, .int sc]) (rest := []) F (N_K_isSound_2 l g _ T q21.2 pl hO hU h0 r35 sc k_h0 kr50) (cwV 2 hts (wg_app (wg_c kw_777 (wg_c kw_779 (wg_c ks_21 (wg_c kw_1 wg_n)))) kw_780) rfl rfl rfl (by decide +kernel) ⟨by decide, by decide⟩) (pn_W "LatticeKeys" (en_ok g) (ci := 0) (kn := 0) (fl := [(3, 1), (0, 0), (3, 2), (0, 0), (3, 3), (0, 0), (3, 4), (3, 8), (3, 12), (3, 24), (3, 39)]) hK hO k_h0 rfl hP hD hS hA hE [] rfl rfl rfl) rfl rfl hl.1 rfl (lv_room (Nat.le_of_ble_eq_true rfl)) dK_load_32 ⟨Nat.le_of_ble_eq_true rfl, Nat.le_of_ble_eq_true rfl⟩) (fun r36 u28 H locs hu28 hP hD hS => ?_)
        obtain ⟨q30, pl⟩ := u28
        obtain ⟨⟨eq28, rfl, hFc28, hxp26, -⟩, hO⟩ := hu28
        have hO : okn g T q30.2 pl := hO
        have hP : va_P g.1 vcl ([] ++ pl) _ := hP
        have hD : va_D _ ([] ++ pl) := hD
        have hFc28 : frm (M_K_isSound_2) q21.2 q30.2 := hFc28
        replace hR := bnd_step hR eq28
        have hF := frm_tr hF hFc28 (fun k hk => by unfold M_K_isSound_2 at hk; unfold M_K_load; omega)
        have hf44 : q30.2.1 0 1 = nI tl := fc_F hf21 hFc28 (by unfold M_K_isSound_2; omega)
        have hf45 : q30.2.1 0 3 = nI al := fc_F hf22 hFc28 (by unfold M_K_isSound_2; omega)
        have hf46 : q30.2.1 0 5 = nI pn := fc_F hf23 hFc28 (by unfold M_K_isSound_2; omega)
        refine W.widen (k := 0) (n := 0) (by omega) (by omega) ?_
        refine lv_if_ne (tgt := 48) hx hb dK_load_35 (by decide) (fun h29 => ?_) (fun h29 => ?_)
        · replace hR := hR.trans (if_neg h29)
          refine lv_aload_n hx hb dK_load_48 rfl (lv_at hl 0 rfl) ?_
          refine nw_get (C := "LatticeKeys") (TT := T_K) (N := 11) hx hb hts (wg_ft i_K) hown hK hO k_h0 (kn := 0) (ci := 0) (fl := [(3, 1), (0, 0), (3, 2), (0, 0), (3, 3), (0, 0), (3, 4), (3, 8), (3, 12), (3, 24), (3, 39)]) rfl hP rfl 5 (by decide) (hts _ (wg_t kw_379)) (fun _ h9 => h9) (cd := (0, 0)) rfl dK_load_49 (fun v30 hv31 => ?_)
          obtain rfl := (show v30 = .int (q30.2.1 0 5) from hv31)
          obtain ⟨z26, ez26, hz30, hz31⟩ := cl_of (b := 2147483648) hf46 (by omega) (by decide)
          replace hR := bnd_step hR ez26
          refine mi_as hz30 ?_
          refine lv_bipush (v := nI 8) hx hb dK_load_52 (by decide) ?_
          refine mi_lt (tgt := 67) hx hb dK_load_54 (by decide) (by omega) (by omega) (fun h30 => ?_) (fun h30 => ?_)
          · replace hR := hR.trans (if_pos h30)
            refine lv_iload_n hx hb dK_load_67 rfl (lv_at hl 2 rfl) ?_
            refine lv_if_eq (tgt := 79) hx hb dK_load_68 (by decide) (fun h9 => ?_) (fun h9 => absurd hs21 h9)
            have hfr33 : frT T (379 + 36 * pn + 24) := frT_low hlow (by omega)
            have hfr34 : frT T (379 + 36 * pn + 25) := frT_low hlow (by omega)
            have hfr35 : frT T (379 + 36 * pn + 26) := frT_low hlow (by omega)
            have hlw27 : lowT T (379 + 36 * (pn + 1)) := lowT_up hlow (by omega)
            refine va_new (ws := [] ++ pl) (ci := 13) (fs := [.int 0, .null, .null]) (C := "LatticeKeys$KeyPair") (T := T_KP) (N := 3) hx hb hts (wg_ft i_KP) ty_KP k_KP hown (hts _ (wg_t kw_43)) (hts _ (wg_t kw_740)) (hts _ (wg_t kw_24)) hK hP hD hS hA rfl z_KP (Nat.le_of_ble_eq_true rfl) (Nat.le_of_ble_eq_true rfl) dK_load_79 (fun q31 H hP hD hS => ?_)
            obtain ⟨hP, hD⟩ := mv_first hP hD
            have hP : va_P g.1 vcl ([(q31, .inr (13, [.int 0, .null, .null]))] ++ pl) _ := hP
            have hD : va_D _ ([(q31, .inr (13, [.int 0, .null, .null]))] ++ pl) := hD
            refine W.widen (k := 1) (n := 3) (by omega) (by omega) ?_
            refine lv_dup hx hb dK_load_82 rfl ?_
            refine lv_iload_n hx hb dK_load_83 rfl (lv_at hl 1 rfl) ?_
            refine lv_aload_n hx hb dK_load_84 rfl (lv_at hl 0 rfl) ?_
            refine nw_get (C := "LatticeKeys") (TT := T_K) (N := 11) hx hb hts (wg_ft i_K) hown hK hO k_h0 (kn := 0) (ci := 0) (fl := [(3, 1), (0, 0), (3, 2), (0, 0), (3, 3), (0, 0), (3, 4), (3, 8), (3, 12), (3, 24), (3, 39)]) rfl hP rfl 0 (by decide) (hts _ (wg_t kw_374)) (fun _ h9 => h9) (cd := (3, 1)) rfl dK_load_85 (fun v31 hv32 => ?_)
            obtain ⟨r37, rfl, kr51⟩ := (show ∃ r : Nat, v31 = .ref r ∧ T r = some 1 from hv32)
            refine lv_aload_n hx hb dK_load_88 rfl (lv_at hl 0 rfl) ?_
            refine nw_get (C := "LatticeKeys") (TT := T_K) (N := 11) hx hb hts (wg_ft i_K) hown hK hO k_h0 (kn := 0) (ci := 0) (fl := [(3, 1), (0, 0), (3, 2), (0, 0), (3, 3), (0, 0), (3, 4), (3, 8), (3, 12), (3, 24), (3, 39)]) rfl hP rfl 1 (by decide) (hts _ (wg_t kw_375)) (fun _ h9 => h9) (cd := (0, 0)) rfl dK_load_89 (fun v32 hv33 => ?_)
            obtain rfl := (show v32 = .int (q30.2.1 0 1) from hv33)
            obtain ⟨z27, ez27, hz32, hz33⟩ := cl_of (b := 2147483648) hf44 (by omega) (by decide)
            replace hR := bnd_step hR ez27
            refine mi_as hz32 ?_
            refine mp_q (cx := []) (wr := [(q31, .inr (13, [.int 0, .null, .null]))]) hP hD hS hA [] [0] rfl rfl rfl (by decide) (va_runS (As := [.ref r37, .int (nI z27)]) (rest := [.int (nI 2), .ref q31, .ref q31]) F (N_AR_copyOf l g _ T q30.2 pl hO hU (379 + 36 * pn + 25) r37 z27 kr51 (by omega) (by omega) (by rw [show z27 = 1568 by omega]; exact (pr_p8 (z := pn) (by omega))) hfr34 (by omega)) (va_cwS 2 hts (wg_app (wg_c kw_1047 (wg_c kw_880 (wg_c kw_21 wg_n))) kw_881) rfl rfl rfl (by decide +kernel) ⟨by decide, by decide⟩) (pp_S (en_ok g) hP hD hS hA hE [] rfl rfl) rfl rfl hl.1 rfl (lv_room (Nat.le_of_ble_eq_true rfl)) dK_load_92 ⟨Nat.le_of_ble_eq_true rfl, Nat.le_of_ble_eq_true rfl⟩) (fun r38 u29 H locs hu29 hP hD hS => ?_)
            obtain ⟨⟨s25, T⟩, pl⟩ := u29
            obtain ⟨⟨eq29, ⟨q32, rfl, kr52⟩, hFc29, hxt25, hU, hnf25, hnl25⟩, hO⟩ := hu29
            have hO : okn g T s25 pl := hO
            have hP : va_P g.1 vcl ([(q31, .inr (13, [.int 0, .null, .null]))] ++ pl) _ := hP
            have hD : va_D _ ([(q31, .inr (13, [.int 0, .null, .null]))] ++ pl) := hD
            have hU : inj T := hU
            have eq29 : s25 = F_AR_copyOf z27 (379 + 36 * pn + 25) q30.2 := eq29
            have hFc29 : frm (M_AR_copyOf (379 + 36 * pn + 25)) q30.2 s25 := hFc29
            replace hR := bnd_step hR eq29
            have hF := frm_tr hF hFc29 (fun k hk => by unfold M_AR_copyOf at hk; unfold M_K_load; omega)
            have hf47 : s25.1 0 1 = nI tl := fc_F hf44 hFc29 (by unfold M_AR_copyOf; omega)
            have hf48 : s25.1 0 3 = nI al := fc_F hf45 hFc29 (by unfold M_AR_copyOf; omega)
            have hf49 : s25.1 0 5 = nI pn := fc_F hf46 hFc29 (by unfold M_AR_copyOf; omega)
            have hnf25 : ∀ k' : Nat, k' ≠ (379 + 36 * pn + 25) → frT _ k' → frT T k' := hnf25
            have hnl25 : ∀ b : Nat, (379 + 36 * pn + 25) < b → lowT _ b → lowT T b := hnl25
            have kr53 := hxt25 _ _ k_h0
            have kr54 := hxt25 _ _ kr49
            have kr55 := hxt25 _ _ kr50
            have kr56 := hxt25 _ _ kr51
            have hXT := extN_tr hXT hxt25
            have hfr36 := hnf25 _ (by omega) hfr33
            have hfr37 := hnf25 _ (by omega) hfr35
            have hlw28 := hnl25 _ (by omega) hlw27
            refine W.widen (k := 2) (n := 4899) (by omega) (by omega) ?_
            refine lv_null hx hb dK_load_95 ?_
            refine mq_v (cx := [(q31, .inr (13, [.int 0, .null, .null]))]) (wr := []) hP hD hS hA [0] [] rfl rfl rfl (by decide) (va_runI (As := [.int (nI 2), .ref q32, .null]) (rest := [.ref q31]) F (m_KP_init_n l g _ q31 q32 (nI 2)) (cwI 3 hts (wg_in kw_743) rfl rfl rfl (hts _ (wg_t kw_24)) (hts _ (wg_t kw_741)) (hts _ (wg_t kw_742)) rfl (by decide +kernel) ⟨by decide, by decide⟩) (pr_S (en_ok g) hP hD hS hA hE [0] rfl rfl) rfl rfl hl.1 rfl (lv_room (Nat.le_of_ble_eq_true rfl)) dK_load_96 ⟨Nat.le_of_ble_eq_true rfl, Nat.le_of_ble_eq_true rfl⟩) (fun _ H locs _ hP hD hS => ?_)
            obtain ⟨hP, hD⟩ := mv_last (X := []) (c := (q31, .inr (13, [.int (nI 2), .ref q32, .null]))) hP hD
            refine W.widen (k := 2) (n := 4899) (by omega) (by omega) ?_
            obtain ⟨T, pl, hxt26, hU, kr57, hO, hP, hD, hnf26, hnl26⟩ := absorbN (s25) (379 + 36 * pn + 24) hP hD hO hU hfr36 (fun _ _ => rfl) (fun _ _ => rfl) (fun _ h9 _ => fitP0 (pr_o8 (z := pn) (by omega)) (h9 _ _ kr52))
            have kr58 := hxt26 _ _ kr53
            have kr59 := hxt26 _ _ kr54
            have kr60 := hxt26 _ _ kr55
            have kr61 := hxt26 _ _ kr56
            have kr62 := hxt26 _ _ kr52
            have hXT := extN_tr hXT hxt26
            have hfr38 := hnf26 _ (by omega) hfr37
            have hlw29 := hnl26 _ (by omega) hlw28
            refine lv_astore_n (lv' := [(3, .ref q31), (0, .ref h0), (1, .int (nI 2)), (2, .int sc)]) hx hb dK_load_99 rfl hl (by decide) rfl (fun ls hl => ?_)
            refine lv_aload_n hx hb dK_load_100 rfl (lv_at hl 1 rfl) ?_
            refine lv_iconst (v := nI 0) hx hb dK_load_101 (by decide) ?_
            refine nw_put (C := "LatticeKeys") (TT := T_K) (N := 11) hx hb hts (wg_ft i_K) ty_K k_K n_K hown hK hO hU kr58 (kn := 0) (ci := 0) (fl := [(3, 1), (0, 0), (3, 2), (0, 0), (3, 3), (0, 0), (3, 4), (3, 8), (3, 12), (3, 24), (3, 39)]) rfl hP hD hS rfl 1 (by decide) (hts _ (wg_t kw_375)) (fun _ h9 => h9) rfl (by decide +kernel) rfl dK_load_102 (fun s26 pl H locs es23 hO hP hD hS => ?_)
            replace hR := bnd_step hR es23
            have hF := frm_sI hF es23 (by unfold M_K_load; omega)
            have hf51 : s26.1 0 3 = nI al := fc_ne hf48 es23 (by omega)
            have hf52 : s26.1 0 5 = nI pn := fc_ne hf49 es23 (by omega)
            have hf53 : s26.1 0 1 = nI 0 := fc_eq es23
            refine lv_aload_n hx hb dK_load_105 rfl (lv_at hl 1 rfl) ?_
            refine lv_aload_n hx hb dK_load_106 rfl (lv_at hl 0 rfl) ?_
            refine mp_i (cx := []) (wr := []) hP hD hS hA [] [] rfl rfl rfl (by decide) (va_runV (As := [.ref q31]) (rest := []) F (N_K_keep l g _ T s26 pl hO hU h0 q31 8 0 al pn kr58 kr57 hf53 hf51 hf52 (by omega) (by omega) (by omega) (by omega)) (cwV 1 hts (wg_app (wg_c kw_760 (wg_c kw_762 (wg_c ks_19 (wg_c kw_1 wg_n)))) kw_763) rfl rfl rfl (by decide +kernel) ⟨by decide, by decide⟩) (pn_W "LatticeKeys" (en_ok g) (ci := 0) (kn := 0) (fl := [(3, 1), (0, 0), (3, 2), (0, 0), (3, 3), (0, 0), (3, 4), (3, 8), (3, 12), (3, 24), (3, 39)]) hK hO kr58 rfl hP hD hS hA hE [] rfl rfl rfl) rfl rfl hl.1 rfl (lv_room (Nat.le_of_ble_eq_true rfl)) dK_load_107 ⟨Nat.le_of_ble_eq_true rfl, Nat.le_of_ble_eq_true rfl⟩) (fun r39 u30 H locs hu30 hP hD hS => ?_)
            obtain ⟨q33, pl⟩ := u30
            obtain ⟨⟨eq30, rfl, hFc30, ⟨x33, hx_33, hb_33⟩, ⟨x34, hx_34, hb_34⟩, ⟨x35, hx_35, hb_35⟩, -⟩, hO⟩ := hu30
            have hO : okn g T q33.2 pl := hO
            have hP : va_P g.1 vcl ([] ++ pl) _ := hP
            have hD : va_D _ ([] ++ pl) := hD
            have hFc30 : frm (M_K_keep) s26 q33.2 := hFc30
            have hb_33 : x33 = 0 := hb_33
            have hb_34 : x34 = al := hb_34
            have hb_35 : x35 = pn + 1 := hb_35
            replace hR := bnd_step hR eq30
            have hF := frm_tr hF hFc30 (fun k hk => by unfold M_K_keep at hk; unfold M_K_load; omega)
            refine W.widen (k := 2) (n := 4899) (by omega) (by omega) ?_
            refine et_ret ?_
            exact mp_iret hx hb hr hlk hP hD hS (((nI 0, q33.1, q33.2), T), pl) ⟨⟨hR.symm, rfl, rfl, hF, ⟨x33, hx_33, by omega⟩, ⟨x34, hx_34, by omega⟩, ⟨x35, hx_35, by omega⟩, trivial, hXT, hU, ⟨x35, hx_35, by omega, (lowT_up hlw29 (by omega))⟩⟩, hO⟩ [] rfl rfl rfl (by omega) (by omega) dK_load_110
          · replace hR := hR.trans (if_neg (Nat.not_lt.mpr h30))
            exact et_throw (own := "LatticeKeys") (cls := "java/lang/IllegalStateException") (text := "no room for more keys") (names := ["java/lang/RuntimeException", "java/lang/Exception"]) (ik := 69) (is := 105) (ic := 73) hx hb htr ctr_ISE_0 ctr_ISE_1 ctr_ISE_2 ctr_ISE_5 hown (by decide) (by decide) (hts _ (wg_t kw_420)) (hts _ (wg_t kw_17)) (hX.2.2.2.2.2.1 4 ("LatticeKeys", 105, "no room for more keys") rfl) (hat_ISE hts hX.2) hS.1 (hl.1.trans hml.symm) dK_load_57 dK_load_60 dK_load_61 dK_load_63 dK_load_66 htab (Nat.le_of_ble_eq_true rfl) (Nat.le_of_ble_eq_true rfl) (Nat.le_of_ble_eq_true rfl) (Nat.le_of_ble_eq_true rfl) hlk (Nat.le_of_ble_eq_true rfl) (Nat.le_of_ble_eq_true rfl) (xls_at 2 (congrArg Prod.fst hR) (by decide) rfl) hS.2.2 (thr_st hX.2) (fun t hz9 hk9 => ⟨⟨(((nI 3, nI 0, q30.2), T), pl), ⟨⟨hR.symm, hF, ⟨tl, hf44, by omega⟩, ⟨al, hf45, by omega⟩, ⟨pn, hf46, by omega⟩, trivial, hXT, hU, ⟨pn, hf46, by omega, (lowT_up hlow (by omega))⟩⟩, hO⟩, lc_P hP hk9, hD⟩, (lc_S hS hz9 hk9).F rfl⟩)
        · replace hR := hR.trans (if_pos h29)
          exact et_throw (own := "LatticeKeys") (cls := "java/lang/UnsupportedOperationException") (text := "the check of the key fails") (names := ["java/lang/RuntimeException", "java/lang/Exception"]) (ik := 137) (is := 139) (ic := 141) hx hb htr ctr_UOE_0 ctr_UOE_1 ctr_UOE_2 ctr_UOE_5 hown (by decide) (by decide) (hts _ (wg_t kw_789)) (hts _ (wg_t kw_25)) (hX.2.2.2.2.2.1 6 ("LatticeKeys", 139, "the check of the key fails") rfl) (hat_UOE hts hX.2) hS.1 (hl.1.trans hml.symm) dK_load_38 dK_load_41 dK_load_42 dK_load_44 dK_load_47 htab (Nat.le_of_ble_eq_true rfl) (Nat.le_of_ble_eq_true rfl) (Nat.le_of_ble_eq_true rfl) (Nat.le_of_ble_eq_true rfl) hlk (Nat.le_of_ble_eq_true rfl) (Nat.le_of_ble_eq_true rfl) (xls_at 1 (congrArg Prod.fst hR) (by decide) rfl) hS.2.2 (thr_st hX.2) (fun t hz9 hk9 => ⟨⟨(((nI 2, nI 0, q30.2), T), pl), ⟨⟨hR.symm, hF, ⟨tl, hf44, by omega⟩, ⟨al, hf45, by omega⟩, ⟨pn, hf46, by omega⟩, trivial, hXT, hU, ⟨pn, hf46, by omega, (lowT_up hlow (by omega))⟩⟩, hO⟩, lc_P hP hk9, hD⟩, (lc_S hS hz9 hk9).F rfl⟩)
      replace hR := hR.trans (if_neg hs24)
      by_cases hs25 : z21 = 3
      · replace hR := hR.trans (if_pos hs25)
        subst hs25
        have htl : tl = 1312 := hp21 hs21
        refine lv_iload_n hx hb dK_load_19 rfl (lv_at hl 1 rfl) ?_
        refine lv_iconst (v := nI 3) hx hb dK_load_20 (by decide) ?_
        refine mi_ge (tgt := 48) hx hb dK_load_21 (by decide) (by omega) (by omega) (fun h31 => ?_) (fun h31 => absurd h31 (by omega))
        refine lv_aload_n hx hb dK_load_48 rfl (lv_at hl 0 rfl) ?_
        refine nw_get (C := "LatticeKeys") (TT := T_K) (N := 11) hx hb hts (wg_ft i_K) hown hK hO k_h0 (kn := 0) (ci := 0) (fl := [(3, 1), (0, 0), (3, 2), (0, 0), (3, 3), (0, 0), (3, 4), (3, 8), (3, 12), (3, 24), (3, 39)]) rfl hP rfl 5 (by decide) (hts _ (wg_t kw_379)) (fun _ h9 => h9) (cd := (0, 0)) rfl dK_load_49 (fun v33 hv34 => ?_)
        obtain rfl := (show v33 = .int (q21.2.1 0 5) from hv34)
        obtain ⟨z28, ez28, hz34, hz35⟩ := cl_of (b := 2147483648) hf23 (by omega) (by decide)
        replace hR := bnd_step hR ez28
        refine mi_as hz34 ?_
        refine lv_bipush (v := nI 8) hx hb dK_load_52 (by decide) ?_
        refine mi_lt (tgt := 67) hx hb dK_load_54 (by decide) (by omega) (by omega) (fun h32 => ?_) (fun h32 => ?_)
        · replace hR := hR.trans (if_pos h32)
          refine lv_iload_n hx hb dK_load_67 rfl (lv_at hl 2 rfl) ?_
          refine lv_if_eq (tgt := 79) hx hb dK_load_68 (by decide) (fun h9 => ?_) (fun h9 => absurd hs21 h9)
          have hfr39 : frT T (379 + 36 * pn + 27) := frT_low hlow (by omega)
          have hfr40 : frT T (379 + 36 * pn + 28) := frT_low hlow (by omega)
          have hfr41 : frT T (379 + 36 * pn + 29) := frT_low hlow (by omega)
          have hlw30 : lowT T (379 + 36 * (pn + 1)) := lowT_up hlow (by omega)
          refine va_new (ws := [] ++ pl) (ci := 13) (fs := [.int 0, .null, .null]) (C := "LatticeKeys$KeyPair") (T := T_KP) (N := 3) hx hb hts (wg_ft i_KP) ty_KP k_KP hown (hts _ (wg_t kw_43)) (hts _ (wg_t kw_740)) (hts _ (wg_t kw_24)) hK hP hD hS hA rfl z_KP (Nat.le_of_ble_eq_true rfl) (Nat.le_of_ble_eq_true rfl) dK_load_79 (fun q34 H hP hD hS => ?_)
          obtain ⟨hP, hD⟩ := mv_first hP hD
          have hP : va_P g.1 vcl ([(q34, .inr (13, [.int 0, .null, .null]))] ++ pl) _ := hP
          have hD : va_D _ ([(q34, .inr (13, [.int 0, .null, .null]))] ++ pl) := hD
          refine W.widen (k := 1) (n := 3) (by omega) (by omega) ?_
          refine lv_dup hx hb dK_load_82 rfl ?_
          refine lv_iload_n hx hb dK_load_83 rfl (lv_at hl 1 rfl) ?_
          refine lv_aload_n hx hb dK_load_84 rfl (lv_at hl 0 rfl) ?_
          refine nw_get (C := "LatticeKeys") (TT := T_K) (N := 11) hx hb hts (wg_ft i_K) hown hK hO k_h0 (kn := 0) (ci := 0) (fl := [(3, 1), (0, 0), (3, 2), (0, 0), (3, 3), (0, 0), (3, 4), (3, 8), (3, 12), (3, 24), (3, 39)]) rfl hP rfl 0 (by decide) (hts _ (wg_t kw_374)) (fun _ h9 => h9) (cd := (3, 1)) rfl dK_load_85 (fun v34 hv35 => ?_)
          obtain ⟨r40, rfl, kr63⟩ := (show ∃ r : Nat, v34 = .ref r ∧ T r = some 1 from hv35)
          refine lv_aload_n hx hb dK_load_88 rfl (lv_at hl 0 rfl) ?_
          refine nw_get (C := "LatticeKeys") (TT := T_K) (N := 11) hx hb hts (wg_ft i_K) hown hK hO k_h0 (kn := 0) (ci := 0) (fl := [(3, 1), (0, 0), (3, 2), (0, 0), (3, 3), (0, 0), (3, 4), (3, 8), (3, 12), (3, 24), (3, 39)]) rfl hP rfl 1 (by decide) (hts _ (wg_t kw_375)) (fun _ h9 => h9) (cd := (0, 0)) rfl dK_load_89 (fun v35 hv36 => ?_)
          obtain rfl := (show v35 = .int (q21.2.1 0 1) from hv36)
          obtain ⟨z29, ez29, hz36, hz37⟩ := cl_of (b := 2147483648) hf21 (by omega) (by decide)
          replace hR := bnd_step hR ez29
          refine mi_as hz36 ?_
          refine mp_q (cx := []) (wr := [(q34, .inr (13, [.int 0, .null, .null]))]) hP hD hS hA [] [0] rfl rfl rfl (by decide) (va_runS (As := [.ref r40, .int (nI z29)]) (rest := [.int (nI 3), .ref q34, .ref q34]) F (N_AR_copyOf l g _ T q21.2 pl hO hU (379 + 36 * pn + 28) r40 z29 kr63 (by omega) (by omega) (by rw [show z29 = 1312 by omega]; exact (pr_p9 (z := pn) (by omega))) hfr40 (by omega)) (va_cwS 2 hts (wg_app (wg_c kw_1047 (wg_c kw_880 (wg_c kw_21 wg_n))) kw_881) rfl rfl rfl (by decide +kernel) ⟨by decide, by decide⟩) (pp_S (en_ok g) hP hD hS hA hE [] rfl rfl) rfl rfl hl.1 rfl (lv_room (Nat.le_of_ble_eq_true rfl)) dK_load_92 ⟨Nat.le_of_ble_eq_true rfl, Nat.le_of_ble_eq_true rfl⟩) (fun r41 u31 H locs hu31 hP hD hS => ?_)
          obtain ⟨⟨s27, T⟩, pl⟩ := u31
          obtain ⟨⟨eq31, ⟨q35, rfl, kr64⟩, hFc31, hxt27, hU, hnf27, hnl27⟩, hO⟩ := hu31
          have hO : okn g T s27 pl := hO
          have hP : va_P g.1 vcl ([(q34, .inr (13, [.int 0, .null, .null]))] ++ pl) _ := hP
          have hD : va_D _ ([(q34, .inr (13, [.int 0, .null, .null]))] ++ pl) := hD
          have hU : inj T := hU
          have eq31 : s27 = F_AR_copyOf z29 (379 + 36 * pn + 28) q21.2 := eq31
          have hFc31 : frm (M_AR_copyOf (379 + 36 * pn + 28)) q21.2 s27 := hFc31
          replace hR := bnd_step hR eq31
          have hF := frm_tr hF hFc31 (fun k hk => by unfold M_AR_copyOf at hk; unfold M_K_load; omega)
          have hf54 : s27.1 0 1 = nI tl := fc_F hf21 hFc31 (by unfold M_AR_copyOf; omega)
          have hf55 : s27.1 0 3 = nI al := fc_F hf22 hFc31 (by unfold M_AR_copyOf; omega)
          have hf56 : s27.1 0 5 = nI pn := fc_F hf23 hFc31 (by unfold M_AR_copyOf; omega)
          have hnf27 : ∀ k' : Nat, k' ≠ (379 + 36 * pn + 28) → frT _ k' → frT T k' := hnf27
          have hnl27 : ∀ b : Nat, (379 + 36 * pn + 28) < b → lowT _ b → lowT T b := hnl27
          have kr65 := hxt27 _ _ k_h0
          have kr66 := hxt27 _ _ kr63
          have hXT := extN_tr hXT hxt27
          have hfr42 := hnf27 _ (by omega) hfr39
          have hfr43 := hnf27 _ (by omega) hfr41
          have hlw31 := hnl27 _ (by omega) hlw30
          refine W.widen (k := 2) (n := 4899) (by omega) (by omega) ?_
          refine lv_null hx hb dK_load_95 ?_
          refine mq_v (cx := [(q34, .inr (13, [.int 0, .null, .null]))]) (wr := []) hP hD hS hA [0] [] rfl rfl rfl (by decide) (va_runI (As := [.int (nI 3), .ref q35, .null]) (rest := [.ref q34]) F (m_KP_init_n l g _ q34 q35 (nI 3)) (cwI 3 hts (wg_in kw_743) rfl rfl rfl (hts _ (wg_t kw_24)) (hts _ (wg_t kw_741)) (hts _ (wg_t kw_742)) rfl (by decide +kernel) ⟨by decide, by decide⟩) (pr_S (en_ok g) hP hD hS hA hE [0] rfl rfl) rfl rfl hl.1 rfl (lv_room (Nat.le_of_ble_eq_true rfl)) dK_load_96 ⟨Nat.le_of_ble_eq_true rfl, Nat.le_of_ble_eq_true rfl⟩) (fun _ H locs _ hP hD hS => ?_)
          obtain ⟨hP, hD⟩ := mv_last (X := []) (c := (q34, .inr (13, [.int (nI 3), .ref q35, .null]))) hP hD
          refine W.widen (k := 2) (n := 4899) (by omega) (by omega) ?_
          obtain ⟨T, pl, hxt28, hU, kr67, hO, hP, hD, hnf28, hnl28⟩ := absorbN (s27) (379 + 36 * pn + 27) hP hD hO hU hfr42 (fun _ _ => rfl) (fun _ _ => rfl) (fun _ h9 _ => fitP0 (pr_o9 (z := pn) (by omega)) (h9 _ _ kr64))
          have kr68 := hxt28 _ _ kr65
          have kr69 := hxt28 _ _ kr66
          have kr70 := hxt28 _ _ kr64
          have hXT := extN_tr hXT hxt28
          have hfr44 := hnf28 _ (by omega) hfr43
          have hlw32 := hnl28 _ (by omega) hlw31
          refine lv_astore_n (lv' := [(3, .ref q34), (0, .ref h0), (1, .int (nI 3)), (2, .int sc)]) hx hb dK_load_99 rfl hl (by decide) rfl (fun ls hl => ?_)
          refine lv_aload_n hx hb dK_load_100 rfl (lv_at hl 1 rfl) ?_
          refine lv_iconst (v := nI 0) hx hb dK_load_101 (by decide) ?_
          refine nw_put (C := "LatticeKeys") (TT := T_K) (N := 11) hx hb hts (wg_ft i_K) ty_K k_K n_K hown hK hO hU kr68 (kn := 0) (ci := 0) (fl := [(3, 1), (0, 0), (3, 2), (0, 0), (3, 3), (0, 0), (3, 4), (3, 8), (3, 12), (3, 24), (3, 39)]) rfl hP hD hS rfl 1 (by decide) (hts _ (wg_t kw_375)) (fun _ h9 => h9) rfl (by decide +kernel) rfl dK_load_102 (fun s28 pl H locs es24 hO hP hD hS => ?_)
          replace hR := bnd_step hR es24
          have hF := frm_sI hF es24 (by unfold M_K_load; omega)
          have hf58 : s28.1 0 3 = nI al := fc_ne hf55 es24 (by omega)
          have hf59 : s28.1 0 5 = nI pn := fc_ne hf56 es24 (by omega)
          have hf60 : s28.1 0 1 = nI 0 := fc_eq es24
          refine lv_aload_n hx hb dK_load_105 rfl (lv_at hl 1 rfl) ?_
          refine lv_aload_n hx hb dK_load_106 rfl (lv_at hl 0 rfl) ?_
          refine mp_i (cx := []) (wr := []) hP hD hS hA [] [] rfl rfl rfl (by decide) (va_runV (As := [.ref q34]) (rest := []) F (N_K_keep l g _ T s28 pl hO hU h0 q34 9 0 al pn kr68 kr67 hf60 hf58 hf59 (by omega) (by omega) (by omega) (by omega)) (cwV 1 hts (wg_app (wg_c kw_760 (wg_c kw_762 (wg_c ks_19 (wg_c kw_1 wg_n)))) kw_763) rfl rfl rfl (by decide +kernel) ⟨by decide, by decide⟩) (pn_W "LatticeKeys" (en_ok g) (ci := 0) (kn := 0) (fl := [(3, 1), (0, 0), (3, 2), (0, 0), (3, 3), (0, 0), (3, 4), (3, 8), (3, 12), (3, 24), (3, 39)]) hK hO kr68 rfl hP hD hS hA hE [] rfl rfl rfl) rfl rfl hl.1 rfl (lv_room (Nat.le_of_ble_eq_true rfl)) dK_load_107 ⟨Nat.le_of_ble_eq_true rfl, Nat.le_of_ble_eq_true rfl⟩) (fun r42 u32 H locs hu32 hP hD hS => ?_)
          obtain ⟨q36, pl⟩ := u32
          obtain ⟨⟨eq32, rfl, hFc32, ⟨x37, hx_37, hb_37⟩, ⟨x38, hx_38, hb_38⟩, ⟨x39, hx_39, hb_39⟩, -⟩, hO⟩ := hu32
          have hO : okn g T q36.2 pl := hO
          have hP : va_P g.1 vcl ([] ++ pl) _ := hP
          have hD : va_D _ ([] ++ pl) := hD
          have hFc32 : frm (M_K_keep) s28 q36.2 := hFc32
          have hb_37 : x37 = 0 := hb_37
          have hb_38 : x38 = al := hb_38
          have hb_39 : x39 = pn + 1 := hb_39
          replace hR := bnd_step hR eq32
          have hF := frm_tr hF hFc32 (fun k hk => by unfold M_K_keep at hk; unfold M_K_load; omega)
          refine W.widen (k := 2) (n := 4899) (by omega) (by omega) ?_
          refine et_ret ?_
          exact mp_iret hx hb hr hlk hP hD hS (((nI 0, q36.1, q36.2), T), pl) ⟨⟨hR.symm, rfl, rfl, hF, ⟨x37, hx_37, by omega⟩, ⟨x38, hx_38, by omega⟩, ⟨x39, hx_39, by omega⟩, trivial, hXT, hU, ⟨x39, hx_39, by omega, (lowT_up hlw32 (by omega))⟩⟩, hO⟩ [] rfl rfl rfl (by omega) (by omega) dK_load_110
        · replace hR := hR.trans (if_neg (Nat.not_lt.mpr h32))
          exact et_throw (own := "LatticeKeys") (cls := "java/lang/IllegalStateException") (text := "no room for more keys") (names := ["java/lang/RuntimeException", "java/lang/Exception"]) (ik := 69) (is := 105) (ic := 73) hx hb htr ctr_ISE_0 ctr_ISE_1 ctr_ISE_2 ctr_ISE_5 hown (by decide) (by decide) (hts _ (wg_t kw_420)) (hts _ (wg_t kw_17)) (hX.2.2.2.2.2.1 4 ("LatticeKeys", 105, "no room for more keys") rfl) (hat_ISE hts hX.2) hS.1 (hl.1.trans hml.symm) dK_load_57 dK_load_60 dK_load_61 dK_load_63 dK_load_66 htab (Nat.le_of_ble_eq_true rfl) (Nat.le_of_ble_eq_true rfl) (Nat.le_of_ble_eq_true rfl) (Nat.le_of_ble_eq_true rfl) hlk (Nat.le_of_ble_eq_true rfl) (Nat.le_of_ble_eq_true rfl) (xls_at 2 (congrArg Prod.fst hR) (by decide) rfl) hS.2.2 (thr_st hX.2) (fun t hz9 hk9 => ⟨⟨(((nI 3, nI 0, q21.2), T), pl), ⟨⟨hR.symm, hF, ⟨tl, hf21, by omega⟩, ⟨al, hf22, by omega⟩, ⟨pn, hf23, by omega⟩, trivial, hXT, hU, ⟨pn, hf23, by omega, (lowT_up hlow (by omega))⟩⟩, hO⟩, lc_P hP hk9, hD⟩, (lc_S hS hz9 hk9).F rfl⟩)
      replace hR := hR.trans (if_neg hs25)
      by_cases hs26 : z21 = 4
      · replace hR := hR.trans (if_pos hs26)
        subst hs26
        have htl : tl = 1952 := hp21 hs21
        refine lv_iload_n hx hb dK_load_19 rfl (lv_at hl 1 rfl) ?_
        refine lv_iconst (v := nI 3) hx hb dK_load_20 (by decide) ?_
        refine mi_ge (tgt := 48) hx hb dK_load_21 (by decide) (by omega) (by omega) (fun h33 => ?_) (fun h33 => absurd h33 (by omega))
        refine lv_aload_n hx hb dK_load_48 rfl (lv_at hl 0 rfl) ?_
        refine nw_get (C := "LatticeKeys") (TT := T_K) (N := 11) hx hb hts (wg_ft i_K) hown hK hO k_h0 (kn := 0) (ci := 0) (fl := [(3, 1), (0, 0), (3, 2), (0, 0), (3, 3), (0, 0), (3, 4), (3, 8), (3, 12), (3, 24), (3, 39)]) rfl hP rfl 5 (by decide) (hts _ (wg_t kw_379)) (fun _ h9 => h9) (cd := (0, 0)) rfl dK_load_49 (fun v36 hv37 => ?_)
        obtain rfl := (show v36 = .int (q21.2.1 0 5) from hv37)
        obtain ⟨z30, ez30, hz38, hz39⟩ := cl_of (b := 2147483648) hf23 (by omega) (by decide)
        replace hR := bnd_step hR ez30
        refine mi_as hz38 ?_
        refine lv_bipush (v := nI 8) hx hb dK_load_52 (by decide) ?_
        refine mi_lt (tgt := 67) hx hb dK_load_54 (by decide) (by omega) (by omega) (fun h34 => ?_) (fun h34 => ?_)
        · replace hR := hR.trans (if_pos h34)
          refine lv_iload_n hx hb dK_load_67 rfl (lv_at hl 2 rfl) ?_
          refine lv_if_eq (tgt := 79) hx hb dK_load_68 (by decide) (fun h9 => ?_) (fun h9 => absurd hs21 h9)
          have hfr45 : frT T (379 + 36 * pn + 30) := frT_low hlow (by omega)
          have hfr46 : frT T (379 + 36 * pn + 31) := frT_low hlow (by omega)
          have hfr47 : frT T (379 + 36 * pn + 32) := frT_low hlow (by omega)
          have hlw33 : lowT T (379 + 36 * (pn + 1)) := lowT_up hlow (by omega)
          refine va_new (ws := [] ++ pl) (ci := 13) (fs := [.int 0, .null, .null]) (C := "LatticeKeys$KeyPair") (T := T_KP) (N := 3) hx hb hts (wg_ft i_KP) ty_KP k_KP hown (hts _ (wg_t kw_43)) (hts _ (wg_t kw_740)) (hts _ (wg_t kw_24)) hK hP hD hS hA rfl z_KP (Nat.le_of_ble_eq_true rfl) (Nat.le_of_ble_eq_true rfl) dK_load_79 (fun q37 H hP hD hS => ?_)
          obtain ⟨hP, hD⟩ := mv_first hP hD
          have hP : va_P g.1 vcl ([(q37, .inr (13, [.int 0, .null, .null]))] ++ pl) _ := hP
          have hD : va_D _ ([(q37, .inr (13, [.int 0, .null, .null]))] ++ pl) := hD
          refine W.widen (k := 1) (n := 3) (by omega) (by omega) ?_
          refine lv_dup hx hb dK_load_82 rfl ?_
          refine lv_iload_n hx hb dK_load_83 rfl (lv_at hl 1 rfl) ?_
          refine lv_aload_n hx hb dK_load_84 rfl (lv_at hl 0 rfl) ?_
          refine nw_get (C := "LatticeKeys") (TT := T_K) (N := 11) hx hb hts (wg_ft i_K) hown hK hO k_h0 (kn := 0) (ci := 0) (fl := [(3, 1), (0, 0), (3, 2), (0, 0), (3, 3), (0, 0), (3, 4), (3, 8), (3, 12), (3, 24), (3, 39)]) rfl hP rfl 0 (by decide) (hts _ (wg_t kw_374)) (fun _ h9 => h9) (cd := (3, 1)) rfl dK_load_85 (fun v37 hv38 => ?_)
          obtain ⟨r43, rfl, kr71⟩ := (show ∃ r : Nat, v37 = .ref r ∧ T r = some 1 from hv38)
          refine lv_aload_n hx hb dK_load_88 rfl (lv_at hl 0 rfl) ?_
          refine nw_get (C := "LatticeKeys") (TT := T_K) (N := 11) hx hb hts (wg_ft i_K) hown hK hO k_h0 (kn := 0) (ci := 0) (fl := [(3, 1), (0, 0), (3, 2), (0, 0), (3, 3), (0, 0), (3, 4), (3, 8), (3, 12), (3, 24), (3, 39)]) rfl hP rfl 1 (by decide) (hts _ (wg_t kw_375)) (fun _ h9 => h9) (cd := (0, 0)) rfl dK_load_89 (fun v38 hv39 => ?_)
          obtain rfl := (show v38 = .int (q21.2.1 0 1) from hv39)
          obtain ⟨z31, ez31, hz40, hz41⟩ := cl_of (b := 2147483648) hf21 (by omega) (by decide)
          replace hR := bnd_step hR ez31
          refine mi_as hz40 ?_
          refine mp_q (cx := []) (wr := [(q37, .inr (13, [.int 0, .null, .null]))]) hP hD hS hA [] [0] rfl rfl rfl (by decide) (va_runS (As := [.ref r43, .int (nI z31)]) (rest := [.int (nI 4), .ref q37, .ref q37]) F (N_AR_copyOf l g _ T q21.2 pl hO hU (379 + 36 * pn + 31) r43 z31 kr71 (by omega) (by omega) (by rw [show z31 = 1952 by omega]; exact (pr_p10 (z := pn) (by omega))) hfr46 (by omega)) (va_cwS 2 hts (wg_app (wg_c kw_1047 (wg_c kw_880 (wg_c kw_21 wg_n))) kw_881) rfl rfl rfl (by decide +kernel) ⟨by decide, by decide⟩) (pp_S (en_ok g) hP hD hS hA hE [] rfl rfl) rfl rfl hl.1 rfl (lv_room (Nat.le_of_ble_eq_true rfl)) dK_load_92 ⟨Nat.le_of_ble_eq_true rfl, Nat.le_of_ble_eq_true rfl⟩) (fun r44 u33 H locs hu33 hP hD hS => ?_)
          obtain ⟨⟨s29, T⟩, pl⟩ := u33
          obtain ⟨⟨eq33, ⟨q38, rfl, kr72⟩, hFc33, hxt29, hU, hnf29, hnl29⟩, hO⟩ := hu33
          have hO : okn g T s29 pl := hO
          have hP : va_P g.1 vcl ([(q37, .inr (13, [.int 0, .null, .null]))] ++ pl) _ := hP
          have hD : va_D _ ([(q37, .inr (13, [.int 0, .null, .null]))] ++ pl) := hD
          have hU : inj T := hU
          have eq33 : s29 = F_AR_copyOf z31 (379 + 36 * pn + 31) q21.2 := eq33
          have hFc33 : frm (M_AR_copyOf (379 + 36 * pn + 31)) q21.2 s29 := hFc33
          replace hR := bnd_step hR eq33
          have hF := frm_tr hF hFc33 (fun k hk => by unfold M_AR_copyOf at hk; unfold M_K_load; omega)
          have hf61 : s29.1 0 1 = nI tl := fc_F hf21 hFc33 (by unfold M_AR_copyOf; omega)
          have hf62 : s29.1 0 3 = nI al := fc_F hf22 hFc33 (by unfold M_AR_copyOf; omega)
          have hf63 : s29.1 0 5 = nI pn := fc_F hf23 hFc33 (by unfold M_AR_copyOf; omega)
          have hnf29 : ∀ k' : Nat, k' ≠ (379 + 36 * pn + 31) → frT _ k' → frT T k' := hnf29
          have hnl29 : ∀ b : Nat, (379 + 36 * pn + 31) < b → lowT _ b → lowT T b := hnl29
          have kr73 := hxt29 _ _ k_h0
          have kr74 := hxt29 _ _ kr71
          have hXT := extN_tr hXT hxt29
          have hfr48 := hnf29 _ (by omega) hfr45
          have hfr49 := hnf29 _ (by omega) hfr47
          have hlw34 := hnl29 _ (by omega) hlw33
          refine W.widen (k := 2) (n := 4899) (by omega) (by omega) ?_
          refine lv_null hx hb dK_load_95 ?_
          refine mq_v (cx := [(q37, .inr (13, [.int 0, .null, .null]))]) (wr := []) hP hD hS hA [0] [] rfl rfl rfl (by decide) (va_runI (As := [.int (nI 4), .ref q38, .null]) (rest := [.ref q37]) F (m_KP_init_n l g _ q37 q38 (nI 4)) (cwI 3 hts (wg_in kw_743) rfl rfl rfl (hts _ (wg_t kw_24)) (hts _ (wg_t kw_741)) (hts _ (wg_t kw_742)) rfl (by decide +kernel) ⟨by decide, by decide⟩) (pr_S (en_ok g) hP hD hS hA hE [0] rfl rfl) rfl rfl hl.1 rfl (lv_room (Nat.le_of_ble_eq_true rfl)) dK_load_96 ⟨Nat.le_of_ble_eq_true rfl, Nat.le_of_ble_eq_true rfl⟩) (fun _ H locs _ hP hD hS => ?_)
          obtain ⟨hP, hD⟩ := mv_last (X := []) (c := (q37, .inr (13, [.int (nI 4), .ref q38, .null]))) hP hD
          refine W.widen (k := 2) (n := 4899) (by omega) (by omega) ?_
          obtain ⟨T, pl, hxt30, hU, kr75, hO, hP, hD, hnf30, hnl30⟩ := absorbN (s29) (379 + 36 * pn + 30) hP hD hO hU hfr48 (fun _ _ => rfl) (fun _ _ => rfl) (fun _ h9 _ => fitP0 (pr_o10 (z := pn) (by omega)) (h9 _ _ kr72))
          have kr76 := hxt30 _ _ kr73
          have kr77 := hxt30 _ _ kr74
          have kr78 := hxt30 _ _ kr72
          have hXT := extN_tr hXT hxt30
          have hfr50 := hnf30 _ (by omega) hfr49
          have hlw35 := hnl30 _ (by omega) hlw34
          refine lv_astore_n (lv' := [(3, .ref q37), (0, .ref h0), (1, .int (nI 4)), (2, .int sc)]) hx hb dK_load_99 rfl hl (by decide) rfl (fun ls hl => ?_)
          refine lv_aload_n hx hb dK_load_100 rfl (lv_at hl 1 rfl) ?_
          refine lv_iconst (v := nI 0) hx hb dK_load_101 (by decide) ?_
          refine nw_put (C := "LatticeKeys") (TT := T_K) (N := 11) hx hb hts (wg_ft i_K) ty_K k_K n_K hown hK hO hU kr76 (kn := 0) (ci := 0) (fl := [(3, 1), (0, 0), (3, 2), (0, 0), (3, 3), (0, 0), (3, 4), (3, 8), (3, 12), (3, 24), (3, 39)]) rfl hP hD hS rfl 1 (by decide) (hts _ (wg_t kw_375)) (fun _ h9 => h9) rfl (by decide +kernel) rfl dK_load_102 (fun s30 pl H locs es25 hO hP hD hS => ?_)
          replace hR := bnd_step hR es25
          have hF := frm_sI hF es25 (by unfold M_K_load; omega)
          have hf65 : s30.1 0 3 = nI al := fc_ne hf62 es25 (by omega)
          have hf66 : s30.1 0 5 = nI pn := fc_ne hf63 es25 (by omega)
          have hf67 : s30.1 0 1 = nI 0 := fc_eq es25
          refine lv_aload_n hx hb dK_load_105 rfl (lv_at hl 1 rfl) ?_
          refine lv_aload_n hx hb dK_load_106 rfl (lv_at hl 0 rfl) ?_
          refine mp_i (cx := []) (wr := []) hP hD hS hA [] [] rfl rfl rfl (by decide) (va_runV (As := [.ref q37]) (rest := []) F (N_K_keep l g _ T s30 pl hO hU h0 q37 10 0 al pn kr76 kr75 hf67 hf65 hf66 (by omega) (by omega) (by omega) (by omega)) (cwV 1 hts (wg_app (wg_c kw_760 (wg_c kw_762 (wg_c ks_19 (wg_c kw_1 wg_n)))) kw_763) rfl rfl rfl (by decide +kernel) ⟨by decide, by decide⟩) (pn_W "LatticeKeys" (en_ok g) (ci := 0) (kn := 0) (fl := [(3, 1), (0, 0), (3, 2), (0, 0), (3, 3), (0, 0), (3, 4), (3, 8), (3, 12), (3, 24), (3, 39)]) hK hO kr76 rfl hP hD hS hA hE [] rfl rfl rfl) rfl rfl hl.1 rfl (lv_room (Nat.le_of_ble_eq_true rfl)) dK_load_107 ⟨Nat.le_of_ble_eq_true rfl, Nat.le_of_ble_eq_true rfl⟩) (fun r45 u34 H locs hu34 hP hD hS => ?_)
          obtain ⟨q39, pl⟩ := u34
          obtain ⟨⟨eq34, rfl, hFc34, ⟨x41, hx_41, hb_41⟩, ⟨x42, hx_42, hb_42⟩, ⟨x43, hx_43, hb_43⟩, -⟩, hO⟩ := hu34
          have hO : okn g T q39.2 pl := hO
          have hP : va_P g.1 vcl ([] ++ pl) _ := hP
          have hD : va_D _ ([] ++ pl) := hD
          have hFc34 : frm (M_K_keep) s30 q39.2 := hFc34
          have hb_41 : x41 = 0 := hb_41
          have hb_42 : x42 = al := hb_42
          have hb_43 : x43 = pn + 1 := hb_43
          replace hR := bnd_step hR eq34
          have hF := frm_tr hF hFc34 (fun k hk => by unfold M_K_keep at hk; unfold M_K_load; omega)
          refine W.widen (k := 2) (n := 4899) (by omega) (by omega) ?_
          refine et_ret ?_
          exact mp_iret hx hb hr hlk hP hD hS (((nI 0, q39.1, q39.2), T), pl) ⟨⟨hR.symm, rfl, rfl, hF, ⟨x41, hx_41, by omega⟩, ⟨x42, hx_42, by omega⟩, ⟨x43, hx_43, by omega⟩, trivial, hXT, hU, ⟨x43, hx_43, by omega, (lowT_up hlw35 (by omega))⟩⟩, hO⟩ [] rfl rfl rfl (by omega) (by omega) dK_load_110
        · replace hR := hR.trans (if_neg (Nat.not_lt.mpr h34))
          exact et_throw (own := "LatticeKeys") (cls := "java/lang/IllegalStateException") (text := "no room for more keys") (names := ["java/lang/RuntimeException", "java/lang/Exception"]) (ik := 69) (is := 105) (ic := 73) hx hb htr ctr_ISE_0 ctr_ISE_1 ctr_ISE_2 ctr_ISE_5 hown (by decide) (by decide) (hts _ (wg_t kw_420)) (hts _ (wg_t kw_17)) (hX.2.2.2.2.2.1 4 ("LatticeKeys", 105, "no room for more keys") rfl) (hat_ISE hts hX.2) hS.1 (hl.1.trans hml.symm) dK_load_57 dK_load_60 dK_load_61 dK_load_63 dK_load_66 htab (Nat.le_of_ble_eq_true rfl) (Nat.le_of_ble_eq_true rfl) (Nat.le_of_ble_eq_true rfl) (Nat.le_of_ble_eq_true rfl) hlk (Nat.le_of_ble_eq_true rfl) (Nat.le_of_ble_eq_true rfl) (xls_at 2 (congrArg Prod.fst hR) (by decide) rfl) hS.2.2 (thr_st hX.2) (fun t hz9 hk9 => ⟨⟨(((nI 3, nI 0, q21.2), T), pl), ⟨⟨hR.symm, hF, ⟨tl, hf21, by omega⟩, ⟨al, hf22, by omega⟩, ⟨pn, hf23, by omega⟩, trivial, hXT, hU, ⟨pn, hf23, by omega, (lowT_up hlow (by omega))⟩⟩, hO⟩, lc_P hP hk9, hD⟩, (lc_S hS hz9 hk9).F rfl⟩)
      replace hR := hR.trans (if_neg hs26)
      have hs27 : z21 = 5 := by omega
      subst hs27
      have htl : tl = 2592 := hp21 hs21
      refine lv_iload_n hx hb dK_load_19 rfl (lv_at hl 1 rfl) ?_
      refine lv_iconst (v := nI 3) hx hb dK_load_20 (by decide) ?_
      refine mi_ge (tgt := 48) hx hb dK_load_21 (by decide) (by omega) (by omega) (fun h35 => ?_) (fun h35 => absurd h35 (by omega))
      refine lv_aload_n hx hb dK_load_48 rfl (lv_at hl 0 rfl) ?_
      refine nw_get (C := "LatticeKeys") (TT := T_K) (N := 11) hx hb hts (wg_ft i_K) hown hK hO k_h0 (kn := 0) (ci := 0) (fl := [(3, 1), (0, 0), (3, 2), (0, 0), (3, 3), (0, 0), (3, 4), (3, 8), (3, 12), (3, 24), (3, 39)]) rfl hP rfl 5 (by decide) (hts _ (wg_t kw_379)) (fun _ h9 => h9) (cd := (0, 0)) rfl dK_load_49 (fun v39 hv40 => ?_)
      obtain rfl := (show v39 = .int (q21.2.1 0 5) from hv40)
      obtain ⟨z32, ez32, hz42, hz43⟩ := cl_of (b := 2147483648) hf23 (by omega) (by decide)
      replace hR := bnd_step hR ez32
      refine mi_as hz42 ?_
      refine lv_bipush (v := nI 8) hx hb dK_load_52 (by decide) ?_
      refine mi_lt (tgt := 67) hx hb dK_load_54 (by decide) (by omega) (by omega) (fun h36 => ?_) (fun h36 => ?_)
      · replace hR := hR.trans (if_pos h36)
        refine lv_iload_n hx hb dK_load_67 rfl (lv_at hl 2 rfl) ?_
        refine lv_if_eq (tgt := 79) hx hb dK_load_68 (by decide) (fun h9 => ?_) (fun h9 => absurd hs21 h9)
        have hfr51 : frT T (379 + 36 * pn + 33) := frT_low hlow (by omega)
        have hfr52 : frT T (379 + 36 * pn + 34) := frT_low hlow (by omega)
        have hfr53 : frT T (379 + 36 * pn + 35) := frT_low hlow (by omega)
        have hlw36 : lowT T (379 + 36 * (pn + 1)) := lowT_up hlow (by omega)
        refine va_new (ws := [] ++ pl) (ci := 13) (fs := [.int 0, .null, .null]) (C := "LatticeKeys$KeyPair") (T := T_KP) (N := 3) hx hb hts (wg_ft i_KP) ty_KP k_KP hown (hts _ (wg_t kw_43)) (hts _ (wg_t kw_740)) (hts _ (wg_t kw_24)) hK hP hD hS hA rfl z_KP (Nat.le_of_ble_eq_true rfl) (Nat.le_of_ble_eq_true rfl) dK_load_79 (fun q40 H hP hD hS => ?_)
        obtain ⟨hP, hD⟩ := mv_first hP hD
        have hP : va_P g.1 vcl ([(q40, .inr (13, [.int 0, .null, .null]))] ++ pl) _ := hP
        have hD : va_D _ ([(q40, .inr (13, [.int 0, .null, .null]))] ++ pl) := hD
        refine W.widen (k := 1) (n := 3) (by omega) (by omega) ?_
        refine lv_dup hx hb dK_load_82 rfl ?_
        refine lv_iload_n hx hb dK_load_83 rfl (lv_at hl 1 rfl) ?_
        refine lv_aload_n hx hb dK_load_84 rfl (lv_at hl 0 rfl) ?_
        refine nw_get (C := "LatticeKeys") (TT := T_K) (N := 11) hx hb hts (wg_ft i_K) hown hK hO k_h0 (kn := 0) (ci := 0) (fl := [(3, 1), (0, 0), (3, 2), (0, 0), (3, 3), (0, 0), (3, 4), (3, 8), (3, 12), (3, 24), (3, 39)]) rfl hP rfl 0 (by decide) (hts _ (wg_t kw_374)) (fun _ h9 => h9) (cd := (3, 1)) rfl dK_load_85 (fun v40 hv41 => ?_)
        obtain ⟨r46, rfl, kr79⟩ := (show ∃ r : Nat, v40 = .ref r ∧ T r = some 1 from hv41)
        refine lv_aload_n hx hb dK_load_88 rfl (lv_at hl 0 rfl) ?_
        refine nw_get (C := "LatticeKeys") (TT := T_K) (N := 11) hx hb hts (wg_ft i_K) hown hK hO k_h0 (kn := 0) (ci := 0) (fl := [(3, 1), (0, 0), (3, 2), (0, 0), (3, 3), (0, 0), (3, 4), (3, 8), (3, 12), (3, 24), (3, 39)]) rfl hP rfl 1 (by decide) (hts _ (wg_t kw_375)) (fun _ h9 => h9) (cd := (0, 0)) rfl dK_load_89 (fun v41 hv42 => ?_)
        obtain rfl := (show v41 = .int (q21.2.1 0 1) from hv42)
        obtain ⟨z33, ez33, hz44, hz45⟩ := cl_of (b := 2147483648) hf21 (by omega) (by decide)
        replace hR := bnd_step hR ez33
        refine mi_as hz44 ?_
        refine mp_q (cx := []) (wr := [(q40, .inr (13, [.int 0, .null, .null]))]) hP hD hS hA [] [0] rfl rfl rfl (by decide) (va_runS (As := [.ref r46, .int (nI z33)]) (rest := [.int (nI 5), .ref q40, .ref q40]) F (N_AR_copyOf l g _ T q21.2 pl hO hU (379 + 36 * pn + 34) r46 z33 kr79 (by omega) (by omega) (by rw [show z33 = 2592 by omega]; exact (pr_p11 (z := pn) (by omega))) hfr52 (by omega)) (va_cwS 2 hts (wg_app (wg_c kw_1047 (wg_c kw_880 (wg_c kw_21 wg_n))) kw_881) rfl rfl rfl (by decide +kernel) ⟨by decide, by decide⟩) (pp_S (en_ok g) hP hD hS hA hE [] rfl rfl) rfl rfl hl.1 rfl (lv_room (Nat.le_of_ble_eq_true rfl)) dK_load_92 ⟨Nat.le_of_ble_eq_true rfl, Nat.le_of_ble_eq_true rfl⟩) (fun r47 u35 H locs hu35 hP hD hS => ?_)
        obtain ⟨⟨s31, T⟩, pl⟩ := u35
        obtain ⟨⟨eq35, ⟨q41, rfl, kr80⟩, hFc35, hxt31, hU, hnf31, hnl31⟩, hO⟩ := hu35
        have hO : okn g T s31 pl := hO
        have hP : va_P g.1 vcl ([(q40, .inr (13, [.int 0, .null, .null]))] ++ pl) _ := hP
        have hD : va_D _ ([(q40, .inr (13, [.int 0, .null, .null]))] ++ pl) := hD
        have hU : inj T := hU
        have eq35 : s31 = F_AR_copyOf z33 (379 + 36 * pn + 34) q21.2 := eq35
        have hFc35 : frm (M_AR_copyOf (379 + 36 * pn + 34)) q21.2 s31 := hFc35
        replace hR := bnd_step hR eq35
        have hF := frm_tr hF hFc35 (fun k hk => by unfold M_AR_copyOf at hk; unfold M_K_load; omega)
        have hf68 : s31.1 0 1 = nI tl := fc_F hf21 hFc35 (by unfold M_AR_copyOf; omega)
        have hf69 : s31.1 0 3 = nI al := fc_F hf22 hFc35 (by unfold M_AR_copyOf; omega)
        have hf70 : s31.1 0 5 = nI pn := fc_F hf23 hFc35 (by unfold M_AR_copyOf; omega)
        have hnf31 : ∀ k' : Nat, k' ≠ (379 + 36 * pn + 34) → frT _ k' → frT T k' := hnf31
        have hnl31 : ∀ b : Nat, (379 + 36 * pn + 34) < b → lowT _ b → lowT T b := hnl31
        have kr81 := hxt31 _ _ k_h0
        have kr82 := hxt31 _ _ kr79
        have hXT := extN_tr hXT hxt31
        have hfr54 := hnf31 _ (by omega) hfr51
        have hfr55 := hnf31 _ (by omega) hfr53
        have hlw37 := hnl31 _ (by omega) hlw36
        refine W.widen (k := 2) (n := 4899) (by omega) (by omega) ?_
        refine lv_null hx hb dK_load_95 ?_
        refine mq_v (cx := [(q40, .inr (13, [.int 0, .null, .null]))]) (wr := []) hP hD hS hA [0] [] rfl rfl rfl (by decide) (va_runI (As := [.int (nI 5), .ref q41, .null]) (rest := [.ref q40]) F (m_KP_init_n l g _ q40 q41 (nI 5)) (cwI 3 hts (wg_in kw_743) rfl rfl rfl (hts _ (wg_t kw_24)) (hts _ (wg_t kw_741)) (hts _ (wg_t kw_742)) rfl (by decide +kernel) ⟨by decide, by decide⟩) (pr_S (en_ok g) hP hD hS hA hE [0] rfl rfl) rfl rfl hl.1 rfl (lv_room (Nat.le_of_ble_eq_true rfl)) dK_load_96 ⟨Nat.le_of_ble_eq_true rfl, Nat.le_of_ble_eq_true rfl⟩) (fun _ H locs _ hP hD hS => ?_)
        obtain ⟨hP, hD⟩ := mv_last (X := []) (c := (q40, .inr (13, [.int (nI 5), .ref q41, .null]))) hP hD
        refine W.widen (k := 2) (n := 4899) (by omega) (by omega) ?_
        obtain ⟨T, pl, hxt32, hU, kr83, hO, hP, hD, hnf32, hnl32⟩ := absorbN (s31) (379 + 36 * pn + 33) hP hD hO hU hfr54 (fun _ _ => rfl) (fun _ _ => rfl) (fun _ h9 _ => fitP0 (pr_o11 (z := pn) (by omega)) (h9 _ _ kr80))
        have kr84 := hxt32 _ _ kr81
        have kr85 := hxt32 _ _ kr82
        have kr86 := hxt32 _ _ kr80
        have hXT := extN_tr hXT hxt32
        have hfr56 := hnf32 _ (by omega) hfr55
        have hlw38 := hnl32 _ (by omega) hlw37
        refine lv_astore_n (lv' := [(3, .ref q40), (0, .ref h0), (1, .int (nI 5)), (2, .int sc)]) hx hb dK_load_99 rfl hl (by decide) rfl (fun ls hl => ?_)
        refine lv_aload_n hx hb dK_load_100 rfl (lv_at hl 1 rfl) ?_
        refine lv_iconst (v := nI 0) hx hb dK_load_101 (by decide) ?_
        refine nw_put (C := "LatticeKeys") (TT := T_K) (N := 11) hx hb hts (wg_ft i_K) ty_K k_K n_K hown hK hO hU kr84 (kn := 0) (ci := 0) (fl := [(3, 1), (0, 0), (3, 2), (0, 0), (3, 3), (0, 0), (3, 4), (3, 8), (3, 12), (3, 24), (3, 39)]) rfl hP hD hS rfl 1 (by decide) (hts _ (wg_t kw_375)) (fun _ h9 => h9) rfl (by decide +kernel) rfl dK_load_102 (fun s32 pl H locs es26 hO hP hD hS => ?_)
        replace hR := bnd_step hR es26
        have hF := frm_sI hF es26 (by unfold M_K_load; omega)
        have hf72 : s32.1 0 3 = nI al := fc_ne hf69 es26 (by omega)
        have hf73 : s32.1 0 5 = nI pn := fc_ne hf70 es26 (by omega)
        have hf74 : s32.1 0 1 = nI 0 := fc_eq es26
        refine lv_aload_n hx hb dK_load_105 rfl (lv_at hl 1 rfl) ?_
        refine lv_aload_n hx hb dK_load_106 rfl (lv_at hl 0 rfl) ?_
        refine mp_i (cx := []) (wr := []) hP hD hS hA [] [] rfl rfl rfl (by decide) (va_runV (As := [.ref q40]) (rest := []) F (N_K_keep l g _ T s32 pl hO hU h0 q40 11 0 al pn kr84 kr83 hf74 hf72 hf73 (by omega) (by omega) (by omega) (by omega)) (cwV 1 hts (wg_app (wg_c kw_760 (wg_c kw_762 (wg_c ks_19 (wg_c kw_1 wg_n)))) kw_763) rfl rfl rfl (by decide +kernel) ⟨by decide, by decide⟩) (pn_W "LatticeKeys" (en_ok g) (ci := 0) (kn := 0) (fl := [(3, 1), (0, 0), (3, 2), (0, 0), (3, 3), (0, 0), (3, 4), (3, 8), (3, 12), (3, 24), (3, 39)]) hK hO kr84 rfl hP hD hS hA hE [] rfl rfl rfl) rfl rfl hl.1 rfl (lv_room (Nat.le_of_ble_eq_true rfl)) dK_load_107 ⟨Nat.le_of_ble_eq_true rfl, Nat.le_of_ble_eq_true rfl⟩) (fun r48 u36 H locs hu36 hP hD hS => ?_)
        obtain ⟨q42, pl⟩ := u36
        obtain ⟨⟨eq36, rfl, hFc36, ⟨x45, hx_45, hb_45⟩, ⟨x46, hx_46, hb_46⟩, ⟨x47, hx_47, hb_47⟩, -⟩, hO⟩ := hu36
        have hO : okn g T q42.2 pl := hO
        have hP : va_P g.1 vcl ([] ++ pl) _ := hP
        have hD : va_D _ ([] ++ pl) := hD
        have hFc36 : frm (M_K_keep) s32 q42.2 := hFc36
        have hb_45 : x45 = 0 := hb_45
        have hb_46 : x46 = al := hb_46
        have hb_47 : x47 = pn + 1 := hb_47
        replace hR := bnd_step hR eq36
        have hF := frm_tr hF hFc36 (fun k hk => by unfold M_K_keep at hk; unfold M_K_load; omega)
        refine W.widen (k := 2) (n := 4899) (by omega) (by omega) ?_
        refine et_ret ?_
        exact mp_iret hx hb hr hlk hP hD hS (((nI 0, q42.1, q42.2), T), pl) ⟨⟨hR.symm, rfl, rfl, hF, ⟨x45, hx_45, by omega⟩, ⟨x46, hx_46, by omega⟩, ⟨x47, hx_47, by omega⟩, trivial, hXT, hU, ⟨x47, hx_47, by omega, (lowT_up hlw38 (by omega))⟩⟩, hO⟩ [] rfl rfl rfl (by omega) (by omega) dK_load_110
      · replace hR := hR.trans (if_neg (Nat.not_lt.mpr h36))
        exact et_throw (own := "LatticeKeys") (cls := "java/lang/IllegalStateException") (text := "no room for more keys") (names := ["java/lang/RuntimeException", "java/lang/Exception"]) (ik := 69) (is := 105) (ic := 73) hx hb htr ctr_ISE_0 ctr_ISE_1 ctr_ISE_2 ctr_ISE_5 hown (by decide) (by decide) (hts _ (wg_t kw_420)) (hts _ (wg_t kw_17)) (hX.2.2.2.2.2.1 4 ("LatticeKeys", 105, "no room for more keys") rfl) (hat_ISE hts hX.2) hS.1 (hl.1.trans hml.symm) dK_load_57 dK_load_60 dK_load_61 dK_load_63 dK_load_66 htab (Nat.le_of_ble_eq_true rfl) (Nat.le_of_ble_eq_true rfl) (Nat.le_of_ble_eq_true rfl) (Nat.le_of_ble_eq_true rfl) hlk (Nat.le_of_ble_eq_true rfl) (Nat.le_of_ble_eq_true rfl) (xls_at 2 (congrArg Prod.fst hR) (by decide) rfl) hS.2.2 (thr_st hX.2) (fun t hz9 hk9 => ⟨⟨(((nI 3, nI 0, q21.2), T), pl), ⟨⟨hR.symm, hF, ⟨tl, hf21, by omega⟩, ⟨al, hf22, by omega⟩, ⟨pn, hf23, by omega⟩, trivial, hXT, hU, ⟨pn, hf23, by omega, (lowT_up hlow (by omega))⟩⟩, hO⟩, lc_P hP hk9, hD⟩, (lc_S hS hz9 hk9).F rfl⟩)
    · replace hR := hR.trans (if_neg hs21)
      have hz3 : z21 < 3 := (hp22 hs21).1
      by_cases hs28 : z21 = 0
      · replace hR := hR.trans (if_pos hs28)
        subst hs28
        have htl : tl = 1632 := (hp22 hs21).2
        refine lv_iload_n hx hb dK_load_19 rfl (lv_at hl 1 rfl) ?_
        refine lv_iconst (v := nI 3) hx hb dK_load_20 (by decide) ?_
        refine mi_ge (tgt := 48) hx hb dK_load_21 (by decide) (by omega) (by omega) (fun h37 => absurd h37 (by omega)) (fun h37 => ?_)
        refine lv_aload_n hx hb dK_load_24 rfl (lv_at hl 0 rfl) ?_
        refine lv_aload_n hx hb dK_load_25 rfl (lv_at hl 0 rfl) ?_
        refine nw_get (C := "LatticeKeys") (TT := T_K) (N := 11) hx hb hts (wg_ft i_K) hown hK hO k_h0 (kn := 0) (ci := 0) (fl := [(3, 1), (0, 0), (3, 2), (0, 0), (3, 3), (0, 0), (3, 4), (3, 8), (3, 12), (3, 24), (3, 39)]) rfl hP rfl 6 (by decide) (hts _ (wg_t kw_380)) (fun _ h9 => h9) (cd := (3, 4)) rfl dK_load_26 (fun v42 hv43 => ?_)
        obtain ⟨r49, rfl, kr87⟩ := (show ∃ r : Nat, v42 = .ref r ∧ T r = some 4 from hv43)
        refine lv_iload_n hx hb dK_load_29 rfl (lv_at hl 1 rfl) ?_
        refine nw_aald6 hx hb hK hO kr87 (k := 4) (b := 5) rfl hP (by omega) (by omega) dK_load_30 (fun r50 kr88 => ?_)
        refine lv_iload_n hx hb dK_load_31 rfl (lv_at hl 2 rfl) ?_
        refine mp_i (cx := []) (wr := []) hP hD hS hA [] [] rfl rfl rfl (by decide) (va_runV (As := [.ref r50, .int sc]) (rest := []) F (N_K_isSound_0 l g _ T q21.2 pl hO hU h0 r50 sc k_h0 kr88) (cwV 2 hts (wg_app (wg_c kw_777 (wg_c kw_779 (wg_c ks_21 (wg_c kw_1 wg_n)))) kw_780) rfl rfl rfl (by decide +kernel) ⟨by decide, by decide⟩) (pn_W "LatticeKeys" (en_ok g) (ci := 0) (kn := 0) (fl := [(3, 1), (0, 0), (3, 2), (0, 0), (3, 3), (0, 0), (3, 4), (3, 8), (3, 12), (3, 24), (3, 39)]) hK hO k_h0 rfl hP hD hS hA hE [] rfl rfl rfl) rfl rfl hl.1 rfl (lv_room (Nat.le_of_ble_eq_true rfl)) dK_load_32 ⟨Nat.le_of_ble_eq_true rfl, Nat.le_of_ble_eq_true rfl⟩) (fun r51 u37 H locs hu37 hP hD hS => ?_)
        obtain ⟨q43, pl⟩ := u37
        obtain ⟨⟨eq37, rfl, hFc37, hxp31, -⟩, hO⟩ := hu37
        have hO : okn g T q43.2 pl := hO
        have hP : va_P g.1 vcl ([] ++ pl) _ := hP
        have hD : va_D _ ([] ++ pl) := hD
        have hFc37 : frm (M_K_isSound_0) q21.2 q43.2 := hFc37
        replace hR := bnd_step hR eq37
        have hF := frm_tr hF hFc37 (fun k hk => by unfold M_K_isSound_0 at hk; unfold M_K_load; omega)
        have hf75 : q43.2.1 0 1 = nI tl := fc_F hf21 hFc37 (by unfold M_K_isSound_0; omega)
        have hf76 : q43.2.1 0 3 = nI al := fc_F hf22 hFc37 (by unfold M_K_isSound_0; omega)
        have hf77 : q43.2.1 0 5 = nI pn := fc_F hf23 hFc37 (by unfold M_K_isSound_0; omega)
        refine W.widen (k := 0) (n := 0) (by omega) (by omega) ?_
        refine lv_if_ne (tgt := 48) hx hb dK_load_35 (by decide) (fun h38 => ?_) (fun h38 => ?_)
        · replace hR := hR.trans (if_neg h38)
          refine lv_aload_n hx hb dK_load_48 rfl (lv_at hl 0 rfl) ?_
          refine nw_get (C := "LatticeKeys") (TT := T_K) (N := 11) hx hb hts (wg_ft i_K) hown hK hO k_h0 (kn := 0) (ci := 0) (fl := [(3, 1), (0, 0), (3, 2), (0, 0), (3, 3), (0, 0), (3, 4), (3, 8), (3, 12), (3, 24), (3, 39)]) rfl hP rfl 5 (by decide) (hts _ (wg_t kw_379)) (fun _ h9 => h9) (cd := (0, 0)) rfl dK_load_49 (fun v43 hv44 => ?_)
          obtain rfl := (show v43 = .int (q43.2.1 0 5) from hv44)
          obtain ⟨z34, ez34, hz46, hz47⟩ := cl_of (b := 2147483648) hf77 (by omega) (by decide)
          replace hR := bnd_step hR ez34
          refine mi_as hz46 ?_
          refine lv_bipush (v := nI 8) hx hb dK_load_52 (by decide) ?_
          refine mi_lt (tgt := 67) hx hb dK_load_54 (by decide) (by omega) (by omega) (fun h39 => ?_) (fun h39 => ?_)
          · replace hR := hR.trans (if_pos h39)
            refine lv_iload_n hx hb dK_load_67 rfl (lv_at hl 2 rfl) ?_
            refine lv_if_eq (tgt := 79) hx hb dK_load_68 (by decide) (fun h9 => absurd h9 hs21) (fun h9 => ?_)
            refine lv_aload_n hx hb dK_load_71 rfl (lv_at hl 0 rfl) ?_
            refine lv_iload_n hx hb dK_load_72 rfl (lv_at hl 1 rfl) ?_
            refine mp_q (cx := []) (wr := []) hP hD hS hA [] [] rfl rfl rfl (by decide) (va_runV (As := [.int (nI 0)]) (rest := []) F (N_K_secretFromTape_0 l g _ T q43.2 pl hO hU h0 tl al pn k_h0 hf75 hf76 hf77 (by omega) (by omega) (by omega) (by omega) hlow) (cwV 1 hts (wg_app (wg_c kw_805 (wg_c kw_807 (wg_c ks_22 (wg_c kw_1 wg_n)))) kw_808) rfl rfl rfl (by decide +kernel) ⟨by decide, by decide⟩) (pn_W "LatticeKeys" (en_ok g) (ci := 0) (kn := 0) (fl := [(3, 1), (0, 0), (3, 2), (0, 0), (3, 3), (0, 0), (3, 4), (3, 8), (3, 12), (3, 24), (3, 39)]) hK hO k_h0 rfl hP hD hS hA hE [] rfl rfl rfl) rfl rfl hl.1 rfl (lv_room (Nat.le_of_ble_eq_true rfl)) dK_load_73 ⟨Nat.le_of_ble_eq_true rfl, Nat.le_of_ble_eq_true rfl⟩) (fun r52 u38 H locs hu38 hP hD hS => ?_)
            obtain ⟨⟨s33, T⟩, pl⟩ := u38
            obtain ⟨⟨eq38, ⟨q44, rfl, kr89⟩, hFc38, hxt33, hU, hnl33⟩, hO⟩ := hu38
            have hO : okn g T s33 pl := hO
            have hP : va_P g.1 vcl ([] ++ pl) _ := hP
            have hD : va_D _ ([] ++ pl) := hD
            have hU : inj T := hU
            have eq38 : s33 = F_K_secretFromTape_0 pn q43.2 := eq38
            have hFc38 : frm (M_K_secretFromTape_0) q43.2 s33 := hFc38
            replace hR := bnd_step hR eq38
            have hF := frm_tr hF hFc38 (fun k hk => by unfold M_K_secretFromTape_0 at hk; unfold M_K_load; omega)
            have hf78 : s33.1 0 1 = nI tl := fc_F hf75 hFc38 (by unfold M_K_secretFromTape_0; omega)
            have hf79 : s33.1 0 3 = nI al := fc_F hf76 hFc38 (by unfold M_K_secretFromTape_0; omega)
            have hf80 : s33.1 0 5 = nI pn := fc_F hf77 hFc38 (by unfold M_K_secretFromTape_0; omega)
            have kr90 := hxt33 _ _ k_h0
            have kr91 := hxt33 _ _ kr87
            have kr92 := hxt33 _ _ kr88
            have hXT := extN_tr hXT hxt33
            have hnl33 : lowT T (379 + 36 * (pn + 1)) := hnl33
            refine W.widen (k := 3) (n := 7491) (by omega) (by omega) ?_
            refine lv_goto (tgt := 99) hx hb dK_load_76 (by decide) ?_
            refine lv_astore_n (lv' := [(3, .ref q44), (0, .ref h0), (1, .int (nI 0)), (2, .int sc)]) hx hb dK_load_99 rfl hl (by decide) rfl (fun ls hl => ?_)
            refine lv_aload_n hx hb dK_load_100 rfl (lv_at hl 1 rfl) ?_
            refine lv_iconst (v := nI 0) hx hb dK_load_101 (by decide) ?_
            refine nw_put (C := "LatticeKeys") (TT := T_K) (N := 11) hx hb hts (wg_ft i_K) ty_K k_K n_K hown hK hO hU kr90 (kn := 0) (ci := 0) (fl := [(3, 1), (0, 0), (3, 2), (0, 0), (3, 3), (0, 0), (3, 4), (3, 8), (3, 12), (3, 24), (3, 39)]) rfl hP hD hS rfl 1 (by decide) (hts _ (wg_t kw_375)) (fun _ h9 => h9) rfl (by decide +kernel) rfl dK_load_102 (fun s34 pl H locs es27 hO hP hD hS => ?_)
            replace hR := bnd_step hR es27
            have hF := frm_sI hF es27 (by unfold M_K_load; omega)
            have hf82 : s34.1 0 3 = nI al := fc_ne hf79 es27 (by omega)
            have hf83 : s34.1 0 5 = nI pn := fc_ne hf80 es27 (by omega)
            have hf84 : s34.1 0 1 = nI 0 := fc_eq es27
            refine lv_aload_n hx hb dK_load_105 rfl (lv_at hl 1 rfl) ?_
            refine lv_aload_n hx hb dK_load_106 rfl (lv_at hl 0 rfl) ?_
            refine mp_i (cx := []) (wr := []) hP hD hS hA [] [] rfl rfl rfl (by decide) (va_runV (As := [.ref q44]) (rest := []) F (N_K_keep l g _ T s34 pl hO hU h0 q44 0 0 al pn kr90 kr89 hf84 hf82 hf83 (by omega) (by omega) (by omega) (by omega)) (cwV 1 hts (wg_app (wg_c kw_760 (wg_c kw_762 (wg_c ks_19 (wg_c kw_1 wg_n)))) kw_763) rfl rfl rfl (by decide +kernel) ⟨by decide, by decide⟩) (pn_W "LatticeKeys" (en_ok g) (ci := 0) (kn := 0) (fl := [(3, 1), (0, 0), (3, 2), (0, 0), (3, 3), (0, 0), (3, 4), (3, 8), (3, 12), (3, 24), (3, 39)]) hK hO kr90 rfl hP hD hS hA hE [] rfl rfl rfl) rfl rfl hl.1 rfl (lv_room (Nat.le_of_ble_eq_true rfl)) dK_load_107 ⟨Nat.le_of_ble_eq_true rfl, Nat.le_of_ble_eq_true rfl⟩) (fun r53 u39 H locs hu39 hP hD hS => ?_)
            obtain ⟨q45, pl⟩ := u39
            obtain ⟨⟨eq39, rfl, hFc39, ⟨x50, hx_50, hb_50⟩, ⟨x51, hx_51, hb_51⟩, ⟨x52, hx_52, hb_52⟩, -⟩, hO⟩ := hu39
            have hO : okn g T q45.2 pl := hO
            have hP : va_P g.1 vcl ([] ++ pl) _ := hP
            have hD : va_D _ ([] ++ pl) := hD
            have hFc39 : frm (M_K_keep) s34 q45.2 := hFc39
            have hb_50 : x50 = 0 := hb_50
            have hb_51 : x51 = al := hb_51
            have hb_52 : x52 = pn + 1 := hb_52
            replace hR := bnd_step hR eq39
            have hF := frm_tr hF hFc39 (fun k hk => by unfold M_K_keep at hk; unfold M_K_load; omega)
            refine W.widen (k := 3) (n := 7491) (by omega) (by omega) ?_
            refine et_ret ?_
            exact mp_iret hx hb hr hlk hP hD hS (((nI 0, q45.1, q45.2), T), pl) ⟨⟨hR.symm, rfl, rfl, hF, ⟨x50, hx_50, by omega⟩, ⟨x51, hx_51, by omega⟩, ⟨x52, hx_52, by omega⟩, trivial, hXT, hU, ⟨x52, hx_52, by omega, (lowT_up hnl33 (by omega))⟩⟩, hO⟩ [] rfl rfl rfl (by omega) (by omega) dK_load_110
          · replace hR := hR.trans (if_neg (Nat.not_lt.mpr h39))
            exact et_throw (own := "LatticeKeys") (cls := "java/lang/IllegalStateException") (text := "no room for more keys") (names := ["java/lang/RuntimeException", "java/lang/Exception"]) (ik := 69) (is := 105) (ic := 73) hx hb htr ctr_ISE_0 ctr_ISE_1 ctr_ISE_2 ctr_ISE_5 hown (by decide) (by decide) (hts _ (wg_t kw_420)) (hts _ (wg_t kw_17)) (hX.2.2.2.2.2.1 4 ("LatticeKeys", 105, "no room for more keys") rfl) (hat_ISE hts hX.2) hS.1 (hl.1.trans hml.symm) dK_load_57 dK_load_60 dK_load_61 dK_load_63 dK_load_66 htab (Nat.le_of_ble_eq_true rfl) (Nat.le_of_ble_eq_true rfl) (Nat.le_of_ble_eq_true rfl) (Nat.le_of_ble_eq_true rfl) hlk (Nat.le_of_ble_eq_true rfl) (Nat.le_of_ble_eq_true rfl) (xls_at 2 (congrArg Prod.fst hR) (by decide) rfl) hS.2.2 (thr_st hX.2) (fun t hz9 hk9 => ⟨⟨(((nI 3, nI 0, q43.2), T), pl), ⟨⟨hR.symm, hF, ⟨tl, hf75, by omega⟩, ⟨al, hf76, by omega⟩, ⟨pn, hf77, by omega⟩, trivial, hXT, hU, ⟨pn, hf77, by omega, (lowT_up hlow (by omega))⟩⟩, hO⟩, lc_P hP hk9, hD⟩, (lc_S hS hz9 hk9).F rfl⟩)
        · replace hR := hR.trans (if_pos h38)
          exact et_throw (own := "LatticeKeys") (cls := "java/lang/UnsupportedOperationException") (text := "the check of the key fails") (names := ["java/lang/RuntimeException", "java/lang/Exception"]) (ik := 137) (is := 139) (ic := 141) hx hb htr ctr_UOE_0 ctr_UOE_1 ctr_UOE_2 ctr_UOE_5 hown (by decide) (by decide) (hts _ (wg_t kw_789)) (hts _ (wg_t kw_25)) (hX.2.2.2.2.2.1 6 ("LatticeKeys", 139, "the check of the key fails") rfl) (hat_UOE hts hX.2) hS.1 (hl.1.trans hml.symm) dK_load_38 dK_load_41 dK_load_42 dK_load_44 dK_load_47 htab (Nat.le_of_ble_eq_true rfl) (Nat.le_of_ble_eq_true rfl) (Nat.le_of_ble_eq_true rfl) (Nat.le_of_ble_eq_true rfl) hlk (Nat.le_of_ble_eq_true rfl) (Nat.le_of_ble_eq_true rfl) (xls_at 1 (congrArg Prod.fst hR) (by decide) rfl) hS.2.2 (thr_st hX.2) (fun t hz9 hk9 => ⟨⟨(((nI 2, nI 0, q43.2), T), pl), ⟨⟨hR.symm, hF, ⟨tl, hf75, by omega⟩, ⟨al, hf76, by omega⟩, ⟨pn, hf77, by omega⟩, trivial, hXT, hU, ⟨pn, hf77, by omega, (lowT_up hlow (by omega))⟩⟩, hO⟩, lc_P hP hk9, hD⟩, (lc_S hS hz9 hk9).F rfl⟩)
      replace hR := hR.trans (if_neg hs28)
      by_cases hs29 : z21 = 1
      · replace hR := hR.trans (if_pos hs29)
        subst hs29
        have htl : tl = 2400 := (hp22 hs21).2
        refine lv_iload_n hx hb dK_load_19 rfl (lv_at hl 1 rfl) ?_
        refine lv_iconst (v := nI 3) hx hb dK_load_20 (by decide) ?_
        refine mi_ge (tgt := 48) hx hb dK_load_21 (by decide) (by omega) (by omega) (fun h40 => absurd h40 (by omega)) (fun h40 => ?_)
        refine lv_aload_n hx hb dK_load_24 rfl (lv_at hl 0 rfl) ?_
        refine lv_aload_n hx hb dK_load_25 rfl (lv_at hl 0 rfl) ?_
        refine nw_get (C := "LatticeKeys") (TT := T_K) (N := 11) hx hb hts (wg_ft i_K) hown hK hO k_h0 (kn := 0) (ci := 0) (fl := [(3, 1), (0, 0), (3, 2), (0, 0), (3, 3), (0, 0), (3, 4), (3, 8), (3, 12), (3, 24), (3, 39)]) rfl hP rfl 6 (by decide) (hts _ (wg_t kw_380)) (fun _ h9 => h9) (cd := (3, 4)) rfl dK_load_26 (fun v44 hv45 => ?_)
        obtain ⟨r54, rfl, kr93⟩ := (show ∃ r : Nat, v44 = .ref r ∧ T r = some 4 from hv45)
        refine lv_iload_n hx hb dK_load_29 rfl (lv_at hl 1 rfl) ?_
        refine nw_aald6 hx hb hK hO kr93 (k := 4) (b := 5) rfl hP (by omega) (by omega) dK_load_30 (fun r55 kr94 => ?_)
        refine lv_iload_n hx hb dK_load_31 rfl (lv_at hl 2 rfl) ?_
        refine mp_i (cx := []) (wr := []) hP hD hS hA [] [] rfl rfl rfl (by decide) (va_runV (As := [.ref r55, .int sc]) (rest := []) F (N_K_isSound_1 l g _ T q21.2 pl hO hU h0 r55 sc k_h0 kr94) (cwV 2 hts (wg_app (wg_c kw_777 (wg_c kw_779 (wg_c ks_21 (wg_c kw_1 wg_n)))) kw_780) rfl rfl rfl (by decide +kernel) ⟨by decide, by decide⟩) (pn_W "LatticeKeys" (en_ok g) (ci := 0) (kn := 0) (fl := [(3, 1), (0, 0), (3, 2), (0, 0), (3, 3), (0, 0), (3, 4), (3, 8), (3, 12), (3, 24), (3, 39)]) hK hO k_h0 rfl hP hD hS hA hE [] rfl rfl rfl) rfl rfl hl.1 rfl (lv_room (Nat.le_of_ble_eq_true rfl)) dK_load_32 ⟨Nat.le_of_ble_eq_true rfl, Nat.le_of_ble_eq_true rfl⟩) (fun r56 u40 H locs hu40 hP hD hS => ?_)
        obtain ⟨q46, pl⟩ := u40
        obtain ⟨⟨eq40, rfl, hFc40, hxp33, -⟩, hO⟩ := hu40
        have hO : okn g T q46.2 pl := hO
        have hP : va_P g.1 vcl ([] ++ pl) _ := hP
        have hD : va_D _ ([] ++ pl) := hD
        have hFc40 : frm (M_K_isSound_1) q21.2 q46.2 := hFc40
        replace hR := bnd_step hR eq40
        have hF := frm_tr hF hFc40 (fun k hk => by unfold M_K_isSound_1 at hk; unfold M_K_load; omega)
        have hf85 : q46.2.1 0 1 = nI tl := fc_F hf21 hFc40 (by unfold M_K_isSound_1; omega)
        have hf86 : q46.2.1 0 3 = nI al := fc_F hf22 hFc40 (by unfold M_K_isSound_1; omega)
        have hf87 : q46.2.1 0 5 = nI pn := fc_F hf23 hFc40 (by unfold M_K_isSound_1; omega)
        refine W.widen (k := 0) (n := 0) (by omega) (by omega) ?_
        refine lv_if_ne (tgt := 48) hx hb dK_load_35 (by decide) (fun h41 => ?_) (fun h41 => ?_)
        · replace hR := hR.trans (if_neg h41)
          refine lv_aload_n hx hb dK_load_48 rfl (lv_at hl 0 rfl) ?_
          refine nw_get (C := "LatticeKeys") (TT := T_K) (N := 11) hx hb hts (wg_ft i_K) hown hK hO k_h0 (kn := 0) (ci := 0) (fl := [(3, 1), (0, 0), (3, 2), (0, 0), (3, 3), (0, 0), (3, 4), (3, 8), (3, 12), (3, 24), (3, 39)]) rfl hP rfl 5 (by decide) (hts _ (wg_t kw_379)) (fun _ h9 => h9) (cd := (0, 0)) rfl dK_load_49 (fun v45 hv46 => ?_)
          obtain rfl := (show v45 = .int (q46.2.1 0 5) from hv46)
          obtain ⟨z35, ez35, hz48, hz49⟩ := cl_of (b := 2147483648) hf87 (by omega) (by decide)
          replace hR := bnd_step hR ez35
          refine mi_as hz48 ?_
          refine lv_bipush (v := nI 8) hx hb dK_load_52 (by decide) ?_
          refine mi_lt (tgt := 67) hx hb dK_load_54 (by decide) (by omega) (by omega) (fun h42 => ?_) (fun h42 => ?_)
          · replace hR := hR.trans (if_pos h42)
            refine lv_iload_n hx hb dK_load_67 rfl (lv_at hl 2 rfl) ?_
            refine lv_if_eq (tgt := 79) hx hb dK_load_68 (by decide) (fun h9 => absurd h9 hs21) (fun h9 => ?_)
            refine lv_aload_n hx hb dK_load_71 rfl (lv_at hl 0 rfl) ?_
            refine lv_iload_n hx hb dK_load_72 rfl (lv_at hl 1 rfl) ?_
            refine mp_q (cx := []) (wr := []) hP hD hS hA [] [] rfl rfl rfl (by decide) (va_runV (As := [.int (nI 1)]) (rest := []) F (N_K_secretFromTape_1 l g _ T q46.2 pl hO hU h0 tl al pn k_h0 hf85 hf86 hf87 (by omega) (by omega) (by omega) (by omega) hlow) (cwV 1 hts (wg_app (wg_c kw_805 (wg_c kw_807 (wg_c ks_22 (wg_c kw_1 wg_n)))) kw_808) rfl rfl rfl (by decide +kernel) ⟨by decide, by decide⟩) (pn_W "LatticeKeys" (en_ok g) (ci := 0) (kn := 0) (fl := [(3, 1), (0, 0), (3, 2), (0, 0), (3, 3), (0, 0), (3, 4), (3, 8), (3, 12), (3, 24), (3, 39)]) hK hO k_h0 rfl hP hD hS hA hE [] rfl rfl rfl) rfl rfl hl.1 rfl (lv_room (Nat.le_of_ble_eq_true rfl)) dK_load_73 ⟨Nat.le_of_ble_eq_true rfl, Nat.le_of_ble_eq_true rfl⟩) (fun r57 u41 H locs hu41 hP hD hS => ?_)
            obtain ⟨⟨s35, T⟩, pl⟩ := u41
            obtain ⟨⟨eq41, ⟨q47, rfl, kr95⟩, hFc41, hxt34, hU, hnl34⟩, hO⟩ := hu41
            have hO : okn g T s35 pl := hO
            have hP : va_P g.1 vcl ([] ++ pl) _ := hP
            have hD : va_D _ ([] ++ pl) := hD
            have hU : inj T := hU
            have eq41 : s35 = F_K_secretFromTape_1 pn q46.2 := eq41
            have hFc41 : frm (M_K_secretFromTape_1) q46.2 s35 := hFc41
            replace hR := bnd_step hR eq41
            have hF := frm_tr hF hFc41 (fun k hk => by unfold M_K_secretFromTape_1 at hk; unfold M_K_load; omega)
            have hf88 : s35.1 0 1 = nI tl := fc_F hf85 hFc41 (by unfold M_K_secretFromTape_1; omega)
            have hf89 : s35.1 0 3 = nI al := fc_F hf86 hFc41 (by unfold M_K_secretFromTape_1; omega)
            have hf90 : s35.1 0 5 = nI pn := fc_F hf87 hFc41 (by unfold M_K_secretFromTape_1; omega)
            have kr96 := hxt34 _ _ k_h0
            have kr97 := hxt34 _ _ kr93
            have kr98 := hxt34 _ _ kr94
            have hXT := extN_tr hXT hxt34
            have hnl34 : lowT T (379 + 36 * (pn + 1)) := hnl34
            refine W.widen (k := 3) (n := 7491) (by omega) (by omega) ?_
            refine lv_goto (tgt := 99) hx hb dK_load_76 (by decide) ?_
            refine lv_astore_n (lv' := [(3, .ref q47), (0, .ref h0), (1, .int (nI 1)), (2, .int sc)]) hx hb dK_load_99 rfl hl (by decide) rfl (fun ls hl => ?_)
            refine lv_aload_n hx hb dK_load_100 rfl (lv_at hl 1 rfl) ?_
            refine lv_iconst (v := nI 0) hx hb dK_load_101 (by decide) ?_
            refine nw_put (C := "LatticeKeys") (TT := T_K) (N := 11) hx hb hts (wg_ft i_K) ty_K k_K n_K hown hK hO hU kr96 (kn := 0) (ci := 0) (fl := [(3, 1), (0, 0), (3, 2), (0, 0), (3, 3), (0, 0), (3, 4), (3, 8), (3, 12), (3, 24), (3, 39)]) rfl hP hD hS rfl 1 (by decide) (hts _ (wg_t kw_375)) (fun _ h9 => h9) rfl (by decide +kernel) rfl dK_load_102 (fun s36 pl H locs es28 hO hP hD hS => ?_)
            replace hR := bnd_step hR es28
            have hF := frm_sI hF es28 (by unfold M_K_load; omega)
            have hf92 : s36.1 0 3 = nI al := fc_ne hf89 es28 (by omega)
            have hf93 : s36.1 0 5 = nI pn := fc_ne hf90 es28 (by omega)
            have hf94 : s36.1 0 1 = nI 0 := fc_eq es28
            refine lv_aload_n hx hb dK_load_105 rfl (lv_at hl 1 rfl) ?_
            refine lv_aload_n hx hb dK_load_106 rfl (lv_at hl 0 rfl) ?_
            refine mp_i (cx := []) (wr := []) hP hD hS hA [] [] rfl rfl rfl (by decide) (va_runV (As := [.ref q47]) (rest := []) F (N_K_keep l g _ T s36 pl hO hU h0 q47 1 0 al pn kr96 kr95 hf94 hf92 hf93 (by omega) (by omega) (by omega) (by omega)) (cwV 1 hts (wg_app (wg_c kw_760 (wg_c kw_762 (wg_c ks_19 (wg_c kw_1 wg_n)))) kw_763) rfl rfl rfl (by decide +kernel) ⟨by decide, by decide⟩) (pn_W "LatticeKeys" (en_ok g) (ci := 0) (kn := 0) (fl := [(3, 1), (0, 0), (3, 2), (0, 0), (3, 3), (0, 0), (3, 4), (3, 8), (3, 12), (3, 24), (3, 39)]) hK hO kr96 rfl hP hD hS hA hE [] rfl rfl rfl) rfl rfl hl.1 rfl (lv_room (Nat.le_of_ble_eq_true rfl)) dK_load_107 ⟨Nat.le_of_ble_eq_true rfl, Nat.le_of_ble_eq_true rfl⟩) (fun r58 u42 H locs hu42 hP hD hS => ?_)
            obtain ⟨q48, pl⟩ := u42
            obtain ⟨⟨eq42, rfl, hFc42, ⟨x55, hx_55, hb_55⟩, ⟨x56, hx_56, hb_56⟩, ⟨x57, hx_57, hb_57⟩, -⟩, hO⟩ := hu42
            have hO : okn g T q48.2 pl := hO
            have hP : va_P g.1 vcl ([] ++ pl) _ := hP
            have hD : va_D _ ([] ++ pl) := hD
            have hFc42 : frm (M_K_keep) s36 q48.2 := hFc42
            have hb_55 : x55 = 0 := hb_55
            have hb_56 : x56 = al := hb_56
            have hb_57 : x57 = pn + 1 := hb_57
            replace hR := bnd_step hR eq42
            have hF := frm_tr hF hFc42 (fun k hk => by unfold M_K_keep at hk; unfold M_K_load; omega)
            refine W.widen (k := 3) (n := 7491) (by omega) (by omega) ?_
            refine et_ret ?_
            exact mp_iret hx hb hr hlk hP hD hS (((nI 0, q48.1, q48.2), T), pl) ⟨⟨hR.symm, rfl, rfl, hF, ⟨x55, hx_55, by omega⟩, ⟨x56, hx_56, by omega⟩, ⟨x57, hx_57, by omega⟩, trivial, hXT, hU, ⟨x57, hx_57, by omega, (lowT_up hnl34 (by omega))⟩⟩, hO⟩ [] rfl rfl rfl (by omega) (by omega) dK_load_110
          · replace hR := hR.trans (if_neg (Nat.not_lt.mpr h42))
            exact et_throw (own := "LatticeKeys") (cls := "java/lang/IllegalStateException") (text := "no room for more keys") (names := ["java/lang/RuntimeException", "java/lang/Exception"]) (ik := 69) (is := 105) (ic := 73) hx hb htr ctr_ISE_0 ctr_ISE_1 ctr_ISE_2 ctr_ISE_5 hown (by decide) (by decide) (hts _ (wg_t kw_420)) (hts _ (wg_t kw_17)) (hX.2.2.2.2.2.1 4 ("LatticeKeys", 105, "no room for more keys") rfl) (hat_ISE hts hX.2) hS.1 (hl.1.trans hml.symm) dK_load_57 dK_load_60 dK_load_61 dK_load_63 dK_load_66 htab (Nat.le_of_ble_eq_true rfl) (Nat.le_of_ble_eq_true rfl) (Nat.le_of_ble_eq_true rfl) (Nat.le_of_ble_eq_true rfl) hlk (Nat.le_of_ble_eq_true rfl) (Nat.le_of_ble_eq_true rfl) (xls_at 2 (congrArg Prod.fst hR) (by decide) rfl) hS.2.2 (thr_st hX.2) (fun t hz9 hk9 => ⟨⟨(((nI 3, nI 0, q46.2), T), pl), ⟨⟨hR.symm, hF, ⟨tl, hf85, by omega⟩, ⟨al, hf86, by omega⟩, ⟨pn, hf87, by omega⟩, trivial, hXT, hU, ⟨pn, hf87, by omega, (lowT_up hlow (by omega))⟩⟩, hO⟩, lc_P hP hk9, hD⟩, (lc_S hS hz9 hk9).F rfl⟩)
        · replace hR := hR.trans (if_pos h41)
          exact et_throw (own := "LatticeKeys") (cls := "java/lang/UnsupportedOperationException") (text := "the check of the key fails") (names := ["java/lang/RuntimeException", "java/lang/Exception"]) (ik := 137) (is := 139) (ic := 141) hx hb htr ctr_UOE_0 ctr_UOE_1 ctr_UOE_2 ctr_UOE_5 hown (by decide) (by decide) (hts _ (wg_t kw_789)) (hts _ (wg_t kw_25)) (hX.2.2.2.2.2.1 6 ("LatticeKeys", 139, "the check of the key fails") rfl) (hat_UOE hts hX.2) hS.1 (hl.1.trans hml.symm) dK_load_38 dK_load_41 dK_load_42 dK_load_44 dK_load_47 htab (Nat.le_of_ble_eq_true rfl) (Nat.le_of_ble_eq_true rfl) (Nat.le_of_ble_eq_true rfl) (Nat.le_of_ble_eq_true rfl) hlk (Nat.le_of_ble_eq_true rfl) (Nat.le_of_ble_eq_true rfl) (xls_at 1 (congrArg Prod.fst hR) (by decide) rfl) hS.2.2 (thr_st hX.2) (fun t hz9 hk9 => ⟨⟨(((nI 2, nI 0, q46.2), T), pl), ⟨⟨hR.symm, hF, ⟨tl, hf85, by omega⟩, ⟨al, hf86, by omega⟩, ⟨pn, hf87, by omega⟩, trivial, hXT, hU, ⟨pn, hf87, by omega, (lowT_up hlow (by omega))⟩⟩, hO⟩, lc_P hP hk9, hD⟩, (lc_S hS hz9 hk9).F rfl⟩)
      replace hR := hR.trans (if_neg hs29)
      have hs30 : z21 = 2 := by omega
      subst hs30
      have htl : tl = 3168 := (hp22 hs21).2
      refine lv_iload_n hx hb dK_load_19 rfl (lv_at hl 1 rfl) ?_
      refine lv_iconst (v := nI 3) hx hb dK_load_20 (by decide) ?_
      refine mi_ge (tgt := 48) hx hb dK_load_21 (by decide) (by omega) (by omega) (fun h43 => absurd h43 (by omega)) (fun h43 => ?_)
      refine lv_aload_n hx hb dK_load_24 rfl (lv_at hl 0 rfl) ?_
      refine lv_aload_n hx hb dK_load_25 rfl (lv_at hl 0 rfl) ?_
      refine nw_get (C := "LatticeKeys") (TT := T_K) (N := 11) hx hb hts (wg_ft i_K) hown hK hO k_h0 (kn := 0) (ci := 0) (fl := [(3, 1), (0, 0), (3, 2), (0, 0), (3, 3), (0, 0), (3, 4), (3, 8), (3, 12), (3, 24), (3, 39)]) rfl hP rfl 6 (by decide) (hts _ (wg_t kw_380)) (fun _ h9 => h9) (cd := (3, 4)) rfl dK_load_26 (fun v46 hv47 => ?_)
      obtain ⟨r59, rfl, kr99⟩ := (show ∃ r : Nat, v46 = .ref r ∧ T r = some 4 from hv47)
      refine lv_iload_n hx hb dK_load_29 rfl (lv_at hl 1 rfl) ?_
      refine nw_aald6 hx hb hK hO kr99 (k := 4) (b := 5) rfl hP (by omega) (by omega) dK_load_30 (fun r60 kr100 => ?_)
      refine lv_iload_n hx hb dK_load_31 rfl (lv_at hl 2 rfl) ?_
      refine mp_i (cx := []) (wr := []) hP hD hS hA [] [] rfl rfl rfl (by decide) (va_runV (As := [.ref r60, .int sc]) (rest := []) F (N_K_isSound_2 l g _ T q21.2 pl hO hU h0 r60 sc k_h0 kr100) (cwV 2 hts (wg_app (wg_c kw_777 (wg_c kw_779 (wg_c ks_21 (wg_c kw_1 wg_n)))) kw_780) rfl rfl rfl (by decide +kernel) ⟨by decide, by decide⟩) (pn_W "LatticeKeys" (en_ok g) (ci := 0) (kn := 0) (fl := [(3, 1), (0, 0), (3, 2), (0, 0), (3, 3), (0, 0), (3, 4), (3, 8), (3, 12), (3, 24), (3, 39)]) hK hO k_h0 rfl hP hD hS hA hE [] rfl rfl rfl) rfl rfl hl.1 rfl (lv_room (Nat.le_of_ble_eq_true rfl)) dK_load_32 ⟨Nat.le_of_ble_eq_true rfl, Nat.le_of_ble_eq_true rfl⟩) (fun r61 u43 H locs hu43 hP hD hS => ?_)
      obtain ⟨q49, pl⟩ := u43
      obtain ⟨⟨eq43, rfl, hFc43, hxp35, -⟩, hO⟩ := hu43
      have hO : okn g T q49.2 pl := hO
      have hP : va_P g.1 vcl ([] ++ pl) _ := hP
      have hD : va_D _ ([] ++ pl) := hD
      have hFc43 : frm (M_K_isSound_2) q21.2 q49.2 := hFc43
      replace hR := bnd_step hR eq43
      have hF := frm_tr hF hFc43 (fun k hk => by unfold M_K_isSound_2 at hk; unfold M_K_load; omega)
      have hf95 : q49.2.1 0 1 = nI tl := fc_F hf21 hFc43 (by unfold M_K_isSound_2; omega)
      have hf96 : q49.2.1 0 3 = nI al := fc_F hf22 hFc43 (by unfold M_K_isSound_2; omega)
      have hf97 : q49.2.1 0 5 = nI pn := fc_F hf23 hFc43 (by unfold M_K_isSound_2; omega)
      refine W.widen (k := 0) (n := 0) (by omega) (by omega) ?_
      refine lv_if_ne (tgt := 48) hx hb dK_load_35 (by decide) (fun h44 => ?_) (fun h44 => ?_)
      · replace hR := hR.trans (if_neg h44)
        refine lv_aload_n hx hb dK_load_48 rfl (lv_at hl 0 rfl) ?_
        refine nw_get (C := "LatticeKeys") (TT := T_K) (N := 11) hx hb hts (wg_ft i_K) hown hK hO k_h0 (kn := 0) (ci := 0) (fl := [(3, 1), (0, 0), (3, 2), (0, 0), (3, 3), (0, 0), (3, 4), (3, 8), (3, 12), (3, 24), (3, 39)]) rfl hP rfl 5 (by decide) (hts _ (wg_t kw_379)) (fun _ h9 => h9) (cd := (0, 0)) rfl dK_load_49 (fun v47 hv48 => ?_)
        obtain rfl := (show v47 = .int (q49.2.1 0 5) from hv48)
        obtain ⟨z36, ez36, hz50, hz51⟩ := cl_of (b := 2147483648) hf97 (by omega) (by decide)
        replace hR := bnd_step hR ez36
        refine mi_as hz50 ?_
        refine lv_bipush (v := nI 8) hx hb dK_load_52 (by decide) ?_
        refine mi_lt (tgt := 67) hx hb dK_load_54 (by decide) (by omega) (by omega) (fun h45 => ?_) (fun h45 => ?_)
        · replace hR := hR.trans (if_pos h45)
          refine lv_iload_n hx hb dK_load_67 rfl (lv_at hl 2 rfl) ?_
          refine lv_if_eq (tgt := 79) hx hb dK_load_68 (by decide) (fun h9 => absurd h9 hs21) (fun h9 => ?_)
          refine lv_aload_n hx hb dK_load_71 rfl (lv_at hl 0 rfl) ?_
          refine lv_iload_n hx hb dK_load_72 rfl (lv_at hl 1 rfl) ?_
          refine mp_q (cx := []) (wr := []) hP hD hS hA [] [] rfl rfl rfl (by decide) (va_runV (As := [.int (nI 2)]) (rest := []) F (N_K_secretFromTape_2 l g _ T q49.2 pl hO hU h0 tl al pn k_h0 hf95 hf96 hf97 (by omega) (by omega) (by omega) (by omega) hlow) (cwV 1 hts (wg_app (wg_c kw_805 (wg_c kw_807 (wg_c ks_22 (wg_c kw_1 wg_n)))) kw_808) rfl rfl rfl (by decide +kernel) ⟨by decide, by decide⟩) (pn_W "LatticeKeys" (en_ok g) (ci := 0) (kn := 0) (fl := [(3, 1), (0, 0), (3, 2), (0, 0), (3, 3), (0, 0), (3, 4), (3, 8), (3, 12), (3, 24), (3, 39)]) hK hO k_h0 rfl hP hD hS hA hE [] rfl rfl rfl) rfl rfl hl.1 rfl (lv_room (Nat.le_of_ble_eq_true rfl)) dK_load_73 ⟨Nat.le_of_ble_eq_true rfl, Nat.le_of_ble_eq_true rfl⟩) (fun r62 u44 H locs hu44 hP hD hS => ?_)
          obtain ⟨⟨s37, T⟩, pl⟩ := u44
          obtain ⟨⟨eq44, ⟨q50, rfl, kr101⟩, hFc44, hxt35, hU, hnl35⟩, hO⟩ := hu44
          have hO : okn g T s37 pl := hO
          have hP : va_P g.1 vcl ([] ++ pl) _ := hP
          have hD : va_D _ ([] ++ pl) := hD
          have hU : inj T := hU
          have eq44 : s37 = F_K_secretFromTape_2 pn q49.2 := eq44
          have hFc44 : frm (M_K_secretFromTape_2) q49.2 s37 := hFc44
          replace hR := bnd_step hR eq44
          have hF := frm_tr hF hFc44 (fun k hk => by unfold M_K_secretFromTape_2 at hk; unfold M_K_load; omega)
          have hf98 : s37.1 0 1 = nI tl := fc_F hf95 hFc44 (by unfold M_K_secretFromTape_2; omega)
          have hf99 : s37.1 0 3 = nI al := fc_F hf96 hFc44 (by unfold M_K_secretFromTape_2; omega)
          have hf100 : s37.1 0 5 = nI pn := fc_F hf97 hFc44 (by unfold M_K_secretFromTape_2; omega)
          have kr102 := hxt35 _ _ k_h0
          have kr103 := hxt35 _ _ kr99
          have kr104 := hxt35 _ _ kr100
          have hXT := extN_tr hXT hxt35
          have hnl35 : lowT T (379 + 36 * (pn + 1)) := hnl35
          refine W.widen (k := 3) (n := 7491) (by omega) (by omega) ?_
          refine lv_goto (tgt := 99) hx hb dK_load_76 (by decide) ?_
          refine lv_astore_n (lv' := [(3, .ref q50), (0, .ref h0), (1, .int (nI 2)), (2, .int sc)]) hx hb dK_load_99 rfl hl (by decide) rfl (fun ls hl => ?_)
          refine lv_aload_n hx hb dK_load_100 rfl (lv_at hl 1 rfl) ?_
          refine lv_iconst (v := nI 0) hx hb dK_load_101 (by decide) ?_
          refine nw_put (C := "LatticeKeys") (TT := T_K) (N := 11) hx hb hts (wg_ft i_K) ty_K k_K n_K hown hK hO hU kr102 (kn := 0) (ci := 0) (fl := [(3, 1), (0, 0), (3, 2), (0, 0), (3, 3), (0, 0), (3, 4), (3, 8), (3, 12), (3, 24), (3, 39)]) rfl hP hD hS rfl 1 (by decide) (hts _ (wg_t kw_375)) (fun _ h9 => h9) rfl (by decide +kernel) rfl dK_load_102 (fun s38 pl H locs es29 hO hP hD hS => ?_)
          replace hR := bnd_step hR es29
          have hF := frm_sI hF es29 (by unfold M_K_load; omega)
          have hf102 : s38.1 0 3 = nI al := fc_ne hf99 es29 (by omega)
          have hf103 : s38.1 0 5 = nI pn := fc_ne hf100 es29 (by omega)
          have hf104 : s38.1 0 1 = nI 0 := fc_eq es29
          refine lv_aload_n hx hb dK_load_105 rfl (lv_at hl 1 rfl) ?_
          refine lv_aload_n hx hb dK_load_106 rfl (lv_at hl 0 rfl) ?_
          refine mp_i (cx := []) (wr := []) hP hD hS hA [] [] rfl rfl rfl (by decide) (va_runV (As := [.ref q50]) (rest := []) F (N_K_keep l g _ T s38 pl hO hU h0 q50 2 0 al pn kr102 kr101 hf104 hf102 hf103 (by omega) (by omega) (by omega) (by omega)) (cwV 1 hts (wg_app (wg_c kw_760 (wg_c kw_762 (wg_c ks_19 (wg_c kw_1 wg_n)))) kw_763) rfl rfl rfl (by decide +kernel) ⟨by decide, by decide⟩) (pn_W "LatticeKeys" (en_ok g) (ci := 0) (kn := 0) (fl := [(3, 1), (0, 0), (3, 2), (0, 0), (3, 3), (0, 0), (3, 4), (3, 8), (3, 12), (3, 24), (3, 39)]) hK hO kr102 rfl hP hD hS hA hE [] rfl rfl rfl) rfl rfl hl.1 rfl (lv_room (Nat.le_of_ble_eq_true rfl)) dK_load_107 ⟨Nat.le_of_ble_eq_true rfl, Nat.le_of_ble_eq_true rfl⟩) (fun r63 u45 H locs hu45 hP hD hS => ?_)
          obtain ⟨q51, pl⟩ := u45
          obtain ⟨⟨eq45, rfl, hFc45, ⟨x60, hx_60, hb_60⟩, ⟨x61, hx_61, hb_61⟩, ⟨x62, hx_62, hb_62⟩, -⟩, hO⟩ := hu45
          have hO : okn g T q51.2 pl := hO
          have hP : va_P g.1 vcl ([] ++ pl) _ := hP
          have hD : va_D _ ([] ++ pl) := hD
          have hFc45 : frm (M_K_keep) s38 q51.2 := hFc45
          have hb_60 : x60 = 0 := hb_60
          have hb_61 : x61 = al := hb_61
          have hb_62 : x62 = pn + 1 := hb_62
          replace hR := bnd_step hR eq45
          have hF := frm_tr hF hFc45 (fun k hk => by unfold M_K_keep at hk; unfold M_K_load; omega)
          refine W.widen (k := 3) (n := 7491) (by omega) (by omega) ?_
          refine et_ret ?_
          exact mp_iret hx hb hr hlk hP hD hS (((nI 0, q51.1, q51.2), T), pl) ⟨⟨hR.symm, rfl, rfl, hF, ⟨x60, hx_60, by omega⟩, ⟨x61, hx_61, by omega⟩, ⟨x62, hx_62, by omega⟩, trivial, hXT, hU, ⟨x62, hx_62, by omega, (lowT_up hnl35 (by omega))⟩⟩, hO⟩ [] rfl rfl rfl (by omega) (by omega) dK_load_110
        · replace hR := hR.trans (if_neg (Nat.not_lt.mpr h45))
          exact et_throw (own := "LatticeKeys") (cls := "java/lang/IllegalStateException") (text := "no room for more keys") (names := ["java/lang/RuntimeException", "java/lang/Exception"]) (ik := 69) (is := 105) (ic := 73) hx hb htr ctr_ISE_0 ctr_ISE_1 ctr_ISE_2 ctr_ISE_5 hown (by decide) (by decide) (hts _ (wg_t kw_420)) (hts _ (wg_t kw_17)) (hX.2.2.2.2.2.1 4 ("LatticeKeys", 105, "no room for more keys") rfl) (hat_ISE hts hX.2) hS.1 (hl.1.trans hml.symm) dK_load_57 dK_load_60 dK_load_61 dK_load_63 dK_load_66 htab (Nat.le_of_ble_eq_true rfl) (Nat.le_of_ble_eq_true rfl) (Nat.le_of_ble_eq_true rfl) (Nat.le_of_ble_eq_true rfl) hlk (Nat.le_of_ble_eq_true rfl) (Nat.le_of_ble_eq_true rfl) (xls_at 2 (congrArg Prod.fst hR) (by decide) rfl) hS.2.2 (thr_st hX.2) (fun t hz9 hk9 => ⟨⟨(((nI 3, nI 0, q49.2), T), pl), ⟨⟨hR.symm, hF, ⟨tl, hf95, by omega⟩, ⟨al, hf96, by omega⟩, ⟨pn, hf97, by omega⟩, trivial, hXT, hU, ⟨pn, hf97, by omega, (lowT_up hlow (by omega))⟩⟩, hO⟩, lc_P hP hk9, hD⟩, (lc_S hS hz9 hk9).F rfl⟩)
      · replace hR := hR.trans (if_pos h44)
        exact et_throw (own := "LatticeKeys") (cls := "java/lang/UnsupportedOperationException") (text := "the check of the key fails") (names := ["java/lang/RuntimeException", "java/lang/Exception"]) (ik := 137) (is := 139) (ic := 141) hx hb htr ctr_UOE_0 ctr_UOE_1 ctr_UOE_2 ctr_UOE_5 hown (by decide) (by decide) (hts _ (wg_t kw_789)) (hts _ (wg_t kw_25)) (hX.2.2.2.2.2.1 6 ("LatticeKeys", 139, "the check of the key fails") rfl) (hat_UOE hts hX.2) hS.1 (hl.1.trans hml.symm) dK_load_38 dK_load_41 dK_load_42 dK_load_44 dK_load_47 htab (Nat.le_of_ble_eq_true rfl) (Nat.le_of_ble_eq_true rfl) (Nat.le_of_ble_eq_true rfl) (Nat.le_of_ble_eq_true rfl) hlk (Nat.le_of_ble_eq_true rfl) (Nat.le_of_ble_eq_true rfl) (xls_at 1 (congrArg Prod.fst hR) (by decide) rfl) hS.2.2 (thr_st hX.2) (fun t hz9 hk9 => ⟨⟨(((nI 2, nI 0, q49.2), T), pl), ⟨⟨hR.symm, hF, ⟨tl, hf95, by omega⟩, ⟨al, hf96, by omega⟩, ⟨pn, hf97, by omega⟩, trivial, hXT, hU, ⟨pn, hf97, by omega, (lowT_up hlow (by omega))⟩⟩, hO⟩, lc_P hP hk9, hD⟩, (lc_S hS hz9 hk9).F rfl⟩)
  · replace hR := hR.trans (if_pos h21)
    exact et_throw (own := "LatticeKeys") (cls := "java/lang/IllegalArgumentException") (text := "no such set or part, or another length") (names := ["java/lang/RuntimeException", "java/lang/Exception"]) (ik := 79) (is := 131) (ic := 83) hx hb htr ctr_IAE_0 ctr_IAE_1 ctr_IAE_2 ctr_IAE_5 hown (by decide) (by decide) (hts _ (wg_t kw_501)) (hts _ (wg_t kw_18)) (hX.2.2.2.2.2.1 5 ("LatticeKeys", 131, "no such set or part, or another length") rfl) (hat_IAE hts hX.2) hS.1 (hl.1.trans hml.symm) dK_load_9 dK_load_12 dK_load_13 dK_load_15 dK_load_18 htab (Nat.le_of_ble_eq_true rfl) (Nat.le_of_ble_eq_true rfl) (Nat.le_of_ble_eq_true rfl) (Nat.le_of_ble_eq_true rfl) hlk (Nat.le_of_ble_eq_true rfl) (Nat.le_of_ble_eq_true rfl) (xls_at 0 (congrArg Prod.fst hR) (by decide) rfl) hS.2.2 (thr_st hX.2) (fun t hz9 hk9 => ⟨⟨(((nI 1, nI 0, q21.2), T), pl), ⟨⟨hR.symm, hF, ⟨tl, hf21, by omega⟩, ⟨al, hf22, by omega⟩, ⟨pn, hf23, by omega⟩, trivial, hXT, hU, ⟨pn, hf23, by omega, (lowT_up hlow (by omega))⟩⟩, hO⟩, lc_P hP hk9, hD⟩, (lc_S hS hz9 hk9).F rfl⟩)
