set_option linter.all false
abbrev c_M_verify : ByteArray := prog_12_method_24_code
abbrev y_M_verify : MethodName := ⟨"LatticeKeysModel", "verify", "(II)Z"⟩
abbrev w_M_verify : List Cond := Cond.code y_M_verify c_M_verify 4 (some .boolean) :: WG
theorem dM_verify_0 : decode c_M_verify 0 = .ok (.aload_n 0, 1) := by decide +kernel
theorem dM_verify_1 : decode c_M_verify 1 = .ok (.aload_n 0, 1) := by decide +kernel
theorem dM_verify_2 : decode c_M_verify 2 = .ok (.iload_n 1, 1) := by decide +kernel
theorem dM_verify_3 : decode c_M_verify 3 = .ok (.invokevirtual 103, 3) := by decide +kernel
theorem dM_verify_6 : decode c_M_verify 6 = .ok (.ifCond .ne 13, 3) := by decide +kernel
theorem dM_verify_9 : decode c_M_verify 9 = .ok (.aload_n 0, 1) := by decide +kernel
theorem dM_verify_10 : decode c_M_verify 10 = .ok (.getfield 27, 3) := by decide +kernel
theorem dM_verify_13 : decode c_M_verify 13 = .ok (.iload_n 1, 1) := by decide +kernel
theorem dM_verify_14 : decode c_M_verify 14 = .ok (.iaload, 1) := by decide +kernel
theorem dM_verify_15 : decode c_M_verify 15 = .ok (.iconst 3, 1) := by decide +kernel
theorem dM_verify_16 : decode c_M_verify 16 = .ok (.if_icmp .ge 7, 3) := by decide +kernel
theorem dM_verify_19 : decode c_M_verify 19 = .ok (.iconst 1, 1) := by decide +kernel
theorem dM_verify_20 : decode c_M_verify 20 = .ok (.goto 39, 3) := by decide +kernel
theorem dM_verify_23 : decode c_M_verify 23 = .ok (.iload_n 2, 1) := by decide +kernel
theorem dM_verify_24 : decode c_M_verify 24 = .ok (.ifCond .lt 30, 3) := by decide +kernel
theorem dM_verify_27 : decode c_M_verify 27 = .ok (.iload_n 2, 1) := by decide +kernel
theorem dM_verify_28 : decode c_M_verify 28 = .ok (.sipush 255, 3) := by decide +kernel
theorem dM_verify_31 : decode c_M_verify 31 = .ok (.if_icmp .gt 23, 3) := by decide +kernel
theorem dM_verify_34 : decode c_M_verify 34 = .ok (.aload_n 0, 1) := by decide +kernel
theorem dM_verify_35 : decode c_M_verify 35 = .ok (.getfield 70, 3) := by decide +kernel
theorem dM_verify_38 : decode c_M_verify 38 = .ok (.aload_n 0, 1) := by decide +kernel
theorem dM_verify_39 : decode c_M_verify 39 = .ok (.getfield 27, 3) := by decide +kernel
theorem dM_verify_42 : decode c_M_verify 42 = .ok (.iload_n 1, 1) := by decide +kernel
theorem dM_verify_43 : decode c_M_verify 43 = .ok (.iaload, 1) := by decide +kernel
theorem dM_verify_44 : decode c_M_verify 44 = .ok (.iconst 3, 1) := by decide +kernel
theorem dM_verify_45 : decode c_M_verify 45 = .ok (.isub, 1) := by decide +kernel
theorem dM_verify_46 : decode c_M_verify 46 = .ok (.invokestatic 124, 3) := by decide +kernel
theorem dM_verify_49 : decode c_M_verify 49 = .ok (.iload_n 2, 1) := by decide +kernel
theorem dM_verify_50 : decode c_M_verify 50 = .ok (.iadd, 1) := by decide +kernel
theorem dM_verify_51 : decode c_M_verify 51 = .ok (.if_icmp .ge 7, 3) := by decide +kernel
theorem dM_verify_54 : decode c_M_verify 54 = .ok (.iconst 2, 1) := by decide +kernel
theorem dM_verify_55 : decode c_M_verify 55 = .ok (.goto 4, 3) := by decide +kernel
theorem dM_verify_58 : decode c_M_verify 58 = .ok (.iconst 0, 1) := by decide +kernel
theorem dM_verify_59 : decode c_M_verify 59 = .ok (.putfield 57, 3) := by decide +kernel
theorem dM_verify_62 : decode c_M_verify 62 = .ok (.aload_n 0, 1) := by decide +kernel
theorem dM_verify_63 : decode c_M_verify 63 = .ok (.getfield 57, 3) := by decide +kernel
theorem dM_verify_66 : decode c_M_verify 66 = .ok (.ifCond .le 5, 3) := by decide +kernel
theorem dM_verify_69 : decode c_M_verify 69 = .ok (.iconst 0, 1) := by decide +kernel
theorem dM_verify_70 : decode c_M_verify 70 = .ok (.ireturn, 1) := by decide +kernel
theorem dM_verify_71 : decode c_M_verify 71 = .ok (.aload_n 0, 1) := by decide +kernel
theorem dM_verify_72 : decode c_M_verify 72 = .ok (.getfield 53, 3) := by decide +kernel
theorem dM_verify_75 : decode c_M_verify 75 = .ok (.aload_n 0, 1) := by decide +kernel
theorem dM_verify_76 : decode c_M_verify 76 = .ok (.getfield 27, 3) := by decide +kernel
theorem dM_verify_79 : decode c_M_verify 79 = .ok (.iload_n 1, 1) := by decide +kernel
theorem dM_verify_80 : decode c_M_verify 80 = .ok (.iaload, 1) := by decide +kernel
theorem dM_verify_81 : decode c_M_verify 81 = .ok (.iconst 3, 1) := by decide +kernel
theorem dM_verify_82 : decode c_M_verify 82 = .ok (.isub, 1) := by decide +kernel
theorem dM_verify_83 : decode c_M_verify 83 = .ok (.aload_n 0, 1) := by decide +kernel
theorem dM_verify_84 : decode c_M_verify 84 = .ok (.getfield 21, 3) := by decide +kernel
theorem dM_verify_87 : decode c_M_verify 87 = .ok (.iload_n 1, 1) := by decide +kernel
theorem dM_verify_88 : decode c_M_verify 88 = .ok (.aaload, 1) := by decide +kernel
theorem dM_verify_89 : decode c_M_verify 89 = .ok (.aload_n 0, 1) := by decide +kernel
theorem dM_verify_90 : decode c_M_verify 90 = .ok (.getfield 7, 3) := by decide +kernel
theorem dM_verify_93 : decode c_M_verify 93 = .ok (.iload_n 2, 1) := by decide +kernel
theorem dM_verify_94 : decode c_M_verify 94 = .ok (.aload_n 0, 1) := by decide +kernel
theorem dM_verify_95 : decode c_M_verify 95 = .ok (.getfield 70, 3) := by decide +kernel
theorem dM_verify_98 : decode c_M_verify 98 = .ok (.invokevirtual 127, 3) := by decide +kernel
theorem dM_verify_101 : decode c_M_verify 101 = .ok (.istore_n 3, 1) := by decide +kernel
theorem dM_verify_102 : decode c_M_verify 102 = .ok (.aload_n 0, 1) := by decide +kernel
theorem dM_verify_103 : decode c_M_verify 103 = .ok (.iconst 0, 1) := by decide +kernel
theorem dM_verify_104 : decode c_M_verify 104 = .ok (.putfield 70, 3) := by decide +kernel
theorem dM_verify_107 : decode c_M_verify 107 = .ok (.iload_n 3, 1) := by decide +kernel
theorem dM_verify_108 : decode c_M_verify 108 = .ok (.ireturn, 1) := by decide +kernel
def M_M_verify (k : Nat) : Prop := (227 ≤ k ∧ k < 291) ∨ (318 ≤ k ∧ k < 326) ∨ (335 ≤ k ∧ k < 342) ∨ (343 ≤ k ∧ k < 350) ∨ (351 ≤ k ∧ k < 359) ∨ (360 ≤ k ∧ k < 368) ∨ k = 148 ∨ k = 172 ∨ k = 225 ∨ k = 368 ∨ k = 369 ∨ k = 370 ∨ k = 373 ∨ k = 375 ∨ k = 376 ∨ k = 377 ∨ k = 378 ∨ (0 : Nat) = 1
noncomputable def F_M_verify (v : Int32) (v2 : Int32) (s : Sto) : Int32 × Sto := bnd (F_M_none v s) fun q21 => if (q21.1) = 0 then bnd (v.toNatClampNeg) fun z22 => if (q21.2.1 170 z22) = nI 0 then bnd (sI q21.2 148 0 (nI 1)) fun s22 => bnd ((s22.1 148 0).toNatClampNeg) fun z23 => (nI 0, s22) else if (q21.2.1 170 z22) = nI 1 then bnd (sI q21.2 148 0 (nI 1)) fun s23 => bnd ((s23.1 148 0).toNatClampNeg) fun z24 => (nI 0, s23) else if (q21.2.1 170 z22) = nI 2 then bnd (sI q21.2 148 0 (nI 1)) fun s24 => bnd ((s24.1 148 0).toNatClampNeg) fun z25 => (nI 0, s24) else if (q21.2.1 170 z22) = nI 3 then if v2 < 0 then bnd (sI q21.2 148 0 (nI 2)) fun s25 => bnd ((s25.1 148 0).toNatClampNeg) fun z26 => (nI 0, s25) else if (nI 255) < v2 then bnd (sI q21.2 148 0 (nI 2)) fun s26 => bnd ((s26.1 148 0).toNatClampNeg) fun z27 => (nI 0, s26) else bnd (v2.toNatClampNeg) fun z28 => bnd ((q21.2.1 148 1).toNatClampNeg) fun z29 => bnd (F_MH_markSize_0  q21.2) fun q22 => bnd (q22.1.toNatClampNeg) fun z30 => if 2420 + z28 ≤ z29 then bnd (sI q22.2 148 0 (nI 0)) fun s27 => bnd ((s27.1 148 0).toNatClampNeg) fun z31 => bnd ((s27.1 148 1).toNatClampNeg) fun z32 => bnd (F_MH_verify_0 (153 + z22) 149 (nI z28) z32 s27) fun q23 => bnd (q23.1.toNatClampNeg) fun z33 => bnd (sI q23.2 148 1 (nI 0)) fun s28 => (nI z33, s28) else bnd (sI q22.2 148 0 (nI 2)) fun s29 => bnd ((s29.1 148 0).toNatClampNeg) fun z34 => (nI 0, s29) else if (q21.2.1 170 z22) = nI 4 then if v2 < 0 then bnd (sI q21.2 148 0 (nI 2)) fun s30 => bnd ((s30.1 148 0).toNatClampNeg) fun z35 => (nI 0, s30) else if (nI 255) < v2 then bnd (sI q21.2 148 0 (nI 2)) fun s31 => bnd ((s31.1 148 0).toNatClampNeg) fun z36 => (nI 0, s31) else bnd (v2.toNatClampNeg) fun z37 => bnd ((q21.2.1 148 1).toNatClampNeg) fun z38 => bnd (F_MH_markSize_1  q21.2) fun q24 => bnd (q24.1.toNatClampNeg) fun z39 => if 3309 + z37 ≤ z38 then bnd (sI q24.2 148 0 (nI 0)) fun s32 => bnd ((s32.1 148 0).toNatClampNeg) fun z40 => bnd ((s32.1 148 1).toNatClampNeg) fun z41 => bnd (F_MH_verify_1 (153 + z22) 149 (nI z37) z41 s32) fun q25 => bnd (q25.1.toNatClampNeg) fun z42 => bnd (sI q25.2 148 1 (nI 0)) fun s33 => (nI z42, s33) else bnd (sI q24.2 148 0 (nI 2)) fun s34 => bnd ((s34.1 148 0).toNatClampNeg) fun z43 => (nI 0, s34) else if v2 < 0 then bnd (sI q21.2 148 0 (nI 2)) fun s35 => bnd ((s35.1 148 0).toNatClampNeg) fun z44 => (nI 0, s35) else if (nI 255) < v2 then bnd (sI q21.2 148 0 (nI 2)) fun s36 => bnd ((s36.1 148 0).toNatClampNeg) fun z45 => (nI 0, s36) else bnd (v2.toNatClampNeg) fun z46 => bnd ((q21.2.1 148 1).toNatClampNeg) fun z47 => bnd (F_MH_markSize_2  q21.2) fun q26 => bnd (q26.1.toNatClampNeg) fun z48 => if 4627 + z46 ≤ z47 then bnd (sI q26.2 148 0 (nI 0)) fun s37 => bnd ((s37.1 148 0).toNatClampNeg) fun z49 => bnd ((s37.1 148 1).toNatClampNeg) fun z50 => bnd (F_MH_verify_2 (153 + z22) 149 (nI z46) z50 s37) fun q27 => bnd (q27.1.toNatClampNeg) fun z51 => bnd (sI q27.2 148 1 (nI 0)) fun s38 => (nI z51, s38) else bnd (sI q26.2 148 0 (nI 2)) fun s39 => bnd ((s39.1 148 0).toNatClampNeg) fun z52 => (nI 0, s39) else bnd (sI q21.2 148 0 (nI 1)) fun s21 => bnd ((s21.1 148 0).toNatClampNeg) fun z21 => (nI 0, s21)
noncomputable def E_M_verify (v : Int32) (v2 : Int32) (s : Sto) : Prop := bnd (F_M_none v s) fun q21 => if (q21.1) = 0 then bnd (v.toNatClampNeg) fun z22 => if (q21.2.1 170 z22) = nI 0 then bnd (sI q21.2 148 0 (nI 1)) fun s22 => bnd ((s22.1 148 0).toNatClampNeg) fun z23 => True else if (q21.2.1 170 z22) = nI 1 then bnd (sI q21.2 148 0 (nI 1)) fun s23 => bnd ((s23.1 148 0).toNatClampNeg) fun z24 => True else if (q21.2.1 170 z22) = nI 2 then bnd (sI q21.2 148 0 (nI 1)) fun s24 => bnd ((s24.1 148 0).toNatClampNeg) fun z25 => True else if (q21.2.1 170 z22) = nI 3 then if v2 < 0 then bnd (sI q21.2 148 0 (nI 2)) fun s25 => bnd ((s25.1 148 0).toNatClampNeg) fun z26 => True else if (nI 255) < v2 then bnd (sI q21.2 148 0 (nI 2)) fun s26 => bnd ((s26.1 148 0).toNatClampNeg) fun z27 => True else bnd (v2.toNatClampNeg) fun z28 => bnd ((q21.2.1 148 1).toNatClampNeg) fun z29 => bnd (F_MH_markSize_0  q21.2) fun q22 => bnd (q22.1.toNatClampNeg) fun z30 => if 2420 + z28 ≤ z29 then bnd (sI q22.2 148 0 (nI 0)) fun s27 => bnd ((s27.1 148 0).toNatClampNeg) fun z31 => bnd ((s27.1 148 1).toNatClampNeg) fun z32 => (E_MH_verify_0 (153 + z22) 149 (nI z28) z32 s27) ∧ (bnd (F_MH_verify_0 (153 + z22) 149 (nI z28) z32 s27) fun q23 => bnd (q23.1.toNatClampNeg) fun z33 => bnd (sI q23.2 148 1 (nI 0)) fun s28 => True) else bnd (sI q22.2 148 0 (nI 2)) fun s29 => bnd ((s29.1 148 0).toNatClampNeg) fun z34 => True else if (q21.2.1 170 z22) = nI 4 then if v2 < 0 then bnd (sI q21.2 148 0 (nI 2)) fun s30 => bnd ((s30.1 148 0).toNatClampNeg) fun z35 => True else if (nI 255) < v2 then bnd (sI q21.2 148 0 (nI 2)) fun s31 => bnd ((s31.1 148 0).toNatClampNeg) fun z36 => True else bnd (v2.toNatClampNeg) fun z37 => bnd ((q21.2.1 148 1).toNatClampNeg) fun z38 => bnd (F_MH_markSize_1  q21.2) fun q24 => bnd (q24.1.toNatClampNeg) fun z39 => if 3309 + z37 ≤ z38 then bnd (sI q24.2 148 0 (nI 0)) fun s32 => bnd ((s32.1 148 0).toNatClampNeg) fun z40 => bnd ((s32.1 148 1).toNatClampNeg) fun z41 => (E_MH_verify_1 (153 + z22) 149 (nI z37) z41 s32) ∧ (bnd (F_MH_verify_1 (153 + z22) 149 (nI z37) z41 s32) fun q25 => bnd (q25.1.toNatClampNeg) fun z42 => bnd (sI q25.2 148 1 (nI 0)) fun s33 => True) else bnd (sI q24.2 148 0 (nI 2)) fun s34 => bnd ((s34.1 148 0).toNatClampNeg) fun z43 => True else if v2 < 0 then bnd (sI q21.2 148 0 (nI 2)) fun s35 => bnd ((s35.1 148 0).toNatClampNeg) fun z44 => True else if (nI 255) < v2 then bnd (sI q21.2 148 0 (nI 2)) fun s36 => bnd ((s36.1 148 0).toNatClampNeg) fun z45 => True else bnd (v2.toNatClampNeg) fun z46 => bnd ((q21.2.1 148 1).toNatClampNeg) fun z47 => bnd (F_MH_markSize_2  q21.2) fun q26 => bnd (q26.1.toNatClampNeg) fun z48 => if 4627 + z46 ≤ z47 then bnd (sI q26.2 148 0 (nI 0)) fun s37 => bnd ((s37.1 148 0).toNatClampNeg) fun z49 => bnd ((s37.1 148 1).toNatClampNeg) fun z50 => (E_MH_verify_2 (153 + z22) 149 (nI z46) z50 s37) ∧ (bnd (F_MH_verify_2 (153 + z22) 149 (nI z46) z50 s37) fun q27 => bnd (q27.1.toNatClampNeg) fun z51 => bnd (sI q27.2 148 1 (nI 0)) fun s38 => True) else bnd (sI q26.2 148 0 (nI 2)) fun s39 => bnd ((s39.1 148 0).toNatClampNeg) fun z52 => True else bnd (sI q21.2 148 0 (nI 1)) fun s21 => bnd ((s21.1 148 0).toNatClampNeg) fun z21 => True
set_option maxHeartbeats 2000000 in
set_option maxRecDepth 100000 in
theorem N_M_verify (l : Launch) (g : Gd) (sz : Nat) (T : TyN) (s : Sto) (pl : va_W) (hO : okn g T s pl) (hU : inj T) (h0 : Nat) (v : Int32) (v2 : Int32) (tp : Nat) (rs : Nat) (ks : Nat) (k_h0 : T h0 = some 148) (e_tp : s.1 148 1 = nI tp) (e_rs : s.1 148 2 = nI rs) (e_ks : s.1 148 3 = nI ks) (h1 : tp ≤ 16384) (h2 : rs ≤ 8192) (h3 : ks ≤ 8) (qst : SETS ks (s.1 170)) (qhd : HIDS ks (s.1 171)) (hE : E_M_verify v v2 s)  : Met l y_M_verify w_M_verify ({ frames := 6, cells := 0, slots := 0, locals := 146 } : Room) (va_Pc [.ref h0, .int v, .int v2] (pr (en g) g.1 vcl sz ([] ++ pl))) (va_Qi (fun (r : Int32) (u : (Int32 × Sto) × va_W) => (u.1 = F_M_verify v v2 s ∧ r = u.1.1 ∧ frm (M_M_verify) s u.1.2 ∧ (∃ x : Nat, u.1.2.1 148 1 = nI x ∧ x ≤ 16384) ∧ (∃ x : Nat, u.1.2.1 148 2 = nI x ∧ x ≤ 8192) ∧ (∃ x : Nat, u.1.2.1 148 3 = nI x ∧ x ≤ 8) ∧ True) ∧ okn g T u.1.2 u.2) (po g.1 vcl (va_A ([] ++ pl) sz) (fun (u : (Int32 × Sto) × va_W) => [] ++ u.2)) (va_A ([] ++ pl) sz)) 0 0 (va_A ([] ++ pl) sz) := by
  refine mc_entry (cc := c_M_verify) (maxL := 4) (ret := (some .boolean)) (by decide) rfl (Nat.le_of_ble_eq_true rfl) ?_
  intro p e s0 m args below meth c ls F hr hlk hnm hsz hP hD hEn hA hl
  obtain ⟨hx, hb, hml, hown, hts⟩ := id F
  have hK := hEn.1
  generalize va_A ([] ++ pl) sz = A at hD hEn hA ⊢
  have hS : va_S A s0.heap s0.heap [] := va_S.rf
  have hl : lv_has ls 4 [(0, .ref h0), (1, .int v), (2, .int v2)] := hl
  have hR : F_M_verify v v2 s = F_M_verify v v2 s := rfl
  have hF : frm (M_M_verify) s s := frm_rf
  refine lv_aload_n hx hb dM_verify_0 rfl (lv_at hl 0 rfl) ?_
  refine lv_aload_n hx hb dM_verify_1 rfl (lv_at hl 0 rfl) ?_
  refine lv_iload_n hx hb dM_verify_2 rfl (lv_at hl 1 rfl) ?_
  refine mp_i (cx := []) (wr := []) hP hD hS hA [] [] rfl rfl rfl (by decide) (va_runV (As := [.int v]) (rest := [.ref h0]) F (N_M_none l g _ T s pl hO hU h0 v tp rs ks k_h0 e_tp e_rs e_ks (by omega)) (cwV 1 hts (wg_app (wg_c kw_1781 (wg_c kw_1783 (wg_c ks_65 (wg_c kw_9 wg_n)))) kw_1784) rfl rfl rfl (by decide +kernel) ⟨by decide, by decide⟩) (pn_W "LatticeKeysModel" (en_ok g) (ci := 8) (kn := 148) (fl := [(0, 0), (0, 0), (0, 0), (0, 0), (3, 149), (3, 150), (3, 151), (3, 152), (3, 161), (3, 170), (3, 171), (3, 172), (3, 184), (3, 225)]) hK hO k_h0 rfl hP hD hS hA hEn [] rfl rfl rfl) rfl rfl hl.1 rfl (lv_room (Nat.le_of_ble_eq_true rfl)) dM_verify_3 ⟨by omega, by omega⟩) (fun r21 u21 H locs hu21 hP hD hS => ?_)
  obtain ⟨q21, pl⟩ := u21
  obtain ⟨⟨eq21, rfl, hFc21, hxp21, -⟩, hO⟩ := hu21
  have hO : okn g T q21.2 pl := hO
  have hP : va_P g.1 vcl ([] ++ pl) _ := hP
  have hD : va_D _ ([] ++ pl) := hD
  have hFc21 : frm (M_M_none) s q21.2 := hFc21
  replace hR := bnd_step hR eq21
  replace hE := bndP_step hE eq21
  have hF := frm_tr hF hFc21 (fun k hk => by unfold M_M_none at hk; unfold M_M_verify; omega)
  have hf21 : q21.2.1 148 1 = nI tp := fc_F e_tp hFc21 (by unfold M_M_none; omega)
  have hf22 : q21.2.1 148 2 = nI rs := fc_F e_rs hFc21 (by unfold M_M_none; omega)
  have hf23 : q21.2.1 148 3 = nI ks := fc_F e_ks hFc21 (by unfold M_M_none; omega)
  have hg21 : SETS ks (q21.2.1 170) := by rw [hFc21 170 (by unfold M_M_none; omega)]; exact qst
  have hg22 : HIDS ks (q21.2.1 171) := by rw [hFc21 171 (by unfold M_M_none; omega)]; exact qhd
  refine W.widen (k := 0) (n := 0) (by omega) (by omega) ?_
  refine lv_if_ne (tgt := 19) hx hb dM_verify_6 (by decide) (fun h21 => ?_) (fun h21 => ?_)
  · replace hR := hR.trans (if_neg h21)
    replace hE := iteP_neg h21 hE
    refine lv_iconst (v := nI 1) hx hb dM_verify_19 (by decide) ?_
    refine lv_goto (tgt := 59) hx hb dM_verify_20 (by decide) ?_
    refine nw_put (C := "LatticeKeysModel") (TT := T_M) (N := 14) hx hb hts (wg_ft i_M) ty_M k_M n_M hown hK hO hU k_h0 (kn := 148) (ci := 8) (fl := [(0, 0), (0, 0), (0, 0), (0, 0), (3, 149), (3, 150), (3, 151), (3, 152), (3, 161), (3, 170), (3, 171), (3, 172), (3, 184), (3, 225)]) rfl hP hD hS rfl 0 (by decide) (hts _ (wg_t kw_1526)) (fun _ h9 => h9) rfl (by decide +kernel) rfl dM_verify_59 (fun s21 pl H locs es21 hO hP hD hS => ?_)
    replace hR := bnd_step hR es21
    replace hE := bndP_step hE es21
    have hF := frm_sI hF es21 (by unfold M_M_verify; omega)
    have hf24 : s21.1 148 1 = nI tp := fc_ne hf21 es21 (by omega)
    have hf25 : s21.1 148 2 = nI rs := fc_ne hf22 es21 (by omega)
    have hf26 : s21.1 148 3 = nI ks := fc_ne hf23 es21 (by omega)
    have hf27 : s21.1 148 0 = nI 1 := fc_eq es21
    have hg23 : SETS ks (s21.1 170) := by rw [(ar_sI es21 (by omega))]; exact hg21
    have hg24 : HIDS ks (s21.1 171) := by rw [(ar_sI es21 (by omega))]; exact hg22
    refine lv_aload_n hx hb dM_verify_62 rfl (lv_at hl 0 rfl) ?_
    refine nw_get (C := "LatticeKeysModel") (TT := T_M) (N := 14) hx hb hts (wg_ft i_M) hown hK hO k_h0 (kn := 148) (ci := 8) (fl := [(0, 0), (0, 0), (0, 0), (0, 0), (3, 149), (3, 150), (3, 151), (3, 152), (3, 161), (3, 170), (3, 171), (3, 172), (3, 184), (3, 225)]) rfl hP rfl 0 (by decide) (hts _ (wg_t kw_1526)) (fun _ h9 => h9) (cd := (0, 0)) rfl dM_verify_63 (fun v21 hv21 => ?_)
    obtain rfl := (show v21 = .int (s21.1 148 0) from hv21)
    obtain ⟨z21, ez21, hz21, hz22⟩ := cl_of (b := 2147483648) hf27 (by omega) (by decide)
    replace hR := bnd_step hR ez21
    replace hE := bndP_step hE ez21
    refine mi_as hz21 ?_
    subst hz22
    refine lv_if_le (tgt := 71) hx hb dM_verify_66 (by decide) (fun h22 => absurd h22 (by decide)) (fun h22 => ?_)
    refine lv_iconst (v := nI 0) hx hb dM_verify_69 (by decide) ?_
    exact mp_zret hx hb hr hlk rfl hP hD hS ((nI 0, s21), pl) ⟨⟨hR.symm, rfl, hF, ⟨tp, hf24, by omega⟩, ⟨rs, hf25, by omega⟩, ⟨ks, hf26, by omega⟩, trivial⟩, hO⟩ [] rfl rfl rfl (by omega) (by omega) dM_verify_70
  · replace hR := hR.trans (if_pos h21)
    replace hE := iteP_pos h21 hE
    obtain ⟨z22, hz23, hv22⟩ := (hxp21.resolve_left (fun h9 => absurd (h9.symm.trans h21) (by decide))).2
    have ez22 : z22 = v.toNatClampNeg := by rw [hv22]; exact (nI_clamp (by omega)).symm
    replace hR := bnd_step hR ez22
    replace hE := bndP_step hE ez22
    rw [hv22] at hl
    refine lv_aload_n hx hb dM_verify_9 rfl (lv_at hl 0 rfl) ?_
    refine nw_get (C := "LatticeKeysModel") (TT := T_M) (N := 14) hx hb hts (wg_ft i_M) hown hK hO k_h0 (kn := 148) (ci := 8) (fl := [(0, 0), (0, 0), (0, 0), (0, 0), (3, 149), (3, 150), (3, 151), (3, 152), (3, 161), (3, 170), (3, 171), (3, 172), (3, 184), (3, 225)]) rfl hP rfl 9 (by decide) (hts _ (wg_t kw_1535)) (fun _ h9 => h9) (cd := (3, 170)) rfl dM_verify_10 (fun v22 hv23 => ?_)
    obtain ⟨r22, rfl, kr21⟩ := (show ∃ r : Nat, v22 = .ref r ∧ T r = some 170 from hv23)
    refine lv_iload_n hx hb dM_verify_13 rfl (lv_at hl 1 rfl) ?_
    refine nw_iald hx hb hK hO kr21 (k := 170) rfl hP (by omega) (by omega) dM_verify_14 ?_
    by_cases hs21 : (q21.2.1 170 z22) = nI 0
    · replace hR := hR.trans (if_pos hs21)
      replace hE := iteP_pos hs21 hE
      refine mi_as hs21 ?_
      refine lv_iconst (v := nI 3) hx hb dM_verify_15 (by decide) ?_
      refine mi_ge (tgt := 23) hx hb dM_verify_16 (by decide) (by omega) (by omega) (fun h23 => absurd h23 (by omega)) (fun h23 => ?_)
      refine lv_iconst (v := nI 1) hx hb dM_verify_19 (by decide) ?_
      refine lv_goto (tgt := 59) hx hb dM_verify_20 (by decide) ?_
      refine nw_put (C := "LatticeKeysModel") (TT := T_M) (N := 14) hx hb hts (wg_ft i_M) ty_M k_M n_M hown hK hO hU k_h0 (kn := 148) (ci := 8) (fl := [(0, 0), (0, 0), (0, 0), (0, 0), (3, 149), (3, 150), (3, 151), (3, 152), (3, 161), (3, 170), (3, 171), (3, 172), (3, 184), (3, 225)]) rfl hP hD hS rfl 0 (by decide) (hts _ (wg_t kw_1526)) (fun _ h9 => h9) rfl (by decide +kernel) rfl dM_verify_59 (fun s22 pl H locs es22 hO hP hD hS => ?_)
      replace hR := bnd_step hR es22
      replace hE := bndP_step hE es22
      have hF := frm_sI hF es22 (by unfold M_M_verify; omega)
      have hf28 : s22.1 148 1 = nI tp := fc_ne hf21 es22 (by omega)
      have hf29 : s22.1 148 2 = nI rs := fc_ne hf22 es22 (by omega)
      have hf30 : s22.1 148 3 = nI ks := fc_ne hf23 es22 (by omega)
      have hf31 : s22.1 170 z22 = nI 0 := fc_ne hs21 es22 (by omega)
      have hf32 : s22.1 148 0 = nI 1 := fc_eq es22
      have hg25 : SETS ks (s22.1 170) := by rw [(ar_sI es22 (by omega))]; exact hg21
      have hg26 : HIDS ks (s22.1 171) := by rw [(ar_sI es22 (by omega))]; exact hg22
      refine lv_aload_n hx hb dM_verify_62 rfl (lv_at hl 0 rfl) ?_
      refine nw_get (C := "LatticeKeysModel") (TT := T_M) (N := 14) hx hb hts (wg_ft i_M) hown hK hO k_h0 (kn := 148) (ci := 8) (fl := [(0, 0), (0, 0), (0, 0), (0, 0), (3, 149), (3, 150), (3, 151), (3, 152), (3, 161), (3, 170), (3, 171), (3, 172), (3, 184), (3, 225)]) rfl hP rfl 0 (by decide) (hts _ (wg_t kw_1526)) (fun _ h9 => h9) (cd := (0, 0)) rfl dM_verify_63 (fun v23 hv24 => ?_)
      obtain rfl := (show v23 = .int (s22.1 148 0) from hv24)
      obtain ⟨z23, ez23, hz24, hz25⟩ := cl_of (b := 2147483648) hf32 (by omega) (by decide)
      replace hR := bnd_step hR ez23
      replace hE := bndP_step hE ez23
      refine mi_as hz24 ?_
      subst hz25
      refine lv_if_le (tgt := 71) hx hb dM_verify_66 (by decide) (fun h24 => absurd h24 (by decide)) (fun h24 => ?_)
      refine lv_iconst (v := nI 0) hx hb dM_verify_69 (by decide) ?_
      exact mp_zret hx hb hr hlk rfl hP hD hS ((nI 0, s22), pl) ⟨⟨hR.symm, rfl, hF, ⟨tp, hf28, by omega⟩, ⟨rs, hf29, by omega⟩, ⟨ks, hf30, by omega⟩, trivial⟩, hO⟩ [] rfl rfl rfl (by omega) (by omega) dM_verify_70
    replace hR := hR.trans (if_neg hs21)
    replace hE := iteP_neg hs21 hE
    by_cases hs22 : (q21.2.1 170 z22) = nI 1
    · replace hR := hR.trans (if_pos hs22)
      replace hE := iteP_pos hs22 hE
      refine mi_as hs22 ?_
      refine lv_iconst (v := nI 3) hx hb dM_verify_15 (by decide) ?_
      refine mi_ge (tgt := 23) hx hb dM_verify_16 (by decide) (by omega) (by omega) (fun h25 => absurd h25 (by omega)) (fun h25 => ?_)
      refine lv_iconst (v := nI 1) hx hb dM_verify_19 (by decide) ?_
      refine lv_goto (tgt := 59) hx hb dM_verify_20 (by decide) ?_
      refine nw_put (C := "LatticeKeysModel") (TT := T_M) (N := 14) hx hb hts (wg_ft i_M) ty_M k_M n_M hown hK hO hU k_h0 (kn := 148) (ci := 8) (fl := [(0, 0), (0, 0), (0, 0), (0, 0), (3, 149), (3, 150), (3, 151), (3, 152), (3, 161), (3, 170), (3, 171), (3, 172), (3, 184), (3, 225)]) rfl hP hD hS rfl 0 (by decide) (hts _ (wg_t kw_1526)) (fun _ h9 => h9) rfl (by decide +kernel) rfl dM_verify_59 (fun s23 pl H locs es23 hO hP hD hS => ?_)
      replace hR := bnd_step hR es23
      replace hE := bndP_step hE es23
      have hF := frm_sI hF es23 (by unfold M_M_verify; omega)
      have hf33 : s23.1 148 1 = nI tp := fc_ne hf21 es23 (by omega)
      have hf34 : s23.1 148 2 = nI rs := fc_ne hf22 es23 (by omega)
      have hf35 : s23.1 148 3 = nI ks := fc_ne hf23 es23 (by omega)
      have hf36 : s23.1 170 z22 = nI 1 := fc_ne hs22 es23 (by omega)
      have hf37 : s23.1 148 0 = nI 1 := fc_eq es23
      have hg27 : SETS ks (s23.1 170) := by rw [(ar_sI es23 (by omega))]; exact hg21
      have hg28 : HIDS ks (s23.1 171) := by rw [(ar_sI es23 (by omega))]; exact hg22
      refine lv_aload_n hx hb dM_verify_62 rfl (lv_at hl 0 rfl) ?_
      refine nw_get (C := "LatticeKeysModel") (TT := T_M) (N := 14) hx hb hts (wg_ft i_M) hown hK hO k_h0 (kn := 148) (ci := 8) (fl := [(0, 0), (0, 0), (0, 0), (0, 0), (3, 149), (3, 150), (3, 151), (3, 152), (3, 161), (3, 170), (3, 171), (3, 172), (3, 184), (3, 225)]) rfl hP rfl 0 (by decide) (hts _ (wg_t kw_1526)) (fun _ h9 => h9) (cd := (0, 0)) rfl dM_verify_63 (fun v24 hv25 => ?_)
      obtain rfl := (show v24 = .int (s23.1 148 0) from hv25)
      obtain ⟨z24, ez24, hz26, hz27⟩ := cl_of (b := 2147483648) hf37 (by omega) (by decide)
      replace hR := bnd_step hR ez24
      replace hE := bndP_step hE ez24
      refine mi_as hz26 ?_
      subst hz27
      refine lv_if_le (tgt := 71) hx hb dM_verify_66 (by decide) (fun h26 => absurd h26 (by decide)) (fun h26 => ?_)
      refine lv_iconst (v := nI 0) hx hb dM_verify_69 (by decide) ?_
      exact mp_zret hx hb hr hlk rfl hP hD hS ((nI 0, s23), pl) ⟨⟨hR.symm, rfl, hF, ⟨tp, hf33, by omega⟩, ⟨rs, hf34, by omega⟩, ⟨ks, hf35, by omega⟩, trivial⟩, hO⟩ [] rfl rfl rfl (by omega) (by omega) dM_verify_70
    replace hR := hR.trans (if_neg hs22)
    replace hE := iteP_neg hs22 hE
    by_cases hs23 : (q21.2.1 170 z22) = nI 2
    · replace hR := hR.trans (if_pos hs23)
      replace hE := iteP_pos hs23 hE
      refine mi_as hs23 ?_
      refine lv_iconst (v := nI 3) hx hb dM_verify_15 (by decide) ?_
      refine mi_ge (tgt := 23) hx hb dM_verify_16 (by decide) (by omega) (by omega) (fun h27 => absurd h27 (by omega)) (fun h27 => ?_)
      refine lv_iconst (v := nI 1) hx hb dM_verify_19 (by decide) ?_
      refine lv_goto (tgt := 59) hx hb dM_verify_20 (by decide) ?_
      refine nw_put (C := "LatticeKeysModel") (TT := T_M) (N := 14) hx hb hts (wg_ft i_M) ty_M k_M n_M hown hK hO hU k_h0 (kn := 148) (ci := 8) (fl := [(0, 0), (0, 0), (0, 0), (0, 0), (3, 149), (3, 150), (3, 151), (3, 152), (3, 161), (3, 170), (3, 171), (3, 172), (3, 184), (3, 225)]) rfl hP hD hS rfl 0 (by decide) (hts _ (wg_t kw_1526)) (fun _ h9 => h9) rfl (by decide +kernel) rfl dM_verify_59 (fun s24 pl H locs es24 hO hP hD hS => ?_)
      replace hR := bnd_step hR es24
      replace hE := bndP_step hE es24
      have hF := frm_sI hF es24 (by unfold M_M_verify; omega)
      have hf38 : s24.1 148 1 = nI tp := fc_ne hf21 es24 (by omega)
      have hf39 : s24.1 148 2 = nI rs := fc_ne hf22 es24 (by omega)
      have hf40 : s24.1 148 3 = nI ks := fc_ne hf23 es24 (by omega)
      have hf41 : s24.1 170 z22 = nI 2 := fc_ne hs23 es24 (by omega)
      have hf42 : s24.1 148 0 = nI 1 := fc_eq es24
      have hg29 : SETS ks (s24.1 170) := by rw [(ar_sI es24 (by omega))]; exact hg21
      have hg30 : HIDS ks (s24.1 171) := by rw [(ar_sI es24 (by omega))]; exact hg22
      refine lv_aload_n hx hb dM_verify_62 rfl (lv_at hl 0 rfl) ?_
      refine nw_get (C := "LatticeKeysModel") (TT := T_M) (N := 14) hx hb hts (wg_ft i_M) hown hK hO k_h0 (kn := 148) (ci := 8) (fl := [(0, 0), (0, 0), (0, 0), (0, 0), (3, 149), (3, 150), (3, 151), (3, 152), (3, 161), (3, 170), (3, 171), (3, 172), (3, 184), (3, 225)]) rfl hP rfl 0 (by decide) (hts _ (wg_t kw_1526)) (fun _ h9 => h9) (cd := (0, 0)) rfl dM_verify_63 (fun v25 hv26 => ?_)
      obtain rfl := (show v25 = .int (s24.1 148 0) from hv26)
      obtain ⟨z25, ez25, hz28, hz29⟩ := cl_of (b := 2147483648) hf42 (by omega) (by decide)
      replace hR := bnd_step hR ez25
      replace hE := bndP_step hE ez25
      refine mi_as hz28 ?_
      subst hz29
      refine lv_if_le (tgt := 71) hx hb dM_verify_66 (by decide) (fun h28 => absurd h28 (by decide)) (fun h28 => ?_)
      refine lv_iconst (v := nI 0) hx hb dM_verify_69 (by decide) ?_
      exact mp_zret hx hb hr hlk rfl hP hD hS ((nI 0, s24), pl) ⟨⟨hR.symm, rfl, hF, ⟨tp, hf38, by omega⟩, ⟨rs, hf39, by omega⟩, ⟨ks, hf40, by omega⟩, trivial⟩, hO⟩ [] rfl rfl rfl (by omega) (by omega) dM_verify_70
    replace hR := hR.trans (if_neg hs23)
    replace hE := iteP_neg hs23 hE
    by_cases hs24 : (q21.2.1 170 z22) = nI 3
    · replace hR := hR.trans (if_pos hs24)
      replace hE := iteP_pos hs24 hE
      refine mi_as hs24 ?_
      refine lv_iconst (v := nI 3) hx hb dM_verify_15 (by decide) ?_
      refine mi_ge (tgt := 23) hx hb dM_verify_16 (by decide) (by omega) (by omega) (fun h29 => ?_) (fun h29 => absurd h29 (by omega))
      refine lv_iload_n hx hb dM_verify_23 rfl (lv_at hl 2 rfl) ?_
      refine lv_if_lt (tgt := 54) hx hb dM_verify_24 (by decide) (fun h30 => ?_) (fun h30 => ?_)
      · replace hR := hR.trans (if_pos h30)
        replace hE := iteP_pos h30 hE
        refine lv_iconst (v := nI 2) hx hb dM_verify_54 (by decide) ?_
        refine lv_goto (tgt := 59) hx hb dM_verify_55 (by decide) ?_
        refine nw_put (C := "LatticeKeysModel") (TT := T_M) (N := 14) hx hb hts (wg_ft i_M) ty_M k_M n_M hown hK hO hU k_h0 (kn := 148) (ci := 8) (fl := [(0, 0), (0, 0), (0, 0), (0, 0), (3, 149), (3, 150), (3, 151), (3, 152), (3, 161), (3, 170), (3, 171), (3, 172), (3, 184), (3, 225)]) rfl hP hD hS rfl 0 (by decide) (hts _ (wg_t kw_1526)) (fun _ h9 => h9) rfl (by decide +kernel) rfl dM_verify_59 (fun s25 pl H locs es25 hO hP hD hS => ?_)
        replace hR := bnd_step hR es25
        replace hE := bndP_step hE es25
        have hF := frm_sI hF es25 (by unfold M_M_verify; omega)
        have hf43 : s25.1 148 1 = nI tp := fc_ne hf21 es25 (by omega)
        have hf44 : s25.1 148 2 = nI rs := fc_ne hf22 es25 (by omega)
        have hf45 : s25.1 148 3 = nI ks := fc_ne hf23 es25 (by omega)
        have hf46 : s25.1 170 z22 = nI 3 := fc_ne hs24 es25 (by omega)
        have hf47 : s25.1 148 0 = nI 2 := fc_eq es25
        have hg31 : SETS ks (s25.1 170) := by rw [(ar_sI es25 (by omega))]; exact hg21
        have hg32 : HIDS ks (s25.1 171) := by rw [(ar_sI es25 (by omega))]; exact hg22
        refine lv_aload_n hx hb dM_verify_62 rfl (lv_at hl 0 rfl) ?_
        refine nw_get (C := "LatticeKeysModel") (TT := T_M) (N := 14) hx hb hts (wg_ft i_M) hown hK hO k_h0 (kn := 148) (ci := 8) (fl := [(0, 0), (0, 0), (0, 0), (0, 0), (3, 149), (3, 150), (3, 151), (3, 152), (3, 161), (3, 170), (3, 171), (3, 172), (3, 184), (3, 225)]) rfl hP rfl 0 (by decide) (hts _ (wg_t kw_1526)) (fun _ h9 => h9) (cd := (0, 0)) rfl dM_verify_63 (fun v26 hv27 => ?_)
        obtain rfl := (show v26 = .int (s25.1 148 0) from hv27)
        obtain ⟨z26, ez26, hz30, hz31⟩ := cl_of (b := 2147483648) hf47 (by omega) (by decide)
        replace hR := bnd_step hR ez26
        replace hE := bndP_step hE ez26
        refine mi_as hz30 ?_
        subst hz31
        refine lv_if_le (tgt := 71) hx hb dM_verify_66 (by decide) (fun h31 => absurd h31 (by decide)) (fun h31 => ?_)
        refine lv_iconst (v := nI 0) hx hb dM_verify_69 (by decide) ?_
        exact mp_zret hx hb hr hlk rfl hP hD hS ((nI 0, s25), pl) ⟨⟨hR.symm, rfl, hF, ⟨tp, hf43, by omega⟩, ⟨rs, hf44, by omega⟩, ⟨ks, hf45, by omega⟩, trivial⟩, hO⟩ [] rfl rfl rfl (by omega) (by omega) dM_verify_70
      · replace hR := hR.trans (if_neg h30)
        replace hE := iteP_neg h30 hE
        refine lv_iload_n hx hb dM_verify_27 rfl (lv_at hl 2 rfl) ?_
        refine lv_sipush (v := nI 255) hx hb dM_verify_28 (by decide) ?_
        refine lv_icmp_gt (tgt := 54) hx hb dM_verify_31 (by decide) (fun h32 => ?_) (fun h32 => ?_)
        · replace hR := hR.trans (if_pos h32)
          replace hE := iteP_pos h32 hE
          refine lv_iconst (v := nI 2) hx hb dM_verify_54 (by decide) ?_
          refine lv_goto (tgt := 59) hx hb dM_verify_55 (by decide) ?_
          refine nw_put (C := "LatticeKeysModel") (TT := T_M) (N := 14) hx hb hts (wg_ft i_M) ty_M k_M n_M hown hK hO hU k_h0 (kn := 148) (ci := 8) (fl := [(0, 0), (0, 0), (0, 0), (0, 0), (3, 149), (3, 150), (3, 151), (3, 152), (3, 161), (3, 170), (3, 171), (3, 172), (3, 184), (3, 225)]) rfl hP hD hS rfl 0 (by decide) (hts _ (wg_t kw_1526)) (fun _ h9 => h9) rfl (by decide +kernel) rfl dM_verify_59 (fun s26 pl H locs es26 hO hP hD hS => ?_)
          replace hR := bnd_step hR es26
          replace hE := bndP_step hE es26
          have hF := frm_sI hF es26 (by unfold M_M_verify; omega)
          have hf48 : s26.1 148 1 = nI tp := fc_ne hf21 es26 (by omega)
          have hf49 : s26.1 148 2 = nI rs := fc_ne hf22 es26 (by omega)
          have hf50 : s26.1 148 3 = nI ks := fc_ne hf23 es26 (by omega)
          have hf51 : s26.1 170 z22 = nI 3 := fc_ne hs24 es26 (by omega)
          have hf52 : s26.1 148 0 = nI 2 := fc_eq es26
          have hg33 : SETS ks (s26.1 170) := by rw [(ar_sI es26 (by omega))]; exact hg21
          have hg34 : HIDS ks (s26.1 171) := by rw [(ar_sI es26 (by omega))]; exact hg22
          refine lv_aload_n hx hb dM_verify_62 rfl (lv_at hl 0 rfl) ?_
          refine nw_get (C := "LatticeKeysModel") (TT := T_M) (N := 14) hx hb hts (wg_ft i_M) hown hK hO k_h0 (kn := 148) (ci := 8) (fl := [(0, 0), (0, 0), (0, 0), (0, 0), (3, 149), (3, 150), (3, 151), (3, 152), (3, 161), (3, 170), (3, 171), (3, 172), (3, 184), (3, 225)]) rfl hP rfl 0 (by decide) (hts _ (wg_t kw_1526)) (fun _ h9 => h9) (cd := (0, 0)) rfl dM_verify_63 (fun v27 hv28 => ?_)
          obtain rfl := (show v27 = .int (s26.1 148 0) from hv28)
          obtain ⟨z27, ez27, hz32, hz33⟩ := cl_of (b := 2147483648) hf52 (by omega) (by decide)
          replace hR := bnd_step hR ez27
          replace hE := bndP_step hE ez27
          refine mi_as hz32 ?_
          subst hz33
          refine lv_if_le (tgt := 71) hx hb dM_verify_66 (by decide) (fun h33 => absurd h33 (by decide)) (fun h33 => ?_)
          refine lv_iconst (v := nI 0) hx hb dM_verify_69 (by decide) ?_
          exact mp_zret hx hb hr hlk rfl hP hD hS ((nI 0, s26), pl) ⟨⟨hR.symm, rfl, hF, ⟨tp, hf48, by omega⟩, ⟨rs, hf49, by omega⟩, ⟨ks, hf50, by omega⟩, trivial⟩, hO⟩ [] rfl rfl rfl (by omega) (by omega) dM_verify_70
        · replace hR := hR.trans (if_neg h32)
          replace hE := iteP_neg h32 hE
          obtain ⟨z28, hz34, hv29⟩ := i32_lex h30 (by omega) h32
          have ez28 : z28 = v2.toNatClampNeg := by rw [hv29]; exact (nI_clamp (by omega)).symm
          replace hR := bnd_step hR ez28
          replace hE := bndP_step hE ez28
          rw [hv29] at hl
          refine lv_aload_n hx hb dM_verify_34 rfl (lv_at hl 0 rfl) ?_
          refine nw_get (C := "LatticeKeysModel") (TT := T_M) (N := 14) hx hb hts (wg_ft i_M) hown hK hO k_h0 (kn := 148) (ci := 8) (fl := [(0, 0), (0, 0), (0, 0), (0, 0), (3, 149), (3, 150), (3, 151), (3, 152), (3, 161), (3, 170), (3, 171), (3, 172), (3, 184), (3, 225)]) rfl hP rfl 1 (by decide) (hts _ (wg_t kw_1527)) (fun _ h9 => h9) (cd := (0, 0)) rfl dM_verify_35 (fun v28 hv30 => ?_)
          obtain rfl := (show v28 = .int (q21.2.1 148 1) from hv30)
          obtain ⟨z29, ez29, hz35, hz36⟩ := cl_of (b := 2147483648) hf21 (by omega) (by decide)
          replace hR := bnd_step hR ez29
          replace hE := bndP_step hE ez29
          refine mi_as hz35 ?_
          refine lv_aload_n hx hb dM_verify_38 rfl (lv_at hl 0 rfl) ?_
          refine nw_get (C := "LatticeKeysModel") (TT := T_M) (N := 14) hx hb hts (wg_ft i_M) hown hK hO k_h0 (kn := 148) (ci := 8) (fl := [(0, 0), (0, 0), (0, 0), (0, 0), (3, 149), (3, 150), (3, 151), (3, 152), (3, 161), (3, 170), (3, 171), (3, 172), (3, 184), (3, 225)]) rfl hP rfl 9 (by decide) (hts _ (wg_t kw_1535)) (fun _ h9 => h9) (cd := (3, 170)) rfl dM_verify_39 (fun v29 hv31 => ?_)
          obtain ⟨r23, rfl, kr22⟩ := (show ∃ r : Nat, v29 = .ref r ∧ T r = some 170 from hv31)
          refine lv_iload_n hx hb dM_verify_42 rfl (lv_at hl 1 rfl) ?_
          refine nw_iald hx hb hK hO kr22 (k := 170) rfl hP (by omega) (by omega) dM_verify_43 ?_
          refine mi_as hs24 ?_
          refine lv_iconst (v := nI 3) hx hb dM_verify_44 (by decide) ?_
          refine mi_isub hx hb dM_verify_45 (by omega) ?_
          refine mi_as (show nI (3 - 3) = nI 0 from rfl) ?_
          refine mp_i (cx := []) (wr := []) hP hD hS hA [] [] rfl rfl rfl (by decide) (va_runS (As := [.int (nI 0)]) (rest := [.int (nI z29), .ref h0]) F (N_MH_markSize_0 l g _ T q21.2 pl hO hU ) (va_cwS 1 hts (wg_app (wg_c kw_1918 (wg_c kw_1919 (wg_c kw_13 wg_n))) kw_1920) rfl rfl rfl (by decide +kernel) ⟨by decide, by decide⟩) (pp_S (en_ok g) hP hD hS hA hEn [] rfl rfl) rfl rfl hl.1 rfl (lv_room (Nat.le_of_ble_eq_true rfl)) dM_verify_46 ⟨by omega, by omega⟩) (fun r24 u22 H locs hu22 hP hD hS => ?_)
          obtain ⟨q22, pl⟩ := u22
          obtain ⟨⟨eq22, rfl, hFc22, ⟨x22, hx_22, hb_22⟩, hxp22, -⟩, hO⟩ := hu22
          have hO : okn g T q22.2 pl := hO
          have hP : va_P g.1 vcl ([] ++ pl) _ := hP
          have hD : va_D _ ([] ++ pl) := hD
          have hFc22 : frm (M_MH_markSize_0) q21.2 q22.2 := hFc22
          have hb_22 : x22 < 2421 := hb_22
          replace hR := bnd_step hR eq22
          replace hE := bndP_step hE eq22
          have hF := frm_tr hF hFc22 (fun k hk => by unfold M_MH_markSize_0 at hk; unfold M_M_verify; omega)
          have hf53 : q22.2.1 148 1 = nI tp := fc_F hf21 hFc22 (by unfold M_MH_markSize_0; omega)
          have hf54 : q22.2.1 148 2 = nI rs := fc_F hf22 hFc22 (by unfold M_MH_markSize_0; omega)
          have hf55 : q22.2.1 148 3 = nI ks := fc_F hf23 hFc22 (by unfold M_MH_markSize_0; omega)
          have hf56 : q22.2.1 170 z22 = nI 3 := fc_F hs24 hFc22 (by unfold M_MH_markSize_0; omega)
          have hg35 : SETS ks (q22.2.1 170) := by rw [hFc22 170 (by unfold M_MH_markSize_0; omega)]; exact hg21
          have hg36 : HIDS ks (q22.2.1 171) := by rw [hFc22 171 (by unfold M_MH_markSize_0; omega)]; exact hg22
          obtain ⟨z30, ez30, hz37, hz38⟩ := cl_of (b := 2147483648) hx_22 (by omega) (by decide)
          replace hR := bnd_step hR ez30
          replace hE := bndP_step hE ez30
          refine mi_as hz37 ?_
          have hsz21 : z30 = 2420 := (nI_eq (by omega) (by omega)).mp (hz37.symm.trans hxp22)
          subst hsz21
          refine W.widen (k := 0) (n := 0) (by omega) (by omega) ?_
          refine lv_iload_n hx hb dM_verify_49 rfl (lv_at hl 2 rfl) ?_
          refine mi_iadd hx hb dM_verify_50 ?_
          refine mi_ge (tgt := 58) hx hb dM_verify_51 (by decide) (by omega) (by omega) (fun h34 => ?_) (fun h34 => ?_)
          · replace hR := hR.trans (if_pos h34)
            replace hE := iteP_pos h34 hE
            refine lv_iconst (v := nI 0) hx hb dM_verify_58 (by decide) ?_
            refine nw_put (C := "LatticeKeysModel") (TT := T_M) (N := 14) hx hb hts (wg_ft i_M) ty_M k_M n_M hown hK hO hU k_h0 (kn := 148) (ci := 8) (fl := [(0, 0), (0, 0), (0, 0), (0, 0), (3, 149), (3, 150), (3, 151), (3, 152), (3, 161), (3, 170), (3, 171), (3, 172), (3, 184), (3, 225)]) rfl hP hD hS rfl 0 (by decide) (hts _ (wg_t kw_1526)) (fun _ h9 => h9) rfl (by decide +kernel) rfl dM_verify_59 (fun s27 pl H locs es27 hO hP hD hS => ?_)
            replace hR := bnd_step hR es27
            replace hE := bndP_step hE es27
            have hF := frm_sI hF es27 (by unfold M_M_verify; omega)
            have hf57 : s27.1 148 1 = nI tp := fc_ne hf53 es27 (by omega)
            have hf58 : s27.1 148 2 = nI rs := fc_ne hf54 es27 (by omega)
            have hf59 : s27.1 148 3 = nI ks := fc_ne hf55 es27 (by omega)
            have hf60 : s27.1 170 z22 = nI 3 := fc_ne hf56 es27 (by omega)
            have hf61 : s27.1 148 0 = nI 0 := fc_eq es27
            have hg37 : SETS ks (s27.1 170) := by rw [(ar_sI es27 (by omega))]; exact hg35
            have hg38 : HIDS ks (s27.1 171) := by rw [(ar_sI es27 (by omega))]; exact hg36
            refine lv_aload_n hx hb dM_verify_62 rfl (lv_at hl 0 rfl) ?_
            refine nw_get (C := "LatticeKeysModel") (TT := T_M) (N := 14) hx hb hts (wg_ft i_M) hown hK hO k_h0 (kn := 148) (ci := 8) (fl := [(0, 0), (0, 0), (0, 0), (0, 0), (3, 149), (3, 150), (3, 151), (3, 152), (3, 161), (3, 170), (3, 171), (3, 172), (3, 184), (3, 225)]) rfl hP rfl 0 (by decide) (hts _ (wg_t kw_1526)) (fun _ h9 => h9) (cd := (0, 0)) rfl dM_verify_63 (fun v30 hv32 => ?_)
            obtain rfl := (show v30 = .int (s27.1 148 0) from hv32)
            obtain ⟨z31, ez31, hz39, hz40⟩ := cl_of (b := 2147483648) hf61 (by omega) (by decide)
            replace hR := bnd_step hR ez31
            replace hE := bndP_step hE ez31
            refine mi_as hz39 ?_
            subst hz40
            refine lv_if_le (tgt := 71) hx hb dM_verify_66 (by decide) (fun h35 => ?_) (fun h35 => absurd h35 (by decide))
            refine lv_aload_n hx hb dM_verify_71 rfl (lv_at hl 0 rfl) ?_
            refine nw_get (C := "LatticeKeysModel") (TT := T_M) (N := 14) hx hb hts (wg_ft i_M) hown hK hO k_h0 (kn := 148) (ci := 8) (fl := [(0, 0), (0, 0), (0, 0), (0, 0), (3, 149), (3, 150), (3, 151), (3, 152), (3, 161), (3, 170), (3, 171), (3, 172), (3, 184), (3, 225)]) rfl hP rfl 13 (by decide) (hts _ (wg_t kw_1539)) (fun _ h9 => h9) (cd := (3, 225)) rfl dM_verify_72 (fun v31 hv33 => ?_)
            obtain ⟨r25, rfl, kr23⟩ := (show ∃ r : Nat, v31 = .ref r ∧ T r = some 225 from hv33)
            refine lv_aload_n hx hb dM_verify_75 rfl (lv_at hl 0 rfl) ?_
            refine nw_get (C := "LatticeKeysModel") (TT := T_M) (N := 14) hx hb hts (wg_ft i_M) hown hK hO k_h0 (kn := 148) (ci := 8) (fl := [(0, 0), (0, 0), (0, 0), (0, 0), (3, 149), (3, 150), (3, 151), (3, 152), (3, 161), (3, 170), (3, 171), (3, 172), (3, 184), (3, 225)]) rfl hP rfl 9 (by decide) (hts _ (wg_t kw_1535)) (fun _ h9 => h9) (cd := (3, 170)) rfl dM_verify_76 (fun v32 hv34 => ?_)
            obtain ⟨r26, rfl, kr24⟩ := (show ∃ r : Nat, v32 = .ref r ∧ T r = some 170 from hv34)
            refine lv_iload_n hx hb dM_verify_79 rfl (lv_at hl 1 rfl) ?_
            refine nw_iald hx hb hK hO kr24 (k := 170) rfl hP (by omega) (by omega) dM_verify_80 ?_
            refine mi_as hf60 ?_
            refine lv_iconst (v := nI 3) hx hb dM_verify_81 (by decide) ?_
            refine mi_isub hx hb dM_verify_82 (by omega) ?_
            refine mi_as (show nI (3 - 3) = nI 0 from rfl) ?_
            refine lv_aload_n hx hb dM_verify_83 rfl (lv_at hl 0 rfl) ?_
            refine nw_get (C := "LatticeKeysModel") (TT := T_M) (N := 14) hx hb hts (wg_ft i_M) hown hK hO k_h0 (kn := 148) (ci := 8) (fl := [(0, 0), (0, 0), (0, 0), (0, 0), (3, 149), (3, 150), (3, 151), (3, 152), (3, 161), (3, 170), (3, 171), (3, 172), (3, 184), (3, 225)]) rfl hP rfl 7 (by decide) (hts _ (wg_t kw_1533)) (fun _ h9 => h9) (cd := (3, 152)) rfl dM_verify_84 (fun v33 hv35 => ?_)
            obtain ⟨r27, rfl, kr25⟩ := (show ∃ r : Nat, v33 = .ref r ∧ T r = some 152 from hv35)
            refine lv_iload_n hx hb dM_verify_87 rfl (lv_at hl 1 rfl) ?_
            refine nw_aald4 hx hb hK hO kr25 (k := 152) (b := 153) rfl hP (by omega) (by omega) dM_verify_88 (fun r28 kr26 => ?_)
            have hn21 : nsp (153 + z22) = (1, 2592, []) := rows_okb 153 8 2592 (by decide) _ (by omega)
            refine lv_aload_n hx hb dM_verify_89 rfl (lv_at hl 0 rfl) ?_
            refine nw_get (C := "LatticeKeysModel") (TT := T_M) (N := 14) hx hb hts (wg_ft i_M) hown hK hO k_h0 (kn := 148) (ci := 8) (fl := [(0, 0), (0, 0), (0, 0), (0, 0), (3, 149), (3, 150), (3, 151), (3, 152), (3, 161), (3, 170), (3, 171), (3, 172), (3, 184), (3, 225)]) rfl hP rfl 4 (by decide) (hts _ (wg_t kw_1530)) (fun _ h9 => h9) (cd := (3, 149)) rfl dM_verify_90 (fun v34 hv36 => ?_)
            obtain ⟨r29, rfl, kr27⟩ := (show ∃ r : Nat, v34 = .ref r ∧ T r = some 149 from hv36)
            refine lv_iload_n hx hb dM_verify_93 rfl (lv_at hl 2 rfl) ?_
            refine lv_aload_n hx hb dM_verify_94 rfl (lv_at hl 0 rfl) ?_
            refine nw_get (C := "LatticeKeysModel") (TT := T_M) (N := 14) hx hb hts (wg_ft i_M) hown hK hO k_h0 (kn := 148) (ci := 8) (fl := [(0, 0), (0, 0), (0, 0), (0, 0), (3, 149), (3, 150), (3, 151), (3, 152), (3, 161), (3, 170), (3, 171), (3, 172), (3, 184), (3, 225)]) rfl hP rfl 1 (by decide) (hts _ (wg_t kw_1527)) (fun _ h9 => h9) (cd := (0, 0)) rfl dM_verify_95 (fun v35 hv37 => ?_)
            obtain rfl := (show v35 = .int (s27.1 148 1) from hv37)
            obtain ⟨z32, ez32, hz41, hz42⟩ := cl_of (b := 2147483648) hf57 (by omega) (by decide)
            replace hR := bnd_step hR ez32
            replace hE := bndP_step hE ez32
            refine mi_as hz41 ?_
            refine mp_i (cx := []) (wr := []) hP hD hS hA [] [] rfl rfl rfl (by decide) (va_runV (As := [.int (nI 0), .ref r28, .ref r29, .int (nI z28), .int (nI z32)]) (rest := []) F (N_MH_verify_0 l g _ T s27 pl hO hU r25 r28 r29 (153 + z22) 149 (nI z28) z32 kr23 kr26 hn21 kr27 rfl (by omega) (by omega) hE.1) (cwV 5 hts (wg_app (wg_c kw_1925 (wg_c kw_1926 (wg_c kw_1927 (wg_c kw_13 wg_n)))) kw_1928) rfl rfl rfl (by decide +kernel) ⟨by decide, by decide⟩) (pn_W "LatticeKeysModel$Hands" (en_ok g) (ci := 12) (kn := 225) (fl := [(3, 172), (3, 181), (3, 226), (3, 291), (3, 299), (3, 308), (3, 317), (3, 326), (3, 334), (3, 342), (3, 350), (3, 359), (3, 368), (3, 369), (3, 370), (3, 371), (3, 372), (3, 373), (3, 374), (3, 375), (3, 376), (3, 377), (3, 378), (0, 0), (0, 0), (0, 0), (0, 0), (0, 0), (0, 0), (0, 0), (0, 0)]) hK hO kr23 rfl hP hD hS hA hEn [] rfl rfl rfl) rfl rfl hl.1 rfl (lv_room (Nat.le_of_ble_eq_true rfl)) dM_verify_98 ⟨by omega, by omega⟩) (fun r30 u23 H locs hu23 hP hD hS => ?_)
            obtain ⟨q23, pl⟩ := u23
            obtain ⟨⟨eq23, rfl, hFc23, ⟨x23, hx_23, hb_23⟩, -⟩, hO⟩ := hu23
            have hO : okn g T q23.2 pl := hO
            have hP : va_P g.1 vcl ([] ++ pl) _ := hP
            have hD : va_D _ ([] ++ pl) := hD
            have hFc23 : frm (M_MH_verify_0) s27 q23.2 := hFc23
            have hb_23 : x23 < 2 := hb_23
            replace hE := hE.2
            replace hR := bnd_step hR eq23
            replace hE := bndP_step hE eq23
            have hF := frm_tr hF hFc23 (fun k hk => by unfold M_MH_verify_0 at hk; unfold M_M_verify; omega)
            have hf62 : q23.2.1 148 1 = nI tp := fc_F hf57 hFc23 (by unfold M_MH_verify_0; omega)
            have hf63 : q23.2.1 148 2 = nI rs := fc_F hf58 hFc23 (by unfold M_MH_verify_0; omega)
            have hf64 : q23.2.1 148 3 = nI ks := fc_F hf59 hFc23 (by unfold M_MH_verify_0; omega)
            have hf65 : q23.2.1 170 z22 = nI 3 := fc_F hf60 hFc23 (by unfold M_MH_verify_0; omega)
            have hf66 : q23.2.1 148 0 = nI 0 := fc_F hf61 hFc23 (by unfold M_MH_verify_0; omega)
            have hg39 : SETS ks (q23.2.1 170) := by rw [hFc23 170 (by unfold M_MH_verify_0; omega)]; exact hg37
            have hg40 : HIDS ks (q23.2.1 171) := by rw [hFc23 171 (by unfold M_MH_verify_0; omega)]; exact hg38
            obtain ⟨z33, ez33, hz43, hz44⟩ := cl_of (b := 2147483648) hx_23 (by omega) (by decide)
            replace hR := bnd_step hR ez33
            replace hE := bndP_step hE ez33
            refine mi_as hz43 ?_
            refine W.widen (k := 0) (n := 0) (by omega) (by omega) ?_
            refine lv_istore_n (lv' := [(3, .int (nI z33)), (0, .ref h0), (1, .int (nI z22)), (2, .int (nI z28))]) hx hb dM_verify_101 rfl hl (by decide) rfl (fun ls hl => ?_)
            refine lv_aload_n hx hb dM_verify_102 rfl (lv_at hl 1 rfl) ?_
            refine lv_iconst (v := nI 0) hx hb dM_verify_103 (by decide) ?_
            refine nw_put (C := "LatticeKeysModel") (TT := T_M) (N := 14) hx hb hts (wg_ft i_M) ty_M k_M n_M hown hK hO hU k_h0 (kn := 148) (ci := 8) (fl := [(0, 0), (0, 0), (0, 0), (0, 0), (3, 149), (3, 150), (3, 151), (3, 152), (3, 161), (3, 170), (3, 171), (3, 172), (3, 184), (3, 225)]) rfl hP hD hS rfl 1 (by decide) (hts _ (wg_t kw_1527)) (fun _ h9 => h9) rfl (by decide +kernel) rfl dM_verify_104 (fun s28 pl H locs es28 hO hP hD hS => ?_)
            replace hR := bnd_step hR es28
            replace hE := bndP_step hE es28
            have hF := frm_sI hF es28 (by unfold M_M_verify; omega)
            have hf68 : s28.1 148 2 = nI rs := fc_ne hf63 es28 (by omega)
            have hf69 : s28.1 148 3 = nI ks := fc_ne hf64 es28 (by omega)
            have hf70 : s28.1 170 z22 = nI 3 := fc_ne hf65 es28 (by omega)
            have hf71 : s28.1 148 0 = nI 0 := fc_ne hf66 es28 (by omega)
            have hf72 : s28.1 148 1 = nI 0 := fc_eq es28
            have hg41 : SETS ks (s28.1 170) := by rw [(ar_sI es28 (by omega))]; exact hg39
            have hg42 : HIDS ks (s28.1 171) := by rw [(ar_sI es28 (by omega))]; exact hg40
            refine lv_iload_n hx hb dM_verify_107 rfl (lv_at hl 0 rfl) ?_
            exact mp_zret hx hb hr hlk (nar_2 (by omega)) hP hD hS ((nI z33, s28), pl) ⟨⟨hR.symm, rfl, hF, ⟨0, hf72, by omega⟩, ⟨rs, hf68, by omega⟩, ⟨ks, hf69, by omega⟩, trivial⟩, hO⟩ [] rfl rfl rfl (by omega) (by omega) dM_verify_108
          · replace hR := hR.trans (if_neg (Nat.not_le.mpr h34))
            replace hE := iteP_neg (Nat.not_le.mpr h34) hE
            refine lv_iconst (v := nI 2) hx hb dM_verify_54 (by decide) ?_
            refine lv_goto (tgt := 59) hx hb dM_verify_55 (by decide) ?_
            refine nw_put (C := "LatticeKeysModel") (TT := T_M) (N := 14) hx hb hts (wg_ft i_M) ty_M k_M n_M hown hK hO hU k_h0 (kn := 148) (ci := 8) (fl := [(0, 0), (0, 0), (0, 0), (0, 0), (3, 149), (3, 150), (3, 151), (3, 152), (3, 161), (3, 170), (3, 171), (3, 172), (3, 184), (3, 225)]) rfl hP hD hS rfl 0 (by decide) (hts _ (wg_t kw_1526)) (fun _ h9 => h9) rfl (by decide +kernel) rfl dM_verify_59 (fun s29 pl H locs es29 hO hP hD hS => ?_)
            replace hR := bnd_step hR es29
            replace hE := bndP_step hE es29
            have hF := frm_sI hF es29 (by unfold M_M_verify; omega)
            have hf73 : s29.1 148 1 = nI tp := fc_ne hf53 es29 (by omega)
            have hf74 : s29.1 148 2 = nI rs := fc_ne hf54 es29 (by omega)
            have hf75 : s29.1 148 3 = nI ks := fc_ne hf55 es29 (by omega)
            have hf76 : s29.1 170 z22 = nI 3 := fc_ne hf56 es29 (by omega)
            have hf77 : s29.1 148 0 = nI 2 := fc_eq es29
            have hg43 : SETS ks (s29.1 170) := by rw [(ar_sI es29 (by omega))]; exact hg35
            have hg44 : HIDS ks (s29.1 171) := by rw [(ar_sI es29 (by omega))]; exact hg36
            refine lv_aload_n hx hb dM_verify_62 rfl (lv_at hl 0 rfl) ?_
            refine nw_get (C := "LatticeKeysModel") (TT := T_M) (N := 14) hx hb hts (wg_ft i_M) hown hK hO k_h0 (kn := 148) (ci := 8) (fl := [(0, 0), (0, 0), (0, 0), (0, 0), (3, 149), (3, 150), (3, 151), (3, 152), (3, 161), (3, 170), (3, 171), (3, 172), (3, 184), (3, 225)]) rfl hP rfl 0 (by decide) (hts _ (wg_t kw_1526)) (fun _ h9 => h9) (cd := (0, 0)) rfl dM_verify_63 (fun v36 hv38 => ?_)
            obtain rfl := (show v36 = .int (s29.1 148 0) from hv38)
            obtain ⟨z34, ez34, hz45, hz46⟩ := cl_of (b := 2147483648) hf77 (by omega) (by decide)
            replace hR := bnd_step hR ez34
            replace hE := bndP_step hE ez34
            refine mi_as hz45 ?_
            subst hz46
            refine lv_if_le (tgt := 71) hx hb dM_verify_66 (by decide) (fun h36 => absurd h36 (by decide)) (fun h36 => ?_)
            refine lv_iconst (v := nI 0) hx hb dM_verify_69 (by decide) ?_
            exact mp_zret hx hb hr hlk rfl hP hD hS ((nI 0, s29), pl) ⟨⟨hR.symm, rfl, hF, ⟨tp, hf73, by omega⟩, ⟨rs, hf74, by omega⟩, ⟨ks, hf75, by omega⟩, trivial⟩, hO⟩ [] rfl rfl rfl (by omega) (by omega) dM_verify_70
    replace hR := hR.trans (if_neg hs24)
    replace hE := iteP_neg hs24 hE
    by_cases hs25 : (q21.2.1 170 z22) = nI 4
    · replace hR := hR.trans (if_pos hs25)
      replace hE := iteP_pos hs25 hE
      refine mi_as hs25 ?_
      refine lv_iconst (v := nI 3) hx hb dM_verify_15 (by decide) ?_
      refine mi_ge (tgt := 23) hx hb dM_verify_16 (by decide) (by omega) (by omega) (fun h37 => ?_) (fun h37 => absurd h37 (by omega))
      refine lv_iload_n hx hb dM_verify_23 rfl (lv_at hl 2 rfl) ?_
      refine lv_if_lt (tgt := 54) hx hb dM_verify_24 (by decide) (fun h38 => ?_) (fun h38 => ?_)
      · replace hR := hR.trans (if_pos h38)
        replace hE := iteP_pos h38 hE
        refine lv_iconst (v := nI 2) hx hb dM_verify_54 (by decide) ?_
        refine lv_goto (tgt := 59) hx hb dM_verify_55 (by decide) ?_
        refine nw_put (C := "LatticeKeysModel") (TT := T_M) (N := 14) hx hb hts (wg_ft i_M) ty_M k_M n_M hown hK hO hU k_h0 (kn := 148) (ci := 8) (fl := [(0, 0), (0, 0), (0, 0), (0, 0), (3, 149), (3, 150), (3, 151), (3, 152), (3, 161), (3, 170), (3, 171), (3, 172), (3, 184), (3, 225)]) rfl hP hD hS rfl 0 (by decide) (hts _ (wg_t kw_1526)) (fun _ h9 => h9) rfl (by decide +kernel) rfl dM_verify_59 (fun s30 pl H locs es30 hO hP hD hS => ?_)
        replace hR := bnd_step hR es30
        replace hE := bndP_step hE es30
        have hF := frm_sI hF es30 (by unfold M_M_verify; omega)
        have hf78 : s30.1 148 1 = nI tp := fc_ne hf21 es30 (by omega)
        have hf79 : s30.1 148 2 = nI rs := fc_ne hf22 es30 (by omega)
        have hf80 : s30.1 148 3 = nI ks := fc_ne hf23 es30 (by omega)
        have hf81 : s30.1 170 z22 = nI 4 := fc_ne hs25 es30 (by omega)
        have hf82 : s30.1 148 0 = nI 2 := fc_eq es30
        have hg45 : SETS ks (s30.1 170) := by rw [(ar_sI es30 (by omega))]; exact hg21
        have hg46 : HIDS ks (s30.1 171) := by rw [(ar_sI es30 (by omega))]; exact hg22
        refine lv_aload_n hx hb dM_verify_62 rfl (lv_at hl 0 rfl) ?_
        refine nw_get (C := "LatticeKeysModel") (TT := T_M) (N := 14) hx hb hts (wg_ft i_M) hown hK hO k_h0 (kn := 148) (ci := 8) (fl := [(0, 0), (0, 0), (0, 0), (0, 0), (3, 149), (3, 150), (3, 151), (3, 152), (3, 161), (3, 170), (3, 171), (3, 172), (3, 184), (3, 225)]) rfl hP rfl 0 (by decide) (hts _ (wg_t kw_1526)) (fun _ h9 => h9) (cd := (0, 0)) rfl dM_verify_63 (fun v37 hv39 => ?_)
        obtain rfl := (show v37 = .int (s30.1 148 0) from hv39)
        obtain ⟨z35, ez35, hz47, hz48⟩ := cl_of (b := 2147483648) hf82 (by omega) (by decide)
        replace hR := bnd_step hR ez35
        replace hE := bndP_step hE ez35
        refine mi_as hz47 ?_
        subst hz48
        refine lv_if_le (tgt := 71) hx hb dM_verify_66 (by decide) (fun h39 => absurd h39 (by decide)) (fun h39 => ?_)
        refine lv_iconst (v := nI 0) hx hb dM_verify_69 (by decide) ?_
        exact mp_zret hx hb hr hlk rfl hP hD hS ((nI 0, s30), pl) ⟨⟨hR.symm, rfl, hF, ⟨tp, hf78, by omega⟩, ⟨rs, hf79, by omega⟩, ⟨ks, hf80, by omega⟩, trivial⟩, hO⟩ [] rfl rfl rfl (by omega) (by omega) dM_verify_70
      · replace hR := hR.trans (if_neg h38)
        replace hE := iteP_neg h38 hE
        refine lv_iload_n hx hb dM_verify_27 rfl (lv_at hl 2 rfl) ?_
        refine lv_sipush (v := nI 255) hx hb dM_verify_28 (by decide) ?_
        refine lv_icmp_gt (tgt := 54) hx hb dM_verify_31 (by decide) (fun h40 => ?_) (fun h40 => ?_)
        · replace hR := hR.trans (if_pos h40)
          replace hE := iteP_pos h40 hE
          refine lv_iconst (v := nI 2) hx hb dM_verify_54 (by decide) ?_
          refine lv_goto (tgt := 59) hx hb dM_verify_55 (by decide) ?_
          refine nw_put (C := "LatticeKeysModel") (TT := T_M) (N := 14) hx hb hts (wg_ft i_M) ty_M k_M n_M hown hK hO hU k_h0 (kn := 148) (ci := 8) (fl := [(0, 0), (0, 0), (0, 0), (0, 0), (3, 149), (3, 150), (3, 151), (3, 152), (3, 161), (3, 170), (3, 171), (3, 172), (3, 184), (3, 225)]) rfl hP hD hS rfl 0 (by decide) (hts _ (wg_t kw_1526)) (fun _ h9 => h9) rfl (by decide +kernel) rfl dM_verify_59 (fun s31 pl H locs es31 hO hP hD hS => ?_)
          replace hR := bnd_step hR es31
          replace hE := bndP_step hE es31
          have hF := frm_sI hF es31 (by unfold M_M_verify; omega)
          have hf83 : s31.1 148 1 = nI tp := fc_ne hf21 es31 (by omega)
          have hf84 : s31.1 148 2 = nI rs := fc_ne hf22 es31 (by omega)
          have hf85 : s31.1 148 3 = nI ks := fc_ne hf23 es31 (by omega)
          have hf86 : s31.1 170 z22 = nI 4 := fc_ne hs25 es31 (by omega)
          have hf87 : s31.1 148 0 = nI 2 := fc_eq es31
          have hg47 : SETS ks (s31.1 170) := by rw [(ar_sI es31 (by omega))]; exact hg21
          have hg48 : HIDS ks (s31.1 171) := by rw [(ar_sI es31 (by omega))]; exact hg22
          refine lv_aload_n hx hb dM_verify_62 rfl (lv_at hl 0 rfl) ?_
          refine nw_get (C := "LatticeKeysModel") (TT := T_M) (N := 14) hx hb hts (wg_ft i_M) hown hK hO k_h0 (kn := 148) (ci := 8) (fl := [(0, 0), (0, 0), (0, 0), (0, 0), (3, 149), (3, 150), (3, 151), (3, 152), (3, 161), (3, 170), (3, 171), (3, 172), (3, 184), (3, 225)]) rfl hP rfl 0 (by decide) (hts _ (wg_t kw_1526)) (fun _ h9 => h9) (cd := (0, 0)) rfl dM_verify_63 (fun v38 hv40 => ?_)
          obtain rfl := (show v38 = .int (s31.1 148 0) from hv40)
          obtain ⟨z36, ez36, hz49, hz50⟩ := cl_of (b := 2147483648) hf87 (by omega) (by decide)
          replace hR := bnd_step hR ez36
          replace hE := bndP_step hE ez36
          refine mi_as hz49 ?_
          subst hz50
          refine lv_if_le (tgt := 71) hx hb dM_verify_66 (by decide) (fun h41 => absurd h41 (by decide)) (fun h41 => ?_)
          refine lv_iconst (v := nI 0) hx hb dM_verify_69 (by decide) ?_
          exact mp_zret hx hb hr hlk rfl hP hD hS ((nI 0, s31), pl) ⟨⟨hR.symm, rfl, hF, ⟨tp, hf83, by omega⟩, ⟨rs, hf84, by omega⟩, ⟨ks, hf85, by omega⟩, trivial⟩, hO⟩ [] rfl rfl rfl (by omega) (by omega) dM_verify_70
        · replace hR := hR.trans (if_neg h40)
          replace hE := iteP_neg h40 hE
          obtain ⟨z37, hz51, hv41⟩ := i32_lex h38 (by omega) h40
          have ez37 : z37 = v2.toNatClampNeg := by rw [hv41]; exact (nI_clamp (by omega)).symm
          replace hR := bnd_step hR ez37
          replace hE := bndP_step hE ez37
          rw [hv41] at hl
          refine lv_aload_n hx hb dM_verify_34 rfl (lv_at hl 0 rfl) ?_
          refine nw_get (C := "LatticeKeysModel") (TT := T_M) (N := 14) hx hb hts (wg_ft i_M) hown hK hO k_h0 (kn := 148) (ci := 8) (fl := [(0, 0), (0, 0), (0, 0), (0, 0), (3, 149), (3, 150), (3, 151), (3, 152), (3, 161), (3, 170), (3, 171), (3, 172), (3, 184), (3, 225)]) rfl hP rfl 1 (by decide) (hts _ (wg_t kw_1527)) (fun _ h9 => h9) (cd := (0, 0)) rfl dM_verify_35 (fun v39 hv42 => ?_)
          obtain rfl := (show v39 = .int (q21.2.1 148 1) from hv42)
          obtain ⟨z38, ez38, hz52, hz53⟩ := cl_of (b := 2147483648) hf21 (by omega) (by decide)
          replace hR := bnd_step hR ez38
          replace hE := bndP_step hE ez38
          refine mi_as hz52 ?_
          refine lv_aload_n hx hb dM_verify_38 rfl (lv_at hl 0 rfl) ?_
          refine nw_get (C := "LatticeKeysModel") (TT := T_M) (N := 14) hx hb hts (wg_ft i_M) hown hK hO k_h0 (kn := 148) (ci := 8) (fl := [(0, 0), (0, 0), (0, 0), (0, 0), (3, 149), (3, 150), (3, 151), (3, 152), (3, 161), (3, 170), (3, 171), (3, 172), (3, 184), (3, 225)]) rfl hP rfl 9 (by decide) (hts _ (wg_t kw_1535)) (fun _ h9 => h9) (cd := (3, 170)) rfl dM_verify_39 (fun v40 hv43 => ?_)
          obtain ⟨r31, rfl, kr28⟩ := (show ∃ r : Nat, v40 = .ref r ∧ T r = some 170 from hv43)
          refine lv_iload_n hx hb dM_verify_42 rfl (lv_at hl 1 rfl) ?_
          refine nw_iald hx hb hK hO kr28 (k := 170) rfl hP (by omega) (by omega) dM_verify_43 ?_
          refine mi_as hs25 ?_
          refine lv_iconst (v := nI 3) hx hb dM_verify_44 (by decide) ?_
          refine mi_isub hx hb dM_verify_45 (by omega) ?_
          refine mi_as (show nI (4 - 3) = nI 1 from rfl) ?_
          refine mp_i (cx := []) (wr := []) hP hD hS hA [] [] rfl rfl rfl (by decide) (va_runS (As := [.int (nI 1)]) (rest := [.int (nI z38), .ref h0]) F (N_MH_markSize_1 l g _ T q21.2 pl hO hU ) (va_cwS 1 hts (wg_app (wg_c kw_1918 (wg_c kw_1919 (wg_c kw_13 wg_n))) kw_1920) rfl rfl rfl (by decide +kernel) ⟨by decide, by decide⟩) (pp_S (en_ok g) hP hD hS hA hEn [] rfl rfl) rfl rfl hl.1 rfl (lv_room (Nat.le_of_ble_eq_true rfl)) dM_verify_46 ⟨by omega, by omega⟩) (fun r32 u24 H locs hu24 hP hD hS => ?_)
          obtain ⟨q24, pl⟩ := u24
          obtain ⟨⟨eq24, rfl, hFc24, ⟨x24, hx_24, hb_24⟩, hxp24, -⟩, hO⟩ := hu24
          have hO : okn g T q24.2 pl := hO
          have hP : va_P g.1 vcl ([] ++ pl) _ := hP
          have hD : va_D _ ([] ++ pl) := hD
          have hFc24 : frm (M_MH_markSize_1) q21.2 q24.2 := hFc24
          have hb_24 : x24 < 3310 := hb_24
          replace hR := bnd_step hR eq24
          replace hE := bndP_step hE eq24
          have hF := frm_tr hF hFc24 (fun k hk => by unfold M_MH_markSize_1 at hk; unfold M_M_verify; omega)
          have hf88 : q24.2.1 148 1 = nI tp := fc_F hf21 hFc24 (by unfold M_MH_markSize_1; omega)
          have hf89 : q24.2.1 148 2 = nI rs := fc_F hf22 hFc24 (by unfold M_MH_markSize_1; omega)
          have hf90 : q24.2.1 148 3 = nI ks := fc_F hf23 hFc24 (by unfold M_MH_markSize_1; omega)
          have hf91 : q24.2.1 170 z22 = nI 4 := fc_F hs25 hFc24 (by unfold M_MH_markSize_1; omega)
          have hg49 : SETS ks (q24.2.1 170) := by rw [hFc24 170 (by unfold M_MH_markSize_1; omega)]; exact hg21
          have hg50 : HIDS ks (q24.2.1 171) := by rw [hFc24 171 (by unfold M_MH_markSize_1; omega)]; exact hg22
          obtain ⟨z39, ez39, hz54, hz55⟩ := cl_of (b := 2147483648) hx_24 (by omega) (by decide)
          replace hR := bnd_step hR ez39
          replace hE := bndP_step hE ez39
          refine mi_as hz54 ?_
          have hsz22 : z39 = 3309 := (nI_eq (by omega) (by omega)).mp (hz54.symm.trans hxp24)
          subst hsz22
          refine W.widen (k := 0) (n := 0) (by omega) (by omega) ?_
          refine lv_iload_n hx hb dM_verify_49 rfl (lv_at hl 2 rfl) ?_
          refine mi_iadd hx hb dM_verify_50 ?_
          refine mi_ge (tgt := 58) hx hb dM_verify_51 (by decide) (by omega) (by omega) (fun h42 => ?_) (fun h42 => ?_)
          · replace hR := hR.trans (if_pos h42)
            replace hE := iteP_pos h42 hE
            refine lv_iconst (v := nI 0) hx hb dM_verify_58 (by decide) ?_
            refine nw_put (C := "LatticeKeysModel") (TT := T_M) (N := 14) hx hb hts (wg_ft i_M) ty_M k_M n_M hown hK hO hU k_h0 (kn := 148) (ci := 8) (fl := [(0, 0), (0, 0), (0, 0), (0, 0), (3, 149), (3, 150), (3, 151), (3, 152), (3, 161), (3, 170), (3, 171), (3, 172), (3, 184), (3, 225)]) rfl hP hD hS rfl 0 (by decide) (hts _ (wg_t kw_1526)) (fun _ h9 => h9) rfl (by decide +kernel) rfl dM_verify_59 (fun s32 pl H locs es32 hO hP hD hS => ?_)
            replace hR := bnd_step hR es32
            replace hE := bndP_step hE es32
            have hF := frm_sI hF es32 (by unfold M_M_verify; omega)
            have hf92 : s32.1 148 1 = nI tp := fc_ne hf88 es32 (by omega)
            have hf93 : s32.1 148 2 = nI rs := fc_ne hf89 es32 (by omega)
            have hf94 : s32.1 148 3 = nI ks := fc_ne hf90 es32 (by omega)
            have hf95 : s32.1 170 z22 = nI 4 := fc_ne hf91 es32 (by omega)
            have hf96 : s32.1 148 0 = nI 0 := fc_eq es32
            have hg51 : SETS ks (s32.1 170) := by rw [(ar_sI es32 (by omega))]; exact hg49
            have hg52 : HIDS ks (s32.1 171) := by rw [(ar_sI es32 (by omega))]; exact hg50
            refine lv_aload_n hx hb dM_verify_62 rfl (lv_at hl 0 rfl) ?_
            refine nw_get (C := "LatticeKeysModel") (TT := T_M) (N := 14) hx hb hts (wg_ft i_M) hown hK hO k_h0 (kn := 148) (ci := 8) (fl := [(0, 0), (0, 0), (0, 0), (0, 0), (3, 149), (3, 150), (3, 151), (3, 152), (3, 161), (3, 170), (3, 171), (3, 172), (3, 184), (3, 225)]) rfl hP rfl 0 (by decide) (hts _ (wg_t kw_1526)) (fun _ h9 => h9) (cd := (0, 0)) rfl dM_verify_63 (fun v41 hv44 => ?_)
            obtain rfl := (show v41 = .int (s32.1 148 0) from hv44)
            obtain ⟨z40, ez40, hz56, hz57⟩ := cl_of (b := 2147483648) hf96 (by omega) (by decide)
            replace hR := bnd_step hR ez40
            replace hE := bndP_step hE ez40
            refine mi_as hz56 ?_
            subst hz57
            refine lv_if_le (tgt := 71) hx hb dM_verify_66 (by decide) (fun h43 => ?_) (fun h43 => absurd h43 (by decide))
            refine lv_aload_n hx hb dM_verify_71 rfl (lv_at hl 0 rfl) ?_
            refine nw_get (C := "LatticeKeysModel") (TT := T_M) (N := 14) hx hb hts (wg_ft i_M) hown hK hO k_h0 (kn := 148) (ci := 8) (fl := [(0, 0), (0, 0), (0, 0), (0, 0), (3, 149), (3, 150), (3, 151), (3, 152), (3, 161), (3, 170), (3, 171), (3, 172), (3, 184), (3, 225)]) rfl hP rfl 13 (by decide) (hts _ (wg_t kw_1539)) (fun _ h9 => h9) (cd := (3, 225)) rfl dM_verify_72 (fun v42 hv45 => ?_)
            obtain ⟨r33, rfl, kr29⟩ := (show ∃ r : Nat, v42 = .ref r ∧ T r = some 225 from hv45)
            refine lv_aload_n hx hb dM_verify_75 rfl (lv_at hl 0 rfl) ?_
            refine nw_get (C := "LatticeKeysModel") (TT := T_M) (N := 14) hx hb hts (wg_ft i_M) hown hK hO k_h0 (kn := 148) (ci := 8) (fl := [(0, 0), (0, 0), (0, 0), (0, 0), (3, 149), (3, 150), (3, 151), (3, 152), (3, 161), (3, 170), (3, 171), (3, 172), (3, 184), (3, 225)]) rfl hP rfl 9 (by decide) (hts _ (wg_t kw_1535)) (fun _ h9 => h9) (cd := (3, 170)) rfl dM_verify_76 (fun v43 hv46 => ?_)
            obtain ⟨r34, rfl, kr30⟩ := (show ∃ r : Nat, v43 = .ref r ∧ T r = some 170 from hv46)
            refine lv_iload_n hx hb dM_verify_79 rfl (lv_at hl 1 rfl) ?_
            refine nw_iald hx hb hK hO kr30 (k := 170) rfl hP (by omega) (by omega) dM_verify_80 ?_
            refine mi_as hf95 ?_
            refine lv_iconst (v := nI 3) hx hb dM_verify_81 (by decide) ?_
            refine mi_isub hx hb dM_verify_82 (by omega) ?_
            refine mi_as (show nI (4 - 3) = nI 1 from rfl) ?_
            refine lv_aload_n hx hb dM_verify_83 rfl (lv_at hl 0 rfl) ?_
            refine nw_get (C := "LatticeKeysModel") (TT := T_M) (N := 14) hx hb hts (wg_ft i_M) hown hK hO k_h0 (kn := 148) (ci := 8) (fl := [(0, 0), (0, 0), (0, 0), (0, 0), (3, 149), (3, 150), (3, 151), (3, 152), (3, 161), (3, 170), (3, 171), (3, 172), (3, 184), (3, 225)]) rfl hP rfl 7 (by decide) (hts _ (wg_t kw_1533)) (fun _ h9 => h9) (cd := (3, 152)) rfl dM_verify_84 (fun v44 hv47 => ?_)
            obtain ⟨r35, rfl, kr31⟩ := (show ∃ r : Nat, v44 = .ref r ∧ T r = some 152 from hv47)
            refine lv_iload_n hx hb dM_verify_87 rfl (lv_at hl 1 rfl) ?_
            refine nw_aald4 hx hb hK hO kr31 (k := 152) (b := 153) rfl hP (by omega) (by omega) dM_verify_88 (fun r36 kr32 => ?_)
            have hn22 : nsp (153 + z22) = (1, 2592, []) := rows_okb 153 8 2592 (by decide) _ (by omega)
            refine lv_aload_n hx hb dM_verify_89 rfl (lv_at hl 0 rfl) ?_
            refine nw_get (C := "LatticeKeysModel") (TT := T_M) (N := 14) hx hb hts (wg_ft i_M) hown hK hO k_h0 (kn := 148) (ci := 8) (fl := [(0, 0), (0, 0), (0, 0), (0, 0), (3, 149), (3, 150), (3, 151), (3, 152), (3, 161), (3, 170), (3, 171), (3, 172), (3, 184), (3, 225)]) rfl hP rfl 4 (by decide) (hts _ (wg_t kw_1530)) (fun _ h9 => h9) (cd := (3, 149)) rfl dM_verify_90 (fun v45 hv48 => ?_)
            obtain ⟨r37, rfl, kr33⟩ := (show ∃ r : Nat, v45 = .ref r ∧ T r = some 149 from hv48)
            refine lv_iload_n hx hb dM_verify_93 rfl (lv_at hl 2 rfl) ?_
            refine lv_aload_n hx hb dM_verify_94 rfl (lv_at hl 0 rfl) ?_
            refine nw_get (C := "LatticeKeysModel") (TT := T_M) (N := 14) hx hb hts (wg_ft i_M) hown hK hO k_h0 (kn := 148) (ci := 8) (fl := [(0, 0), (0, 0), (0, 0), (0, 0), (3, 149), (3, 150), (3, 151), (3, 152), (3, 161), (3, 170), (3, 171), (3, 172), (3, 184), (3, 225)]) rfl hP rfl 1 (by decide) (hts _ (wg_t kw_1527)) (fun _ h9 => h9) (cd := (0, 0)) rfl dM_verify_95 (fun v46 hv49 => ?_)
            obtain rfl := (show v46 = .int (s32.1 148 1) from hv49)
            obtain ⟨z41, ez41, hz58, hz59⟩ := cl_of (b := 2147483648) hf92 (by omega) (by decide)
            replace hR := bnd_step hR ez41
            replace hE := bndP_step hE ez41
            refine mi_as hz58 ?_
            refine mp_i (cx := []) (wr := []) hP hD hS hA [] [] rfl rfl rfl (by decide) (va_runV (As := [.int (nI 1), .ref r36, .ref r37, .int (nI z37), .int (nI z41)]) (rest := []) F (N_MH_verify_1 l g _ T s32 pl hO hU r33 r36 r37 (153 + z22) 149 (nI z37) z41 kr29 kr32 hn22 kr33 rfl (by omega) (by omega) hE.1) (cwV 5 hts (wg_app (wg_c kw_1925 (wg_c kw_1926 (wg_c kw_1927 (wg_c kw_13 wg_n)))) kw_1928) rfl rfl rfl (by decide +kernel) ⟨by decide, by decide⟩) (pn_W "LatticeKeysModel$Hands" (en_ok g) (ci := 12) (kn := 225) (fl := [(3, 172), (3, 181), (3, 226), (3, 291), (3, 299), (3, 308), (3, 317), (3, 326), (3, 334), (3, 342), (3, 350), (3, 359), (3, 368), (3, 369), (3, 370), (3, 371), (3, 372), (3, 373), (3, 374), (3, 375), (3, 376), (3, 377), (3, 378), (0, 0), (0, 0), (0, 0), (0, 0), (0, 0), (0, 0), (0, 0), (0, 0)]) hK hO kr29 rfl hP hD hS hA hEn [] rfl rfl rfl) rfl rfl hl.1 rfl (lv_room (Nat.le_of_ble_eq_true rfl)) dM_verify_98 ⟨by omega, by omega⟩) (fun r38 u25 H locs hu25 hP hD hS => ?_)
            obtain ⟨q25, pl⟩ := u25
            obtain ⟨⟨eq25, rfl, hFc25, ⟨x25, hx_25, hb_25⟩, -⟩, hO⟩ := hu25
            have hO : okn g T q25.2 pl := hO
            have hP : va_P g.1 vcl ([] ++ pl) _ := hP
            have hD : va_D _ ([] ++ pl) := hD
            have hFc25 : frm (M_MH_verify_1) s32 q25.2 := hFc25
            have hb_25 : x25 < 2 := hb_25
            replace hE := hE.2
            replace hR := bnd_step hR eq25
            replace hE := bndP_step hE eq25
            have hF := frm_tr hF hFc25 (fun k hk => by unfold M_MH_verify_1 at hk; unfold M_M_verify; omega)
            have hf97 : q25.2.1 148 1 = nI tp := fc_F hf92 hFc25 (by unfold M_MH_verify_1; omega)
            have hf98 : q25.2.1 148 2 = nI rs := fc_F hf93 hFc25 (by unfold M_MH_verify_1; omega)
            have hf99 : q25.2.1 148 3 = nI ks := fc_F hf94 hFc25 (by unfold M_MH_verify_1; omega)
            have hf100 : q25.2.1 170 z22 = nI 4 := fc_F hf95 hFc25 (by unfold M_MH_verify_1; omega)
            have hf101 : q25.2.1 148 0 = nI 0 := fc_F hf96 hFc25 (by unfold M_MH_verify_1; omega)
            have hg53 : SETS ks (q25.2.1 170) := by rw [hFc25 170 (by unfold M_MH_verify_1; omega)]; exact hg51
            have hg54 : HIDS ks (q25.2.1 171) := by rw [hFc25 171 (by unfold M_MH_verify_1; omega)]; exact hg52
            obtain ⟨z42, ez42, hz60, hz61⟩ := cl_of (b := 2147483648) hx_25 (by omega) (by decide)
            replace hR := bnd_step hR ez42
            replace hE := bndP_step hE ez42
            refine mi_as hz60 ?_
            refine W.widen (k := 0) (n := 0) (by omega) (by omega) ?_
            refine lv_istore_n (lv' := [(3, .int (nI z42)), (0, .ref h0), (1, .int (nI z22)), (2, .int (nI z37))]) hx hb dM_verify_101 rfl hl (by decide) rfl (fun ls hl => ?_)
            refine lv_aload_n hx hb dM_verify_102 rfl (lv_at hl 1 rfl) ?_
            refine lv_iconst (v := nI 0) hx hb dM_verify_103 (by decide) ?_
            refine nw_put (C := "LatticeKeysModel") (TT := T_M) (N := 14) hx hb hts (wg_ft i_M) ty_M k_M n_M hown hK hO hU k_h0 (kn := 148) (ci := 8) (fl := [(0, 0), (0, 0), (0, 0), (0, 0), (3, 149), (3, 150), (3, 151), (3, 152), (3, 161), (3, 170), (3, 171), (3, 172), (3, 184), (3, 225)]) rfl hP hD hS rfl 1 (by decide) (hts _ (wg_t kw_1527)) (fun _ h9 => h9) rfl (by decide +kernel) rfl dM_verify_104 (fun s33 pl H locs es33 hO hP hD hS => ?_)
            replace hR := bnd_step hR es33
            replace hE := bndP_step hE es33
            have hF := frm_sI hF es33 (by unfold M_M_verify; omega)
            have hf103 : s33.1 148 2 = nI rs := fc_ne hf98 es33 (by omega)
            have hf104 : s33.1 148 3 = nI ks := fc_ne hf99 es33 (by omega)
            have hf105 : s33.1 170 z22 = nI 4 := fc_ne hf100 es33 (by omega)
            have hf106 : s33.1 148 0 = nI 0 := fc_ne hf101 es33 (by omega)
            have hf107 : s33.1 148 1 = nI 0 := fc_eq es33
            have hg55 : SETS ks (s33.1 170) := by rw [(ar_sI es33 (by omega))]; exact hg53
            have hg56 : HIDS ks (s33.1 171) := by rw [(ar_sI es33 (by omega))]; exact hg54
            refine lv_iload_n hx hb dM_verify_107 rfl (lv_at hl 0 rfl) ?_
            exact mp_zret hx hb hr hlk (nar_2 (by omega)) hP hD hS ((nI z42, s33), pl) ⟨⟨hR.symm, rfl, hF, ⟨0, hf107, by omega⟩, ⟨rs, hf103, by omega⟩, ⟨ks, hf104, by omega⟩, trivial⟩, hO⟩ [] rfl rfl rfl (by omega) (by omega) dM_verify_108
          · replace hR := hR.trans (if_neg (Nat.not_le.mpr h42))
            replace hE := iteP_neg (Nat.not_le.mpr h42) hE
            refine lv_iconst (v := nI 2) hx hb dM_verify_54 (by decide) ?_
            refine lv_goto (tgt := 59) hx hb dM_verify_55 (by decide) ?_
            refine nw_put (C := "LatticeKeysModel") (TT := T_M) (N := 14) hx hb hts (wg_ft i_M) ty_M k_M n_M hown hK hO hU k_h0 (kn := 148) (ci := 8) (fl := [(0, 0), (0, 0), (0, 0), (0, 0), (3, 149), (3, 150), (3, 151), (3, 152), (3, 161), (3, 170), (3, 171), (3, 172), (3, 184), (3, 225)]) rfl hP hD hS rfl 0 (by decide) (hts _ (wg_t kw_1526)) (fun _ h9 => h9) rfl (by decide +kernel) rfl dM_verify_59 (fun s34 pl H locs es34 hO hP hD hS => ?_)
            replace hR := bnd_step hR es34
            replace hE := bndP_step hE es34
            have hF := frm_sI hF es34 (by unfold M_M_verify; omega)
            have hf108 : s34.1 148 1 = nI tp := fc_ne hf88 es34 (by omega)
            have hf109 : s34.1 148 2 = nI rs := fc_ne hf89 es34 (by omega)
            have hf110 : s34.1 148 3 = nI ks := fc_ne hf90 es34 (by omega)
            have hf111 : s34.1 170 z22 = nI 4 := fc_ne hf91 es34 (by omega)
            have hf112 : s34.1 148 0 = nI 2 := fc_eq es34
            have hg57 : SETS ks (s34.1 170) := by rw [(ar_sI es34 (by omega))]; exact hg49
            have hg58 : HIDS ks (s34.1 171) := by rw [(ar_sI es34 (by omega))]; exact hg50
            refine lv_aload_n hx hb dM_verify_62 rfl (lv_at hl 0 rfl) ?_
            refine nw_get (C := "LatticeKeysModel") (TT := T_M) (N := 14) hx hb hts (wg_ft i_M) hown hK hO k_h0 (kn := 148) (ci := 8) (fl := [(0, 0), (0, 0), (0, 0), (0, 0), (3, 149), (3, 150), (3, 151), (3, 152), (3, 161), (3, 170), (3, 171), (3, 172), (3, 184), (3, 225)]) rfl hP rfl 0 (by decide) (hts _ (wg_t kw_1526)) (fun _ h9 => h9) (cd := (0, 0)) rfl dM_verify_63 (fun v47 hv50 => ?_)
            obtain rfl := (show v47 = .int (s34.1 148 0) from hv50)
            obtain ⟨z43, ez43, hz62, hz63⟩ := cl_of (b := 2147483648) hf112 (by omega) (by decide)
            replace hR := bnd_step hR ez43
            replace hE := bndP_step hE ez43
            refine mi_as hz62 ?_
            subst hz63
            refine lv_if_le (tgt := 71) hx hb dM_verify_66 (by decide) (fun h44 => absurd h44 (by decide)) (fun h44 => ?_)
            refine lv_iconst (v := nI 0) hx hb dM_verify_69 (by decide) ?_
            exact mp_zret hx hb hr hlk rfl hP hD hS ((nI 0, s34), pl) ⟨⟨hR.symm, rfl, hF, ⟨tp, hf108, by omega⟩, ⟨rs, hf109, by omega⟩, ⟨ks, hf110, by omega⟩, trivial⟩, hO⟩ [] rfl rfl rfl (by omega) (by omega) dM_verify_70
    replace hR := hR.trans (if_neg hs25)
    replace hE := iteP_neg hs25 hE
    have hs26 : (q21.2.1 170 z22) = nI 5 := set5 hg21 (by omega) hs21 hs22 hs23 hs24 hs25
    refine mi_as hs26 ?_
    refine lv_iconst (v := nI 3) hx hb dM_verify_15 (by decide) ?_
    refine mi_ge (tgt := 23) hx hb dM_verify_16 (by decide) (by omega) (by omega) (fun h45 => ?_) (fun h45 => absurd h45 (by omega))
    refine lv_iload_n hx hb dM_verify_23 rfl (lv_at hl 2 rfl) ?_
    refine lv_if_lt (tgt := 54) hx hb dM_verify_24 (by decide) (fun h46 => ?_) (fun h46 => ?_)
    · replace hR := hR.trans (if_pos h46)
      replace hE := iteP_pos h46 hE
      refine lv_iconst (v := nI 2) hx hb dM_verify_54 (by decide) ?_
      refine lv_goto (tgt := 59) hx hb dM_verify_55 (by decide) ?_
      refine nw_put (C := "LatticeKeysModel") (TT := T_M) (N := 14) hx hb hts (wg_ft i_M) ty_M k_M n_M hown hK hO hU k_h0 (kn := 148) (ci := 8) (fl := [(0, 0), (0, 0), (0, 0), (0, 0), (3, 149), (3, 150), (3, 151), (3, 152), (3, 161), (3, 170), (3, 171), (3, 172), (3, 184), (3, 225)]) rfl hP hD hS rfl 0 (by decide) (hts _ (wg_t kw_1526)) (fun _ h9 => h9) rfl (by decide +kernel) rfl dM_verify_59 (fun s35 pl H locs es35 hO hP hD hS => ?_)
      replace hR := bnd_step hR es35
      replace hE := bndP_step hE es35
      have hF := frm_sI hF es35 (by unfold M_M_verify; omega)
      have hf113 : s35.1 148 1 = nI tp := fc_ne hf21 es35 (by omega)
      have hf114 : s35.1 148 2 = nI rs := fc_ne hf22 es35 (by omega)
      have hf115 : s35.1 148 3 = nI ks := fc_ne hf23 es35 (by omega)
      have hf116 : s35.1 170 z22 = nI 5 := fc_ne hs26 es35 (by omega)
      have hf117 : s35.1 148 0 = nI 2 := fc_eq es35
      have hg59 : SETS ks (s35.1 170) := by rw [(ar_sI es35 (by omega))]; exact hg21
      have hg60 : HIDS ks (s35.1 171) := by rw [(ar_sI es35 (by omega))]; exact hg22
      refine lv_aload_n hx hb dM_verify_62 rfl (lv_at hl 0 rfl) ?_
      refine nw_get (C := "LatticeKeysModel") (TT := T_M) (N := 14) hx hb hts (wg_ft i_M) hown hK hO k_h0 (kn := 148) (ci := 8) (fl := [(0, 0), (0, 0), (0, 0), (0, 0), (3, 149), (3, 150), (3, 151), (3, 152), (3, 161), (3, 170), (3, 171), (3, 172), (3, 184), (3, 225)]) rfl hP rfl 0 (by decide) (hts _ (wg_t kw_1526)) (fun _ h9 => h9) (cd := (0, 0)) rfl dM_verify_63 (fun v48 hv51 => ?_)
      obtain rfl := (show v48 = .int (s35.1 148 0) from hv51)
      obtain ⟨z44, ez44, hz64, hz65⟩ := cl_of (b := 2147483648) hf117 (by omega) (by decide)
      replace hR := bnd_step hR ez44
      replace hE := bndP_step hE ez44
      refine mi_as hz64 ?_
      subst hz65
      refine lv_if_le (tgt := 71) hx hb dM_verify_66 (by decide) (fun h47 => absurd h47 (by decide)) (fun h47 => ?_)
      refine lv_iconst (v := nI 0) hx hb dM_verify_69 (by decide) ?_
      exact mp_zret hx hb hr hlk rfl hP hD hS ((nI 0, s35), pl) ⟨⟨hR.symm, rfl, hF, ⟨tp, hf113, by omega⟩, ⟨rs, hf114, by omega⟩, ⟨ks, hf115, by omega⟩, trivial⟩, hO⟩ [] rfl rfl rfl (by omega) (by omega) dM_verify_70
    · replace hR := hR.trans (if_neg h46)
      replace hE := iteP_neg h46 hE
      refine lv_iload_n hx hb dM_verify_27 rfl (lv_at hl 2 rfl) ?_
      refine lv_sipush (v := nI 255) hx hb dM_verify_28 (by decide) ?_
      refine lv_icmp_gt (tgt := 54) hx hb dM_verify_31 (by decide) (fun h48 => ?_) (fun h48 => ?_)
      · replace hR := hR.trans (if_pos h48)
        replace hE := iteP_pos h48 hE
        refine lv_iconst (v := nI 2) hx hb dM_verify_54 (by decide) ?_
        refine lv_goto (tgt := 59) hx hb dM_verify_55 (by decide) ?_
        refine nw_put (C := "LatticeKeysModel") (TT := T_M) (N := 14) hx hb hts (wg_ft i_M) ty_M k_M n_M hown hK hO hU k_h0 (kn := 148) (ci := 8) (fl := [(0, 0), (0, 0), (0, 0), (0, 0), (3, 149), (3, 150), (3, 151), (3, 152), (3, 161), (3, 170), (3, 171), (3, 172), (3, 184), (3, 225)]) rfl hP hD hS rfl 0 (by decide) (hts _ (wg_t kw_1526)) (fun _ h9 => h9) rfl (by decide +kernel) rfl dM_verify_59 (fun s36 pl H locs es36 hO hP hD hS => ?_)
        replace hR := bnd_step hR es36
        replace hE := bndP_step hE es36
        have hF := frm_sI hF es36 (by unfold M_M_verify; omega)
        have hf118 : s36.1 148 1 = nI tp := fc_ne hf21 es36 (by omega)
        have hf119 : s36.1 148 2 = nI rs := fc_ne hf22 es36 (by omega)
        have hf120 : s36.1 148 3 = nI ks := fc_ne hf23 es36 (by omega)
        have hf121 : s36.1 170 z22 = nI 5 := fc_ne hs26 es36 (by omega)
        have hf122 : s36.1 148 0 = nI 2 := fc_eq es36
        have hg61 : SETS ks (s36.1 170) := by rw [(ar_sI es36 (by omega))]; exact hg21
        have hg62 : HIDS ks (s36.1 171) := by rw [(ar_sI es36 (by omega))]; exact hg22
        refine lv_aload_n hx hb dM_verify_62 rfl (lv_at hl 0 rfl) ?_
        refine nw_get (C := "LatticeKeysModel") (TT := T_M) (N := 14) hx hb hts (wg_ft i_M) hown hK hO k_h0 (kn := 148) (ci := 8) (fl := [(0, 0), (0, 0), (0, 0), (0, 0), (3, 149), (3, 150), (3, 151), (3, 152), (3, 161), (3, 170), (3, 171), (3, 172), (3, 184), (3, 225)]) rfl hP rfl 0 (by decide) (hts _ (wg_t kw_1526)) (fun _ h9 => h9) (cd := (0, 0)) rfl dM_verify_63 (fun v49 hv52 => ?_)
        obtain rfl := (show v49 = .int (s36.1 148 0) from hv52)
        obtain ⟨z45, ez45, hz66, hz67⟩ := cl_of (b := 2147483648) hf122 (by omega) (by decide)
        replace hR := bnd_step hR ez45
        replace hE := bndP_step hE ez45
        refine mi_as hz66 ?_
        subst hz67
        refine lv_if_le (tgt := 71) hx hb dM_verify_66 (by decide) (fun h49 => absurd h49 (by decide)) (fun h49 => ?_)
        refine lv_iconst (v := nI 0) hx hb dM_verify_69 (by decide) ?_
        exact mp_zret hx hb hr hlk rfl hP hD hS ((nI 0, s36), pl) ⟨⟨hR.symm, rfl, hF, ⟨tp, hf118, by omega⟩, ⟨rs, hf119, by omega⟩, ⟨ks, hf120, by omega⟩, trivial⟩, hO⟩ [] rfl rfl rfl (by omega) (by omega) dM_verify_70
      · replace hR := hR.trans (if_neg h48)
        replace hE := iteP_neg h48 hE
        obtain ⟨z46, hz68, hv53⟩ := i32_lex h46 (by omega) h48
        have ez46 : z46 = v2.toNatClampNeg := by rw [hv53]; exact (nI_clamp (by omega)).symm
        replace hR := bnd_step hR ez46
        replace hE := bndP_step hE ez46
        rw [hv53] at hl
        refine lv_aload_n hx hb dM_verify_34 rfl (lv_at hl 0 rfl) ?_
        refine nw_get (C := "LatticeKeysModel") (TT := T_M) (N := 14) hx hb hts (wg_ft i_M) hown hK hO k_h0 (kn := 148) (ci := 8) (fl := [(0, 0), (0, 0), (0, 0), (0, 0), (3, 149), (3, 150), (3, 151), (3, 152), (3, 161), (3, 170), (3, 171), (3, 172), (3, 184), (3, 225)]) rfl hP rfl 1 (by decide) (hts _ (wg_t kw_1527)) (fun _ h9 => h9) (cd := (0, 0)) rfl dM_verify_35 (fun v50 hv54 => ?_)
        obtain rfl := (show v50 = .int (q21.2.1 148 1) from hv54)
        obtain ⟨z47, ez47, hz69, hz70⟩ := cl_of (b := 2147483648) hf21 (by omega) (by decide)
        replace hR := bnd_step hR ez47
        replace hE := bndP_step hE ez47
        refine mi_as hz69 ?_
        refine lv_aload_n hx hb dM_verify_38 rfl (lv_at hl 0 rfl) ?_
        refine nw_get (C := "LatticeKeysModel") (TT := T_M) (N := 14) hx hb hts (wg_ft i_M) hown hK hO k_h0 (kn := 148) (ci := 8) (fl := [(0, 0), (0, 0), (0, 0), (0, 0), (3, 149), (3, 150), (3, 151), (3, 152), (3, 161), (3, 170), (3, 171), (3, 172), (3, 184), (3, 225)]) rfl hP rfl 9 (by decide) (hts _ (wg_t kw_1535)) (fun _ h9 => h9) (cd := (3, 170)) rfl dM_verify_39 (fun v51 hv55 => ?_)
        obtain ⟨r39, rfl, kr34⟩ := (show ∃ r : Nat, v51 = .ref r ∧ T r = some 170 from hv55)
        refine lv_iload_n hx hb dM_verify_42 rfl (lv_at hl 1 rfl) ?_
        refine nw_iald hx hb hK hO kr34 (k := 170) rfl hP (by omega) (by omega) dM_verify_43 ?_
        refine mi_as hs26 ?_
        refine lv_iconst (v := nI 3) hx hb dM_verify_44 (by decide) ?_
        refine mi_isub hx hb dM_verify_45 (by omega) ?_
        refine mi_as (show nI (5 - 3) = nI 2 from rfl) ?_
        refine mp_i (cx := []) (wr := []) hP hD hS hA [] [] rfl rfl rfl (by decide) (va_runS (As := [.int (nI 2)]) (rest := [.int (nI z47), .ref h0]) F (N_MH_markSize_2 l g _ T q21.2 pl hO hU ) (va_cwS 1 hts (wg_app (wg_c kw_1918 (wg_c kw_1919 (wg_c kw_13 wg_n))) kw_1920) rfl rfl rfl (by decide +kernel) ⟨by decide, by decide⟩) (pp_S (en_ok g) hP hD hS hA hEn [] rfl rfl) rfl rfl hl.1 rfl (lv_room (Nat.le_of_ble_eq_true rfl)) dM_verify_46 ⟨by omega, by omega⟩) (fun r40 u26 H locs hu26 hP hD hS => ?_)
        obtain ⟨q26, pl⟩ := u26
        obtain ⟨⟨eq26, rfl, hFc26, ⟨x26, hx_26, hb_26⟩, hxp26, -⟩, hO⟩ := hu26
        have hO : okn g T q26.2 pl := hO
        have hP : va_P g.1 vcl ([] ++ pl) _ := hP
        have hD : va_D _ ([] ++ pl) := hD
        have hFc26 : frm (M_MH_markSize_2) q21.2 q26.2 := hFc26
        have hb_26 : x26 < 4628 := hb_26
        replace hR := bnd_step hR eq26
        replace hE := bndP_step hE eq26
        have hF := frm_tr hF hFc26 (fun k hk => by unfold M_MH_markSize_2 at hk; unfold M_M_verify; omega)
        have hf123 : q26.2.1 148 1 = nI tp := fc_F hf21 hFc26 (by unfold M_MH_markSize_2; omega)
        have hf124 : q26.2.1 148 2 = nI rs := fc_F hf22 hFc26 (by unfold M_MH_markSize_2; omega)
        have hf125 : q26.2.1 148 3 = nI ks := fc_F hf23 hFc26 (by unfold M_MH_markSize_2; omega)
        have hf126 : q26.2.1 170 z22 = nI 5 := fc_F hs26 hFc26 (by unfold M_MH_markSize_2; omega)
        have hg63 : SETS ks (q26.2.1 170) := by rw [hFc26 170 (by unfold M_MH_markSize_2; omega)]; exact hg21
        have hg64 : HIDS ks (q26.2.1 171) := by rw [hFc26 171 (by unfold M_MH_markSize_2; omega)]; exact hg22
        obtain ⟨z48, ez48, hz71, hz72⟩ := cl_of (b := 2147483648) hx_26 (by omega) (by decide)
        replace hR := bnd_step hR ez48
        replace hE := bndP_step hE ez48
        refine mi_as hz71 ?_
        have hsz23 : z48 = 4627 := (nI_eq (by omega) (by omega)).mp (hz71.symm.trans hxp26)
        subst hsz23
        refine W.widen (k := 0) (n := 0) (by omega) (by omega) ?_
        refine lv_iload_n hx hb dM_verify_49 rfl (lv_at hl 2 rfl) ?_
        refine mi_iadd hx hb dM_verify_50 ?_
        refine mi_ge (tgt := 58) hx hb dM_verify_51 (by decide) (by omega) (by omega) (fun h50 => ?_) (fun h50 => ?_)
        · replace hR := hR.trans (if_pos h50)
          replace hE := iteP_pos h50 hE
          refine lv_iconst (v := nI 0) hx hb dM_verify_58 (by decide) ?_
          refine nw_put (C := "LatticeKeysModel") (TT := T_M) (N := 14) hx hb hts (wg_ft i_M) ty_M k_M n_M hown hK hO hU k_h0 (kn := 148) (ci := 8) (fl := [(0, 0), (0, 0), (0, 0), (0, 0), (3, 149), (3, 150), (3, 151), (3, 152), (3, 161), (3, 170), (3, 171), (3, 172), (3, 184), (3, 225)]) rfl hP hD hS rfl 0 (by decide) (hts _ (wg_t kw_1526)) (fun _ h9 => h9) rfl (by decide +kernel) rfl dM_verify_59 (fun s37 pl H locs es37 hO hP hD hS => ?_)
          replace hR := bnd_step hR es37
          replace hE := bndP_step hE es37
          have hF := frm_sI hF es37 (by unfold M_M_verify; omega)
          have hf127 : s37.1 148 1 = nI tp := fc_ne hf123 es37 (by omega)
          have hf128 : s37.1 148 2 = nI rs := fc_ne hf124 es37 (by omega)
          have hf129 : s37.1 148 3 = nI ks := fc_ne hf125 es37 (by omega)
          have hf130 : s37.1 170 z22 = nI 5 := fc_ne hf126 es37 (by omega)
          have hf131 : s37.1 148 0 = nI 0 := fc_eq es37
          have hg65 : SETS ks (s37.1 170) := by rw [(ar_sI es37 (by omega))]; exact hg63
          have hg66 : HIDS ks (s37.1 171) := by rw [(ar_sI es37 (by omega))]; exact hg64
          refine lv_aload_n hx hb dM_verify_62 rfl (lv_at hl 0 rfl) ?_
          refine nw_get (C := "LatticeKeysModel") (TT := T_M) (N := 14) hx hb hts (wg_ft i_M) hown hK hO k_h0 (kn := 148) (ci := 8) (fl := [(0, 0), (0, 0), (0, 0), (0, 0), (3, 149), (3, 150), (3, 151), (3, 152), (3, 161), (3, 170), (3, 171), (3, 172), (3, 184), (3, 225)]) rfl hP rfl 0 (by decide) (hts _ (wg_t kw_1526)) (fun _ h9 => h9) (cd := (0, 0)) rfl dM_verify_63 (fun v52 hv56 => ?_)
          obtain rfl := (show v52 = .int (s37.1 148 0) from hv56)
          obtain ⟨z49, ez49, hz73, hz74⟩ := cl_of (b := 2147483648) hf131 (by omega) (by decide)
          replace hR := bnd_step hR ez49
          replace hE := bndP_step hE ez49
          refine mi_as hz73 ?_
          subst hz74
          refine lv_if_le (tgt := 71) hx hb dM_verify_66 (by decide) (fun h51 => ?_) (fun h51 => absurd h51 (by decide))
          refine lv_aload_n hx hb dM_verify_71 rfl (lv_at hl 0 rfl) ?_
          refine nw_get (C := "LatticeKeysModel") (TT := T_M) (N := 14) hx hb hts (wg_ft i_M) hown hK hO k_h0 (kn := 148) (ci := 8) (fl := [(0, 0), (0, 0), (0, 0), (0, 0), (3, 149), (3, 150), (3, 151), (3, 152), (3, 161), (3, 170), (3, 171), (3, 172), (3, 184), (3, 225)]) rfl hP rfl 13 (by decide) (hts _ (wg_t kw_1539)) (fun _ h9 => h9) (cd := (3, 225)) rfl dM_verify_72 (fun v53 hv57 => ?_)
          obtain ⟨r41, rfl, kr35⟩ := (show ∃ r : Nat, v53 = .ref r ∧ T r = some 225 from hv57)
          refine lv_aload_n hx hb dM_verify_75 rfl (lv_at hl 0 rfl) ?_
          refine nw_get (C := "LatticeKeysModel") (TT := T_M) (N := 14) hx hb hts (wg_ft i_M) hown hK hO k_h0 (kn := 148) (ci := 8) (fl := [(0, 0), (0, 0), (0, 0), (0, 0), (3, 149), (3, 150), (3, 151), (3, 152), (3, 161), (3, 170), (3, 171), (3, 172), (3, 184), (3, 225)]) rfl hP rfl 9 (by decide) (hts _ (wg_t kw_1535)) (fun _ h9 => h9) (cd := (3, 170)) rfl dM_verify_76 (fun v54 hv58 => ?_)
          obtain ⟨r42, rfl, kr36⟩ := (show ∃ r : Nat, v54 = .ref r ∧ T r = some 170 from hv58)
          refine lv_iload_n hx hb dM_verify_79 rfl (lv_at hl 1 rfl) ?_
          refine nw_iald hx hb hK hO kr36 (k := 170) rfl hP (by omega) (by omega) dM_verify_80 ?_
          refine mi_as hf130 ?_
          refine lv_iconst (v := nI 3) hx hb dM_verify_81 (by decide) ?_
          refine mi_isub hx hb dM_verify_82 (by omega) ?_
          refine mi_as (show nI (5 - 3) = nI 2 from rfl) ?_
          refine lv_aload_n hx hb dM_verify_83 rfl (lv_at hl 0 rfl) ?_
          refine nw_get (C := "LatticeKeysModel") (TT := T_M) (N := 14) hx hb hts (wg_ft i_M) hown hK hO k_h0 (kn := 148) (ci := 8) (fl := [(0, 0), (0, 0), (0, 0), (0, 0), (3, 149), (3, 150), (3, 151), (3, 152), (3, 161), (3, 170), (3, 171), (3, 172), (3, 184), (3, 225)]) rfl hP rfl 7 (by decide) (hts _ (wg_t kw_1533)) (fun _ h9 => h9) (cd := (3, 152)) rfl dM_verify_84 (fun v55 hv59 => ?_)
          obtain ⟨r43, rfl, kr37⟩ := (show ∃ r : Nat, v55 = .ref r ∧ T r = some 152 from hv59)
          refine lv_iload_n hx hb dM_verify_87 rfl (lv_at hl 1 rfl) ?_
          refine nw_aald4 hx hb hK hO kr37 (k := 152) (b := 153) rfl hP (by omega) (by omega) dM_verify_88 (fun r44 kr38 => ?_)
          have hn23 : nsp (153 + z22) = (1, 2592, []) := rows_okb 153 8 2592 (by decide) _ (by omega)
          refine lv_aload_n hx hb dM_verify_89 rfl (lv_at hl 0 rfl) ?_
          refine nw_get (C := "LatticeKeysModel") (TT := T_M) (N := 14) hx hb hts (wg_ft i_M) hown hK hO k_h0 (kn := 148) (ci := 8) (fl := [(0, 0), (0, 0), (0, 0), (0, 0), (3, 149), (3, 150), (3, 151), (3, 152), (3, 161), (3, 170), (3, 171), (3, 172), (3, 184), (3, 225)]) rfl hP rfl 4 (by decide) (hts _ (wg_t kw_1530)) (fun _ h9 => h9) (cd := (3, 149)) rfl dM_verify_90 (fun v56 hv60 => ?_)
          obtain ⟨r45, rfl, kr39⟩ := (show ∃ r : Nat, v56 = .ref r ∧ T r = some 149 from hv60)
          refine lv_iload_n hx hb dM_verify_93 rfl (lv_at hl 2 rfl) ?_
          refine lv_aload_n hx hb dM_verify_94 rfl (lv_at hl 0 rfl) ?_
          refine nw_get (C := "LatticeKeysModel") (TT := T_M) (N := 14) hx hb hts (wg_ft i_M) hown hK hO k_h0 (kn := 148) (ci := 8) (fl := [(0, 0), (0, 0), (0, 0), (0, 0), (3, 149), (3, 150), (3, 151), (3, 152), (3, 161), (3, 170), (3, 171), (3, 172), (3, 184), (3, 225)]) rfl hP rfl 1 (by decide) (hts _ (wg_t kw_1527)) (fun _ h9 => h9) (cd := (0, 0)) rfl dM_verify_95 (fun v57 hv61 => ?_)
          obtain rfl := (show v57 = .int (s37.1 148 1) from hv61)
          obtain ⟨z50, ez50, hz75, hz76⟩ := cl_of (b := 2147483648) hf127 (by omega) (by decide)
          replace hR := bnd_step hR ez50
          replace hE := bndP_step hE ez50
          refine mi_as hz75 ?_
          refine mp_i (cx := []) (wr := []) hP hD hS hA [] [] rfl rfl rfl (by decide) (va_runV (As := [.int (nI 2), .ref r44, .ref r45, .int (nI z46), .int (nI z50)]) (rest := []) F (N_MH_verify_2 l g _ T s37 pl hO hU r41 r44 r45 (153 + z22) 149 (nI z46) z50 kr35 kr38 hn23 kr39 rfl (by omega) (by omega) hE.1) (cwV 5 hts (wg_app (wg_c kw_1925 (wg_c kw_1926 (wg_c kw_1927 (wg_c kw_13 wg_n)))) kw_1928) rfl rfl rfl (by decide +kernel) ⟨by decide, by decide⟩) (pn_W "LatticeKeysModel$Hands" (en_ok g) (ci := 12) (kn := 225) (fl := [(3, 172), (3, 181), (3, 226), (3, 291), (3, 299), (3, 308), (3, 317), (3, 326), (3, 334), (3, 342), (3, 350), (3, 359), (3, 368), (3, 369), (3, 370), (3, 371), (3, 372), (3, 373), (3, 374), (3, 375), (3, 376), (3, 377), (3, 378), (0, 0), (0, 0), (0, 0), (0, 0), (0, 0), (0, 0), (0, 0), (0, 0)]) hK hO kr35 rfl hP hD hS hA hEn [] rfl rfl rfl) rfl rfl hl.1 rfl (lv_room (Nat.le_of_ble_eq_true rfl)) dM_verify_98 ⟨by omega, by omega⟩) (fun r46 u27 H locs hu27 hP hD hS => ?_)
          obtain ⟨q27, pl⟩ := u27
          obtain ⟨⟨eq27, rfl, hFc27, ⟨x27, hx_27, hb_27⟩, -⟩, hO⟩ := hu27
          have hO : okn g T q27.2 pl := hO
          have hP : va_P g.1 vcl ([] ++ pl) _ := hP
          have hD : va_D _ ([] ++ pl) := hD
          have hFc27 : frm (M_MH_verify_2) s37 q27.2 := hFc27
          have hb_27 : x27 < 2 := hb_27
          replace hE := hE.2
          replace hR := bnd_step hR eq27
          replace hE := bndP_step hE eq27
          have hF := frm_tr hF hFc27 (fun k hk => by unfold M_MH_verify_2 at hk; unfold M_M_verify; omega)
          have hf132 : q27.2.1 148 1 = nI tp := fc_F hf127 hFc27 (by unfold M_MH_verify_2; omega)
          have hf133 : q27.2.1 148 2 = nI rs := fc_F hf128 hFc27 (by unfold M_MH_verify_2; omega)
          have hf134 : q27.2.1 148 3 = nI ks := fc_F hf129 hFc27 (by unfold M_MH_verify_2; omega)
          have hf135 : q27.2.1 170 z22 = nI 5 := fc_F hf130 hFc27 (by unfold M_MH_verify_2; omega)
          have hf136 : q27.2.1 148 0 = nI 0 := fc_F hf131 hFc27 (by unfold M_MH_verify_2; omega)
          have hg67 : SETS ks (q27.2.1 170) := by rw [hFc27 170 (by unfold M_MH_verify_2; omega)]; exact hg65
          have hg68 : HIDS ks (q27.2.1 171) := by rw [hFc27 171 (by unfold M_MH_verify_2; omega)]; exact hg66
          obtain ⟨z51, ez51, hz77, hz78⟩ := cl_of (b := 2147483648) hx_27 (by omega) (by decide)
          replace hR := bnd_step hR ez51
          replace hE := bndP_step hE ez51
          refine mi_as hz77 ?_
          refine W.widen (k := 0) (n := 0) (by omega) (by omega) ?_
          refine lv_istore_n (lv' := [(3, .int (nI z51)), (0, .ref h0), (1, .int (nI z22)), (2, .int (nI z46))]) hx hb dM_verify_101 rfl hl (by decide) rfl (fun ls hl => ?_)
          refine lv_aload_n hx hb dM_verify_102 rfl (lv_at hl 1 rfl) ?_
          refine lv_iconst (v := nI 0) hx hb dM_verify_103 (by decide) ?_
          refine nw_put (C := "LatticeKeysModel") (TT := T_M) (N := 14) hx hb hts (wg_ft i_M) ty_M k_M n_M hown hK hO hU k_h0 (kn := 148) (ci := 8) (fl := [(0, 0), (0, 0), (0, 0), (0, 0), (3, 149), (3, 150), (3, 151), (3, 152), (3, 161), (3, 170), (3, 171), (3, 172), (3, 184), (3, 225)]) rfl hP hD hS rfl 1 (by decide) (hts _ (wg_t kw_1527)) (fun _ h9 => h9) rfl (by decide +kernel) rfl dM_verify_104 (fun s38 pl H locs es38 hO hP hD hS => ?_)
          replace hR := bnd_step hR es38
          replace hE := bndP_step hE es38
          have hF := frm_sI hF es38 (by unfold M_M_verify; omega)
          have hf138 : s38.1 148 2 = nI rs := fc_ne hf133 es38 (by omega)
          have hf139 : s38.1 148 3 = nI ks := fc_ne hf134 es38 (by omega)
          have hf140 : s38.1 170 z22 = nI 5 := fc_ne hf135 es38 (by omega)
          have hf141 : s38.1 148 0 = nI 0 := fc_ne hf136 es38 (by omega)
          have hf142 : s38.1 148 1 = nI 0 := fc_eq es38
          have hg69 : SETS ks (s38.1 170) := by rw [(ar_sI es38 (by omega))]; exact hg67
          have hg70 : HIDS ks (s38.1 171) := by rw [(ar_sI es38 (by omega))]; exact hg68
          refine lv_iload_n hx hb dM_verify_107 rfl (lv_at hl 0 rfl) ?_
          exact mp_zret hx hb hr hlk (nar_2 (by omega)) hP hD hS ((nI z51, s38), pl) ⟨⟨hR.symm, rfl, hF, ⟨0, hf142, by omega⟩, ⟨rs, hf138, by omega⟩, ⟨ks, hf139, by omega⟩, trivial⟩, hO⟩ [] rfl rfl rfl (by omega) (by omega) dM_verify_108
        · replace hR := hR.trans (if_neg (Nat.not_le.mpr h50))
          replace hE := iteP_neg (Nat.not_le.mpr h50) hE
          refine lv_iconst (v := nI 2) hx hb dM_verify_54 (by decide) ?_
          refine lv_goto (tgt := 59) hx hb dM_verify_55 (by decide) ?_
          refine nw_put (C := "LatticeKeysModel") (TT := T_M) (N := 14) hx hb hts (wg_ft i_M) ty_M k_M n_M hown hK hO hU k_h0 (kn := 148) (ci := 8) (fl := [(0, 0), (0, 0), (0, 0), (0, 0), (3, 149), (3, 150), (3, 151), (3, 152), (3, 161), (3, 170), (3, 171), (3, 172), (3, 184), (3, 225)]) rfl hP hD hS rfl 0 (by decide) (hts _ (wg_t kw_1526)) (fun _ h9 => h9) rfl (by decide +kernel) rfl dM_verify_59 (fun s39 pl H locs es39 hO hP hD hS => ?_)
          replace hR := bnd_step hR es39
          replace hE := bndP_step hE es39
          have hF := frm_sI hF es39 (by unfold M_M_verify; omega)
          have hf143 : s39.1 148 1 = nI tp := fc_ne hf123 es39 (by omega)
          have hf144 : s39.1 148 2 = nI rs := fc_ne hf124 es39 (by omega)
          have hf145 : s39.1 148 3 = nI ks := fc_ne hf125 es39 (by omega)
          have hf146 : s39.1 170 z22 = nI 5 := fc_ne hf126 es39 (by omega)
          have hf147 : s39.1 148 0 = nI 2 := fc_eq es39
          have hg71 : SETS ks (s39.1 170) := by rw [(ar_sI es39 (by omega))]; exact hg63
          have hg72 : HIDS ks (s39.1 171) := by rw [(ar_sI es39 (by omega))]; exact hg64
          refine lv_aload_n hx hb dM_verify_62 rfl (lv_at hl 0 rfl) ?_
          refine nw_get (C := "LatticeKeysModel") (TT := T_M) (N := 14) hx hb hts (wg_ft i_M) hown hK hO k_h0 (kn := 148) (ci := 8) (fl := [(0, 0), (0, 0), (0, 0), (0, 0), (3, 149), (3, 150), (3, 151), (3, 152), (3, 161), (3, 170), (3, 171), (3, 172), (3, 184), (3, 225)]) rfl hP rfl 0 (by decide) (hts _ (wg_t kw_1526)) (fun _ h9 => h9) (cd := (0, 0)) rfl dM_verify_63 (fun v58 hv62 => ?_)
          obtain rfl := (show v58 = .int (s39.1 148 0) from hv62)
          obtain ⟨z52, ez52, hz79, hz80⟩ := cl_of (b := 2147483648) hf147 (by omega) (by decide)
          replace hR := bnd_step hR ez52
          replace hE := bndP_step hE ez52
          refine mi_as hz79 ?_
          subst hz80
          refine lv_if_le (tgt := 71) hx hb dM_verify_66 (by decide) (fun h52 => absurd h52 (by decide)) (fun h52 => ?_)
          refine lv_iconst (v := nI 0) hx hb dM_verify_69 (by decide) ?_
          exact mp_zret hx hb hr hlk rfl hP hD hS ((nI 0, s39), pl) ⟨⟨hR.symm, rfl, hF, ⟨tp, hf143, by omega⟩, ⟨rs, hf144, by omega⟩, ⟨ks, hf145, by omega⟩, trivial⟩, hO⟩ [] rfl rfl rfl (by omega) (by omega) dM_verify_70
