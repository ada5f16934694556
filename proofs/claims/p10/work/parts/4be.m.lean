set_option linter.all false
abbrev c_M_open : ByteArray := prog_12_method_22_code
abbrev y_M_open : MethodName := ⟨"LatticeKeysModel", "open", "(I)I"⟩
abbrev w_M_open : List Cond := Cond.code y_M_open c_M_open 2 (some .int) :: WG
theorem dM_open_0 : decode c_M_open 0 = .ok (.aload_n 0, 1) := by decide +kernel
theorem dM_open_1 : decode c_M_open 1 = .ok (.iconst 0, 1) := by decide +kernel
theorem dM_open_2 : decode c_M_open 2 = .ok (.putfield 57, 3) := by decide +kernel
theorem dM_open_5 : decode c_M_open 5 = .ok (.aload_n 0, 1) := by decide +kernel
theorem dM_open_6 : decode c_M_open 6 = .ok (.iload_n 1, 1) := by decide +kernel
theorem dM_open_7 : decode c_M_open 7 = .ok (.invokevirtual 103, 3) := by decide +kernel
theorem dM_open_10 : decode c_M_open 10 = .ok (.ifCond .ne 22, 3) := by decide +kernel
theorem dM_open_13 : decode c_M_open 13 = .ok (.aload_n 0, 1) := by decide +kernel
theorem dM_open_14 : decode c_M_open 14 = .ok (.getfield 27, 3) := by decide +kernel
theorem dM_open_17 : decode c_M_open 17 = .ok (.iload_n 1, 1) := by decide +kernel
theorem dM_open_18 : decode c_M_open 18 = .ok (.iaload, 1) := by decide +kernel
theorem dM_open_19 : decode c_M_open 19 = .ok (.iconst 2, 1) := by decide +kernel
theorem dM_open_20 : decode c_M_open 20 = .ok (.if_icmp .gt 12, 3) := by decide +kernel
theorem dM_open_23 : decode c_M_open 23 = .ok (.aload_n 0, 1) := by decide +kernel
theorem dM_open_24 : decode c_M_open 24 = .ok (.getfield 31, 3) := by decide +kernel
theorem dM_open_27 : decode c_M_open 27 = .ok (.iload_n 1, 1) := by decide +kernel
theorem dM_open_28 : decode c_M_open 28 = .ok (.iaload, 1) := by decide +kernel
theorem dM_open_29 : decode c_M_open 29 = .ok (.ifCond .ne 9, 3) := by decide +kernel
theorem dM_open_32 : decode c_M_open 32 = .ok (.aload_n 0, 1) := by decide +kernel
theorem dM_open_33 : decode c_M_open 33 = .ok (.iconst 1, 1) := by decide +kernel
theorem dM_open_34 : decode c_M_open 34 = .ok (.invokevirtual 73, 3) := by decide +kernel
theorem dM_open_37 : decode c_M_open 37 = .ok (.ireturn, 1) := by decide +kernel
theorem dM_open_38 : decode c_M_open 38 = .ok (.aload_n 0, 1) := by decide +kernel
theorem dM_open_39 : decode c_M_open 39 = .ok (.getfield 70, 3) := by decide +kernel
theorem dM_open_42 : decode c_M_open 42 = .ok (.aload_n 0, 1) := by decide +kernel
theorem dM_open_43 : decode c_M_open 43 = .ok (.getfield 27, 3) := by decide +kernel
theorem dM_open_46 : decode c_M_open 46 = .ok (.iload_n 1, 1) := by decide +kernel
theorem dM_open_47 : decode c_M_open 47 = .ok (.iaload, 1) := by decide +kernel
theorem dM_open_48 : decode c_M_open 48 = .ok (.invokestatic 115, 3) := by decide +kernel
theorem dM_open_51 : decode c_M_open 51 = .ok (.if_icmp .eq 9, 3) := by decide +kernel
theorem dM_open_54 : decode c_M_open 54 = .ok (.aload_n 0, 1) := by decide +kernel
theorem dM_open_55 : decode c_M_open 55 = .ok (.iconst 2, 1) := by decide +kernel
theorem dM_open_56 : decode c_M_open 56 = .ok (.invokevirtual 73, 3) := by decide +kernel
theorem dM_open_59 : decode c_M_open 59 = .ok (.ireturn, 1) := by decide +kernel
theorem dM_open_60 : decode c_M_open 60 = .ok (.aload_n 0, 1) := by decide +kernel
theorem dM_open_61 : decode c_M_open 61 = .ok (.iconst 0, 1) := by decide +kernel
theorem dM_open_62 : decode c_M_open 62 = .ok (.putfield 70, 3) := by decide +kernel
theorem dM_open_65 : decode c_M_open 65 = .ok (.aload_n 0, 1) := by decide +kernel
theorem dM_open_66 : decode c_M_open 66 = .ok (.bipush 32, 2) := by decide +kernel
theorem dM_open_68 : decode c_M_open 68 = .ok (.putfield 80, 3) := by decide +kernel
theorem dM_open_71 : decode c_M_open 71 = .ok (.aload_n 0, 1) := by decide +kernel
theorem dM_open_72 : decode c_M_open 72 = .ok (.getfield 46, 3) := by decide +kernel
theorem dM_open_75 : decode c_M_open 75 = .ok (.aload_n 0, 1) := by decide +kernel
theorem dM_open_76 : decode c_M_open 76 = .ok (.getfield 27, 3) := by decide +kernel
theorem dM_open_79 : decode c_M_open 79 = .ok (.iload_n 1, 1) := by decide +kernel
theorem dM_open_80 : decode c_M_open 80 = .ok (.iaload, 1) := by decide +kernel
theorem dM_open_81 : decode c_M_open 81 = .ok (.aload_n 0, 1) := by decide +kernel
theorem dM_open_82 : decode c_M_open 82 = .ok (.getfield 24, 3) := by decide +kernel
theorem dM_open_85 : decode c_M_open 85 = .ok (.iload_n 1, 1) := by decide +kernel
theorem dM_open_86 : decode c_M_open 86 = .ok (.aaload, 1) := by decide +kernel
theorem dM_open_87 : decode c_M_open 87 = .ok (.aload_n 0, 1) := by decide +kernel
theorem dM_open_88 : decode c_M_open 88 = .ok (.getfield 7, 3) := by decide +kernel
theorem dM_open_91 : decode c_M_open 91 = .ok (.aload_n 0, 1) := by decide +kernel
theorem dM_open_92 : decode c_M_open 92 = .ok (.getfield 13, 3) := by decide +kernel
theorem dM_open_95 : decode c_M_open 95 = .ok (.invokevirtual 118, 3) := by decide +kernel
theorem dM_open_98 : decode c_M_open 98 = .ok (.aload_n 0, 1) := by decide +kernel
theorem dM_open_99 : decode c_M_open 99 = .ok (.getfield 80, 3) := by decide +kernel
theorem dM_open_102 : decode c_M_open 102 = .ok (.ireturn, 1) := by decide +kernel
def M_M_open (k : Nat) : Prop := (186 ≤ k ∧ k < 202) ∨ (203 ≤ k ∧ k < 207) ∨ (208 ≤ k ∧ k < 212) ∨ (213 ≤ k ∧ k < 217) ∨ k = 148 ∨ k = 150 ∨ k = 172 ∨ k = 217 ∨ k = 218 ∨ k = 219 ∨ k = 220 ∨ k = 221 ∨ k = 222 ∨ k = 223 ∨ k = 224 ∨ (0 : Nat) = 1
noncomputable def F_M_open (v : Int32) (s : Sto) : Int32 × Sto := bnd (sI s 148 0 (nI 0)) fun s21 => bnd (F_M_none v s21) fun q21 => if (q21.1) = 0 then bnd (v.toNatClampNeg) fun z21 => if (q21.2.1 170 z21) = nI 0 then bnd ((q21.2.1 171 z21).toNatClampNeg) fun z22 => if (nI z22) = 0 then bnd (F_M_fail (nI 1) q21.2) fun q25 => (q25.1, q25.2) else bnd ((q21.2.1 148 1).toNatClampNeg) fun z23 => bnd (F_ME_sealedSize_0  q21.2) fun q23 => bnd (q23.1.toNatClampNeg) fun z24 => if z23 = 768 then bnd (sI q23.2 148 1 (nI 0)) fun s22 => bnd (sI s22 148 2 (nI 32)) fun s23 => bnd (F_ME_open_0 (162 + z21) 149 150 s23) fun s24 => bnd ((s24.1 148 2).toNatClampNeg) fun z25 => (nI z25, s24) else bnd (F_M_fail (nI 2) q23.2) fun q24 => (q24.1, q24.2) else if (q21.2.1 170 z21) = nI 1 then bnd ((q21.2.1 171 z21).toNatClampNeg) fun z26 => if (nI z26) = 0 then bnd (F_M_fail (nI 1) q21.2) fun q28 => (q28.1, q28.2) else bnd ((q21.2.1 148 1).toNatClampNeg) fun z27 => bnd (F_ME_sealedSize_1  q21.2) fun q26 => bnd (q26.1.toNatClampNeg) fun z28 => if z27 = 1088 then bnd (sI q26.2 148 1 (nI 0)) fun s25 => bnd (sI s25 148 2 (nI 32)) fun s26 => bnd (F_ME_open_1 (162 + z21) 149 150 s26) fun s27 => bnd ((s27.1 148 2).toNatClampNeg) fun z29 => (nI z29, s27) else bnd (F_M_fail (nI 2) q26.2) fun q27 => (q27.1, q27.2) else if (q21.2.1 170 z21) = nI 2 then bnd ((q21.2.1 171 z21).toNatClampNeg) fun z30 => if (nI z30) = 0 then bnd (F_M_fail (nI 1) q21.2) fun q31 => (q31.1, q31.2) else bnd ((q21.2.1 148 1).toNatClampNeg) fun z31 => bnd (F_ME_sealedSize_2  q21.2) fun q29 => bnd (q29.1.toNatClampNeg) fun z32 => if z31 = 1568 then bnd (sI q29.2 148 1 (nI 0)) fun s28 => bnd (sI s28 148 2 (nI 32)) fun s29 => bnd (F_ME_open_2 (162 + z21) 149 150 s29) fun s30 => bnd ((s30.1 148 2).toNatClampNeg) fun z33 => (nI z33, s30) else bnd (F_M_fail (nI 2) q29.2) fun q30 => (q30.1, q30.2) else if (q21.2.1 170 z21) = nI 3 then bnd (F_M_fail (nI 1) q21.2) fun q32 => (q32.1, q32.2) else if (q21.2.1 170 z21) = nI 4 then bnd (F_M_fail (nI 1) q21.2) fun q33 => (q33.1, q33.2) else bnd (F_M_fail (nI 1) q21.2) fun q34 => (q34.1, q34.2) else bnd (F_M_fail (nI 1) q21.2) fun q22 => (q22.1, q22.2)
noncomputable def E_M_open (v : Int32) (s : Sto) : Prop := bnd (sI s 148 0 (nI 0)) fun s21 => bnd (F_M_none v s21) fun q21 => if (q21.1) = 0 then bnd (v.toNatClampNeg) fun z21 => if (q21.2.1 170 z21) = nI 0 then bnd ((q21.2.1 171 z21).toNatClampNeg) fun z22 => if (nI z22) = 0 then bnd (F_M_fail (nI 1) q21.2) fun q25 => True else bnd ((q21.2.1 148 1).toNatClampNeg) fun z23 => bnd (F_ME_sealedSize_0  q21.2) fun q23 => bnd (q23.1.toNatClampNeg) fun z24 => if z23 = 768 then bnd (sI q23.2 148 1 (nI 0)) fun s22 => bnd (sI s22 148 2 (nI 32)) fun s23 => (E_ME_open_0 (162 + z21) 149 150 s23) ∧ (bnd (F_ME_open_0 (162 + z21) 149 150 s23) fun s24 => bnd ((s24.1 148 2).toNatClampNeg) fun z25 => True) else bnd (F_M_fail (nI 2) q23.2) fun q24 => True else if (q21.2.1 170 z21) = nI 1 then bnd ((q21.2.1 171 z21).toNatClampNeg) fun z26 => if (nI z26) = 0 then bnd (F_M_fail (nI 1) q21.2) fun q28 => True else bnd ((q21.2.1 148 1).toNatClampNeg) fun z27 => bnd (F_ME_sealedSize_1  q21.2) fun q26 => bnd (q26.1.toNatClampNeg) fun z28 => if z27 = 1088 then bnd (sI q26.2 148 1 (nI 0)) fun s25 => bnd (sI s25 148 2 (nI 32)) fun s26 => (E_ME_open_1 (162 + z21) 149 150 s26) ∧ (bnd (F_ME_open_1 (162 + z21) 149 150 s26) fun s27 => bnd ((s27.1 148 2).toNatClampNeg) fun z29 => True) else bnd (F_M_fail (nI 2) q26.2) fun q27 => True else if (q21.2.1 170 z21) = nI 2 then bnd ((q21.2.1 171 z21).toNatClampNeg) fun z30 => if (nI z30) = 0 then bnd (F_M_fail (nI 1) q21.2) fun q31 => True else bnd ((q21.2.1 148 1).toNatClampNeg) fun z31 => bnd (F_ME_sealedSize_2  q21.2) fun q29 => bnd (q29.1.toNatClampNeg) fun z32 => if z31 = 1568 then bnd (sI q29.2 148 1 (nI 0)) fun s28 => bnd (sI s28 148 2 (nI 32)) fun s29 => (E_ME_open_2 (162 + z21) 149 150 s29) ∧ (bnd (F_ME_open_2 (162 + z21) 149 150 s29) fun s30 => bnd ((s30.1 148 2).toNatClampNeg) fun z33 => True) else bnd (F_M_fail (nI 2) q29.2) fun q30 => True else if (q21.2.1 170 z21) = nI 3 then bnd (F_M_fail (nI 1) q21.2) fun q32 => True else if (q21.2.1 170 z21) = nI 4 then bnd (F_M_fail (nI 1) q21.2) fun q33 => True else bnd (F_M_fail (nI 1) q21.2) fun q34 => True else bnd (F_M_fail (nI 1) q21.2) fun q22 => True
set_option maxHeartbeats 2000000 in
set_option maxRecDepth 100000 in
theorem N_M_open (l : Launch) (g : Gd) (sz : Nat) (T : TyN) (s : Sto) (pl : va_W) (hO : okn g T s pl) (hU : inj T) (h0 : Nat) (v : Int32) (tp : Nat) (rs : Nat) (ks : Nat) (k_h0 : T h0 = some 148) (e_tp : s.1 148 1 = nI tp) (e_rs : s.1 148 2 = nI rs) (e_ks : s.1 148 3 = nI ks) (h1 : tp ≤ 16384) (h2 : rs ≤ 8192) (h3 : ks ≤ 8) (qst : SETS ks (s.1 170)) (qhd : HIDS ks (s.1 171)) (hE : E_M_open v s)  : Met l y_M_open w_M_open ({ frames := 7, cells := 0, slots := 0, locals := 174 } : Room) (va_Pc [.ref h0, .int v] (pr (en g) g.1 vcl sz ([] ++ pl))) (va_Qi (fun (r : Int32) (u : (Int32 × Sto) × va_W) => (u.1 = F_M_open v s ∧ r = u.1.1 ∧ frm (M_M_open) s u.1.2 ∧ (∃ x : Nat, u.1.2.1 148 1 = nI x ∧ x ≤ 16384) ∧ (∃ x : Nat, u.1.2.1 148 2 = nI x ∧ x ≤ 8192) ∧ (∃ x : Nat, u.1.2.1 148 3 = nI x ∧ x ≤ 8) ∧ True) ∧ okn g T u.1.2 u.2) (po g.1 vcl (va_A ([] ++ pl) sz) (fun (u : (Int32 × Sto) × va_W) => [] ++ u.2)) (va_A ([] ++ pl) sz)) 0 0 (va_A ([] ++ pl) sz) := by
  refine mc_entry (cc := c_M_open) (maxL := 2) (ret := (some .int)) (by decide) rfl (Nat.le_of_ble_eq_true rfl) ?_
  intro p e s0 m args below meth c ls F hr hlk hnm hsz hP hD hEn hA hl
  obtain ⟨hx, hb, hml, hown, hts⟩ := id F
  have hK := hEn.1
  generalize va_A ([] ++ pl) sz = A at hD hEn hA ⊢
  have hS : va_S A s0.heap s0.heap [] := va_S.rf
  have hl : lv_has ls 2 [(0, .ref h0), (1, .int v)] := hl
  have hR : F_M_open v s = F_M_open v s := rfl
  have hF : frm (M_M_open) s s := frm_rf
  refine lv_aload_n hx hb dM_open_0 rfl (lv_at hl 0 rfl) ?_
  refine lv_iconst (v := nI 0) hx hb dM_open_1 (by decide) ?_
  refine nw_put (C := "LatticeKeysModel") (TT := T_M) (N := 14) hx hb hts (wg_ft i_M) ty_M k_M n_M hown hK hO hU k_h0 (kn := 148) (ci := 8) (fl := [(0, 0), (0, 0), (0, 0), (0, 0), (3, 149), (3, 150), (3, 151), (3, 152), (3, 161), (3, 170), (3, 171), (3, 172), (3, 184), (3, 225)]) rfl hP hD hS rfl 0 (by decide) (hts _ (wg_t kw_1526)) (fun _ h9 => h9) rfl (by decide +kernel) rfl dM_open_2 (fun s21 pl H locs es21 hO hP hD hS => ?_)
  replace hR := bnd_step hR es21
  replace hE := bndP_step hE es21
  have hF := frm_sI hF es21 (by unfold M_M_open; omega)
  have hf21 : s21.1 148 1 = nI tp := fc_ne e_tp es21 (by omega)
  have hf22 : s21.1 148 2 = nI rs := fc_ne e_rs es21 (by omega)
  have hf23 : s21.1 148 3 = nI ks := fc_ne e_ks es21 (by omega)
  have hf24 : s21.1 148 0 = nI 0 := fc_eq es21
  have hg21 : SETS ks (s21.1 170) := by rw [(ar_sI es21 (by omega))]; exact qst
  have hg22 : HIDS ks (s21.1 171) := by rw [(ar_sI es21 (by omega))]; exact qhd
  refine lv_aload_n hx hb dM_open_5 rfl (lv_at hl 0 rfl) ?_
  refine lv_iload_n hx hb dM_open_6 rfl (lv_at hl 1 rfl) ?_
  refine mp_i (cx := []) (wr := []) hP hD hS hA [] [] rfl rfl rfl (by decide) (va_runV (As := [.int v]) (rest := []) F (N_M_none l g _ T s21 pl hO hU h0 v tp rs ks k_h0 hf21 hf22 hf23 (by omega)) (cwV 1 hts (wg_app (wg_c kw_1781 (wg_c kw_1783 (wg_c ks_65 (wg_c kw_9 wg_n)))) kw_1784) rfl rfl rfl (by decide +kernel) ⟨by decide, by decide⟩) (pn_W "LatticeKeysModel" (en_ok g) (ci := 8) (kn := 148) (fl := [(0, 0), (0, 0), (0, 0), (0, 0), (3, 149), (3, 150), (3, 151), (3, 152), (3, 161), (3, 170), (3, 171), (3, 172), (3, 184), (3, 225)]) hK hO k_h0 rfl hP hD hS hA hEn [] rfl rfl rfl) rfl rfl hl.1 rfl (lv_room (Nat.le_of_ble_eq_true rfl)) dM_open_7 ⟨by omega, by omega⟩) (fun r21 u21 H locs hu21 hP hD hS => ?_)
  obtain ⟨q21, pl⟩ := u21
  obtain ⟨⟨eq21, rfl, hFc21, hxp21, -⟩, hO⟩ := hu21
  have hO : okn g T q21.2 pl := hO
  have hP : va_P g.1 vcl ([] ++ pl) _ := hP
  have hD : va_D _ ([] ++ pl) := hD
  have hFc21 : frm (M_M_none) s21 q21.2 := hFc21
  replace hR := bnd_step hR eq21
  replace hE := bndP_step hE eq21
  have hF := frm_tr hF hFc21 (fun k hk => by unfold M_M_none at hk; unfold M_M_open; omega)
  have hf25 : q21.2.1 148 1 = nI tp := fc_F hf21 hFc21 (by unfold M_M_none; omega)
  have hf26 : q21.2.1 148 2 = nI rs := fc_F hf22 hFc21 (by unfold M_M_none; omega)
  have hf27 : q21.2.1 148 3 = nI ks := fc_F hf23 hFc21 (by unfold M_M_none; omega)
  have hf28 : q21.2.1 148 0 = nI 0 := fc_F hf24 hFc21 (by unfold M_M_none; omega)
  have hg23 : SETS ks (q21.2.1 170) := by rw [hFc21 170 (by unfold M_M_none; omega)]; exact hg21
  have hg24 : HIDS ks (q21.2.1 171) := by rw [hFc21 171 (by unfold M_M_none; omega)]; exact hg22
  refine W.widen (k := 0) (n := 0) (by omega) (by omega) ?_
  refine lv_if_ne (tgt := 32) hx hb dM_open_10 (by decide) (fun h21 => ?_) (fun h21 => ?_)
  · replace hR := hR.trans (if_neg h21)
    replace hE := iteP_neg h21 hE
    refine lv_aload_n hx hb dM_open_32 rfl (lv_at hl 0 rfl) ?_
    refine lv_iconst (v := nI 1) hx hb dM_open_33 (by decide) ?_
    refine mp_i (cx := []) (wr := []) hP hD hS hA [] [] rfl rfl rfl (by decide) (va_runV (As := [.int (nI 1)]) (rest := []) F (N_M_fail l g _ T q21.2 pl hO hU h0 (nI 1) tp rs ks k_h0 hf25 hf26 hf27) (cwV 1 hts (wg_app (wg_c kw_1577 (wg_c kw_1579 (wg_c ks_50 (wg_c kw_9 wg_n)))) kw_1580) rfl rfl rfl (by decide +kernel) ⟨by decide, by decide⟩) (pn_W "LatticeKeysModel" (en_ok g) (ci := 8) (kn := 148) (fl := [(0, 0), (0, 0), (0, 0), (0, 0), (3, 149), (3, 150), (3, 151), (3, 152), (3, 161), (3, 170), (3, 171), (3, 172), (3, 184), (3, 225)]) hK hO k_h0 rfl hP hD hS hA hEn [] rfl rfl rfl) rfl rfl hl.1 rfl (lv_room (Nat.le_of_ble_eq_true rfl)) dM_open_34 ⟨by omega, by omega⟩) (fun r22 u22 H locs hu22 hP hD hS => ?_)
    obtain ⟨q22, pl⟩ := u22
    obtain ⟨⟨eq22, rfl, hFc22, ⟨x22, hx_22, hb_22⟩, ⟨x23, hx_23, hb_23⟩, ⟨x24, hx_24, hb_24⟩, -⟩, hO⟩ := hu22
    have hO : okn g T q22.2 pl := hO
    have hP : va_P g.1 vcl ([] ++ pl) _ := hP
    have hD : va_D _ ([] ++ pl) := hD
    have hFc22 : frm (M_M_fail) q21.2 q22.2 := hFc22
    have hb_22 : x22 = tp := hb_22
    have hb_23 : x23 = rs := hb_23
    have hb_24 : x24 = ks := hb_24
    replace hR := bnd_step hR eq22
    replace hE := bndP_step hE eq22
    have hF := frm_tr hF hFc22 (fun k hk => by unfold M_M_fail at hk; unfold M_M_open; omega)
    have hg25 : SETS ks (q22.2.1 170) := by rw [hFc22 170 (by unfold M_M_fail; omega)]; exact hg23
    have hg26 : HIDS ks (q22.2.1 171) := by rw [hFc22 171 (by unfold M_M_fail; omega)]; exact hg24
    refine W.widen (k := 0) (n := 0) (by omega) (by omega) ?_
    exact mp_iret hx hb hr hlk hP hD hS ((q22.1, q22.2), pl) ⟨⟨hR.symm, rfl, hF, ⟨x22, hx_22, by omega⟩, ⟨x23, hx_23, by omega⟩, ⟨x24, hx_24, by omega⟩, trivial⟩, hO⟩ [] rfl rfl rfl (by omega) (by omega) dM_open_37
  · replace hR := hR.trans (if_pos h21)
    replace hE := iteP_pos h21 hE
    obtain ⟨z21, hz21, hv21⟩ := (hxp21.resolve_left (fun h9 => absurd (h9.symm.trans h21) (by decide))).2
    have ez21 : z21 = v.toNatClampNeg := by rw [hv21]; exact (nI_clamp (by omega)).symm
    replace hR := bnd_step hR ez21
    replace hE := bndP_step hE ez21
    rw [hv21] at hl
    refine lv_aload_n hx hb dM_open_13 rfl (lv_at hl 0 rfl) ?_
    refine nw_get (C := "LatticeKeysModel") (TT := T_M) (N := 14) hx hb hts (wg_ft i_M) hown hK hO k_h0 (kn := 148) (ci := 8) (fl := [(0, 0), (0, 0), (0, 0), (0, 0), (3, 149), (3, 150), (3, 151), (3, 152), (3, 161), (3, 170), (3, 171), (3, 172), (3, 184), (3, 225)]) rfl hP rfl 9 (by decide) (hts _ (wg_t kw_1535)) (fun _ h9 => h9) (cd := (3, 170)) rfl dM_open_14 (fun v21 hv22 => ?_)
    obtain ⟨r23, rfl, kr21⟩ := (show ∃ r : Nat, v21 = .ref r ∧ T r = some 170 from hv22)
    refine lv_iload_n hx hb dM_open_17 rfl (lv_at hl 1 rfl) ?_
    refine nw_iald hx hb hK hO kr21 (k := 170) rfl hP (by omega) (by omega) dM_open_18 ?_
    by_cases hs21 : (q21.2.1 170 z21) = nI 0
    · replace hR := hR.trans (if_pos hs21)
      replace hE := iteP_pos hs21 hE
      refine mi_as hs21 ?_
      refine lv_iconst (v := nI 2) hx hb dM_open_19 (by decide) ?_
      refine mi_gt (tgt := 32) hx hb dM_open_20 (by decide) (by omega) (by omega) (fun h22 => absurd h22 (by omega)) (fun h22 => ?_)
      refine lv_aload_n hx hb dM_open_23 rfl (lv_at hl 0 rfl) ?_
      refine nw_get (C := "LatticeKeysModel") (TT := T_M) (N := 14) hx hb hts (wg_ft i_M) hown hK hO k_h0 (kn := 148) (ci := 8) (fl := [(0, 0), (0, 0), (0, 0), (0, 0), (3, 149), (3, 150), (3, 151), (3, 152), (3, 161), (3, 170), (3, 171), (3, 172), (3, 184), (3, 225)]) rfl hP rfl 10 (by decide) (hts _ (wg_t kw_1536)) (fun _ h9 => h9) (cd := (3, 171)) rfl dM_open_24 (fun v22 hv23 => ?_)
      obtain ⟨r24, rfl, kr22⟩ := (show ∃ r : Nat, v22 = .ref r ∧ T r = some 171 from hv23)
      refine lv_iload_n hx hb dM_open_27 rfl (lv_at hl 1 rfl) ?_
      refine nw_iald hx hb hK hO kr22 (k := 171) rfl hP (by omega) (by omega) dM_open_28 ?_
      obtain ⟨c21, hc21, hb21⟩ := hg24 z21 (by omega)
      obtain ⟨z22, ez22, hz22, hz23⟩ := cl_of (b := 2147483648) hc21 (by omega) (by decide)
      replace hR := bnd_step hR ez22
      replace hE := bndP_step hE ez22
      refine mi_as hz22 ?_
      refine lv_if_ne (tgt := 38) hx hb dM_open_29 (by decide) (fun h23 => ?_) (fun h23 => ?_)
      · replace hR := hR.trans (if_neg h23)
        replace hE := iteP_neg h23 hE
        refine lv_aload_n hx hb dM_open_38 rfl (lv_at hl 0 rfl) ?_
        refine nw_get (C := "LatticeKeysModel") (TT := T_M) (N := 14) hx hb hts (wg_ft i_M) hown hK hO k_h0 (kn := 148) (ci := 8) (fl := [(0, 0), (0, 0), (0, 0), (0, 0), (3, 149), (3, 150), (3, 151), (3, 152), (3, 161), (3, 170), (3, 171), (3, 172), (3, 184), (3, 225)]) rfl hP rfl 1 (by decide) (hts _ (wg_t kw_1527)) (fun _ h9 => h9) (cd := (0, 0)) rfl dM_open_39 (fun v23 hv24 => ?_)
        obtain rfl := (show v23 = .int (q21.2.1 148 1) from hv24)
        obtain ⟨z23, ez23, hz24, hz25⟩ := cl_of (b := 2147483648) hf25 (by omega) (by decide)
        replace hR := bnd_step hR ez23
        replace hE := bndP_step hE ez23
        refine mi_as hz24 ?_
        refine lv_aload_n hx hb dM_open_42 rfl (lv_at hl 0 rfl) ?_
        refine nw_get (C := "LatticeKeysModel") (TT := T_M) (N := 14) hx hb hts (wg_ft i_M) hown hK hO k_h0 (kn := 148) (ci := 8) (fl := [(0, 0), (0, 0), (0, 0), (0, 0), (3, 149), (3, 150), (3, 151), (3, 152), (3, 161), (3, 170), (3, 171), (3, 172), (3, 184), (3, 225)]) rfl hP rfl 9 (by decide) (hts _ (wg_t kw_1535)) (fun _ h9 => h9) (cd := (3, 170)) rfl dM_open_43 (fun v24 hv25 => ?_)
        obtain ⟨r25, rfl, kr23⟩ := (show ∃ r : Nat, v24 = .ref r ∧ T r = some 170 from hv25)
        refine lv_iload_n hx hb dM_open_46 rfl (lv_at hl 1 rfl) ?_
        refine nw_iald hx hb hK hO kr23 (k := 170) rfl hP (by omega) (by omega) dM_open_47 ?_
        refine mi_as hs21 ?_
        refine mp_i (cx := []) (wr := []) hP hD hS hA [] [] rfl rfl rfl (by decide) (va_runS (As := [.int (nI 0)]) (rest := [.int (nI z23)]) F (N_ME_sealedSize_0 l g _ T q21.2 pl hO hU ) (va_cwS 1 hts (wg_app (wg_c kw_1847 (wg_c kw_1841 (wg_c kw_11 wg_n))) kw_1842) rfl rfl rfl (by decide +kernel) ⟨by decide, by decide⟩) (pp_S (en_ok g) hP hD hS hA hEn [] rfl rfl) rfl rfl hl.1 rfl (lv_room (Nat.le_of_ble_eq_true rfl)) dM_open_48 ⟨by omega, by omega⟩) (fun r26 u23 H locs hu23 hP hD hS => ?_)
        obtain ⟨q23, pl⟩ := u23
        obtain ⟨⟨eq23, rfl, hFc23, ⟨x26, hx_26, hb_26⟩, hxp23, -⟩, hO⟩ := hu23
        have hO : okn g T q23.2 pl := hO
        have hP : va_P g.1 vcl ([] ++ pl) _ := hP
        have hD : va_D _ ([] ++ pl) := hD
        have hFc23 : frm (M_ME_sealedSize_0) q21.2 q23.2 := hFc23
        have hb_26 : x26 < 769 := hb_26
        replace hR := bnd_step hR eq23
        replace hE := bndP_step hE eq23
        have hF := frm_tr hF hFc23 (fun k hk => by unfold M_ME_sealedSize_0 at hk; unfold M_M_open; omega)
        have hf29 : q23.2.1 148 1 = nI tp := fc_F hf25 hFc23 (by unfold M_ME_sealedSize_0; omega)
        have hf30 : q23.2.1 148 2 = nI rs := fc_F hf26 hFc23 (by unfold M_ME_sealedSize_0; omega)
        have hf31 : q23.2.1 148 3 = nI ks := fc_F hf27 hFc23 (by unfold M_ME_sealedSize_0; omega)
        have hf32 : q23.2.1 148 0 = nI 0 := fc_F hf28 hFc23 (by unfold M_ME_sealedSize_0; omega)
        have hf33 : q23.2.1 170 z21 = nI 0 := fc_F hs21 hFc23 (by unfold M_ME_sealedSize_0; omega)
        have hf34 : q23.2.1 171 z21 = nI z22 := fc_F hz22 hFc23 (by unfold M_ME_sealedSize_0; omega)
        have hg27 : SETS ks (q23.2.1 170) := by rw [hFc23 170 (by unfold M_ME_sealedSize_0; omega)]; exact hg23
        have hg28 : HIDS ks (q23.2.1 171) := by rw [hFc23 171 (by unfold M_ME_sealedSize_0; omega)]; exact hg24
        obtain ⟨z24, ez24, hz26, hz27⟩ := cl_of (b := 2147483648) hx_26 (by omega) (by decide)
        replace hR := bnd_step hR ez24
        replace hE := bndP_step hE ez24
        refine mi_as hz26 ?_
        have hsz21 : z24 = 768 := (nI_eq (by omega) (by omega)).mp (hz26.symm.trans hxp23)
        subst hsz21
        refine W.widen (k := 0) (n := 0) (by omega) (by omega) ?_
        refine mi_eq (tgt := 60) hx hb dM_open_51 (by decide) (by omega) (by omega) (fun h24 => ?_) (fun h24 => ?_)
        · replace hR := hR.trans (if_pos h24)
          replace hE := iteP_pos h24 hE
          refine lv_aload_n hx hb dM_open_60 rfl (lv_at hl 0 rfl) ?_
          refine lv_iconst (v := nI 0) hx hb dM_open_61 (by decide) ?_
          refine nw_put (C := "LatticeKeysModel") (TT := T_M) (N := 14) hx hb hts (wg_ft i_M) ty_M k_M n_M hown hK hO hU k_h0 (kn := 148) (ci := 8) (fl := [(0, 0), (0, 0), (0, 0), (0, 0), (3, 149), (3, 150), (3, 151), (3, 152), (3, 161), (3, 170), (3, 171), (3, 172), (3, 184), (3, 225)]) rfl hP hD hS rfl 1 (by decide) (hts _ (wg_t kw_1527)) (fun _ h9 => h9) rfl (by decide +kernel) rfl dM_open_62 (fun s22 pl H locs es22 hO hP hD hS => ?_)
          replace hR := bnd_step hR es22
          replace hE := bndP_step hE es22
          have hF := frm_sI hF es22 (by unfold M_M_open; omega)
          have hf36 : s22.1 148 2 = nI rs := fc_ne hf30 es22 (by omega)
          have hf37 : s22.1 148 3 = nI ks := fc_ne hf31 es22 (by omega)
          have hf38 : s22.1 148 0 = nI 0 := fc_ne hf32 es22 (by omega)
          have hf39 : s22.1 170 z21 = nI 0 := fc_ne hf33 es22 (by omega)
          have hf40 : s22.1 171 z21 = nI z22 := fc_ne hf34 es22 (by omega)
          have hf41 : s22.1 148 1 = nI 0 := fc_eq es22
          have hg29 : SETS ks (s22.1 170) := by rw [(ar_sI es22 (by omega))]; exact hg27
          have hg30 : HIDS ks (s22.1 171) := by rw [(ar_sI es22 (by omega))]; exact hg28
          refine lv_aload_n hx hb dM_open_65 rfl (lv_at hl 0 rfl) ?_
          refine lv_bipush (v := nI 32) hx hb dM_open_66 (by decide) ?_
          refine nw_put (C := "LatticeKeysModel") (TT := T_M) (N := 14) hx hb hts (wg_ft i_M) ty_M k_M n_M hown hK hO hU k_h0 (kn := 148) (ci := 8) (fl := [(0, 0), (0, 0), (0, 0), (0, 0), (3, 149), (3, 150), (3, 151), (3, 152), (3, 161), (3, 170), (3, 171), (3, 172), (3, 184), (3, 225)]) rfl hP hD hS rfl 2 (by decide) (hts _ (wg_t kw_1528)) (fun _ h9 => h9) rfl (by decide +kernel) rfl dM_open_68 (fun s23 pl H locs es23 hO hP hD hS => ?_)
          replace hR := bnd_step hR es23
          replace hE := bndP_step hE es23
          have hF := frm_sI hF es23 (by unfold M_M_open; omega)
          have hf43 : s23.1 148 3 = nI ks := fc_ne hf37 es23 (by omega)
          have hf44 : s23.1 148 0 = nI 0 := fc_ne hf38 es23 (by omega)
          have hf45 : s23.1 170 z21 = nI 0 := fc_ne hf39 es23 (by omega)
          have hf46 : s23.1 171 z21 = nI z22 := fc_ne hf40 es23 (by omega)
          have hf47 : s23.1 148 1 = nI 0 := fc_ne hf41 es23 (by omega)
          have hf48 : s23.1 148 2 = nI 32 := fc_eq es23
          have hg31 : SETS ks (s23.1 170) := by rw [(ar_sI es23 (by omega))]; exact hg29
          have hg32 : HIDS ks (s23.1 171) := by rw [(ar_sI es23 (by omega))]; exact hg30
          refine lv_aload_n hx hb dM_open_71 rfl (lv_at hl 0 rfl) ?_
          refine nw_get (C := "LatticeKeysModel") (TT := T_M) (N := 14) hx hb hts (wg_ft i_M) hown hK hO k_h0 (kn := 148) (ci := 8) (fl := [(0, 0), (0, 0), (0, 0), (0, 0), (3, 149), (3, 150), (3, 151), (3, 152), (3, 161), (3, 170), (3, 171), (3, 172), (3, 184), (3, 225)]) rfl hP rfl 12 (by decide) (hts _ (wg_t kw_1538)) (fun _ h9 => h9) (cd := (3, 184)) rfl dM_open_72 (fun v25 hv26 => ?_)
          obtain ⟨r27, rfl, kr24⟩ := (show ∃ r : Nat, v25 = .ref r ∧ T r = some 184 from hv26)
          refine lv_aload_n hx hb dM_open_75 rfl (lv_at hl 0 rfl) ?_
          refine nw_get (C := "LatticeKeysModel") (TT := T_M) (N := 14) hx hb hts (wg_ft i_M) hown hK hO k_h0 (kn := 148) (ci := 8) (fl := [(0, 0), (0, 0), (0, 0), (0, 0), (3, 149), (3, 150), (3, 151), (3, 152), (3, 161), (3, 170), (3, 171), (3, 172), (3, 184), (3, 225)]) rfl hP rfl 9 (by decide) (hts _ (wg_t kw_1535)) (fun _ h9 => h9) (cd := (3, 170)) rfl dM_open_76 (fun v26 hv27 => ?_)
          obtain ⟨r28, rfl, kr25⟩ := (show ∃ r : Nat, v26 = .ref r ∧ T r = some 170 from hv27)
          refine lv_iload_n hx hb dM_open_79 rfl (lv_at hl 1 rfl) ?_
          refine nw_iald hx hb hK hO kr25 (k := 170) rfl hP (by omega) (by omega) dM_open_80 ?_
          refine mi_as hf45 ?_
          refine lv_aload_n hx hb dM_open_81 rfl (lv_at hl 0 rfl) ?_
          refine nw_get (C := "LatticeKeysModel") (TT := T_M) (N := 14) hx hb hts (wg_ft i_M) hown hK hO k_h0 (kn := 148) (ci := 8) (fl := [(0, 0), (0, 0), (0, 0), (0, 0), (3, 149), (3, 150), (3, 151), (3, 152), (3, 161), (3, 170), (3, 171), (3, 172), (3, 184), (3, 225)]) rfl hP rfl 8 (by decide) (hts _ (wg_t kw_1534)) (fun _ h9 => h9) (cd := (3, 161)) rfl dM_open_82 (fun v27 hv28 => ?_)
          obtain ⟨r29, rfl, kr26⟩ := (show ∃ r : Nat, v27 = .ref r ∧ T r = some 161 from hv28)
          refine lv_iload_n hx hb dM_open_85 rfl (lv_at hl 1 rfl) ?_
          refine nw_aald4 hx hb hK hO kr26 (k := 161) (b := 162) rfl hP (by omega) (by omega) dM_open_86 (fun r30 kr27 => ?_)
          have hn21 : nsp (162 + z21) = (1, 4896, []) := rows_okb 162 8 4896 (by decide) _ (by omega)
          refine lv_aload_n hx hb dM_open_87 rfl (lv_at hl 0 rfl) ?_
          refine nw_get (C := "LatticeKeysModel") (TT := T_M) (N := 14) hx hb hts (wg_ft i_M) hown hK hO k_h0 (kn := 148) (ci := 8) (fl := [(0, 0), (0, 0), (0, 0), (0, 0), (3, 149), (3, 150), (3, 151), (3, 152), (3, 161), (3, 170), (3, 171), (3, 172), (3, 184), (3, 225)]) rfl hP rfl 4 (by decide) (hts _ (wg_t kw_1530)) (fun _ h9 => h9) (cd := (3, 149)) rfl dM_open_88 (fun v28 hv29 => ?_)
          obtain ⟨r31, rfl, kr28⟩ := (show ∃ r : Nat, v28 = .ref r ∧ T r = some 149 from hv29)
          refine lv_aload_n hx hb dM_open_91 rfl (lv_at hl 0 rfl) ?_
          refine nw_get (C := "LatticeKeysModel") (TT := T_M) (N := 14) hx hb hts (wg_ft i_M) hown hK hO k_h0 (kn := 148) (ci := 8) (fl := [(0, 0), (0, 0), (0, 0), (0, 0), (3, 149), (3, 150), (3, 151), (3, 152), (3, 161), (3, 170), (3, 171), (3, 172), (3, 184), (3, 225)]) rfl hP rfl 5 (by decide) (hts _ (wg_t kw_1531)) (fun _ h9 => h9) (cd := (3, 150)) rfl dM_open_92 (fun v29 hv30 => ?_)
          obtain ⟨r32, rfl, kr29⟩ := (show ∃ r : Nat, v29 = .ref r ∧ T r = some 150 from hv30)
          refine mp_v (cx := []) (wr := []) hP hD hS hA [] [] rfl rfl rfl (by decide) (va_runV (As := [.int (nI 0), .ref r30, .ref r31, .ref r32]) (rest := []) F (N_ME_open_0 l g _ T s23 pl hO hU r27 r30 r31 r32 (162 + z21) 149 150 kr24 kr27 hn21 kr28 rfl kr29 rfl hE.1) (cwV 4 hts (wg_app (wg_c kw_1848 (wg_c kw_1849 (wg_c kw_1850 (wg_c kw_11 wg_n)))) kw_1851) rfl rfl rfl (by decide +kernel) ⟨by decide, by decide⟩) (pn_W "LatticeKeysModel$Secrets" (en_ok g) (ci := 11) (kn := 184) (fl := [(3, 172), (3, 178), (3, 185), (3, 202), (3, 207), (3, 212), (3, 217), (3, 218), (3, 219), (3, 220), (3, 221), (3, 222), (3, 223), (3, 224)]) hK hO kr24 rfl hP hD hS hA hEn [] rfl rfl rfl) rfl rfl hl.1 rfl (lv_room (Nat.le_of_ble_eq_true rfl)) dM_open_95 ⟨by omega, by omega⟩) (fun  u24 H locs hu24 hP hD hS => ?_)
          obtain ⟨s24, pl⟩ := u24
          obtain ⟨⟨eq24, hFc24, -⟩, hO⟩ := hu24
          have hO : okn g T s24 pl := hO
          have hP : va_P g.1 vcl ([] ++ pl) _ := hP
          have hD : va_D _ ([] ++ pl) := hD
          have hFc24 : frm (M_ME_open_0 150) s23 s24 := hFc24
          replace hE := hE.2
          replace hR := bnd_step hR eq24
          replace hE := bndP_step hE eq24
          have hF := frm_tr hF hFc24 (fun k hk => by unfold M_ME_open_0 at hk; unfold M_M_open; omega)
          have hf49 : s24.1 148 3 = nI ks := fc_F hf43 hFc24 (by unfold M_ME_open_0; omega)
          have hf50 : s24.1 148 0 = nI 0 := fc_F hf44 hFc24 (by unfold M_ME_open_0; omega)
          have hf51 : s24.1 170 z21 = nI 0 := fc_F hf45 hFc24 (by unfold M_ME_open_0; omega)
          have hf52 : s24.1 171 z21 = nI z22 := fc_F hf46 hFc24 (by unfold M_ME_open_0; omega)
          have hf53 : s24.1 148 1 = nI 0 := fc_F hf47 hFc24 (by unfold M_ME_open_0; omega)
          have hf54 : s24.1 148 2 = nI 32 := fc_F hf48 hFc24 (by unfold M_ME_open_0; omega)
          have hg33 : SETS ks (s24.1 170) := by rw [hFc24 170 (by unfold M_ME_open_0; omega)]; exact hg31
          have hg34 : HIDS ks (s24.1 171) := by rw [hFc24 171 (by unfold M_ME_open_0; omega)]; exact hg32
          refine W.widen (k := 0) (n := 0) (by omega) (by omega) ?_
          refine lv_aload_n hx hb dM_open_98 rfl (lv_at hl 0 rfl) ?_
          refine nw_get (C := "LatticeKeysModel") (TT := T_M) (N := 14) hx hb hts (wg_ft i_M) hown hK hO k_h0 (kn := 148) (ci := 8) (fl := [(0, 0), (0, 0), (0, 0), (0, 0), (3, 149), (3, 150), (3, 151), (3, 152), (3, 161), (3, 170), (3, 171), (3, 172), (3, 184), (3, 225)]) rfl hP rfl 2 (by decide) (hts _ (wg_t kw_1528)) (fun _ h9 => h9) (cd := (0, 0)) rfl dM_open_99 (fun v30 hv31 => ?_)
          obtain rfl := (show v30 = .int (s24.1 148 2) from hv31)
          obtain ⟨z25, ez25, hz28, hz29⟩ := cl_of (b := 2147483648) hf54 (by omega) (by decide)
          replace hR := bnd_step hR ez25
          replace hE := bndP_step hE ez25
          refine mi_as hz28 ?_
          exact mp_iret hx hb hr hlk hP hD hS ((nI z25, s24), pl) ⟨⟨hR.symm, rfl, hF, ⟨0, hf53, by omega⟩, ⟨32, hf54, by omega⟩, ⟨ks, hf49, by omega⟩, trivial⟩, hO⟩ [] rfl rfl rfl (by omega) (by omega) dM_open_102
        · replace hR := hR.trans (if_neg h24)
          replace hE := iteP_neg h24 hE
          refine lv_aload_n hx hb dM_open_54 rfl (lv_at hl 0 rfl) ?_
          refine lv_iconst (v := nI 2) hx hb dM_open_55 (by decide) ?_
          refine mp_i (cx := []) (wr := []) hP hD hS hA [] [] rfl rfl rfl (by decide) (va_runV (As := [.int (nI 2)]) (rest := []) F (N_M_fail l g _ T q23.2 pl hO hU h0 (nI 2) tp rs ks k_h0 hf29 hf30 hf31) (cwV 1 hts (wg_app (wg_c kw_1577 (wg_c kw_1579 (wg_c ks_50 (wg_c kw_9 wg_n)))) kw_1580) rfl rfl rfl (by decide +kernel) ⟨by decide, by decide⟩) (pn_W "LatticeKeysModel" (en_ok g) (ci := 8) (kn := 148) (fl := [(0, 0), (0, 0), (0, 0), (0, 0), (3, 149), (3, 150), (3, 151), (3, 152), (3, 161), (3, 170), (3, 171), (3, 172), (3, 184), (3, 225)]) hK hO k_h0 rfl hP hD hS hA hEn [] rfl rfl rfl) rfl rfl hl.1 rfl (lv_room (Nat.le_of_ble_eq_true rfl)) dM_open_56 ⟨by omega, by omega⟩) (fun r33 u25 H locs hu25 hP hD hS => ?_)
          obtain ⟨q24, pl⟩ := u25
          obtain ⟨⟨eq25, rfl, hFc25, ⟨x28, hx_28, hb_28⟩, ⟨x29, hx_29, hb_29⟩, ⟨x30, hx_30, hb_30⟩, -⟩, hO⟩ := hu25
          have hO : okn g T q24.2 pl := hO
          have hP : va_P g.1 vcl ([] ++ pl) _ := hP
          have hD : va_D _ ([] ++ pl) := hD
          have hFc25 : frm (M_M_fail) q23.2 q24.2 := hFc25
          have hb_28 : x28 = tp := hb_28
          have hb_29 : x29 = rs := hb_29
          have hb_30 : x30 = ks := hb_30
          replace hR := bnd_step hR eq25
          replace hE := bndP_step hE eq25
          have hF := frm_tr hF hFc25 (fun k hk => by unfold M_M_fail at hk; unfold M_M_open; omega)
          have hf55 : q24.2.1 170 z21 = nI 0 := fc_F hf33 hFc25 (by unfold M_M_fail; omega)
          have hf56 : q24.2.1 171 z21 = nI z22 := fc_F hf34 hFc25 (by unfold M_M_fail; omega)
          have hg35 : SETS ks (q24.2.1 170) := by rw [hFc25 170 (by unfold M_M_fail; omega)]; exact hg27
          have hg36 : HIDS ks (q24.2.1 171) := by rw [hFc25 171 (by unfold M_M_fail; omega)]; exact hg28
          refine W.widen (k := 0) (n := 0) (by omega) (by omega) ?_
          exact mp_iret hx hb hr hlk hP hD hS ((q24.1, q24.2), pl) ⟨⟨hR.symm, rfl, hF, ⟨x28, hx_28, by omega⟩, ⟨x29, hx_29, by omega⟩, ⟨x30, hx_30, by omega⟩, trivial⟩, hO⟩ [] rfl rfl rfl (by omega) (by omega) dM_open_59
      · replace hR := hR.trans (if_pos h23)
        replace hE := iteP_pos h23 hE
        refine lv_aload_n hx hb dM_open_32 rfl (lv_at hl 0 rfl) ?_
        refine lv_iconst (v := nI 1) hx hb dM_open_33 (by decide) ?_
        refine mp_i (cx := []) (wr := []) hP hD hS hA [] [] rfl rfl rfl (by decide) (va_runV (As := [.int (nI 1)]) (rest := []) F (N_M_fail l g _ T q21.2 pl hO hU h0 (nI 1) tp rs ks k_h0 hf25 hf26 hf27) (cwV 1 hts (wg_app (wg_c kw_1577 (wg_c kw_1579 (wg_c ks_50 (wg_c kw_9 wg_n)))) kw_1580) rfl rfl rfl (by decide +kernel) ⟨by decide, by decide⟩) (pn_W "LatticeKeysModel" (en_ok g) (ci := 8) (kn := 148) (fl := [(0, 0), (0, 0), (0, 0), (0, 0), (3, 149), (3, 150), (3, 151), (3, 152), (3, 161), (3, 170), (3, 171), (3, 172), (3, 184), (3, 225)]) hK hO k_h0 rfl hP hD hS hA hEn [] rfl rfl rfl) rfl rfl hl.1 rfl (lv_room (Nat.le_of_ble_eq_true rfl)) dM_open_34 ⟨by omega, by omega⟩) (fun r34 u26 H locs hu26 hP hD hS => ?_)
        obtain ⟨q25, pl⟩ := u26
        obtain ⟨⟨eq26, rfl, hFc26, ⟨x32, hx_32, hb_32⟩, ⟨x33, hx_33, hb_33⟩, ⟨x34, hx_34, hb_34⟩, -⟩, hO⟩ := hu26
        have hO : okn g T q25.2 pl := hO
        have hP : va_P g.1 vcl ([] ++ pl) _ := hP
        have hD : va_D _ ([] ++ pl) := hD
        have hFc26 : frm (M_M_fail) q21.2 q25.2 := hFc26
        have hb_32 : x32 = tp := hb_32
        have hb_33 : x33 = rs := hb_33
        have hb_34 : x34 = ks := hb_34
        replace hR := bnd_step hR eq26
        replace hE := bndP_step hE eq26
        have hF := frm_tr hF hFc26 (fun k hk => by unfold M_M_fail at hk; unfold M_M_open; omega)
        have hf57 : q25.2.1 170 z21 = nI 0 := fc_F hs21 hFc26 (by unfold M_M_fail; omega)
        have hf58 : q25.2.1 171 z21 = nI z22 := fc_F hz22 hFc26 (by unfold M_M_fail; omega)
        have hg37 : SETS ks (q25.2.1 170) := by rw [hFc26 170 (by unfold M_M_fail; omega)]; exact hg23
        have hg38 : HIDS ks (q25.2.1 171) := by rw [hFc26 171 (by unfold M_M_fail; omega)]; exact hg24
        refine W.widen (k := 0) (n := 0) (by omega) (by omega) ?_
        exact mp_iret hx hb hr hlk hP hD hS ((q25.1, q25.2), pl) ⟨⟨hR.symm, rfl, hF, ⟨x32, hx_32, by omega⟩, ⟨x33, hx_33, by omega⟩, ⟨x34, hx_34, by omega⟩, trivial⟩, hO⟩ [] rfl rfl rfl (by omega) (by omega) dM_open_37
    replace hR := hR.trans (if_neg hs21)
    replace hE := iteP_neg hs21 hE
    by_cases hs22 : (q21.2.1 170 z21) = nI 1
    · replace hR := hR.trans (if_pos hs22)
      replace hE := iteP_pos hs22 hE
      refine mi_as hs22 ?_
      refine lv_iconst (v := nI 2) hx hb dM_open_19 (by decide) ?_
      refine mi_gt (tgt := 32) hx hb dM_open_20 (by decide) (by omega) (by omega) (fun h25 => absurd h25 (by omega)) (fun h25 => ?_)
      refine lv_aload_n hx hb dM_open_23 rfl (lv_at hl 0 rfl) ?_
      refine nw_get (C := "LatticeKeysModel") (TT := T_M) (N := 14) hx hb hts (wg_ft i_M) hown hK hO k_h0 (kn := 148) (ci := 8) (fl := [(0, 0), (0, 0), (0, 0), (0, 0), (3, 149), (3, 150), (3, 151), (3, 152), (3, 161), (3, 170), (3, 171), (3, 172), (3, 184), (3, 225)]) rfl hP rfl 10 (by decide) (hts _ (wg_t kw_1536)) (fun _ h9 => h9) (cd := (3, 171)) rfl dM_open_24 (fun v31 hv32 => ?_)
      obtain ⟨r35, rfl, kr30⟩ := (show ∃ r : Nat, v31 = .ref r ∧ T r = some 171 from hv32)
      refine lv_iload_n hx hb dM_open_27 rfl (lv_at hl 1 rfl) ?_
      refine nw_iald hx hb hK hO kr30 (k := 171) rfl hP (by omega) (by omega) dM_open_28 ?_
      obtain ⟨c22, hc22, hb22⟩ := hg24 z21 (by omega)
      obtain ⟨z26, ez26, hz30, hz31⟩ := cl_of (b := 2147483648) hc22 (by omega) (by decide)
      replace hR := bnd_step hR ez26
      replace hE := bndP_step hE ez26
      refine mi_as hz30 ?_
      refine lv_if_ne (tgt := 38) hx hb dM_open_29 (by decide) (fun h26 => ?_) (fun h26 => ?_)
      · replace hR := hR.trans (if_neg h26)
        replace hE := iteP_neg h26 hE
        refine lv_aload_n hx hb dM_open_38 rfl (lv_at hl 0 rfl) ?_
        refine nw_get (C := "LatticeKeysModel") (TT := T_M) (N := 14) hx hb hts (wg_ft i_M) hown hK hO k_h0 (kn := 148) (ci := 8) (fl := [(0, 0), (0, 0), (0, 0), (0, 0), (3, 149), (3, 150), (3, 151), (3, 152), (3, 161), (3, 170), (3, 171), (3, 172), (3, 184), (3, 225)]) rfl hP rfl 1 (by decide) (hts _ (wg_t kw_1527)) (fun _ h9 => h9) (cd := (0, 0)) rfl dM_open_39 (fun v32 hv33 => ?_)
        obtain rfl := (show v32 = .int (q21.2.1 148 1) from hv33)
        obtain ⟨z27, ez27, hz32, hz33⟩ := cl_of (b := 2147483648) hf25 (by omega) (by decide)
        replace hR := bnd_step hR ez27
        replace hE := bndP_step hE ez27
        refine mi_as hz32 ?_
        refine lv_aload_n hx hb dM_open_42 rfl (lv_at hl 0 rfl) ?_
        refine nw_get (C := "LatticeKeysModel") (TT := T_M) (N := 14) hx hb hts (wg_ft i_M) hown hK hO k_h0 (kn := 148) (ci := 8) (fl := [(0, 0), (0, 0), (0, 0), (0, 0), (3, 149), (3, 150), (3, 151), (3, 152), (3, 161), (3, 170), (3, 171), (3, 172), (3, 184), (3, 225)]) rfl hP rfl 9 (by decide) (hts _ (wg_t kw_1535)) (fun _ h9 => h9) (cd := (3, 170)) rfl dM_open_43 (fun v33 hv34 => ?_)
        obtain ⟨r36, rfl, kr31⟩ := (show ∃ r : Nat, v33 = .ref r ∧ T r = some 170 from hv34)
        refine lv_iload_n hx hb dM_open_46 rfl (lv_at hl 1 rfl) ?_
        refine nw_iald hx hb hK hO kr31 (k := 170) rfl hP (by omega) (by omega) dM_open_47 ?_
        refine mi_as hs22 ?_
        refine mp_i (cx := []) (wr := []) hP hD hS hA [] [] rfl rfl rfl (by decide) (va_runS (As := [.int (nI 1)]) (rest := [.int (nI z27)]) F (N_ME_sealedSize_1 l g _ T q21.2 pl hO hU ) (va_cwS 1 hts (wg_app (wg_c kw_1847 (wg_c kw_1841 (wg_c kw_11 wg_n))) kw_1842) rfl rfl rfl (by decide +kernel) ⟨by decide, by decide⟩) (pp_S (en_ok g) hP hD hS hA hEn [] rfl rfl) rfl rfl hl.1 rfl (lv_room (Nat.le_of_ble_eq_true rfl)) dM_open_48 ⟨by omega, by omega⟩) (fun r37 u27 H locs hu27 hP hD hS => ?_)
        obtain ⟨q26, pl⟩ := u27
        obtain ⟨⟨eq27, rfl, hFc27, ⟨x36, hx_36, hb_36⟩, hxp27, -⟩, hO⟩ := hu27
        have hO : okn g T q26.2 pl := hO
        have hP : va_P g.1 vcl ([] ++ pl) _ := hP
        have hD : va_D _ ([] ++ pl) := hD
        have hFc27 : frm (M_ME_sealedSize_1) q21.2 q26.2 := hFc27
        have hb_36 : x36 < 1089 := hb_36
        replace hR := bnd_step hR eq27
        replace hE := bndP_step hE eq27
        have hF := frm_tr hF hFc27 (fun k hk => by unfold M_ME_sealedSize_1 at hk; unfold M_M_open; omega)
        have hf59 : q26.2.1 148 1 = nI tp := fc_F hf25 hFc27 (by unfold M_ME_sealedSize_1; omega)
        have hf60 : q26.2.1 148 2 = nI rs := fc_F hf26 hFc27 (by unfold M_ME_sealedSize_1; omega)
        have hf61 : q26.2.1 148 3 = nI ks := fc_F hf27 hFc27 (by unfold M_ME_sealedSize_1; omega)
        have hf62 : q26.2.1 148 0 = nI 0 := fc_F hf28 hFc27 (by unfold M_ME_sealedSize_1; omega)
        have hf63 : q26.2.1 170 z21 = nI 1 := fc_F hs22 hFc27 (by unfold M_ME_sealedSize_1; omega)
        have hf64 : q26.2.1 171 z21 = nI z26 := fc_F hz30 hFc27 (by unfold M_ME_sealedSize_1; omega)
        have hg39 : SETS ks (q26.2.1 170) := by rw [hFc27 170 (by unfold M_ME_sealedSize_1; omega)]; exact hg23
        have hg40 : HIDS ks (q26.2.1 171) := by rw [hFc27 171 (by unfold M_ME_sealedSize_1; omega)]; exact hg24
        obtain ⟨z28, ez28, hz34, hz35⟩ := cl_of (b := 2147483648) hx_36 (by omega) (by decide)
        replace hR := bnd_step hR ez28
        replace hE := bndP_step hE ez28
        refine mi_as hz34 ?_
        have hsz22 : z28 = 1088 := (nI_eq (by omega) (by omega)).mp (hz34.symm.trans hxp27)
        subst hsz22
        refine W.widen (k := 0) (n := 0) (by omega) (by omega) ?_
        refine mi_eq (tgt := 60) hx hb dM_open_51 (by decide) (by omega) (by omega) (fun h27 => ?_) (fun h27 => ?_)
        · replace hR := hR.trans (if_pos h27)
          replace hE := iteP_pos h27 hE
          refine lv_aload_n hx hb dM_open_60 rfl (lv_at hl 0 rfl) ?_
          refine lv_iconst (v := nI 0) hx hb dM_open_61 (by decide) ?_
          refine nw_put (C := "LatticeKeysModel") (TT := T_M) (N := 14) hx hb hts (wg_ft i_M) ty_M k_M n_M hown hK hO hU k_h0 (kn := 148) (ci := 8) (fl := [(0, 0), (0, 0), (0, 0), (0, 0), (3, 149), (3, 150), (3, 151), (3, 152), (3, 161), (3, 170), (3, 171), (3, 172), (3, 184), (3, 225)]) rfl hP hD hS rfl 1 (by decide) (hts _ (wg_t kw_1527)) (fun _ h9 => h9) rfl (by decide +kernel) rfl dM_open_62 (fun s25 pl H locs es24 hO hP hD hS => ?_)
          replace hR := bnd_step hR es24
          replace hE := bndP_step hE es24
          have hF := frm_sI hF es24 (by unfold M_M_open; omega)
          have hf66 : s25.1 148 2 = nI rs := fc_ne hf60 es24 (by omega)
          have hf67 : s25.1 148 3 = nI ks := fc_ne hf61 es24 (by omega)
          have hf68 : s25.1 148 0 = nI 0 := fc_ne hf62 es24 (by omega)
          have hf69 : s25.1 170 z21 = nI 1 := fc_ne hf63 es24 (by omega)
          have hf70 : s25.1 171 z21 = nI z26 := fc_ne hf64 es24 (by omega)
          have hf71 : s25.1 148 1 = nI 0 := fc_eq es24
          have hg41 : SETS ks (s25.1 170) := by rw [(ar_sI es24 (by omega))]; exact hg39
          have hg42 : HIDS ks (s25.1 171) := by rw [(ar_sI es24 (by omega))]; exact hg40
          refine lv_aload_n hx hb dM_open_65 rfl (lv_at hl 0 rfl) ?_
          refine lv_bipush (v := nI 32) hx hb dM_open_66 (by decide) ?_
          refine nw_put (C := "LatticeKeysModel") (TT := T_M) (N := 14) hx hb hts (wg_ft i_M) ty_M k_M n_M hown hK hO hU k_h0 (kn := 148) (ci := 8) (fl := [(0, 0), (0, 0), (0, 0), (0, 0), (3, 149), (3, 150), (3, 151), (3, 152), (3, 161), (3, 170), (3, 171), (3, 172), (3, 184), (3, 225)]) rfl hP hD hS rfl 2 (by decide) (hts _ (wg_t kw_1528)) (fun _ h9 => h9) rfl (by decide +kernel) rfl dM_open_68 (fun s26 pl H locs es25 hO hP hD hS => ?_)
          replace hR := bnd_step hR es25
          replace hE := bndP_step hE es25
          have hF := frm_sI hF es25 (by unfold M_M_open; omega)
          have hf73 : s26.1 148 3 = nI ks := fc_ne hf67 es25 (by omega)
          have hf74 : s26.1 148 0 = nI 0 := fc_ne hf68 es25 (by omega)
          have hf75 : s26.1 170 z21 = nI 1 := fc_ne hf69 es25 (by omega)
          have hf76 : s26.1 171 z21 = nI z26 := fc_ne hf70 es25 (by omega)
          have hf77 : s26.1 148 1 = nI 0 := fc_ne hf71 es25 (by omega)
          have hf78 : s26.1 148 2 = nI 32 := fc_eq es25
          have hg43 : SETS ks (s26.1 170) := by rw [(ar_sI es25 (by omega))]; exact hg41
          have hg44 : HIDS ks (s26.1 171) := by rw [(ar_sI es25 (by omega))]; exact hg42
          refine lv_aload_n hx hb dM_open_71 rfl (lv_at hl 0 rfl) ?_
          refine nw_get (C := "LatticeKeysModel") (TT := T_M) (N := 14) hx hb hts (wg_ft i_M) hown hK hO k_h0 (kn := 148) (ci := 8) (fl := [(0, 0), (0, 0), (0, 0), (0, 0), (3, 149), (3, 150), (3, 151), (3, 152), (3, 161), (3, 170), (3, 171), (3, 172), (3, 184), (3, 225)]) rfl hP rfl 12 (by decide) (hts _ (wg_t kw_1538)) (fun _ h9 => h9) (cd := (3, 184)) rfl dM_open_72 (fun v34 hv35 => ?_)
          obtain ⟨r38, rfl, kr32⟩ := (show ∃ r : Nat, v34 = .ref r ∧ T r = some 184 from hv35)
          refine lv_aload_n hx hb dM_open_75 rfl (lv_at hl 0 rfl) ?_
          refine nw_get (C := "LatticeKeysModel") (TT := T_M) (N := 14) hx hb hts (wg_ft i_M) hown hK hO k_h0 (kn := 148) (ci := 8) (fl := [(0, 0), (0, 0), (0, 0), (0, 0), (3, 149), (3, 150), (3, 151), (3, 152), (3, 161), (3, 170), (3, 171), (3, 172), (3, 184), (3, 225)]) rfl hP rfl 9 (by decide) (hts _ (wg_t kw_1535)) (fun _ h9 => h9) (cd := (3, 170)) rfl dM_open_76 (fun v35 hv36 => ?_)
          obtain ⟨r39, rfl, kr33⟩ := (show ∃ r : Nat, v35 = .ref r ∧ T r = some 170 from hv36)
          refine lv_iload_n hx hb dM_open_79 rfl (lv_at hl 1 rfl) ?_
          refine nw_iald hx hb hK hO kr33 (k := 170) rfl hP (by omega) (by omega) dM_open_80 ?_
          refine mi_as hf75 ?_
          refine lv_aload_n hx hb dM_open_81 rfl (lv_at hl 0 rfl) ?_
          refine nw_get (C := "LatticeKeysModel") (TT := T_M) (N := 14) hx hb hts (wg_ft i_M) hown hK hO k_h0 (kn := 148) (ci := 8) (fl := [(0, 0), (0, 0), (0, 0), (0, 0), (3, 149), (3, 150), (3, 151), (3, 152), (3, 161), (3, 170), (3, 171), (3, 172), (3, 184), (3, 225)]) rfl hP rfl 8 (by decide) (hts _ (wg_t kw_1534)) (fun _ h9 => h9) (cd := (3, 161)) rfl dM_open_82 (fun v36 hv37 => ?_)
          obtain ⟨r40, rfl, kr34⟩ := (show ∃ r : Nat, v36 = .ref r ∧ T r = some 161 from hv37)
          refine lv_iload_n hx hb dM_open_85 rfl (lv_at hl 1 rfl) ?_
          refine nw_aald4 hx hb hK hO kr34 (k := 161) (b := 162) rfl hP (by omega) (by omega) dM_open_86 (fun r41 kr35 => ?_)
          have hn22 : nsp (162 + z21) = (1, 4896, []) := rows_okb 162 8 4896 (by decide) _ (by omega)
          refine lv_aload_n hx hb dM_open_87 rfl (lv_at hl 0 rfl) ?_
          refine nw_get (C := "LatticeKeysModel") (TT := T_M) (N := 14) hx hb hts (wg_ft i_M) hown hK hO k_h0 (kn := 148) (ci := 8) (fl := [(0, 0), (0, 0), (0, 0), (0, 0), (3, 149), (3, 150), (3, 151), (3, 152), (3, 161), (3, 170), (3, 171), (3, 172), (3, 184), (3, 225)]) rfl hP rfl 4 (by decide) (hts _ (wg_t kw_1530)) (fun _ h9 => h9) (cd := (3, 149)) rfl dM_open_88 (fun v37 hv38 => ?_)
          obtain ⟨r42, rfl, kr36⟩ := (show ∃ r : Nat, v37 = .ref r ∧ T r = some 149 from hv38)
          refine lv_aload_n hx hb dM_open_91 rfl (lv_at hl 0 rfl) ?_
          refine nw_get (C := "LatticeKeysModel") (TT := T_M) (N := 14) hx hb hts (wg_ft i_M) hown hK hO k_h0 (kn := 148) (ci := 8) (fl := [(0, 0), (0, 0), (0, 0), (0, 0), (3, 149), (3, 150), (3, 151), (3, 152), (3, 161), (3, 170), (3, 171), (3, 172), (3, 184), (3, 225)]) rfl hP rfl 5 (by decide) (hts _ (wg_t kw_1531)) (fun _ h9 => h9) (cd := (3, 150)) rfl dM_open_92 (fun v38 hv39 => ?_)
          obtain ⟨r43, rfl, kr37⟩ := (show ∃ r : Nat, v38 = .ref r ∧ T r = some 150 from hv39)
          refine mp_v (cx := []) (wr := []) hP hD hS hA [] [] rfl rfl rfl (by decide) (va_runV (As := [.int (nI 1), .ref r41, .ref r42, .ref r43]) (rest := []) F (N_ME_open_1 l g _ T s26 pl hO hU r38 r41 r42 r43 (162 + z21) 149 150 kr32 kr35 hn22 kr36 rfl kr37 rfl hE.1) (cwV 4 hts (wg_app (wg_c kw_1848 (wg_c kw_1849 (wg_c kw_1850 (wg_c kw_11 wg_n)))) kw_1851) rfl rfl rfl (by decide +kernel) ⟨by decide, by decide⟩) (pn_W "LatticeKeysModel$Secrets" (en_ok g) (ci := 11) (kn := 184) (fl := [(3, 172), (3, 178), (3, 185), (3, 202), (3, 207), (3, 212), (3, 217), (3, 218), (3, 219), (3, 220), (3, 221), (3, 222), (3, 223), (3, 224)]) hK hO kr32 rfl hP hD hS hA hEn [] rfl rfl rfl) rfl rfl hl.1 rfl (lv_room (Nat.le_of_ble_eq_true rfl)) dM_open_95 ⟨by omega, by omega⟩) (fun  u28 H locs hu28 hP hD hS => ?_)
          obtain ⟨s27, pl⟩ := u28
          obtain ⟨⟨eq28, hFc28, -⟩, hO⟩ := hu28
          have hO : okn g T s27 pl := hO
          have hP : va_P g.1 vcl ([] ++ pl) _ := hP
          have hD : va_D _ ([] ++ pl) := hD
          have hFc28 : frm (M_ME_open_1 150) s26 s27 := hFc28
          replace hE := hE.2
          replace hR := bnd_step hR eq28
          replace hE := bndP_step hE eq28
          have hF := frm_tr hF hFc28 (fun k hk => by unfold M_ME_open_1 at hk; unfold M_M_open; omega)
          have hf79 : s27.1 148 3 = nI ks := fc_F hf73 hFc28 (by unfold M_ME_open_1; omega)
          have hf80 : s27.1 148 0 = nI 0 := fc_F hf74 hFc28 (by unfold M_ME_open_1; omega)
          have hf81 : s27.1 170 z21 = nI 1 := fc_F hf75 hFc28 (by unfold M_ME_open_1; omega)
          have hf82 : s27.1 171 z21 = nI z26 := fc_F hf76 hFc28 (by unfold M_ME_open_1; omega)
          have hf83 : s27.1 148 1 = nI 0 := fc_F hf77 hFc28 (by unfold M_ME_open_1; omega)
          have hf84 : s27.1 148 2 = nI 32 := fc_F hf78 hFc28 (by unfold M_ME_open_1; omega)
          have hg45 : SETS ks (s27.1 170) := by rw [hFc28 170 (by unfold M_ME_open_1; omega)]; exact hg43
          have hg46 : HIDS ks (s27.1 171) := by rw [hFc28 171 (by unfold M_ME_open_1; omega)]; exact hg44
          refine W.widen (k := 0) (n := 0) (by omega) (by omega) ?_
          refine lv_aload_n hx hb dM_open_98 rfl (lv_at hl 0 rfl) ?_
          refine nw_get (C := "LatticeKeysModel") (TT := T_M) (N := 14) hx hb hts (wg_ft i_M) hown hK hO k_h0 (kn := 148) (ci := 8) (fl := [(0, 0), (0, 0), (0, 0), (0, 0), (3, 149), (3, 150), (3, 151), (3, 152), (3, 161), (3, 170), (3, 171), (3, 172), (3, 184), (3, 225)]) rfl hP rfl 2 (by decide) (hts _ (wg_t kw_1528)) (fun _ h9 => h9) (cd := (0, 0)) rfl dM_open_99 (fun v39 hv40 => ?_)
          obtain rfl := (show v39 = .int (s27.1 148 2) from hv40)
          obtain ⟨z29, ez29, hz36, hz37⟩ := cl_of (b := 2147483648) hf84 (by omega) (by decide)
          replace hR := bnd_step hR ez29
          replace hE := bndP_step hE ez29
          refine mi_as hz36 ?_
          exact mp_iret hx hb hr hlk hP hD hS ((nI z29, s27), pl) ⟨⟨hR.symm, rfl, hF, ⟨0, hf83, by omega⟩, ⟨32, hf84, by omega⟩, ⟨ks, hf79, by omega⟩, trivial⟩, hO⟩ [] rfl rfl rfl (by omega) (by omega) dM_open_102
        · replace hR := hR.trans (if_neg h27)
          replace hE := iteP_neg h27 hE
          refine lv_aload_n hx hb dM_open_54 rfl (lv_at hl 0 rfl) ?_
          refine lv_iconst (v := nI 2) hx hb dM_open_55 (by decide) ?_
          refine mp_i (cx := []) (wr := []) hP hD hS hA [] [] rfl rfl rfl (by decide) (va_runV (As := [.int (nI 2)]) (rest := []) F (N_M_fail l g _ T q26.2 pl hO hU h0 (nI 2) tp rs ks k_h0 hf59 hf60 hf61) (cwV 1 hts (wg_app (wg_c kw_1577 (wg_c kw_1579 (wg_c ks_50 (wg_c kw_9 wg_n)))) kw_1580) rfl rfl rfl (by decide +kernel) ⟨by decide, by decide⟩) (pn_W "LatticeKeysModel" (en_ok g) (ci := 8) (kn := 148) (fl := [(0, 0), (0, 0), (0, 0), (0, 0), (3, 149), (3, 150), (3, 151), (3, 152), (3, 161), (3, 170), (3, 171), (3, 172), (3, 184), (3, 225)]) hK hO k_h0 rfl hP hD hS hA hEn [] rfl rfl rfl) rfl rfl hl.1 rfl (lv_room (Nat.le_of_ble_eq_true rfl)) dM_open_56 ⟨by omega, by omega⟩) (fun r44 u29 H locs hu29 hP hD hS => ?_)
          obtain ⟨q27, pl⟩ := u29
          obtain ⟨⟨eq29, rfl, hFc29, ⟨x38, hx_38, hb_38⟩, ⟨x39, hx_39, hb_39⟩, ⟨x40, hx_40, hb_40⟩, -⟩, hO⟩ := hu29
          have hO : okn g T q27.2 pl := hO
          have hP : va_P g.1 vcl ([] ++ pl) _ := hP
          have hD : va_D _ ([] ++ pl) := hD
          have hFc29 : frm (M_M_fail) q26.2 q27.2 := hFc29
          have hb_38 : x38 = tp := hb_38
          have hb_39 : x39 = rs := hb_39
          have hb_40 : x40 = ks := hb_40
          replace hR := bnd_step hR eq29
          replace hE := bndP_step hE eq29
          have hF := frm_tr hF hFc29 (fun k hk => by unfold M_M_fail at hk; unfold M_M_open; omega)
          have hf85 : q27.2.1 170 z21 = nI 1 := fc_F hf63 hFc29 (by unfold M_M_fail; omega)
          have hf86 : q27.2.1 171 z21 = nI z26 := fc_F hf64 hFc29 (by unfold M_M_fail; omega)
          have hg47 : SETS ks (q27.2.1 170) := by rw [hFc29 170 (by unfold M_M_fail; omega)]; exact hg39
          have hg48 : HIDS ks (q27.2.1 171) := by rw [hFc29 171 (by unfold M_M_fail; omega)]; exact hg40
          refine W.widen (k := 0) (n := 0) (by omega) (by omega) ?_
          exact mp_iret hx hb hr hlk hP hD hS ((q27.1, q27.2), pl) ⟨⟨hR.symm, rfl, hF, ⟨x38, hx_38, by omega⟩, ⟨x39, hx_39, by omega⟩, ⟨x40, hx_40, by omega⟩, trivial⟩, hO⟩ [] rfl rfl rfl (by omega) (by omega) dM_open_59
      · replace hR := hR.trans (if_pos h26)
        replace hE := iteP_pos h26 hE
        refine lv_aload_n hx hb dM_open_32 rfl (lv_at hl 0 rfl) ?_
        refine lv_iconst (v := nI 1) hx hb dM_open_33 (by decide) ?_
        refine mp_i (cx := []) (wr := []) hP hD hS hA [] [] rfl rfl rfl (by decide) (va_runV (As := [.int (nI 1)]) (rest := []) F (N_M_fail l g _ T q21.2 pl hO hU h0 (nI 1) tp rs ks k_h0 hf25 hf26 hf27) (cwV 1 hts (wg_app (wg_c kw_1577 (wg_c kw_1579 (wg_c ks_50 (wg_c kw_9 wg_n)))) kw_1580) rfl rfl rfl (by decide +kernel) ⟨by decide, by decide⟩) (pn_W "LatticeKeysModel" (en_ok g) (ci := 8) (kn := 148) (fl := [(0, 0), (0, 0), (0, 0), (0, 0), (3, 149), (3, 150), (3, 151), (3, 152), (3, 161), (3, 170), (3, 171), (3, 172), (3, 184), (3, 225)]) hK hO k_h0 rfl hP hD hS hA hEn [] rfl rfl rfl) rfl rfl hl.1 rfl (lv_room (Nat.le_of_ble_eq_true rfl)) dM_open_34 ⟨by omega, by omega⟩) (fun r45 u30 H locs hu30 hP hD hS => ?_)
        obtain ⟨q28, pl⟩ := u30
        obtain ⟨⟨eq30, rfl, hFc30, ⟨x42, hx_42, hb_42⟩, ⟨x43, hx_43, hb_43⟩, ⟨x44, hx_44, hb_44⟩, -⟩, hO⟩ := hu30
        have hO : okn g T q28.2 pl := hO
        have hP : va_P g.1 vcl ([] ++ pl) _ := hP
        have hD : va_D _ ([] ++ pl) := hD
        have hFc30 : frm (M_M_fail) q21.2 q28.2 := hFc30
        have hb_42 : x42 = tp := hb_42
        have hb_43 : x43 = rs := hb_43
        have hb_44 : x44 = ks := hb_44
        replace hR := bnd_step hR eq30
        replace hE := bndP_step hE eq30
        have hF := frm_tr hF hFc30 (fun k hk => by unfold M_M_fail at hk; unfold M_M_open; omega)
        have hf87 : q28.2.1 170 z21 = nI 1 := fc_F hs22 hFc30 (by unfold M_M_fail; omega)
        have hf88 : q28.2.1 171 z21 = nI z26 := fc_F hz30 hFc30 (by unfold M_M_fail; omega)
        have hg49 : SETS ks (q28.2.1 170) := by rw [hFc30 170 (by unfold M_M_fail; omega)]; exact hg23
        have hg50 : HIDS ks (q28.2.1 171) := by rw [hFc30 171 (by unfold M_M_fail; omega)]; exact hg24
        refine W.widen (k := 0) (n := 0) (by omega) (by omega) ?_
        exact mp_iret hx hb hr hlk hP hD hS ((q28.1, q28.2), pl) ⟨⟨hR.symm, rfl, hF, ⟨x42, hx_42, by omega⟩, ⟨x43, hx_43, by omega⟩, ⟨x44, hx_44, by omega⟩, trivial⟩, hO⟩ [] rfl rfl rfl (by omega) (by omega) dM_open_37
    replace hR := hR.trans (if_neg hs22)
    replace hE := iteP_neg hs22 hE
    by_cases hs23 : (q21.2.1 170 z21) = nI 2
    · replace hR := hR.trans (if_pos hs23)
      replace hE := iteP_pos hs23 hE
      refine mi_as hs23 ?_
      refine lv_iconst (v := nI 2) hx hb dM_open_19 (by decide) ?_
      refine mi_gt (tgt := 32) hx hb dM_open_20 (by decide) (by omega) (by omega) (fun h28 => absurd h28 (by omega)) (fun h28 => ?_)
      refine lv_aload_n hx hb dM_open_23 rfl (lv_at hl 0 rfl) ?_
      refine nw_get (C := "LatticeKeysModel") (TT := T_M) (N := 14) hx hb hts (wg_ft i_M) hown hK hO k_h0 (kn := 148) (ci := 8) (fl := [(0, 0), (0, 0), (0, 0), (0, 0), (3, 149), (3, 150), (3, 151), (3, 152), (3, 161), (3, 170), (3, 171), (3, 172), (3, 184), (3, 225)]) rfl hP rfl 10 (by decide) (hts _ (wg_t kw_1536)) (fun _ h9 => h9) (cd := (3, 171)) rfl dM_open_24 (fun v40 hv41 => ?_)
      obtain ⟨r46, rfl, kr38⟩ := (show ∃ r : Nat, v40 = .ref r ∧ T r = some 171 from hv41)
      refine lv_iload_n hx hb dM_open_27 rfl (lv_at hl 1 rfl) ?_
      refine nw_iald hx hb hK hO kr38 (k := 171) rfl hP (by omega) (by omega) dM_open_28 ?_
      obtain ⟨c23, hc23, hb23⟩ := hg24 z21 (by omega)
      obtain ⟨z30, ez30, hz38, hz39⟩ := cl_of (b := 2147483648) hc23 (by omega) (by decide)
      replace hR := bnd_step hR ez30
      replace hE := bndP_step hE ez30
      refine mi_as hz38 ?_
      refine lv_if_ne (tgt := 38) hx hb dM_open_29 (by decide) (fun h29 => ?_) (fun h29 => ?_)
      · replace hR := hR.trans (if_neg h29)
        replace hE := iteP_neg h29 hE
        refine lv_aload_n hx hb dM_open_38 rfl (lv_at hl 0 rfl) ?_
        refine nw_get (C := "LatticeKeysModel") (TT := T_M) (N := 14) hx hb hts (wg_ft i_M) hown hK hO k_h0 (kn := 148) (ci := 8) (fl := [(0, 0), (0, 0), (0, 0), (0, 0), (3, 149), (3, 150), (3, 151), (3, 152), (3, 161), (3, 170), (3, 171), (3, 172), (3, 184), (3, 225)]) rfl hP rfl 1 (by decide) (hts _ (wg_t kw_1527)) (fun _ h9 => h9) (cd := (0, 0)) rfl dM_open_39 (fun v41 hv42 => ?_)
        obtain rfl := (show v41 = .int (q21.2.1 148 1) from hv42)
        obtain ⟨z31, ez31, hz40, hz41⟩ := cl_of (b := 2147483648) hf25 (by omega) (by decide)
        replace hR := bnd_step hR ez31
        replace hE := bndP_step hE ez31
        refine mi_as hz40 ?_
        refine lv_aload_n hx hb dM_open_42 rfl (lv_at hl 0 rfl) ?_
        refine nw_get (C := "LatticeKeysModel") (TT := T_M) (N := 14) hx hb hts (wg_ft i_M) hown hK hO k_h0 (kn := 148) (ci := 8) (fl := [(0, 0), (0, 0), (0, 0), (0, 0), (3, 149), (3, 150), (3, 151), (3, 152), (3, 161), (3, 170), (3, 171), (3, 172), (3, 184), (3, 225)]) rfl hP rfl 9 (by decide) (hts _ (wg_t kw_1535)) (fun _ h9 => h9) (cd := (3, 170)) rfl dM_open_43 (fun v42 hv43 => ?_)
        obtain ⟨r47, rfl, kr39⟩ := (show ∃ r : Nat, v42 = .ref r ∧ T r = some 170 from hv43)
        refine lv_iload_n hx hb dM_open_46 rfl (lv_at hl 1 rfl) ?_
        refine nw_iald hx hb hK hO kr39 (k := 170) rfl hP (by omega) (by omega) dM_open_47 ?_
        refine mi_as hs23 ?_
        refine mp_i (cx := []) (wr := []) hP hD hS hA [] [] rfl rfl rfl (by decide) (va_runS (As := [.int (nI 2)]) (rest := [.int (nI z31)]) F (N_ME_sealedSize_2 l g _ T q21.2 pl hO hU ) (va_cwS 1 hts (wg_app (wg_c kw_1847 (wg_c kw_1841 (wg_c kw_11 wg_n))) kw_1842) rfl rfl rfl (by decide +kernel) ⟨by decide, by decide⟩) (pp_S (en_ok g) hP hD hS hA hEn [] rfl rfl) rfl rfl hl.1 rfl (lv_room (Nat.le_of_ble_eq_true rfl)) dM_open_48 ⟨by omega, by omega⟩) (fun r48 u31 H locs hu31 hP hD hS => ?_)
        obtain ⟨q29, pl⟩ := u31
        obtain ⟨⟨eq31, rfl, hFc31, ⟨x46, hx_46, hb_46⟩, hxp31, -⟩, hO⟩ := hu31
        have hO : okn g T q29.2 pl := hO
        have hP : va_P g.1 vcl ([] ++ pl) _ := hP
        have hD : va_D _ ([] ++ pl) := hD
        have hFc31 : frm (M_ME_sealedSize_2) q21.2 q29.2 := hFc31
        have hb_46 : x46 < 1569 := hb_46
        replace hR := bnd_step hR eq31
        replace hE := bndP_step hE eq31
        have hF := frm_tr hF hFc31 (fun k hk => by unfold M_ME_sealedSize_2 at hk; unfold M_M_open; omega)
        have hf89 : q29.2.1 148 1 = nI tp := fc_F hf25 hFc31 (by unfold M_ME_sealedSize_2; omega)
        have hf90 : q29.2.1 148 2 = nI rs := fc_F hf26 hFc31 (by unfold M_ME_sealedSize_2; omega)
        have hf91 : q29.2.1 148 3 = nI ks := fc_F hf27 hFc31 (by unfold M_ME_sealedSize_2; omega)
        have hf92 : q29.2.1 148 0 = nI 0 := fc_F hf28 hFc31 (by unfold M_ME_sealedSize_2; omega)
        have hf93 : q29.2.1 170 z21 = nI 2 := fc_F hs23 hFc31 (by unfold M_ME_sealedSize_2; omega)
        have hf94 : q29.2.1 171 z21 = nI z30 := fc_F hz38 hFc31 (by unfold M_ME_sealedSize_2; omega)
        have hg51 : SETS ks (q29.2.1 170) := by rw [hFc31 170 (by unfold M_ME_sealedSize_2; omega)]; exact hg23
        have hg52 : HIDS ks (q29.2.1 171) := by rw [hFc31 171 (by unfold M_ME_sealedSize_2; omega)]; exact hg24
        obtain ⟨z32, ez32, hz42, hz43⟩ := cl_of (b := 2147483648) hx_46 (by omega) (by decide)
        replace hR := bnd_step hR ez32
        replace hE := bndP_step hE ez32
        refine mi_as hz42 ?_
        have hsz23 : z32 = 1568 := (nI_eq (by omega) (by omega)).mp (hz42.symm.trans hxp31)
        subst hsz23
        refine W.widen (k := 0) (n := 0) (by omega) (by omega) ?_
        refine mi_eq (tgt := 60) hx hb dM_open_51 (by decide) (by omega) (by omega) (fun h30 => ?_) (fun h30 => ?_)
        · replace hR := hR.trans (if_pos h30)
          replace hE := iteP_pos h30 hE
          refine lv_aload_n hx hb dM_open_60 rfl (lv_at hl 0 rfl) ?_
          refine lv_iconst (v := nI 0) hx hb dM_open_61 (by decide) ?_
          refine nw_put (C := "LatticeKeysModel") (TT := T_M) (N := 14) hx hb hts (wg_ft i_M) ty_M k_M n_M hown hK hO hU k_h0 (kn := 148) (ci := 8) (fl := [(0, 0), (0, 0), (0, 0), (0, 0), (3, 149), (3, 150), (3, 151), (3, 152), (3, 161), (3, 170), (3, 171), (3, 172), (3, 184), (3, 225)]) rfl hP hD hS rfl 1 (by decide) (hts _ (wg_t kw_1527)) (fun _ h9 => h9) rfl (by decide +kernel) rfl dM_open_62 (fun s28 pl H locs es26 hO hP hD hS => ?_)
          replace hR := bnd_step hR es26
          replace hE := bndP_step hE es26
          have hF := frm_sI hF es26 (by unfold M_M_open; omega)
          have hf96 : s28.1 148 2 = nI rs := fc_ne hf90 es26 (by omega)
          have hf97 : s28.1 148 3 = nI ks := fc_ne hf91 es26 (by omega)
          have hf98 : s28.1 148 0 = nI 0 := fc_ne hf92 es26 (by omega)
          have hf99 : s28.1 170 z21 = nI 2 := fc_ne hf93 es26 (by omega)
          have hf100 : s28.1 171 z21 = nI z30 := fc_ne hf94 es26 (by omega)
          have hf101 : s28.1 148 1 = nI 0 := fc_eq es26
          have hg53 : SETS ks (s28.1 170) := by rw [(ar_sI es26 (by omega))]; exact hg51
          have hg54 : HIDS ks (s28.1 171) := by rw [(ar_sI es26 (by omega))]; exact hg52
          refine lv_aload_n hx hb dM_open_65 rfl (lv_at hl 0 rfl) ?_
          refine lv_bipush (v := nI 32) hx hb dM_open_66 (by decide) ?_
          refine nw_put (C := "LatticeKeysModel") (TT := T_M) (N := 14) hx hb hts (wg_ft i_M) ty_M k_M n_M hown hK hO hU k_h0 (kn := 148) (ci := 8) (fl := [(0, 0), (0, 0), (0, 0), (0, 0), (3, 149), (3, 150), (3, 151), (3, 152), (3, 161), (3, 170), (3, 171), (3, 172), (3, 184), (3, 225)]) rfl hP hD hS rfl 2 (by decide) (hts _ (wg_t kw_1528)) (fun _ h9 => h9) rfl (by decide +kernel) rfl dM_open_68 (fun s29 pl H locs es27 hO hP hD hS => ?_)
          replace hR := bnd_step hR es27
          replace hE := bndP_step hE es27
          have hF := frm_sI hF es27 (by unfold M_M_open; omega)
          have hf103 : s29.1 148 3 = nI ks := fc_ne hf97 es27 (by omega)
          have hf104 : s29.1 148 0 = nI 0 := fc_ne hf98 es27 (by omega)
          have hf105 : s29.1 170 z21 = nI 2 := fc_ne hf99 es27 (by omega)
          have hf106 : s29.1 171 z21 = nI z30 := fc_ne hf100 es27 (by omega)
          have hf107 : s29.1 148 1 = nI 0 := fc_ne hf101 es27 (by omega)
          have hf108 : s29.1 148 2 = nI 32 := fc_eq es27
          have hg55 : SETS ks (s29.1 170) := by rw [(ar_sI es27 (by omega))]; exact hg53
          have hg56 : HIDS ks (s29.1 171) := by rw [(ar_sI es27 (by omega))]; exact hg54
          refine lv_aload_n hx hb dM_open_71 rfl (lv_at hl 0 rfl) ?_
          refine nw_get (C := "LatticeKeysModel") (TT := T_M) (N := 14) hx hb hts (wg_ft i_M) hown hK hO k_h0 (kn := 148) (ci := 8) (fl := [(0, 0), (0, 0), (0, 0), (0, 0), (3, 149), (3, 150), (3, 151), (3, 152), (3, 161), (3, 170), (3, 171), (3, 172), (3, 184), (3, 225)]) rfl hP rfl 12 (by decide) (hts _ (wg_t kw_1538)) (fun _ h9 => h9) (cd := (3, 184)) rfl dM_open_72 (fun v43 hv44 => ?_)
          obtain ⟨r49, rfl, kr40⟩ := (show ∃ r : Nat, v43 = .ref r ∧ T r = some 184 from hv44)
          refine lv_aload_n hx hb dM_open_75 rfl (lv_at hl 0 rfl) ?_
          refine nw_get (C := "LatticeKeysModel") (TT := T_M) (N := 14) hx hb hts (wg_ft i_M) hown hK hO k_h0 (kn := 148) (ci := 8) (fl := [(0, 0), (0, 0), (0, 0), (0, 0), (3, 149), (3, 150), (3, 151), (3, 152), (3, 161), (3, 170), (3, 171), (3, 172), (3, 184), (3, 225)]) rfl hP rfl 9 (by decide) (hts _ (wg_t kw_1535)) (fun _ h9 => h9) (cd := (3, 170)) rfl dM_open_76 (fun v44 hv45 => ?_)
          obtain ⟨r50, rfl, kr41⟩ := (show ∃ r : Nat, v44 = .ref r ∧ T r = some 170 from hv45)
          refine lv_iload_n hx hb dM_open_79 rfl (lv_at hl 1 rfl) ?_
          refine nw_iald hx hb hK hO kr41 (k := 170) rfl hP (by omega) (by omega) dM_open_80 ?_
          refine mi_as hf105 ?_
          refine lv_aload_n hx hb dM_open_81 rfl (lv_at hl 0 rfl) ?_
          refine nw_get (C := "LatticeKeysModel") (TT := T_M) (N := 14) hx hb hts (wg_ft i_M) hown hK hO k_h0 (kn := 148) (ci := 8) (fl := [(0, 0), (0, 0), (0, 0), (0, 0), (3, 149), (3, 150), (3, 151), (3, 152), (3, 161), (3, 170), (3, 171), (3, 172), (3, 184), (3, 225)]) rfl hP rfl 8 (by decide) (hts _ (wg_t kw_1534)) (fun _ h9 => h9) (cd := (3, 161)) rfl dM_open_82 (fun v45 hv46 => ?_)
          obtain ⟨r51, rfl, kr42⟩ := (show ∃ r : Nat, v45 = .ref r ∧ T r = some 161 from hv46)
          refine lv_iload_n hx hb dM_open_85 rfl (lv_at hl 1 rfl) ?_
          refine nw_aald4 hx hb hK hO kr42 (k := 161) (b := 162) rfl hP (by omega) (by omega) dM_open_86 (fun r52 kr43 => ?_)
          have hn23 : nsp (162 + z21) = (1, 4896, []) := rows_okb 162 8 4896 (by decide) _ (by omega)
          refine lv_aload_n hx hb dM_open_87 rfl (lv_at hl 0 rfl) ?_
          refine nw_get (C := "LatticeKeysModel") (TT := T_M) (N := 14) hx hb hts (wg_ft i_M) hown hK hO k_h0 (kn := 148) (ci := 8) (fl := [(0, 0), (0, 0), (0, 0), (0, 0), (3, 149), (3, 150), (3, 151), (3, 152), (3, 161), (3, 170), (3, 171), (3, 172), (3, 184), (3, 225)]) rfl hP rfl 4 (by decide) (hts _ (wg_t kw_1530)) (fun _ h9 => h9) (cd := (3, 149)) rfl dM_open_88 (fun v46 hv47 => ?_)
          obtain ⟨r53, rfl, kr44⟩ := (show ∃ r : Nat, v46 = .ref r ∧ T r = some 149 from hv47)
          refine lv_aload_n hx hb dM_open_91 rfl (lv_at hl 0 rfl) ?_
          refine nw_get (C := "LatticeKeysModel") (TT := T_M) (N := 14) hx hb hts (wg_ft i_M) hown hK hO k_h0 (kn := 148) (ci := 8) (fl := [(0, 0), (0, 0), (0, 0), (0, 0), (3, 149), (3, 150), (3, 151), (3, 152), (3, 161), (3, 170), (3, 171), (3, 172), (3, 184), (3, 225)]) rfl hP rfl 5 (by decide) (hts _ (wg_t kw_1531)) (fun _ h9 => h9) (cd := (3, 150)) rfl dM_open_92 (fun v47 hv48 => ?_)
          obtain ⟨r54, rfl, kr45⟩ := (show ∃ r : Nat, v47 = .ref r ∧ T r = some 150 from hv48)
          refine mp_v (cx := []) (wr := []) hP hD hS hA [] [] rfl rfl rfl (by decide) (va_runV (As := [.int (nI 2), .ref r52, .ref r53, .ref r54]) (rest := []) F (N_ME_open_2 l g _ T s29 pl hO hU r49 r52 r53 r54 (162 + z21) 149 150 kr40 kr43 hn23 kr44 rfl kr45 rfl hE.1) (cwV 4 hts (wg_app (wg_c kw_1848 (wg_c kw_1849 (wg_c kw_1850 (wg_c kw_11 wg_n)))) kw_1851) rfl rfl rfl (by decide +kernel) ⟨by decide, by decide⟩) (pn_W "LatticeKeysModel$Secrets" (en_ok g) (ci := 11) (kn := 184) (fl := [(3, 172), (3, 178), (3, 185), (3, 202), (3, 207), (3, 212), (3, 217), (3, 218), (3, 219), (3, 220), (3, 221), (3, 222), (3, 223), (3, 224)]) hK hO kr40 rfl hP hD hS hA hEn [] rfl rfl rfl) rfl rfl hl.1 rfl (lv_room (Nat.le_of_ble_eq_true rfl)) dM_open_95 ⟨by omega, by omega⟩) (fun  u32 H locs hu32 hP hD hS => ?_)
          obtain ⟨s30, pl⟩ := u32
          obtain ⟨⟨eq32, hFc32, -⟩, hO⟩ := hu32
          have hO : okn g T s30 pl := hO
          have hP : va_P g.1 vcl ([] ++ pl) _ := hP
          have hD : va_D _ ([] ++ pl) := hD
          have hFc32 : frm (M_ME_open_2 150) s29 s30 := hFc32
          replace hE := hE.2
          replace hR := bnd_step hR eq32
          replace hE := bndP_step hE eq32
          have hF := frm_tr hF hFc32 (fun k hk => by unfold M_ME_open_2 at hk; unfold M_M_open; omega)
          have hf109 : s30.1 148 3 = nI ks := fc_F hf103 hFc32 (by unfold M_ME_open_2; omega)
          have hf110 : s30.1 148 0 = nI 0 := fc_F hf104 hFc32 (by unfold M_ME_open_2; omega)
          have hf111 : s30.1 170 z21 = nI 2 := fc_F hf105 hFc32 (by unfold M_ME_open_2; omega)
          have hf112 : s30.1 171 z21 = nI z30 := fc_F hf106 hFc32 (by unfold M_ME_open_2; omega)
          have hf113 : s30.1 148 1 = nI 0 := fc_F hf107 hFc32 (by unfold M_ME_open_2; omega)
          have hf114 : s30.1 148 2 = nI 32 := fc_F hf108 hFc32 (by unfold M_ME_open_2; omega)
          have hg57 : SETS ks (s30.1 170) := by rw [hFc32 170 (by unfold M_ME_open_2; omega)]; exact hg55
          have hg58 : HIDS ks (s30.1 171) := by rw [hFc32 171 (by unfold M_ME_open_2; omega)]; exact hg56
          refine W.widen (k := 0) (n := 0) (by omega) (by omega) ?_
          refine lv_aload_n hx hb dM_open_98 rfl (lv_at hl 0 rfl) ?_
          refine nw_get (C := "LatticeKeysModel") (TT := T_M) (N := 14) hx hb hts (wg_ft i_M) hown hK hO k_h0 (kn := 148) (ci := 8) (fl := [(0, 0), (0, 0), (0, 0), (0, 0), (3, 149), (3, 150), (3, 151), (3, 152), (3, 161), (3, 170), (3, 171), (3, 172), (3, 184), (3, 225)]) rfl hP rfl 2 (by decide) (hts _ (wg_t kw_1528)) (fun _ h9 => h9) (cd := (0, 0)) rfl dM_open_99 (fun v48 hv49 => ?_)
          obtain rfl := (show v48 = .int (s30.1 148 2) from hv49)
          obtain ⟨z33, ez33, hz44, hz45⟩ := cl_of (b := 2147483648) hf114 (by omega) (by decide)
          replace hR := bnd_step hR ez33
          replace hE := bndP_step hE ez33
          refine mi_as hz44 ?_
          exact mp_iret hx hb hr hlk hP hD hS ((nI z33, s30), pl) ⟨⟨hR.symm, rfl, hF, ⟨0, hf113, by omega⟩, ⟨32, hf114, by omega⟩, ⟨ks, hf109, by omega⟩, trivial⟩, hO⟩ [] rfl rfl rfl (by omega) (by omega) dM_open_102
        · replace hR := hR.trans (if_neg h30)
          replace hE := iteP_neg h30 hE
          refine lv_aload_n hx hb dM_open_54 rfl (lv_at hl 0 rfl) ?_
          refine lv_iconst (v := nI 2) hx hb dM_open_55 (by decide) ?_
          refine mp_i (cx := []) (wr := []) hP hD hS hA [] [] rfl rfl rfl (by decide) (va_runV (As := [.int (nI 2)]) (rest := []) F (N_M_fail l g _ T q29.2 pl hO hU h0 (nI 2) tp rs ks k_h0 hf89 hf90 hf91) (cwV 1 hts (wg_app (wg_c kw_1577 (wg_c kw_1579 (wg_c ks_50 (wg_c kw_9 wg_n)))) kw_1580) rfl rfl rfl (by decide +kernel) ⟨by decide, by decide⟩) (pn_W "LatticeKeysModel" (en_ok g) (ci := 8) (kn := 148) (fl := [(0, 0), (0, 0), (0, 0), (0, 0), (3, 149), (3, 150), (3, 151), (3, 152), (3, 161), (3, 170), (3, 171), (3, 172), (3, 184), (3, 225)]) hK hO k_h0 rfl hP hD hS hA hEn [] rfl rfl rfl) rfl rfl hl.1 rfl (lv_room (Nat.le_of_ble_eq_true rfl)) dM_open_56 ⟨by omega, by omega⟩) (fun r55 u33 H locs hu33 hP hD hS => ?_)
          obtain ⟨q30, pl⟩ := u33
          obtain ⟨⟨eq33, rfl, hFc33, ⟨x48, hx_48, hb_48⟩, ⟨x49, hx_49, hb_49⟩, ⟨x50, hx_50, hb_50⟩, -⟩, hO⟩ := hu33
          have hO : okn g T q30.2 pl := hO
          have hP : va_P g.1 vcl ([] ++ pl) _ := hP
          have hD : va_D _ ([] ++ pl) := hD
          have hFc33 : frm (M_M_fail) q29.2 q30.2 := hFc33
          have hb_48 : x48 = tp := hb_48
          have hb_49 : x49 = rs := hb_49
          have hb_50 : x50 = ks := hb_50
          replace hR := bnd_step hR eq33
          replace hE := bndP_step hE eq33
          have hF := frm_tr hF hFc33 (fun k hk => by unfold M_M_fail at hk; unfold M_M_open; omega)
          have hf115 : q30.2.1 170 z21 = nI 2 := fc_F hf93 hFc33 (by unfold M_M_fail; omega)
          have hf116 : q30.2.1 171 z21 = nI z30 := fc_F hf94 hFc33 (by unfold M_M_fail; omega)
          have hg59 : SETS ks (q30.2.1 170) := by rw [hFc33 170 (by unfold M_M_fail; omega)]; exact hg51
          have hg60 : HIDS ks (q30.2.1 171) := by rw [hFc33 171 (by unfold M_M_fail; omega)]; exact hg52
          refine W.widen (k := 0) (n := 0) (by omega) (by omega) ?_
          exact mp_iret hx hb hr hlk hP hD hS ((q30.1, q30.2), pl) ⟨⟨hR.symm, rfl, hF, ⟨x48, hx_48, by omega⟩, ⟨x49, hx_49, by omega⟩, ⟨x50, hx_50, by omega⟩, trivial⟩, hO⟩ [] rfl rfl rfl (by omega) (by omega) dM_open_59
      · replace hR := hR.trans (if_pos h29)
        replace hE := iteP_pos h29 hE
        refine lv_aload_n hx hb dM_open_32 rfl (lv_at hl 0 rfl) ?_
        refine lv_iconst (v := nI 1) hx hb dM_open_33 (by decide) ?_
        refine mp_i (cx := []) (wr := []) hP hD hS hA [] [] rfl rfl rfl (by decide) (va_runV (As := [.int (nI 1)]) (rest := []) F (N_M_fail l g _ T q21.2 pl hO hU h0 (nI 1) tp rs ks k_h0 hf25 hf26 hf27) (cwV 1 hts (wg_app (wg_c kw_1577 (wg_c kw_1579 (wg_c ks_50 (wg_c kw_9 wg_n)))) kw_1580) rfl rfl rfl (by decide +kernel) ⟨by decide, by decide⟩) (pn_W "LatticeKeysModel" (en_ok g) (ci := 8) (kn := 148) (fl := [(0, 0), (0, 0), (0, 0), (0, 0), (3, 149), (3, 150), (3, 151), (3, 152), (3, 161), (3, 170), (3, 171), (3, 172), (3, 184), (3, 225)]) hK hO k_h0 rfl hP hD hS hA hEn [] rfl rfl rfl) rfl rfl hl.1 rfl (lv_room (Nat.le_of_ble_eq_true rfl)) dM_open_34 ⟨by omega, by omega⟩) (fun r56 u34 H locs hu34 hP hD hS => ?_)
        obtain ⟨q31, pl⟩ := u34
        obtain ⟨⟨eq34, rfl, hFc34, ⟨x52, hx_52, hb_52⟩, ⟨x53, hx_53, hb_53⟩, ⟨x54, hx_54, hb_54⟩, -⟩, hO⟩ := hu34
        have hO : okn g T q31.2 pl := hO
        have hP : va_P g.1 vcl ([] ++ pl) _ := hP
        have hD : va_D _ ([] ++ pl) := hD
        have hFc34 : frm (M_M_fail) q21.2 q31.2 := hFc34
        have hb_52 : x52 = tp := hb_52
        have hb_53 : x53 = rs := hb_53
        have hb_54 : x54 = ks := hb_54
        replace hR := bnd_step hR eq34
        replace hE := bndP_step hE eq34
        have hF := frm_tr hF hFc34 (fun k hk => by unfold M_M_fail at hk; unfold M_M_open; omega)
        have hf117 : q31.2.1 170 z21 = nI 2 := fc_F hs23 hFc34 (by unfold M_M_fail; omega)
        have hf118 : q31.2.1 171 z21 = nI z30 := fc_F hz38 hFc34 (by unfold M_M_fail; omega)
        have hg61 : SETS ks (q31.2.1 170) := by rw [hFc34 170 (by unfold M_M_fail; omega)]; exact hg23
        have hg62 : HIDS ks (q31.2.1 171) := by rw [hFc34 171 (by unfold M_M_fail; omega)]; exact hg24
        refine W.widen (k := 0) (n := 0) (by omega) (by omega) ?_
        exact mp_iret hx hb hr hlk hP hD hS ((q31.1, q31.2), pl) ⟨⟨hR.symm, rfl, hF, ⟨x52, hx_52, by omega⟩, ⟨x53, hx_53, by omega⟩, ⟨x54, hx_54, by omega⟩, trivial⟩, hO⟩ [] rfl rfl rfl (by omega) (by omega) dM_open_37
    replace hR := hR.trans (if_neg hs23)
    replace hE := iteP_neg hs23 hE
    by_cases hs24 : (q21.2.1 170 z21) = nI 3
    · replace hR := hR.trans (if_pos hs24)
      replace hE := iteP_pos hs24 hE
      refine mi_as hs24 ?_
      refine lv_iconst (v := nI 2) hx hb dM_open_19 (by decide) ?_
      refine mi_gt (tgt := 32) hx hb dM_open_20 (by decide) (by omega) (by omega) (fun h31 => ?_) (fun h31 => absurd h31 (by omega))
      refine lv_aload_n hx hb dM_open_32 rfl (lv_at hl 0 rfl) ?_
      refine lv_iconst (v := nI 1) hx hb dM_open_33 (by decide) ?_
      refine mp_i (cx := []) (wr := []) hP hD hS hA [] [] rfl rfl rfl (by decide) (va_runV (As := [.int (nI 1)]) (rest := []) F (N_M_fail l g _ T q21.2 pl hO hU h0 (nI 1) tp rs ks k_h0 hf25 hf26 hf27) (cwV 1 hts (wg_app (wg_c kw_1577 (wg_c kw_1579 (wg_c ks_50 (wg_c kw_9 wg_n)))) kw_1580) rfl rfl rfl (by decide +kernel) ⟨by decide, by decide⟩) (pn_W "LatticeKeysModel" (en_ok g) (ci := 8) (kn := 148) (fl := [(0, 0), (0, 0), (0, 0), (0, 0), (3, 149), (3, 150), (3, 151), (3, 152), (3, 161), (3, 170), (3, 171), (3, 172), (3, 184), (3, 225)]) hK hO k_h0 rfl hP hD hS hA hEn [] rfl rfl rfl) rfl rfl hl.1 rfl (lv_room (Nat.le_of_ble_eq_true rfl)) dM_open_34 ⟨by omega, by omega⟩) (fun r57 u35 H locs hu35 hP hD hS => ?_)
      obtain ⟨q32, pl⟩ := u35
      obtain ⟨⟨eq35, rfl, hFc35, ⟨x56, hx_56, hb_56⟩, ⟨x57, hx_57, hb_57⟩, ⟨x58, hx_58, hb_58⟩, -⟩, hO⟩ := hu35
      have hO : okn g T q32.2 pl := hO
      have hP : va_P g.1 vcl ([] ++ pl) _ := hP
      have hD : va_D _ ([] ++ pl) := hD
      have hFc35 : frm (M_M_fail) q21.2 q32.2 := hFc35
      have hb_56 : x56 = tp := hb_56
      have hb_57 : x57 = rs := hb_57
      have hb_58 : x58 = ks := hb_58
      replace hR := bnd_step hR eq35
      replace hE := bndP_step hE eq35
      have hF := frm_tr hF hFc35 (fun k hk => by unfold M_M_fail at hk; unfold M_M_open; omega)
      have hf119 : q32.2.1 170 z21 = nI 3 := fc_F hs24 hFc35 (by unfold M_M_fail; omega)
      have hg63 : SETS ks (q32.2.1 170) := by rw [hFc35 170 (by unfold M_M_fail; omega)]; exact hg23
      have hg64 : HIDS ks (q32.2.1 171) := by rw [hFc35 171 (by unfold M_M_fail; omega)]; exact hg24
      refine W.widen (k := 0) (n := 0) (by omega) (by omega) ?_
      exact mp_iret hx hb hr hlk hP hD hS ((q32.1, q32.2), pl) ⟨⟨hR.symm, rfl, hF, ⟨x56, hx_56, by omega⟩, ⟨x57, hx_57, by omega⟩, ⟨x58, hx_58, by omega⟩, trivial⟩, hO⟩ [] rfl rfl rfl (by omega) (by omega) dM_open_37
    replace hR := hR.trans (if_neg hs24)
    replace hE := iteP_neg hs24 hE
    by_cases hs25 : (q21.2.1 170 z21) = nI 4
    · replace hR := hR.trans (if_pos hs25)
      replace hE := iteP_pos hs25 hE
      refine mi_as hs25 ?_
      refine lv_iconst (v := nI 2) hx hb dM_open_19 (by decide) ?_
      refine mi_gt (tgt := 32) hx hb dM_open_20 (by decide) (by omega) (by omega) (fun h32 => ?_) (fun h32 => absurd h32 (by omega))
      refine lv_aload_n hx hb dM_open_32 rfl (lv_at hl 0 rfl) ?_
      refine lv_iconst (v := nI 1) hx hb dM_open_33 (by decide) ?_
      refine mp_i (cx := []) (wr := []) hP hD hS hA [] [] rfl rfl rfl (by decide) (va_runV (As := [.int (nI 1)]) (rest := []) F (N_M_fail l g _ T q21.2 pl hO hU h0 (nI 1) tp rs ks k_h0 hf25 hf26 hf27) (cwV 1 hts (wg_app (wg_c kw_1577 (wg_c kw_1579 (wg_c ks_50 (wg_c kw_9 wg_n)))) kw_1580) rfl rfl rfl (by decide +kernel) ⟨by decide, by decide⟩) (pn_W "LatticeKeysModel" (en_ok g) (ci := 8) (kn := 148) (fl := [(0, 0), (0, 0), (0, 0), (0, 0), (3, 149), (3, 150), (3, 151), (3, 152), (3, 161), (3, 170), (3, 171), (3, 172), (3, 184), (3, 225)]) hK hO k_h0 rfl hP hD hS hA hEn [] rfl rfl rfl) rfl rfl hl.1 rfl (lv_room (Nat.le_of_ble_eq_true rfl)) dM_open_34 ⟨by omega, by omega⟩) (fun r58 u36 H locs hu36 hP hD hS => ?_)
      obtain ⟨q33, pl⟩ := u36
      obtain ⟨⟨eq36, rfl, hFc36, ⟨x60, hx_60, hb_60⟩, ⟨x61, hx_61, hb_61⟩, ⟨x62, hx_62, hb_62⟩, -⟩, hO⟩ := hu36
      have hO : okn g T q33.2 pl := hO
      have hP : va_P g.1 vcl ([] ++ pl) _ := hP
      have hD : va_D _ ([] ++ pl) := hD
      have hFc36 : frm (M_M_fail) q21.2 q33.2 := hFc36
      have hb_60 : x60 = tp := hb_60
      have hb_61 : x61 = rs := hb_61
      have hb_62 : x62 = ks := hb_62
      replace hR := bnd_step hR eq36
      replace hE := bndP_step hE eq36
      have hF := frm_tr hF hFc36 (fun k hk => by unfold M_M_fail at hk; unfold M_M_open; omega)
      have hf120 : q33.2.1 170 z21 = nI 4 := fc_F hs25 hFc36 (by unfold M_M_fail; omega)
      have hg65 : SETS ks (q33.2.1 170) := by rw [hFc36 170 (by unfold M_M_fail; omega)]; exact hg23
      have hg66 : HIDS ks (q33.2.1 171) := by rw [hFc36 171 (by unfold M_M_fail; omega)]; exact hg24
      refine W.widen (k := 0) (n := 0) (by omega) (by omega) ?_
      exact mp_iret hx hb hr hlk hP hD hS ((q33.1, q33.2), pl) ⟨⟨hR.symm, rfl, hF, ⟨x60, hx_60, by omega⟩, ⟨x61, hx_61, by omega⟩, ⟨x62, hx_62, by omega⟩, trivial⟩, hO⟩ [] rfl rfl rfl (by omega) (by omega) dM_open_37
    replace hR := hR.trans (if_neg hs25)
    replace hE := iteP_neg hs25 hE
    have hs26 : (q21.2.1 170 z21) = nI 5 := set5 hg23 (by omega) hs21 hs22 hs23 hs24 hs25
    refine mi_as hs26 ?_
    refine lv_iconst (v := nI 2) hx hb dM_open_19 (by decide) ?_
    refine mi_gt (tgt := 32) hx hb dM_open_20 (by decide) (by omega) (by omega) (fun h33 => ?_) (fun h33 => absurd h33 (by omega))
    refine lv_aload_n hx hb dM_open_32 rfl (lv_at hl 0 rfl) ?_
    refine lv_iconst (v := nI 1) hx hb dM_open_33 (by decide) ?_
    refine mp_i (cx := []) (wr := []) hP hD hS hA [] [] rfl rfl rfl (by decide) (va_runV (As := [.int (nI 1)]) (rest := []) F (N_M_fail l g _ T q21.2 pl hO hU h0 (nI 1) tp rs ks k_h0 hf25 hf26 hf27) (cwV 1 hts (wg_app (wg_c kw_1577 (wg_c kw_1579 (wg_c ks_50 (wg_c kw_9 wg_n)))) kw_1580) rfl rfl rfl (by decide +kernel) ⟨by decide, by decide⟩) (pn_W "LatticeKeysModel" (en_ok g) (ci := 8) (kn := 148) (fl := [(0, 0), (0, 0), (0, 0), (0, 0), (3, 149), (3, 150), (3, 151), (3, 152), (3, 161), (3, 170), (3, 171), (3, 172), (3, 184), (3, 225)]) hK hO k_h0 rfl hP hD hS hA hEn [] rfl rfl rfl) rfl rfl hl.1 rfl (lv_room (Nat.le_of_ble_eq_true rfl)) dM_open_34 ⟨by omega, by omega⟩) (fun r59 u37 H locs hu37 hP hD hS => ?_)
    obtain ⟨q34, pl⟩ := u37
    obtain ⟨⟨eq37, rfl, hFc37, ⟨x64, hx_64, hb_64⟩, ⟨x65, hx_65, hb_65⟩, ⟨x66, hx_66, hb_66⟩, -⟩, hO⟩ := hu37
    have hO : okn g T q34.2 pl := hO
    have hP : va_P g.1 vcl ([] ++ pl) _ := hP
    have hD : va_D _ ([] ++ pl) := hD
    have hFc37 : frm (M_M_fail) q21.2 q34.2 := hFc37
    have hb_64 : x64 = tp := hb_64
    have hb_65 : x65 = rs := hb_65
    have hb_66 : x66 = ks := hb_66
    replace hR := bnd_step hR eq37
    replace hE := bndP_step hE eq37
    have hF := frm_tr hF hFc37 (fun k hk => by unfold M_M_fail at hk; unfold M_M_open; omega)
    have hf121 : q34.2.1 170 z21 = nI 5 := fc_F hs26 hFc37 (by unfold M_M_fail; omega)
    have hg67 : SETS ks (q34.2.1 170) := by rw [hFc37 170 (by unfold M_M_fail; omega)]; exact hg23
    have hg68 : HIDS ks (q34.2.1 171) := by rw [hFc37 171 (by unfold M_M_fail; omega)]; exact hg24
    refine W.widen (k := 0) (n := 0) (by omega) (by omega) ?_
    exact mp_iret hx hb hr hlk hP hD hS ((q34.1, q34.2), pl) ⟨⟨hR.symm, rfl, hF, ⟨x64, hx_64, by omega⟩, ⟨x65, hx_65, by omega⟩, ⟨x66, hx_66, by omega⟩, trivial⟩, hO⟩ [] rfl rfl rfl (by omega) (by omega) dM_open_37
