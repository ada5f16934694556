set_option linter.all false
abbrev c_M_seal : ByteArray := prog_12_method_21_code
abbrev y_M_seal : MethodName := ⟨"LatticeKeysModel", "seal", "(I)I"⟩
abbrev w_M_seal : List Cond := Cond.code y_M_seal c_M_seal 2 (some .int) :: WG
theorem dM_seal_0 : decode c_M_seal 0 = .ok (.aload_n 0, 1) := by decide +kernel
theorem dM_seal_1 : decode c_M_seal 1 = .ok (.iconst 0, 1) := by decide +kernel
theorem dM_seal_2 : decode c_M_seal 2 = .ok (.putfield 57, 3) := by decide +kernel
theorem dM_seal_5 : decode c_M_seal 5 = .ok (.aload_n 0, 1) := by decide +kernel
theorem dM_seal_6 : decode c_M_seal 6 = .ok (.iload_n 1, 1) := by decide +kernel
theorem dM_seal_7 : decode c_M_seal 7 = .ok (.invokevirtual 103, 3) := by decide +kernel
theorem dM_seal_10 : decode c_M_seal 10 = .ok (.ifCond .ne 13, 3) := by decide +kernel
theorem dM_seal_13 : decode c_M_seal 13 = .ok (.aload_n 0, 1) := by decide +kernel
theorem dM_seal_14 : decode c_M_seal 14 = .ok (.getfield 27, 3) := by decide +kernel
theorem dM_seal_17 : decode c_M_seal 17 = .ok (.iload_n 1, 1) := by decide +kernel
theorem dM_seal_18 : decode c_M_seal 18 = .ok (.iaload, 1) := by decide +kernel
theorem dM_seal_19 : decode c_M_seal 19 = .ok (.iconst 2, 1) := by decide +kernel
theorem dM_seal_20 : decode c_M_seal 20 = .ok (.if_icmp .le 9, 3) := by decide +kernel
theorem dM_seal_23 : decode c_M_seal 23 = .ok (.aload_n 0, 1) := by decide +kernel
theorem dM_seal_24 : decode c_M_seal 24 = .ok (.iconst 1, 1) := by decide +kernel
theorem dM_seal_25 : decode c_M_seal 25 = .ok (.invokevirtual 73, 3) := by decide +kernel
theorem dM_seal_28 : decode c_M_seal 28 = .ok (.ireturn, 1) := by decide +kernel
theorem dM_seal_29 : decode c_M_seal 29 = .ok (.aload_n 0, 1) := by decide +kernel
theorem dM_seal_30 : decode c_M_seal 30 = .ok (.getfield 70, 3) := by decide +kernel
theorem dM_seal_33 : decode c_M_seal 33 = .ok (.bipush 32, 2) := by decide +kernel
theorem dM_seal_35 : decode c_M_seal 35 = .ok (.if_icmp .eq 9, 3) := by decide +kernel
theorem dM_seal_38 : decode c_M_seal 38 = .ok (.aload_n 0, 1) := by decide +kernel
theorem dM_seal_39 : decode c_M_seal 39 = .ok (.iconst 2, 1) := by decide +kernel
theorem dM_seal_40 : decode c_M_seal 40 = .ok (.invokevirtual 73, 3) := by decide +kernel
theorem dM_seal_43 : decode c_M_seal 43 = .ok (.ireturn, 1) := by decide +kernel
theorem dM_seal_44 : decode c_M_seal 44 = .ok (.aload_n 0, 1) := by decide +kernel
theorem dM_seal_45 : decode c_M_seal 45 = .ok (.iconst 0, 1) := by decide +kernel
theorem dM_seal_46 : decode c_M_seal 46 = .ok (.putfield 70, 3) := by decide +kernel
theorem dM_seal_49 : decode c_M_seal 49 = .ok (.aload_n 0, 1) := by decide +kernel
theorem dM_seal_50 : decode c_M_seal 50 = .ok (.aload_n 0, 1) := by decide +kernel
theorem dM_seal_51 : decode c_M_seal 51 = .ok (.getfield 46, 3) := by decide +kernel
theorem dM_seal_54 : decode c_M_seal 54 = .ok (.aload_n 0, 1) := by decide +kernel
theorem dM_seal_55 : decode c_M_seal 55 = .ok (.getfield 27, 3) := by decide +kernel
theorem dM_seal_58 : decode c_M_seal 58 = .ok (.iload_n 1, 1) := by decide +kernel
theorem dM_seal_59 : decode c_M_seal 59 = .ok (.iaload, 1) := by decide +kernel
theorem dM_seal_60 : decode c_M_seal 60 = .ok (.aload_n 0, 1) := by decide +kernel
theorem dM_seal_61 : decode c_M_seal 61 = .ok (.getfield 21, 3) := by decide +kernel
theorem dM_seal_64 : decode c_M_seal 64 = .ok (.iload_n 1, 1) := by decide +kernel
theorem dM_seal_65 : decode c_M_seal 65 = .ok (.aaload, 1) := by decide +kernel
theorem dM_seal_66 : decode c_M_seal 66 = .ok (.aload_n 0, 1) := by decide +kernel
theorem dM_seal_67 : decode c_M_seal 67 = .ok (.getfield 7, 3) := by decide +kernel
theorem dM_seal_70 : decode c_M_seal 70 = .ok (.aload_n 0, 1) := by decide +kernel
theorem dM_seal_71 : decode c_M_seal 71 = .ok (.getfield 13, 3) := by decide +kernel
theorem dM_seal_74 : decode c_M_seal 74 = .ok (.invokevirtual 111, 3) := by decide +kernel
theorem dM_seal_77 : decode c_M_seal 77 = .ok (.putfield 80, 3) := by decide +kernel
theorem dM_seal_80 : decode c_M_seal 80 = .ok (.aload_n 0, 1) := by decide +kernel
theorem dM_seal_81 : decode c_M_seal 81 = .ok (.getfield 80, 3) := by decide +kernel
theorem dM_seal_84 : decode c_M_seal 84 = .ok (.ireturn, 1) := by decide +kernel
def M_M_seal (k : Nat) : Prop := (186 ≤ k ∧ k < 202) ∨ (203 ≤ k ∧ k < 207) ∨ (208 ≤ k ∧ k < 212) ∨ (213 ≤ k ∧ k < 217) ∨ k = 148 ∨ k = 150 ∨ k = 172 ∨ k = 217 ∨ k = 218 ∨ k = 219 ∨ k = 220 ∨ k = 221 ∨ k = 222 ∨ (0 : Nat) = 1
noncomputable def F_M_seal (v : Int32) (s : Sto) : Int32 × Sto := bnd (sI s 148 0 (nI 0)) fun s21 => bnd (F_M_none v s21) fun q21 => if (q21.1) = 0 then bnd (v.toNatClampNeg) fun z21 => if (q21.2.1 170 z21) = nI 0 then bnd ((q21.2.1 148 1).toNatClampNeg) fun z22 => if z22 = 32 then bnd (sI q21.2 148 1 (nI 0)) fun s22 => bnd (F_ME_seal_0 (153 + z21) 149 150 s22) fun q23 => bnd (q23.1.toNatClampNeg) fun z23 => bnd (sI q23.2 148 2 (nI 800)) fun s23 => bnd ((s23.1 148 2).toNatClampNeg) fun z24 => (nI z24, s23) else bnd (F_M_fail (nI 2) q21.2) fun q24 => (q24.1, q24.2) else if (q21.2.1 170 z21) = nI 1 then bnd ((q21.2.1 148 1).toNatClampNeg) fun z25 => if z25 = 32 then bnd (sI q21.2 148 1 (nI 0)) fun s24 => bnd (F_ME_seal_1 (153 + z21) 149 150 s24) fun q25 => bnd (q25.1.toNatClampNeg) fun z26 => bnd (sI q25.2 148 2 (nI 1120)) fun s25 => bnd ((s25.1 148 2).toNatClampNeg) fun z27 => (nI z27, s25) else bnd (F_M_fail (nI 2) q21.2) fun q26 => (q26.1, q26.2) else if (q21.2.1 170 z21) = nI 2 then bnd ((q21.2.1 148 1).toNatClampNeg) fun z28 => if z28 = 32 then bnd (sI q21.2 148 1 (nI 0)) fun s26 => bnd (F_ME_seal_2 (153 + z21) 149 150 s26) fun q27 => bnd (q27.1.toNatClampNeg) fun z29 => bnd (sI q27.2 148 2 (nI 1600)) fun s27 => bnd ((s27.1 148 2).toNatClampNeg) fun z30 => (nI z30, s27) else bnd (F_M_fail (nI 2) q21.2) fun q28 => (q28.1, q28.2) else if (q21.2.1 170 z21) = nI 3 then bnd (F_M_fail (nI 1) q21.2) fun q29 => (q29.1, q29.2) else if (q21.2.1 170 z21) = nI 4 then bnd (F_M_fail (nI 1) q21.2) fun q30 => (q30.1, q30.2) else bnd (F_M_fail (nI 1) q21.2) fun q31 => (q31.1, q31.2) else bnd (F_M_fail (nI 1) q21.2) fun q22 => (q22.1, q22.2)
noncomputable def E_M_seal (v : Int32) (s : Sto) : Prop := bnd (sI s 148 0 (nI 0)) fun s21 => bnd (F_M_none v s21) fun q21 => if (q21.1) = 0 then bnd (v.toNatClampNeg) fun z21 => if (q21.2.1 170 z21) = nI 0 then bnd ((q21.2.1 148 1).toNatClampNeg) fun z22 => if z22 = 32 then bnd (sI q21.2 148 1 (nI 0)) fun s22 => (E_ME_seal_0 (153 + z21) 149 150 s22) ∧ (bnd (F_ME_seal_0 (153 + z21) 149 150 s22) fun q23 => bnd (q23.1.toNatClampNeg) fun z23 => bnd (sI q23.2 148 2 (nI 800)) fun s23 => bnd ((s23.1 148 2).toNatClampNeg) fun z24 => True) else bnd (F_M_fail (nI 2) q21.2) fun q24 => True else if (q21.2.1 170 z21) = nI 1 then bnd ((q21.2.1 148 1).toNatClampNeg) fun z25 => if z25 = 32 then bnd (sI q21.2 148 1 (nI 0)) fun s24 => (E_ME_seal_1 (153 + z21) 149 150 s24) ∧ (bnd (F_ME_seal_1 (153 + z21) 149 150 s24) fun q25 => bnd (q25.1.toNatClampNeg) fun z26 => bnd (sI q25.2 148 2 (nI 1120)) fun s25 => bnd ((s25.1 148 2).toNatClampNeg) fun z27 => True) else bnd (F_M_fail (nI 2) q21.2) fun q26 => True else if (q21.2.1 170 z21) = nI 2 then bnd ((q21.2.1 148 1).toNatClampNeg) fun z28 => if z28 = 32 then bnd (sI q21.2 148 1 (nI 0)) fun s26 => (E_ME_seal_2 (153 + z21) 149 150 s26) ∧ (bnd (F_ME_seal_2 (153 + z21) 149 150 s26) fun q27 => bnd (q27.1.toNatClampNeg) fun z29 => bnd (sI q27.2 148 2 (nI 1600)) fun s27 => bnd ((s27.1 148 2).toNatClampNeg) fun z30 => True) else bnd (F_M_fail (nI 2) q21.2) fun q28 => True else if (q21.2.1 170 z21) = nI 3 then bnd (F_M_fail (nI 1) q21.2) fun q29 => True else if (q21.2.1 170 z21) = nI 4 then bnd (F_M_fail (nI 1) q21.2) fun q30 => True else bnd (F_M_fail (nI 1) q21.2) fun q31 => True else bnd (F_M_fail (nI 1) q21.2) fun q22 => True
set_option maxHeartbeats 2000000 in
set_option maxRecDepth 100000 in
theorem N_M_seal (l : Launch) (g : Gd) (sz : Nat) (T : TyN) (s : Sto) (pl : va_W) (hO : okn g T s pl) (hU : inj T) (h0 : Nat) (v : Int32) (tp : Nat) (rs : Nat) (ks : Nat) (k_h0 : T h0 = some 148) (e_tp : s.1 148 1 = nI tp) (e_rs : s.1 148 2 = nI rs) (e_ks : s.1 148 3 = nI ks) (h1 : tp ≤ 16384) (h2 : rs ≤ 8192) (h3 : ks ≤ 8) (qst : SETS ks (s.1 170)) (qhd : HIDS ks (s.1 171)) (hE : E_M_seal v s)  : Met l y_M_seal w_M_seal ({ frames := 7, cells := 0, slots := 0, locals := 172 } : Room) (va_Pc [.ref h0, .int v] (pr (en g) g.1 vcl sz ([] ++ pl))) (va_Qi (fun (r : Int32) (u : (Int32 × Sto) × va_W) => (u.1 = F_M_seal v s ∧ r = u.1.1 ∧ frm (M_M_seal) s u.1.2 ∧ (∃ x : Nat, u.1.2.1 148 1 = nI x ∧ x ≤ 16384) ∧ (∃ x : Nat, u.1.2.1 148 2 = nI x ∧ x ≤ 8192) ∧ (∃ x : Nat, u.1.2.1 148 3 = nI x ∧ x ≤ 8) ∧ True) ∧ okn g T u.1.2 u.2) (po g.1 vcl (va_A ([] ++ pl) sz) (fun (u : (Int32 × Sto) × va_W) => [] ++ u.2)) (va_A ([] ++ pl) sz)) 0 0 (va_A ([] ++ pl) sz) := by
  refine mc_entry (cc := c_M_seal) (maxL := 2) (ret := (some .int)) (by decide) rfl (Nat.le_of_ble_eq_true rfl) ?_
  intro p e s0 m args below meth c ls F hr hlk hnm hsz hP hD hEn hA hl
  obtain ⟨hx, hb, hml, hown, hts⟩ := id F
  have hK := hEn.1
  generalize va_A ([] ++ pl) sz = A at hD hEn hA ⊢
  have hS : va_S A s0.heap s0.heap [] := va_S.rf
  have hl : lv_has ls 2 [(0, .ref h0), (1, .int v)] := hl
  have hR : F_M_seal v s = F_M_seal v s := rfl
  have hF : frm (M_M_seal) s s := frm_rf
  refine lv_aload_n hx hb dM_seal_0 rfl (lv_at hl 0 rfl) ?_
  refine lv_iconst (v := nI 0) hx hb dM_seal_1 (by decide) ?_
  refine nw_put (C := "LatticeKeysModel") (TT := T_M) (N := 14) hx hb hts (wg_ft i_M) ty_M k_M n_M hown hK hO hU k_h0 (kn := 148) (ci := 8) (fl := [(0, 0), (0, 0), (0, 0), (0, 0), (3, 149), (3, 150), (3, 151), (3, 152), (3, 161), (3, 170), (3, 171), (3, 172), (3, 184), (3, 225)]) rfl hP hD hS rfl 0 (by decide) (hts _ (wg_t kw_1526)) (fun _ h9 => h9) rfl (by decide +kernel) rfl dM_seal_2 (fun s21 pl H locs es21 hO hP hD hS => ?_)
  replace hR := bnd_step hR es21
  replace hE := bndP_step hE es21
  have hF := frm_sI hF es21 (by unfold M_M_seal; omega)
  have hf21 : s21.1 148 1 = nI tp := fc_ne e_tp es21 (by omega)
  have hf22 : s21.1 148 2 = nI rs := fc_ne e_rs es21 (by omega)
  have hf23 : s21.1 148 3 = nI ks := fc_ne e_ks es21 (by omega)
  have hf24 : s21.1 148 0 = nI 0 := fc_eq es21
  have hg21 : SETS ks (s21.1 170) := by rw [(ar_sI es21 (by omega))]; exact qst
  have hg22 : HIDS ks (s21.1 171) := by rw [(ar_sI es21 (by omega))]; exact qhd
  refine lv_aload_n hx hb dM_seal_5 rfl (lv_at hl 0 rfl) ?_
  refine lv_iload_n hx hb dM_seal_6 rfl (lv_at hl 1 rfl) ?_
  refine mp_i (cx := []) (wr := []) hP hD hS hA [] [] rfl rfl rfl (by decide) (va_runV (As := [.int v]) (rest := []) F (N_M_none l g _ T s21 pl hO hU h0 v tp rs ks k_h0 hf21 hf22 hf23 (by omega)) (cwV 1 hts (wg_app (wg_c kw_1781 (wg_c kw_1783 (wg_c ks_65 (wg_c kw_9 wg_n)))) kw_1784) rfl rfl rfl (by decide +kernel) ⟨by decide, by decide⟩) (pn_W "LatticeKeysModel" (en_ok g) (ci := 8) (kn := 148) (fl := [(0, 0), (0, 0), (0, 0), (0, 0), (3, 149), (3, 150), (3, 151), (3, 152), (3, 161), (3, 170), (3, 171), (3, 172), (3, 184), (3, 225)]) hK hO k_h0 rfl hP hD hS hA hEn [] rfl rfl rfl) rfl rfl hl.1 rfl (lv_room (Nat.le_of_ble_eq_true rfl)) dM_seal_7 ⟨by omega, by omega⟩) (fun r21 u21 H locs hu21 hP hD hS => ?_)
  obtain ⟨q21, pl⟩ := u21
  obtain ⟨⟨eq21, rfl, hFc21, hxp21, -⟩, hO⟩ := hu21
  have hO : okn g T q21.2 pl := hO
  have hP : va_P g.1 vcl ([] ++ pl) _ := hP
  have hD : va_D _ ([] ++ pl) := hD
  have hFc21 : frm (M_M_none) s21 q21.2 := hFc21
  replace hR := bnd_step hR eq21
  replace hE := bndP_step hE eq21
  have hF := frm_tr hF hFc21 (fun k hk => by unfold M_M_none at hk; unfold M_M_seal; omega)
  have hf25 : q21.2.1 148 1 = nI tp := fc_F hf21 hFc21 (by unfold M_M_none; omega)
  have hf26 : q21.2.1 148 2 = nI rs := fc_F hf22 hFc21 (by unfold M_M_none; omega)
  have hf27 : q21.2.1 148 3 = nI ks := fc_F hf23 hFc21 (by unfold M_M_none; omega)
  have hf28 : q21.2.1 148 0 = nI 0 := fc_F hf24 hFc21 (by unfold M_M_none; omega)
  have hg23 : SETS ks (q21.2.1 170) := by rw [hFc21 170 (by unfold M_M_none; omega)]; exact hg21
  have hg24 : HIDS ks (q21.2.1 171) := by rw [hFc21 171 (by unfold M_M_none; omega)]; exact hg22
  refine W.widen (k := 0) (n := 0) (by omega) (by omega) ?_
  refine lv_if_ne (tgt := 23) hx hb dM_seal_10 (by decide) (fun h21 => ?_) (fun h21 => ?_)
  · replace hR := hR.trans (if_neg h21)
    replace hE := iteP_neg h21 hE
    refine lv_aload_n hx hb dM_seal_23 rfl (lv_at hl 0 rfl) ?_
    refine lv_iconst (v := nI 1) hx hb dM_seal_24 (by decide) ?_
    refine mp_i (cx := []) (wr := []) hP hD hS hA [] [] rfl rfl rfl (by decide) (va_runV (As := [.int (nI 1)]) (rest := []) F (N_M_fail l g _ T q21.2 pl hO hU h0 (nI 1) tp rs ks k_h0 hf25 hf26 hf27) (cwV 1 hts (wg_app (wg_c kw_1577 (wg_c kw_1579 (wg_c ks_50 (wg_c kw_9 wg_n)))) kw_1580) rfl rfl rfl (by decide +kernel) ⟨by decide, by decide⟩) (pn_W "LatticeKeysModel" (en_ok g) (ci := 8) (kn := 148) (fl := [(0, 0), (0, 0), (0, 0), (0, 0), (3, 149), (3, 150), (3, 151), (3, 152), (3, 161), (3, 170), (3, 171), (3, 172), (3, 184), (3, 225)]) hK hO k_h0 rfl hP hD hS hA hEn [] rfl rfl rfl) rfl rfl hl.1 rfl (lv_room (Nat.le_of_ble_eq_true rfl)) dM_seal_25 ⟨by omega, by omega⟩) (fun r22 u22 H locs hu22 hP hD hS => ?_)
    obtain ⟨q22, pl⟩ := u22
    obtain ⟨⟨eq22, rfl, hFc22, ⟨x22, hx_22, hb_22⟩, ⟨x23, hx_23, hb_23⟩, ⟨x24, hx_24, hb_24⟩, -⟩, hO⟩ := hu22
    have hO : okn g T q22.2 pl := hO
    have hP : va_P g.1 vcl ([] ++ pl) _ := hP
    have hD : va_D _ ([] ++ pl) := hD
    have hFc22 : frm (M_M_fail) q21.2 q22.2 := hFc22
    have hb_22 : x22 = tp := hb_22
    have hb_23 : x23 = rs := hb_23
    have hb_24 : x24 = ks := hb_24
    replace hR := bnd_step hR eq22
    replace hE := bndP_step hE eq22
    have hF := frm_tr hF hFc22 (fun k hk => by unfold M_M_fail at hk; unfold M_M_seal; omega)
    have hg25 : SETS ks (q22.2.1 170) := by rw [hFc22 170 (by unfold M_M_fail; omega)]; exact hg23
    have hg26 : HIDS ks (q22.2.1 171) := by rw [hFc22 171 (by unfold M_M_fail; omega)]; exact hg24
    refine W.widen (k := 0) (n := 0) (by omega) (by omega) ?_
    exact mp_iret hx hb hr hlk hP hD hS ((q22.1, q22.2), pl) ⟨⟨hR.symm, rfl, hF, ⟨x22, hx_22, by omega⟩, ⟨x23, hx_23, by omega⟩, ⟨x24, hx_24, by omega⟩, trivial⟩, hO⟩ [] rfl rfl rfl (by omega) (by omega) dM_seal_28
  · replace hR := hR.trans (if_pos h21)
    replace hE := iteP_pos h21 hE
    obtain ⟨z21, hz21, hv21⟩ := (hxp21.resolve_left (fun h9 => absurd (h9.symm.trans h21) (by decide))).2
    have ez21 : z21 = v.toNatClampNeg := by rw [hv21]; exact (nI_clamp (by omega)).symm
    replace hR := bnd_step hR ez21
    replace hE := bndP_step hE ez21
    rw [hv21] at hl
    refine lv_aload_n hx hb dM_seal_13 rfl (lv_at hl 0 rfl) ?_
    refine nw_get (C := "LatticeKeysModel") (TT := T_M) (N := 14) hx hb hts (wg_ft i_M) hown hK hO k_h0 (kn := 148) (ci := 8) (fl := [(0, 0), (0, 0), (0, 0), (0, 0), (3, 149), (3, 150), (3, 151), (3, 152), (3, 161), (3, 170), (3, 171), (3, 172), (3, 184), (3, 225)]) rfl hP rfl 9 (by decide) (hts _ (wg_t kw_1535)) (fun _ h9 => h9) (cd := (3, 170)) rfl dM_seal_14 (fun v21 hv22 => ?_)
    obtain ⟨r23, rfl, kr21⟩ := (show ∃ r : Nat, v21 = .ref r ∧ T r = some 170 from hv22)
    refine lv_iload_n hx hb dM_seal_17 rfl (lv_at hl 1 rfl) ?_
    refine nw_iald hx hb hK hO kr21 (k := 170) rfl hP (by omega) (by omega) dM_seal_18 ?_
    by_cases hs21 : (q21.2.1 170 z21) = nI 0
    · replace hR := hR.trans (if_pos hs21)
      replace hE := iteP_pos hs21 hE
      refine mi_as hs21 ?_
      refine lv_iconst (v := nI 2) hx hb dM_seal_19 (by decide) ?_
      refine mi_le (tgt := 29) hx hb dM_seal_20 (by decide) (by omega) (by omega) (fun h22 => ?_) (fun h22 => absurd h22 (by omega))
      refine lv_aload_n hx hb dM_seal_29 rfl (lv_at hl 0 rfl) ?_
      refine nw_get (C := "LatticeKeysModel") (TT := T_M) (N := 14) hx hb hts (wg_ft i_M) hown hK hO k_h0 (kn := 148) (ci := 8) (fl := [(0, 0), (0, 0), (0, 0), (0, 0), (3, 149), (3, 150), (3, 151), (3, 152), (3, 161), (3, 170), (3, 171), (3, 172), (3, 184), (3, 225)]) rfl hP rfl 1 (by decide) (hts _ (wg_t kw_1527)) (fun _ h9 => h9) (cd := (0, 0)) rfl dM_seal_30 (fun v22 hv23 => ?_)
      obtain rfl := (show v22 = .int (q21.2.1 148 1) from hv23)
      obtain ⟨z22, ez22, hz22, hz23⟩ := cl_of (b := 2147483648) hf25 (by omega) (by decide)
      replace hR := bnd_step hR ez22
      replace hE := bndP_step hE ez22
      refine mi_as hz22 ?_
      refine lv_bipush (v := nI 32) hx hb dM_seal_33 (by decide) ?_
      refine mi_eq (tgt := 44) hx hb dM_seal_35 (by decide) (by omega) (by omega) (fun h23 => ?_) (fun h23 => ?_)
      · replace hR := hR.trans (if_pos h23)
        replace hE := iteP_pos h23 hE
        refine lv_aload_n hx hb dM_seal_44 rfl (lv_at hl 0 rfl) ?_
        refine lv_iconst (v := nI 0) hx hb dM_seal_45 (by decide) ?_
        refine nw_put (C := "LatticeKeysModel") (TT := T_M) (N := 14) hx hb hts (wg_ft i_M) ty_M k_M n_M hown hK hO hU k_h0 (kn := 148) (ci := 8) (fl := [(0, 0), (0, 0), (0, 0), (0, 0), (3, 149), (3, 150), (3, 151), (3, 152), (3, 161), (3, 170), (3, 171), (3, 172), (3, 184), (3, 225)]) rfl hP hD hS rfl 1 (by decide) (hts _ (wg_t kw_1527)) (fun _ h9 => h9) rfl (by decide +kernel) rfl dM_seal_46 (fun s22 pl H locs es22 hO hP hD hS => ?_)
        replace hR := bnd_step hR es22
        replace hE := bndP_step hE es22
        have hF := frm_sI hF es22 (by unfold M_M_seal; omega)
        have hf30 : s22.1 148 2 = nI rs := fc_ne hf26 es22 (by omega)
        have hf31 : s22.1 148 3 = nI ks := fc_ne hf27 es22 (by omega)
        have hf32 : s22.1 148 0 = nI 0 := fc_ne hf28 es22 (by omega)
        have hf33 : s22.1 170 z21 = nI 0 := fc_ne hs21 es22 (by omega)
        have hf34 : s22.1 148 1 = nI 0 := fc_eq es22
        have hg27 : SETS ks (s22.1 170) := by rw [(ar_sI es22 (by omega))]; exact hg23
        have hg28 : HIDS ks (s22.1 171) := by rw [(ar_sI es22 (by omega))]; exact hg24
        refine lv_aload_n hx hb dM_seal_49 rfl (lv_at hl 0 rfl) ?_
        refine lv_aload_n hx hb dM_seal_50 rfl (lv_at hl 0 rfl) ?_
        refine nw_get (C := "LatticeKeysModel") (TT := T_M) (N := 14) hx hb hts (wg_ft i_M) hown hK hO k_h0 (kn := 148) (ci := 8) (fl := [(0, 0), (0, 0), (0, 0), (0, 0), (3, 149), (3, 150), (3, 151), (3, 152), (3, 161), (3, 170), (3, 171), (3, 172), (3, 184), (3, 225)]) rfl hP rfl 12 (by decide) (hts _ (wg_t kw_1538)) (fun _ h9 => h9) (cd := (3, 184)) rfl dM_seal_51 (fun v23 hv24 => ?_)
        obtain ⟨r24, rfl, kr22⟩ := (show ∃ r : Nat, v23 = .ref r ∧ T r = some 184 from hv24)
        refine lv_aload_n hx hb dM_seal_54 rfl (lv_at hl 0 rfl) ?_
        refine nw_get (C := "LatticeKeysModel") (TT := T_M) (N := 14) hx hb hts (wg_ft i_M) hown hK hO k_h0 (kn := 148) (ci := 8) (fl := [(0, 0), (0, 0), (0, 0), (0, 0), (3, 149), (3, 150), (3, 151), (3, 152), (3, 161), (3, 170), (3, 171), (3, 172), (3, 184), (3, 225)]) rfl hP rfl 9 (by decide) (hts _ (wg_t kw_1535)) (fun _ h9 => h9) (cd := (3, 170)) rfl dM_seal_55 (fun v24 hv25 => ?_)
        obtain ⟨r25, rfl, kr23⟩ := (show ∃ r : Nat, v24 = .ref r ∧ T r = some 170 from hv25)
        refine lv_iload_n hx hb dM_seal_58 rfl (lv_at hl 1 rfl) ?_
        refine nw_iald hx hb hK hO kr23 (k := 170) rfl hP (by omega) (by omega) dM_seal_59 ?_
        refine mi_as hf33 ?_
        refine lv_aload_n hx hb dM_seal_60 rfl (lv_at hl 0 rfl) ?_
        refine nw_get (C := "LatticeKeysModel") (TT := T_M) (N := 14) hx hb hts (wg_ft i_M) hown hK hO k_h0 (kn := 148) (ci := 8) (fl := [(0, 0), (0, 0), (0, 0), (0, 0), (3, 149), (3, 150), (3, 151), (3, 152), (3, 161), (3, 170), (3, 171), (3, 172), (3, 184), (3, 225)]) rfl hP rfl 7 (by decide) (hts _ (wg_t kw_1533)) (fun _ h9 => h9) (cd := (3, 152)) rfl dM_seal_61 (fun v25 hv26 => ?_)
        obtain ⟨r26, rfl, kr24⟩ := (show ∃ r : Nat, v25 = .ref r ∧ T r = some 152 from hv26)
        refine lv_iload_n hx hb dM_seal_64 rfl (lv_at hl 1 rfl) ?_
        refine nw_aald4 hx hb hK hO kr24 (k := 152) (b := 153) rfl hP (by omega) (by omega) dM_seal_65 (fun r27 kr25 => ?_)
        have hn21 : nsp (153 + z21) = (1, 2592, []) := rows_okb 153 8 2592 (by decide) _ (by omega)
        refine lv_aload_n hx hb dM_seal_66 rfl (lv_at hl 0 rfl) ?_
        refine nw_get (C := "LatticeKeysModel") (TT := T_M) (N := 14) hx hb hts (wg_ft i_M) hown hK hO k_h0 (kn := 148) (ci := 8) (fl := [(0, 0), (0, 0), (0, 0), (0, 0), (3, 149), (3, 150), (3, 151), (3, 152), (3, 161), (3, 170), (3, 171), (3, 172), (3, 184), (3, 225)]) rfl hP rfl 4 (by decide) (hts _ (wg_t kw_1530)) (fun _ h9 => h9) (cd := (3, 149)) rfl dM_seal_67 (fun v26 hv27 => ?_)
        obtain ⟨r28, rfl, kr26⟩ := (show ∃ r : Nat, v26 = .ref r ∧ T r = some 149 from hv27)
        refine lv_aload_n hx hb dM_seal_70 rfl (lv_at hl 0 rfl) ?_
        refine nw_get (C := "LatticeKeysModel") (TT := T_M) (N := 14) hx hb hts (wg_ft i_M) hown hK hO k_h0 (kn := 148) (ci := 8) (fl := [(0, 0), (0, 0), (0, 0), (0, 0), (3, 149), (3, 150), (3, 151), (3, 152), (3, 161), (3, 170), (3, 171), (3, 172), (3, 184), (3, 225)]) rfl hP rfl 5 (by decide) (hts _ (wg_t kw_1531)) (fun _ h9 => h9) (cd := (3, 150)) rfl dM_seal_71 (fun v27 hv28 => ?_)
        obtain ⟨r29, rfl, kr27⟩ := (show ∃ r : Nat, v27 = .ref r ∧ T r = some 150 from hv28)
        refine mp_i (cx := []) (wr := []) hP hD hS hA [] [] rfl rfl rfl (by decide) (va_runV (As := [.int (nI 0), .ref r27, .ref r28, .ref r29]) (rest := [.ref h0]) F (N_ME_seal_0 l g _ T s22 pl hO hU r24 r27 r28 r29 (153 + z21) 149 150 kr22 kr25 hn21 kr26 rfl kr27 rfl hE.1) (cwV 4 hts (wg_app (wg_c kw_1801 (wg_c kw_1802 (wg_c kw_1803 (wg_c kw_11 wg_n)))) kw_1804) rfl rfl rfl (by decide +kernel) ⟨by decide, by decide⟩) (pn_W "LatticeKeysModel$Secrets" (en_ok g) (ci := 11) (kn := 184) (fl := [(3, 172), (3, 178), (3, 185), (3, 202), (3, 207), (3, 212), (3, 217), (3, 218), (3, 219), (3, 220), (3, 221), (3, 222), (3, 223), (3, 224)]) hK hO kr22 rfl hP hD hS hA hEn [] rfl rfl rfl) rfl rfl hl.1 rfl (lv_room (Nat.le_of_ble_eq_true rfl)) dM_seal_74 ⟨by omega, by omega⟩) (fun r30 u23 H locs hu23 hP hD hS => ?_)
        obtain ⟨q23, pl⟩ := u23
        obtain ⟨⟨eq23, rfl, hFc23, ⟨x26, hx_26, hb_26⟩, hxp23, -⟩, hO⟩ := hu23
        have hO : okn g T q23.2 pl := hO
        have hP : va_P g.1 vcl ([] ++ pl) _ := hP
        have hD : va_D _ ([] ++ pl) := hD
        have hFc23 : frm (M_ME_seal_0 150) s22 q23.2 := hFc23
        have hb_26 : x26 < 801 := hb_26
        replace hE := hE.2
        replace hR := bnd_step hR eq23
        replace hE := bndP_step hE eq23
        have hF := frm_tr hF hFc23 (fun k hk => by unfold M_ME_seal_0 at hk; unfold M_M_seal; omega)
        have hf35 : q23.2.1 148 2 = nI rs := fc_F hf30 hFc23 (by unfold M_ME_seal_0; omega)
        have hf36 : q23.2.1 148 3 = nI ks := fc_F hf31 hFc23 (by unfold M_ME_seal_0; omega)
        have hf37 : q23.2.1 148 0 = nI 0 := fc_F hf32 hFc23 (by unfold M_ME_seal_0; omega)
        have hf38 : q23.2.1 170 z21 = nI 0 := fc_F hf33 hFc23 (by unfold M_ME_seal_0; omega)
        have hf39 : q23.2.1 148 1 = nI 0 := fc_F hf34 hFc23 (by unfold M_ME_seal_0; omega)
        have hg29 : SETS ks (q23.2.1 170) := by rw [hFc23 170 (by unfold M_ME_seal_0; omega)]; exact hg27
        have hg30 : HIDS ks (q23.2.1 171) := by rw [hFc23 171 (by unfold M_ME_seal_0; omega)]; exact hg28
        obtain ⟨z23, ez23, hz24, hz25⟩ := cl_of (b := 2147483648) hx_26 (by omega) (by decide)
        replace hR := bnd_step hR ez23
        replace hE := bndP_step hE ez23
        refine mi_as hz24 ?_
        have hsz21 : z23 = 800 := (nI_eq (by omega) (by omega)).mp (hz24.symm.trans hxp23)
        subst hsz21
        refine W.widen (k := 0) (n := 0) (by omega) (by omega) ?_
        refine nw_put (C := "LatticeKeysModel") (TT := T_M) (N := 14) hx hb hts (wg_ft i_M) ty_M k_M n_M hown hK hO hU k_h0 (kn := 148) (ci := 8) (fl := [(0, 0), (0, 0), (0, 0), (0, 0), (3, 149), (3, 150), (3, 151), (3, 152), (3, 161), (3, 170), (3, 171), (3, 172), (3, 184), (3, 225)]) rfl hP hD hS rfl 2 (by decide) (hts _ (wg_t kw_1528)) (fun _ h9 => h9) rfl (by decide +kernel) rfl dM_seal_77 (fun s23 pl H locs es23 hO hP hD hS => ?_)
        replace hR := bnd_step hR es23
        replace hE := bndP_step hE es23
        have hF := frm_sI hF es23 (by unfold M_M_seal; omega)
        have hf41 : s23.1 148 3 = nI ks := fc_ne hf36 es23 (by omega)
        have hf42 : s23.1 148 0 = nI 0 := fc_ne hf37 es23 (by omega)
        have hf43 : s23.1 170 z21 = nI 0 := fc_ne hf38 es23 (by omega)
        have hf44 : s23.1 148 1 = nI 0 := fc_ne hf39 es23 (by omega)
        have hf45 : s23.1 148 2 = nI 800 := fc_eq es23
        have hg31 : SETS ks (s23.1 170) := by rw [(ar_sI es23 (by omega))]; exact hg29
        have hg32 : HIDS ks (s23.1 171) := by rw [(ar_sI es23 (by omega))]; exact hg30
        refine lv_aload_n hx hb dM_seal_80 rfl (lv_at hl 0 rfl) ?_
        refine nw_get (C := "LatticeKeysModel") (TT := T_M) (N := 14) hx hb hts (wg_ft i_M) hown hK hO k_h0 (kn := 148) (ci := 8) (fl := [(0, 0), (0, 0), (0, 0), (0, 0), (3, 149), (3, 150), (3, 151), (3, 152), (3, 161), (3, 170), (3, 171), (3, 172), (3, 184), (3, 225)]) rfl hP rfl 2 (by decide) (hts _ (wg_t kw_1528)) (fun _ h9 => h9) (cd := (0, 0)) rfl dM_seal_81 (fun v28 hv29 => ?_)
        obtain rfl := (show v28 = .int (s23.1 148 2) from hv29)
        obtain ⟨z24, ez24, hz26, hz27⟩ := cl_of (b := 2147483648) hf45 (by omega) (by decide)
        replace hR := bnd_step hR ez24
        replace hE := bndP_step hE ez24
        refine mi_as hz26 ?_
        exact mp_iret hx hb hr hlk hP hD hS ((nI z24, s23), pl) ⟨⟨hR.symm, rfl, hF, ⟨0, hf44, by omega⟩, ⟨800, hf45, by omega⟩, ⟨ks, hf41, by omega⟩, trivial⟩, hO⟩ [] rfl rfl rfl (by omega) (by omega) dM_seal_84
      · replace hR := hR.trans (if_neg h23)
        replace hE := iteP_neg h23 hE
        refine lv_aload_n hx hb dM_seal_38 rfl (lv_at hl 0 rfl) ?_
        refine lv_iconst (v := nI 2) hx hb dM_seal_39 (by decide) ?_
        refine mp_i (cx := []) (wr := []) hP hD hS hA [] [] rfl rfl rfl (by decide) (va_runV (As := [.int (nI 2)]) (rest := []) F (N_M_fail l g _ T q21.2 pl hO hU h0 (nI 2) tp rs ks k_h0 hf25 hf26 hf27) (cwV 1 hts (wg_app (wg_c kw_1577 (wg_c kw_1579 (wg_c ks_50 (wg_c kw_9 wg_n)))) kw_1580) rfl rfl rfl (by decide +kernel) ⟨by decide, by decide⟩) (pn_W "LatticeKeysModel" (en_ok g) (ci := 8) (kn := 148) (fl := [(0, 0), (0, 0), (0, 0), (0, 0), (3, 149), (3, 150), (3, 151), (3, 152), (3, 161), (3, 170), (3, 171), (3, 172), (3, 184), (3, 225)]) hK hO k_h0 rfl hP hD hS hA hEn [] rfl rfl rfl) rfl rfl hl.1 rfl (lv_room (Nat.le_of_ble_eq_true rfl)) dM_seal_40 ⟨by omega, by omega⟩) (fun r31 u24 H locs hu24 hP hD hS => ?_)
        obtain ⟨q24, pl⟩ := u24
        obtain ⟨⟨eq24, rfl, hFc24, ⟨x27, hx_27, hb_27⟩, ⟨x28, hx_28, hb_28⟩, ⟨x29, hx_29, hb_29⟩, -⟩, hO⟩ := hu24
        have hO : okn g T q24.2 pl := hO
        have hP : va_P g.1 vcl ([] ++ pl) _ := hP
        have hD : va_D _ ([] ++ pl) := hD
        have hFc24 : frm (M_M_fail) q21.2 q24.2 := hFc24
        have hb_27 : x27 = tp := hb_27
        have hb_28 : x28 = rs := hb_28
        have hb_29 : x29 = ks := hb_29
        replace hR := bnd_step hR eq24
        replace hE := bndP_step hE eq24
        have hF := frm_tr hF hFc24 (fun k hk => by unfold M_M_fail at hk; unfold M_M_seal; omega)
        have hf46 : q24.2.1 170 z21 = nI 0 := fc_F hs21 hFc24 (by unfold M_M_fail; omega)
        have hg33 : SETS ks (q24.2.1 170) := by rw [hFc24 170 (by unfold M_M_fail; omega)]; exact hg23
        have hg34 : HIDS ks (q24.2.1 171) := by rw [hFc24 171 (by unfold M_M_fail; omega)]; exact hg24
        refine W.widen (k := 0) (n := 0) (by omega) (by omega) ?_
        exact mp_iret hx hb hr hlk hP hD hS ((q24.1, q24.2), pl) ⟨⟨hR.symm, rfl, hF, ⟨x27, hx_27, by omega⟩, ⟨x28, hx_28, by omega⟩, ⟨x29, hx_29, by omega⟩, trivial⟩, hO⟩ [] rfl rfl rfl (by omega) (by omega) dM_seal_43
    replace hR := hR.trans (if_neg hs21)
    replace hE := iteP_neg hs21 hE
    by_cases hs22 : (q21.2.1 170 z21) = nI 1
    · replace hR := hR.trans (if_pos hs22)
      replace hE := iteP_pos hs22 hE
      refine mi_as hs22 ?_
      refine lv_iconst (v := nI 2) hx hb dM_seal_19 (by decide) ?_
      refine mi_le (tgt := 29) hx hb dM_seal_20 (by decide) (by omega) (by omega) (fun h24 => ?_) (fun h24 => absurd h24 (by omega))
      refine lv_aload_n hx hb dM_seal_29 rfl (lv_at hl 0 rfl) ?_
      refine nw_get (C := "LatticeKeysModel") (TT := T_M) (N := 14) hx hb hts (wg_ft i_M) hown hK hO k_h0 (kn := 148) (ci := 8) (fl := [(0, 0), (0, 0), (0, 0), (0, 0), (3, 149), (3, 150), (3, 151), (3, 152), (3, 161), (3, 170), (3, 171), (3, 172), (3, 184), (3, 225)]) rfl hP rfl 1 (by decide) (hts _ (wg_t kw_1527)) (fun _ h9 => h9) (cd := (0, 0)) rfl dM_seal_30 (fun v29 hv30 => ?_)
      obtain rfl := (show v29 = .int (q21.2.1 148 1) from hv30)
      obtain ⟨z25, ez25, hz28, hz29⟩ := cl_of (b := 2147483648) hf25 (by omega) (by decide)
      replace hR := bnd_step hR ez25
      replace hE := bndP_step hE ez25
      refine mi_as hz28 ?_
      refine lv_bipush (v := nI 32) hx hb dM_seal_33 (by decide) ?_
      refine mi_eq (tgt := 44) hx hb dM_seal_35 (by decide) (by omega) (by omega) (fun h25 => ?_) (fun h25 => ?_)
      · replace hR := hR.trans (if_pos h25)
        replace hE := iteP_pos h25 hE
        refine lv_aload_n hx hb dM_seal_44 rfl (lv_at hl 0 rfl) ?_
        refine lv_iconst (v := nI 0) hx hb dM_seal_45 (by decide) ?_
        refine nw_put (C := "LatticeKeysModel") (TT := T_M) (N := 14) hx hb hts (wg_ft i_M) ty_M k_M n_M hown hK hO hU k_h0 (kn := 148) (ci := 8) (fl := [(0, 0), (0, 0), (0, 0), (0, 0), (3, 149), (3, 150), (3, 151), (3, 152), (3, 161), (3, 170), (3, 171), (3, 172), (3, 184), (3, 225)]) rfl hP hD hS rfl 1 (by decide) (hts _ (wg_t kw_1527)) (fun _ h9 => h9) rfl (by decide +kernel) rfl dM_seal_46 (fun s24 pl H locs es24 hO hP hD hS => ?_)
        replace hR := bnd_step hR es24
        replace hE := bndP_step hE es24
        have hF := frm_sI hF es24 (by unfold M_M_seal; omega)
        have hf48 : s24.1 148 2 = nI rs := fc_ne hf26 es24 (by omega)
        have hf49 : s24.1 148 3 = nI ks := fc_ne hf27 es24 (by omega)
        have hf50 : s24.1 148 0 = nI 0 := fc_ne hf28 es24 (by omega)
        have hf51 : s24.1 170 z21 = nI 1 := fc_ne hs22 es24 (by omega)
        have hf52 : s24.1 148 1 = nI 0 := fc_eq es24
        have hg35 : SETS ks (s24.1 170) := by rw [(ar_sI es24 (by omega))]; exact hg23
        have hg36 : HIDS ks (s24.1 171) := by rw [(ar_sI es24 (by omega))]; exact hg24
        refine lv_aload_n hx hb dM_seal_49 rfl (lv_at hl 0 rfl) ?_
        refine lv_aload_n hx hb dM_seal_50 rfl (lv_at hl 0 rfl) ?_
        refine nw_get (C := "LatticeKeysModel") (TT := T_M) (N := 14) hx hb hts (wg_ft i_M) hown hK hO k_h0 (kn := 148) (ci := 8) (fl := [(0, 0), (0, 0), (0, 0), (0, 0), (3, 149), (3, 150), (3, 151), (3, 152), (3, 161), (3, 170), (3, 171), (3, 172), (3, 184), (3, 225)]) rfl hP rfl 12 (by decide) (hts _ (wg_t kw_1538)) (fun _ h9 => h9) (cd := (3, 184)) rfl dM_seal_51 (fun v30 hv31 => ?_)
        obtain ⟨r32, rfl, kr28⟩ := (show ∃ r : Nat, v30 = .ref r ∧ T r = some 184 from hv31)
        refine lv_aload_n hx hb dM_seal_54 rfl (lv_at hl 0 rfl) ?_
        refine nw_get (C := "LatticeKeysModel") (TT := T_M) (N := 14) hx hb hts (wg_ft i_M) hown hK hO k_h0 (kn := 148) (ci := 8) (fl := [(0, 0), (0, 0), (0, 0), (0, 0), (3, 149), (3, 150), (3, 151), (3, 152), (3, 161), (3, 170), (3, 171), (3, 172), (3, 184), (3, 225)]) rfl hP rfl 9 (by decide) (hts _ (wg_t kw_1535)) (fun _ h9 => h9) (cd := (3, 170)) rfl dM_seal_55 (fun v31 hv32 => ?_)
        obtain ⟨r33, rfl, kr29⟩ := (show ∃ r : Nat, v31 = .ref r ∧ T r = some 170 from hv32)
        refine lv_iload_n hx hb dM_seal_58 rfl (lv_at hl 1 rfl) ?_
        refine nw_iald hx hb hK hO kr29 (k := 170) rfl hP (by omega) (by omega) dM_seal_59 ?_
        refine mi_as hf51 ?_
        refine lv_aload_n hx hb dM_seal_60 rfl (lv_at hl 0 rfl) ?_
        refine nw_get (C := "LatticeKeysModel") (TT := T_M) (N := 14) hx hb hts (wg_ft i_M) hown hK hO k_h0 (kn := 148) (ci := 8) (fl := [(0, 0), (0, 0), (0, 0), (0, 0), (3, 149), (3, 150), (3, 151), (3, 152), (3, 161), (3, 170), (3, 171), (3, 172), (3, 184), (3, 225)]) rfl hP rfl 7 (by decide) (hts _ (wg_t kw_1533)) (fun _ h9 => h9) (cd := (3, 152)) rfl dM_seal_61 (fun v32 hv33 => ?_)
        obtain ⟨r34, rfl, kr30⟩ := (show ∃ r : Nat, v32 = .ref r ∧ T r = some 152 from hv33)
        refine lv_iload_n hx hb dM_seal_64 rfl (lv_at hl 1 rfl) ?_
        refine nw_aald4 hx hb hK hO kr30 (k := 152) (b := 153) rfl hP (by omega) (by omega) dM_seal_65 (fun r35 kr31 => ?_)
        have hn22 : nsp (153 + z21) = (1, 2592, []) := rows_okb 153 8 2592 (by decide) _ (by omega)
        refine lv_aload_n hx hb dM_seal_66 rfl (lv_at hl 0 rfl) ?_
        refine nw_get (C := "LatticeKeysModel") (TT := T_M) (N := 14) hx hb hts (wg_ft i_M) hown hK hO k_h0 (kn := 148) (ci := 8) (fl := [(0, 0), (0, 0), (0, 0), (0, 0), (3, 149), (3, 150), (3, 151), (3, 152), (3, 161), (3, 170), (3, 171), (3, 172), (3, 184), (3, 225)]) rfl hP rfl 4 (by decide) (hts _ (wg_t kw_1530)) (fun _ h9 => h9) (cd := (3, 149)) rfl dM_seal_67 (fun v33 hv34 => ?_)
        obtain ⟨r36, rfl, kr32⟩ := (show ∃ r : Nat, v33 = .ref r ∧ T r = some 149 from hv34)
        refine lv_aload_n hx hb dM_seal_70 rfl (lv_at hl 0 rfl) ?_
        refine nw_get (C := "LatticeKeysModel") (TT := T_M) (N := 14) hx hb hts (wg_ft i_M) hown hK hO k_h0 (kn := 148) (ci := 8) (fl := [(0, 0), (0, 0), (0, 0), (0, 0), (3, 149), (3, 150), (3, 151), (3, 152), (3, 161), (3, 170), (3, 171), (3, 172), (3, 184), (3, 225)]) rfl hP rfl 5 (by decide) (hts _ (wg_t kw_1531)) (fun _ h9 => h9) (cd := (3, 150)) rfl dM_seal_71 (fun v34 hv35 => ?_)
        obtain ⟨r37, rfl, kr33⟩ := (show ∃ r : Nat, v34 = .ref r ∧ T r = some 150 from hv35)
        refine mp_i (cx := []) (wr := []) hP hD hS hA [] [] rfl rfl rfl (by decide) (va_runV (As := [.int (nI 1), .ref r35, .ref r36, .ref r37]) (rest := [.ref h0]) F (N_ME_seal_1 l g _ T s24 pl hO hU r32 r35 r36 r37 (153 + z21) 149 150 kr28 kr31 hn22 kr32 rfl kr33 rfl hE.1) (cwV 4 hts (wg_app (wg_c kw_1801 (wg_c kw_1802 (wg_c kw_1803 (wg_c kw_11 wg_n)))) kw_1804) rfl rfl rfl (by decide +kernel) ⟨by decide, by decide⟩) (pn_W "LatticeKeysModel$Secrets" (en_ok g) (ci := 11) (kn := 184) (fl := [(3, 172), (3, 178), (3, 185), (3, 202), (3, 207), (3, 212), (3, 217), (3, 218), (3, 219), (3, 220), (3, 221), (3, 222), (3, 223), (3, 224)]) hK hO kr28 rfl hP hD hS hA hEn [] rfl rfl rfl) rfl rfl hl.1 rfl (lv_room (Nat.le_of_ble_eq_true rfl)) dM_seal_74 ⟨by omega, by omega⟩) (fun r38 u25 H locs hu25 hP hD hS => ?_)
        obtain ⟨q25, pl⟩ := u25
        obtain ⟨⟨eq25, rfl, hFc25, ⟨x31, hx_31, hb_31⟩, hxp25, -⟩, hO⟩ := hu25
        have hO : okn g T q25.2 pl := hO
        have hP : va_P g.1 vcl ([] ++ pl) _ := hP
        have hD : va_D _ ([] ++ pl) := hD
        have hFc25 : frm (M_ME_seal_1 150) s24 q25.2 := hFc25
        have hb_31 : x31 < 1121 := hb_31
        replace hE := hE.2
        replace hR := bnd_step hR eq25
        replace hE := bndP_step hE eq25
        have hF := frm_tr hF hFc25 (fun k hk => by unfold M_ME_seal_1 at hk; unfold M_M_seal; omega)
        have hf53 : q25.2.1 148 2 = nI rs := fc_F hf48 hFc25 (by unfold M_ME_seal_1; omega)
        have hf54 : q25.2.1 148 3 = nI ks := fc_F hf49 hFc25 (by unfold M_ME_seal_1; omega)
        have hf55 : q25.2.1 148 0 = nI 0 := fc_F hf50 hFc25 (by unfold M_ME_seal_1; omega)
        have hf56 : q25.2.1 170 z21 = nI 1 := fc_F hf51 hFc25 (by unfold M_ME_seal_1; omega)
        have hf57 : q25.2.1 148 1 = nI 0 := fc_F hf52 hFc25 (by unfold M_ME_seal_1; omega)
        have hg37 : SETS ks (q25.2.1 170) := by rw [hFc25 170 (by unfold M_ME_seal_1; omega)]; exact hg35
        have hg38 : HIDS ks (q25.2.1 171) := by rw [hFc25 171 (by unfold M_ME_seal_1; omega)]; exact hg36
        obtain ⟨z26, ez26, hz30, hz31⟩ := cl_of (b := 2147483648) hx_31 (by omega) (by decide)
        replace hR := bnd_step hR ez26
        replace hE := bndP_step hE ez26
        refine mi_as hz30 ?_
        have hsz22 : z26 = 1120 := (nI_eq (by omega) (by omega)).mp (hz30.symm.trans hxp25)
        subst hsz22
        refine W.widen (k := 0) (n := 0) (by omega) (by omega) ?_
        refine nw_put (C := "LatticeKeysModel") (TT := T_M) (N := 14) hx hb hts (wg_ft i_M) ty_M k_M n_M hown hK hO hU k_h0 (kn := 148) (ci := 8) (fl := [(0, 0), (0, 0), (0, 0), (0, 0), (3, 149), (3, 150), (3, 151), (3, 152), (3, 161), (3, 170), (3, 171), (3, 172), (3, 184), (3, 225)]) rfl hP hD hS rfl 2 (by decide) (hts _ (wg_t kw_1528)) (fun _ h9 => h9) rfl (by decide +kernel) rfl dM_seal_77 (fun s25 pl H locs es25 hO hP hD hS => ?_)
        replace hR := bnd_step hR es25
        replace hE := bndP_step hE es25
        have hF := frm_sI hF es25 (by unfold M_M_seal; omega)
        have hf59 : s25.1 148 3 = nI ks := fc_ne hf54 es25 (by omega)
        have hf60 : s25.1 148 0 = nI 0 := fc_ne hf55 es25 (by omega)
        have hf61 : s25.1 170 z21 = nI 1 := fc_ne hf56 es25 (by omega)
        have hf62 : s25.1 148 1 = nI 0 := fc_ne hf57 es25 (by omega)
        have hf63 : s25.1 148 2 = nI 1120 := fc_eq es25
        have hg39 : SETS ks (s25.1 170) := by rw [(ar_sI es25 (by omega))]; exact hg37
        have hg40 : HIDS ks (s25.1 171) := by rw [(ar_sI es25 (by omega))]; exact hg38
        refine lv_aload_n hx hb dM_seal_80 rfl (lv_at hl 0 rfl) ?_
        refine nw_get (C := "LatticeKeysModel") (TT := T_M) (N := 14) hx hb hts (wg_ft i_M) hown hK hO k_h0 (kn := 148) (ci := 8) (fl := [(0, 0), (0, 0), (0, 0), (0, 0), (3, 149), (3, 150), (3, 151), (3, 152), (3, 161), (3, 170), (3, 171), (3, 172), (3, 184), (3, 225)]) rfl hP rfl 2 (by decide) (hts _ (wg_t kw_1528)) (fun _ h9 => h9) (cd := (0, 0)) rfl dM_seal_81 (fun v35 hv36 => ?_)
        obtain rfl := (show v35 = .int (s25.1 148 2) from hv36)
        obtain ⟨z27, ez27, hz32, hz33⟩ := cl_of (b := 2147483648) hf63 (by omega) (by decide)
        replace hR := bnd_step hR ez27
        replace hE := bndP_step hE ez27
        refine mi_as hz32 ?_
        exact mp_iret hx hb hr hlk hP hD hS ((nI z27, s25), pl) ⟨⟨hR.symm, rfl, hF, ⟨0, hf62, by omega⟩, ⟨1120, hf63, by omega⟩, ⟨ks, hf59, by omega⟩, trivial⟩, hO⟩ [] rfl rfl rfl (by omega) (by omega) dM_seal_84
      · replace hR := hR.trans (if_neg h25)
        replace hE := iteP_neg h25 hE
        refine lv_aload_n hx hb dM_seal_38 rfl (lv_at hl 0 rfl) ?_
        refine lv_iconst (v := nI 2) hx hb dM_seal_39 (by decide) ?_
        refine mp_i (cx := []) (wr := []) hP hD hS hA [] [] rfl rfl rfl (by decide) (va_runV (As := [.int (nI 2)]) (rest := []) F (N_M_fail l g _ T q21.2 pl hO hU h0 (nI 2) tp rs ks k_h0 hf25 hf26 hf27) (cwV 1 hts (wg_app (wg_c kw_1577 (wg_c kw_1579 (wg_c ks_50 (wg_c kw_9 wg_n)))) kw_1580) rfl rfl rfl (by decide +kernel) ⟨by decide, by decide⟩) (pn_W "LatticeKeysModel" (en_ok g) (ci := 8) (kn := 148) (fl := [(0, 0), (0, 0), (0, 0), (0, 0), (3, 149), (3, 150), (3, 151), (3, 152), (3, 161), (3, 170), (3, 171), (3, 172), (3, 184), (3, 225)]) hK hO k_h0 rfl hP hD hS hA hEn [] rfl rfl rfl) rfl rfl hl.1 rfl (lv_room (Nat.le_of_ble_eq_true rfl)) dM_seal_40 ⟨by omega, by omega⟩) (fun r39 u26 H locs hu26 hP hD hS => ?_)
        obtain ⟨q26, pl⟩ := u26
        obtain ⟨⟨eq26, rfl, hFc26, ⟨x32, hx_32, hb_32⟩, ⟨x33, hx_33, hb_33⟩, ⟨x34, hx_34, hb_34⟩, -⟩, hO⟩ := hu26
        have hO : okn g T q26.2 pl := hO
        have hP : va_P g.1 vcl ([] ++ pl) _ := hP
        have hD : va_D _ ([] ++ pl) := hD
        have hFc26 : frm (M_M_fail) q21.2 q26.2 := hFc26
        have hb_32 : x32 = tp := hb_32
        have hb_33 : x33 = rs := hb_33
        have hb_34 : x34 = ks := hb_34
        replace hR := bnd_step hR eq26
        replace hE := bndP_step hE eq26
        have hF := frm_tr hF hFc26 (fun k hk => by unfold M_M_fail at hk; unfold M_M_seal; omega)
        have hf64 : q26.2.1 170 z21 = nI 1 := fc_F hs22 hFc26 (by unfold M_M_fail; omega)
        have hg41 : SETS ks (q26.2.1 170) := by rw [hFc26 170 (by unfold M_M_fail; omega)]; exact hg23
        have hg42 : HIDS ks (q26.2.1 171) := by rw [hFc26 171 (by unfold M_M_fail; omega)]; exact hg24
        refine W.widen (k := 0) (n := 0) (by omega) (by omega) ?_
        exact mp_iret hx hb hr hlk hP hD hS ((q26.1, q26.2), pl) ⟨⟨hR.symm, rfl, hF, ⟨x32, hx_32, by omega⟩, ⟨x33, hx_33, by omega⟩, ⟨x34, hx_34, by omega⟩, trivial⟩, hO⟩ [] rfl rfl rfl (by omega) (by omega) dM_seal_43
    replace hR := hR.trans (if_neg hs22)
    replace hE := iteP_neg hs22 hE
    by_cases hs23 : (q21.2.1 170 z21) = nI 2
    · replace hR := hR.trans (if_pos hs23)
      replace hE := iteP_pos hs23 hE
      refine mi_as hs23 ?_
      refine lv_iconst (v := nI 2) hx hb dM_seal_19 (by decide) ?_
      refine mi_le (tgt := 29) hx hb dM_seal_20 (by decide) (by omega) (by omega) (fun h26 => ?_) (fun h26 => absurd h26 (by omega))
      refine lv_aload_n hx hb dM_seal_29 rfl (lv_at hl 0 rfl) ?_
      refine nw_get (C := "LatticeKeysModel") (TT := T_M) (N := 14) hx hb hts (wg_ft i_M) hown hK hO k_h0 (kn := 148) (ci := 8) (fl := [(0, 0), (0, 0), (0, 0), (0, 0), (3, 149), (3, 150), (3, 151), (3, 152), (3, 161), (3, 170), (3, 171), (3, 172), (3, 184), (3, 225)]) rfl hP rfl 1 (by decide) (hts _ (wg_t kw_1527)) (fun _ h9 => h9) (cd := (0, 0)) rfl dM_seal_30 (fun v36 hv37 => ?_)
      obtain rfl := (show v36 = .int (q21.2.1 148 1) from hv37)
      obtain ⟨z28, ez28, hz34, hz35⟩ := cl_of (b := 2147483648) hf25 (by omega) (by decide)
      replace hR := bnd_step hR ez28
      replace hE := bndP_step hE ez28
      refine mi_as hz34 ?_
      refine lv_bipush (v := nI 32) hx hb dM_seal_33 (by decide) ?_
      refine mi_eq (tgt := 44) hx hb dM_seal_35 (by decide) (by omega) (by omega) (fun h27 => ?_) (fun h27 => ?_)
      · replace hR := hR.trans (if_pos h27)
        replace hE := iteP_pos h27 hE
        refine lv_aload_n hx hb dM_seal_44 rfl (lv_at hl 0 rfl) ?_
        refine lv_iconst (v := nI 0) hx hb dM_seal_45 (by decide) ?_
        refine nw_put (C := "LatticeKeysModel") (TT := T_M) (N := 14) hx hb hts (wg_ft i_M) ty_M k_M n_M hown hK hO hU k_h0 (kn := 148) (ci := 8) (fl := [(0, 0), (0, 0), (0, 0), (0, 0), (3, 149), (3, 150), (3, 151), (3, 152), (3, 161), (3, 170), (3, 171), (3, 172), (3, 184), (3, 225)]) rfl hP hD hS rfl 1 (by decide) (hts _ (wg_t kw_1527)) (fun _ h9 => h9) rfl (by decide +kernel) rfl dM_seal_46 (fun s26 pl H locs es26 hO hP hD hS => ?_)
        replace hR := bnd_step hR es26
        replace hE := bndP_step hE es26
        have hF := frm_sI hF es26 (by unfold M_M_seal; omega)
        have hf66 : s26.1 148 2 = nI rs := fc_ne hf26 es26 (by omega)
        have hf67 : s26.1 148 3 = nI ks := fc_ne hf27 es26 (by omega)
        have hf68 : s26.1 148 0 = nI 0 := fc_ne hf28 es26 (by omega)
        have hf69 : s26.1 170 z21 = nI 2 := fc_ne hs23 es26 (by omega)
        have hf70 : s26.1 148 1 = nI 0 := fc_eq es26
        have hg43 : SETS ks (s26.1 170) := by rw [(ar_sI es26 (by omega))]; exact hg23
        have hg44 : HIDS ks (s26.1 171) := by rw [(ar_sI es26 (by omega))]; exact hg24
        refine lv_aload_n hx hb dM_seal_49 rfl (lv_at hl 0 rfl) ?_
        refine lv_aload_n hx hb dM_seal_50 rfl (lv_at hl 0 rfl) ?_
        refine nw_get (C := "LatticeKeysModel") (TT := T_M) (N := 14) hx hb hts (wg_ft i_M) hown hK hO k_h0 (kn := 148) (ci := 8) (fl := [(0, 0), (0, 0), (0, 0), (0, 0), (3, 149), (3, 150), (3, 151), (3, 152), (3, 161), (3, 170), (3, 171), (3, 172), (3, 184), (3, 225)]) rfl hP rfl 12 (by decide) (hts _ (wg_t kw_1538)) (fun _ h9 => h9) (cd := (3, 184)) rfl dM_seal_51 (fun v37 hv38 => ?_)
        obtain ⟨r40, rfl, kr34⟩ := (show ∃ r : Nat, v37 = .ref r ∧ T r = some 184 from hv38)
        refine lv_aload_n hx hb dM_seal_54 rfl (lv_at hl 0 rfl) ?_
        refine nw_get (C := "LatticeKeysModel") (TT := T_M) (N := 14) hx hb hts (wg_ft i_M) hown hK hO k_h0 (kn := 148) (ci := 8) (fl := [(0, 0), (0, 0), (0, 0), (0, 0), (3, 149), (3, 150), (3, 151), (3, 152), (3, 161), (3, 170), (3, 171), (3, 172), (3, 184), (3, 225)]) rfl hP rfl 9 (by decide) (hts _ (wg_t kw_1535)) (fun _ h9 => h9) (cd := (3, 170)) rfl dM_seal_55 (fun v38 hv39 => ?_)
        obtain ⟨r41, rfl, kr35⟩ := (show ∃ r : Nat, v38 = .ref r ∧ T r = some 170 from hv39)
        refine lv_iload_n hx hb dM_seal_58 rfl (lv_at hl 1 rfl) ?_
        refine nw_iald hx hb hK hO kr35 (k := 170) rfl hP (by omega) (by omega) dM_seal_59 ?_
        refine mi_as hf69 ?_
        refine lv_aload_n hx hb dM_seal_60 rfl (lv_at hl 0 rfl) ?_
        refine nw_get (C := "LatticeKeysModel") (TT := T_M) (N := 14) hx hb hts (wg_ft i_M) hown hK hO k_h0 (kn := 148) (ci := 8) (fl := [(0, 0), (0, 0), (0, 0), (0, 0), (3, 149), (3, 150), (3, 151), (3, 152), (3, 161), (3, 170), (3, 171), (3, 172), (3, 184), (3, 225)]) rfl hP rfl 7 (by decide) (hts _ (wg_t kw_1533)) (fun _ h9 => h9) (cd := (3, 152)) rfl dM_seal_61 (fun v39 hv40 => ?_)
        obtain ⟨r42, rfl, kr36⟩ := (show ∃ r : Nat, v39 = .ref r ∧ T r = some 152 from hv40)
        refine lv_iload_n hx hb dM_seal_64 rfl (lv_at hl 1 rfl) ?_
        refine nw_aald4 hx hb hK hO kr36 (k := 152) (b := 153) rfl hP (by omega) (by omega) dM_seal_65 (fun r43 kr37 => ?_)
        have hn23 : nsp (153 + z21) = (1, 2592, []) := rows_okb 153 8 2592 (by decide) _ (by omega)
        refine lv_aload_n hx hb dM_seal_66 rfl (lv_at hl 0 rfl) ?_
        refine nw_get (C := "LatticeKeysModel") (TT := T_M) (N := 14) hx hb hts (wg_ft i_M) hown hK hO k_h0 (kn := 148) (ci := 8) (fl := [(0, 0), (0, 0), (0, 0), (0, 0), (3, 149), (3, 150), (3, 151), (3, 152), (3, 161), (3, 170), (3, 171), (3, 172), (3, 184), (3, 225)]) rfl hP rfl 4 (by decide) (hts _ (wg_t kw_1530)) (fun _ h9 => h9) (cd := (3, 149)) rfl dM_seal_67 (fun v40 hv41 => ?_)
        obtain ⟨r44, rfl, kr38⟩ := (show ∃ r : Nat, v40 = .ref r ∧ T r = some 149 from hv41)
        refine lv_aload_n hx hb dM_seal_70 rfl (lv_at hl 0 rfl) ?_
        refine nw_get (C := "LatticeKeysModel") (TT := T_M) (N := 14) hx hb hts (wg_ft i_M) hown hK hO k_h0 (kn := 148) (ci := 8) (fl := [(0, 0), (0, 0), (0, 0), (0, 0), (3, 149), (3, 150), (3, 151), (3, 152), (3, 161), (3, 170), (3, 171), (3, 172), (3, 184), (3, 225)]) rfl hP rfl 5 (by decide) (hts _ (wg_t kw_1531)) (fun _ h9 => h9) (cd := (3, 150)) rfl dM_seal_71 (fun v41 hv42 => ?_)
        obtain ⟨r45, rfl, kr39⟩ := (show ∃ r : Nat, v41 = .ref r ∧ T r = some 150 from hv42)
        refine mp_i (cx := []) (wr := []) hP hD hS hA [] [] rfl rfl rfl (by decide) (va_runV (As := [.int (nI 2), .ref r43, .ref r44, .ref r45]) (rest := [.ref h0]) F (N_ME_seal_2 l g _ T s26 pl hO hU r40 r43 r44 r45 (153 + z21) 149 150 kr34 kr37 hn23 kr38 rfl kr39 rfl hE.1) (cwV 4 hts (wg_app (wg_c kw_1801 (wg_c kw_1802 (wg_c kw_1803 (wg_c kw_11 wg_n)))) kw_1804) rfl rfl rfl (by decide +kernel) ⟨by decide, by decide⟩) (pn_W "LatticeKeysModel$Secrets" (en_ok g) (ci := 11) (kn := 184) (fl := [(3, 172), (3, 178), (3, 185), (3, 202), (3, 207), (3, 212), (3, 217), (3, 218), (3, 219), (3, 220), (3, 221), (3, 222), (3, 223), (3, 224)]) hK hO kr34 rfl hP hD hS hA hEn [] rfl rfl rfl) rfl rfl hl.1 rfl (lv_room (Nat.le_of_ble_eq_true rfl)) dM_seal_74 ⟨by omega, by omega⟩) (fun r46 u27 H locs hu27 hP hD hS => ?_)
        obtain ⟨q27, pl⟩ := u27
        obtain ⟨⟨eq27, rfl, hFc27, ⟨x36, hx_36, hb_36⟩, hxp27, -⟩, hO⟩ := hu27
        have hO : okn g T q27.2 pl := hO
        have hP : va_P g.1 vcl ([] ++ pl) _ := hP
        have hD : va_D _ ([] ++ pl) := hD
        have hFc27 : frm (M_ME_seal_2 150) s26 q27.2 := hFc27
        have hb_36 : x36 < 1601 := hb_36
        replace hE := hE.2
        replace hR := bnd_step hR eq27
        replace hE := bndP_step hE eq27
        have hF := frm_tr hF hFc27 (fun k hk => by unfold M_ME_seal_2 at hk; unfold M_M_seal; omega)
        have hf71 : q27.2.1 148 2 = nI rs := fc_F hf66 hFc27 (by unfold M_ME_seal_2; omega)
        have hf72 : q27.2.1 148 3 = nI ks := fc_F hf67 hFc27 (by unfold M_ME_seal_2; omega)
        have hf73 : q27.2.1 148 0 = nI 0 := fc_F hf68 hFc27 (by unfold M_ME_seal_2; omega)
        have hf74 : q27.2.1 170 z21 = nI 2 := fc_F hf69 hFc27 (by unfold M_ME_seal_2; omega)
        have hf75 : q27.2.1 148 1 = nI 0 := fc_F hf70 hFc27 (by unfold M_ME_seal_2; omega)
        have hg45 : SETS ks (q27.2.1 170) := by rw [hFc27 170 (by unfold M_ME_seal_2; omega)]; exact hg43
        have hg46 : HIDS ks (q27.2.1 171) := by rw [hFc27 171 (by unfold M_ME_seal_2; omega)]; exact hg44
        obtain ⟨z29, ez29, hz36, hz37⟩ := cl_of (b := 2147483648) hx_36 (by omega) (by decide)
        replace hR := bnd_step hR ez29
        replace hE := bndP_step hE ez29
        refine mi_as hz36 ?_
        have hsz23 : z29 = 1600 := (nI_eq (by omega) (by omega)).mp (hz36.symm.trans hxp27)
        subst hsz23
        refine W.widen (k := 0) (n := 0) (by omega) (by omega) ?_
        refine nw_put (C := "LatticeKeysModel") (TT := T_M) (N := 14) hx hb hts (wg_ft i_M) ty_M k_M n_M hown hK hO hU k_h0 (kn := 148) (ci := 8) (fl := [(0, 0), (0, 0), (0, 0), (0, 0), (3, 149), (3, 150), (3, 151), (3, 152), (3, 161), (3, 170), (3, 171), (3, 172), (3, 184), (3, 225)]) rfl hP hD hS rfl 2 (by decide) (hts _ (wg_t kw_1528)) (fun _ h9 => h9) rfl (by decide +kernel) rfl dM_seal_77 (fun s27 pl H locs es27 hO hP hD hS => ?_)
        replace hR := bnd_step hR es27
        replace hE := bndP_step hE es27
        have hF := frm_sI hF es27 (by unfold M_M_seal; omega)
        have hf77 : s27.1 148 3 = nI ks := fc_ne hf72 es27 (by omega)
        have hf78 : s27.1 148 0 = nI 0 := fc_ne hf73 es27 (by omega)
        have hf79 : s27.1 170 z21 = nI 2 := fc_ne hf74 es27 (by omega)
        have hf80 : s27.1 148 1 = nI 0 := fc_ne hf75 es27 (by omega)
        have hf81 : s27.1 148 2 = nI 1600 := fc_eq es27
        have hg47 : SETS ks (s27.1 170) := by rw [(ar_sI es27 (by omega))]; exact hg45
        have hg48 : HIDS ks (s27.1 171) := by rw [(ar_sI es27 (by omega))]; exact hg46
        refine lv_aload_n hx hb dM_seal_80 rfl (lv_at hl 0 rfl) ?_
        refine nw_get (C := "LatticeKeysModel") (TT := T_M) (N := 14) hx hb hts (wg_ft i_M) hown hK hO k_h0 (kn := 148) (ci := 8) (fl := [(0, 0), (0, 0), (0, 0), (0, 0), (3, 149), (3, 150), (3, 151), (3, 152), (3, 161), (3, 170), (3, 171), (3, 172), (3, 184), (3, 225)]) rfl hP rfl 2 (by decide) (hts _ (wg_t kw_1528)) (fun _ h9 => h9) (cd := (0, 0)) rfl dM_seal_81 (fun v42 hv43 => ?_)
        obtain rfl := (show v42 = .int (s27.1 148 2) from hv43)
        obtain ⟨z30, ez30, hz38, hz39⟩ := cl_of (b := 2147483648) hf81 (by omega) (by decide)
        replace hR := bnd_step hR ez30
        replace hE := bndP_step hE ez30
        refine mi_as hz38 ?_
        exact mp_iret hx hb hr hlk hP hD hS ((nI z30, s27), pl) ⟨⟨hR.symm, rfl, hF, ⟨0, hf80, by omega⟩, ⟨1600, hf81, by omega⟩, ⟨ks, hf77, by omega⟩, trivial⟩, hO⟩ [] rfl rfl rfl (by omega) (by omega) dM_seal_84
      · replace hR := hR.trans (if_neg h27)
        replace hE := iteP_neg h27 hE
        refine lv_aload_n hx hb dM_seal_38 rfl (lv_at hl 0 rfl) ?_
        refine lv_iconst (v := nI 2) hx hb dM_seal_39 (by decide) ?_
        refine mp_i (cx := []) (wr := []) hP hD hS hA [] [] rfl rfl rfl (by decide) (va_runV (As := [.int (nI 2)]) (rest := []) F (N_M_fail l g _ T q21.2 pl hO hU h0 (nI 2) tp rs ks k_h0 hf25 hf26 hf27) (cwV 1 hts (wg_app (wg_c kw_1577 (wg_c kw_1579 (wg_c ks_50 (wg_c kw_9 wg_n)))) kw_1580) rfl rfl rfl (by decide +kernel) ⟨by decide, by decide⟩) (pn_W "LatticeKeysModel" (en_ok g) (ci := 8) (kn := 148) (fl := [(0, 0), (0, 0), (0, 0), (0, 0), (3, 149), (3, 150), (3, 151), (3, 152), (3, 161), (3, 170), (3, 171), (3, 172), (3, 184), (3, 225)]) hK hO k_h0 rfl hP hD hS hA hEn [] rfl rfl rfl) rfl rfl hl.1 rfl (lv_room (Nat.le_of_ble_eq_true rfl)) dM_seal_40 ⟨by omega, by omega⟩) (fun r47 u28 H locs hu28 hP hD hS => ?_)
        obtain ⟨q28, pl⟩ := u28
        obtain ⟨⟨eq28, rfl, hFc28, ⟨x37, hx_37, hb_37⟩, ⟨x38, hx_38, hb_38⟩, ⟨x39, hx_39, hb_39⟩, -⟩, hO⟩ := hu28
        have hO : okn g T q28.2 pl := hO
        have hP : va_P g.1 vcl ([] ++ pl) _ := hP
        have hD : va_D _ ([] ++ pl) := hD
        have hFc28 : frm (M_M_fail) q21.2 q28.2 := hFc28
        have hb_37 : x37 = tp := hb_37
        have hb_38 : x38 = rs := hb_38
        have hb_39 : x39 = ks := hb_39
        replace hR := bnd_step hR eq28
        replace hE := bndP_step hE eq28
        have hF := frm_tr hF hFc28 (fun k hk => by unfold M_M_fail at hk; unfold M_M_seal; omega)
        have hf82 : q28.2.1 170 z21 = nI 2 := fc_F hs23 hFc28 (by unfold M_M_fail; omega)
        have hg49 : SETS ks (q28.2.1 170) := by rw [hFc28 170 (by unfold M_M_fail; omega)]; exact hg23
        have hg50 : HIDS ks (q28.2.1 171) := by rw [hFc28 171 (by unfold M_M_fail; omega)]; exact hg24
        refine W.widen (k := 0) (n := 0) (by omega) (by omega) ?_
        exact mp_iret hx hb hr hlk hP hD hS ((q28.1, q28.2), pl) ⟨⟨hR.symm, rfl, hF, ⟨x37, hx_37, by omega⟩, ⟨x38, hx_38, by omega⟩, ⟨x39, hx_39, by omega⟩, trivial⟩, hO⟩ [] rfl rfl rfl (by omega) (by omega) dM_seal_43
    replace hR := hR.trans (if_neg hs23)
    replace hE := iteP_neg hs23 hE
    by_cases hs24 : (q21.2.1 170 z21) = nI 3
    · replace hR := hR.trans (if_pos hs24)
      replace hE := iteP_pos hs24 hE
      refine mi_as hs24 ?_
      refine lv_iconst (v := nI 2) hx hb dM_seal_19 (by decide) ?_
      refine mi_le (tgt := 29) hx hb dM_seal_20 (by decide) (by omega) (by omega) (fun h28 => absurd h28 (by omega)) (fun h28 => ?_)
      refine lv_aload_n hx hb dM_seal_23 rfl (lv_at hl 0 rfl) ?_
      refine lv_iconst (v := nI 1) hx hb dM_seal_24 (by decide) ?_
      refine mp_i (cx := []) (wr := []) hP hD hS hA [] [] rfl rfl rfl (by decide) (va_runV (As := [.int (nI 1)]) (rest := []) F (N_M_fail l g _ T q21.2 pl hO hU h0 (nI 1) tp rs ks k_h0 hf25 hf26 hf27) (cwV 1 hts (wg_app (wg_c kw_1577 (wg_c kw_1579 (wg_c ks_50 (wg_c kw_9 wg_n)))) kw_1580) rfl rfl rfl (by decide +kernel) ⟨by decide, by decide⟩) (pn_W "LatticeKeysModel" (en_ok g) (ci := 8) (kn := 148) (fl := [(0, 0), (0, 0), (0, 0), (0, 0), (3, 149), (3, 150), (3, 151), (3, 152), (3, 161), (3, 170), (3, 171), (3, 172), (3, 184), (3, 225)]) hK hO k_h0 rfl hP hD hS hA hEn [] rfl rfl rfl) rfl rfl hl.1 rfl (lv_room (Nat.le_of_ble_eq_true rfl)) dM_seal_25 ⟨by omega, by omega⟩) (fun r48 u29 H locs hu29 hP hD hS => ?_)
      obtain ⟨q29, pl⟩ := u29
      obtain ⟨⟨eq29, rfl, hFc29, ⟨x41, hx_41, hb_41⟩, ⟨x42, hx_42, hb_42⟩, ⟨x43, hx_43, hb_43⟩, -⟩, hO⟩ := hu29
      have hO : okn g T q29.2 pl := hO
      have hP : va_P g.1 vcl ([] ++ pl) _ := hP
      have hD : va_D _ ([] ++ pl) := hD
      have hFc29 : frm (M_M_fail) q21.2 q29.2 := hFc29
      have hb_41 : x41 = tp := hb_41
      have hb_42 : x42 = rs := hb_42
      have hb_43 : x43 = ks := hb_43
      replace hR := bnd_step hR eq29
      replace hE := bndP_step hE eq29
      have hF := frm_tr hF hFc29 (fun k hk => by unfold M_M_fail at hk; unfold M_M_seal; omega)
      have hf83 : q29.2.1 170 z21 = nI 3 := fc_F hs24 hFc29 (by unfold M_M_fail; omega)
      have hg51 : SETS ks (q29.2.1 170) := by rw [hFc29 170 (by unfold M_M_fail; omega)]; exact hg23
      have hg52 : HIDS ks (q29.2.1 171) := by rw [hFc29 171 (by unfold M_M_fail; omega)]; exact hg24
      refine W.widen (k := 0) (n := 0) (by omega) (by omega) ?_
      exact mp_iret hx hb hr hlk hP hD hS ((q29.1, q29.2), pl) ⟨⟨hR.symm, rfl, hF, ⟨x41, hx_41, by omega⟩, ⟨x42, hx_42, by omega⟩, ⟨x43, hx_43, by omega⟩, trivial⟩, hO⟩ [] rfl rfl rfl (by omega) (by omega) dM_seal_28
    replace hR := hR.trans (if_neg hs24)
    replace hE := iteP_neg hs24 hE
    by_cases hs25 : (q21.2.1 170 z21) = nI 4
    · replace hR := hR.trans (if_pos hs25)
      replace hE := iteP_pos hs25 hE
      refine mi_as hs25 ?_
      refine lv_iconst (v := nI 2) hx hb dM_seal_19 (by decide) ?_
      refine mi_le (tgt := 29) hx hb dM_seal_20 (by decide) (by omega) (by omega) (fun h29 => absurd h29 (by omega)) (fun h29 => ?_)
      refine lv_aload_n hx hb dM_seal_23 rfl (lv_at hl 0 rfl) ?_
      refine lv_iconst (v := nI 1) hx hb dM_seal_24 (by decide) ?_
      refine mp_i (cx := []) (wr := []) hP hD hS hA [] [] rfl rfl rfl (by decide) (va_runV (As := [.int (nI 1)]) (rest := []) F (N_M_fail l g _ T q21.2 pl hO hU h0 (nI 1) tp rs ks k_h0 hf25 hf26 hf27) (cwV 1 hts (wg_app (wg_c kw_1577 (wg_c kw_1579 (wg_c ks_50 (wg_c kw_9 wg_n)))) kw_1580) rfl rfl rfl (by decide +kernel) ⟨by decide, by decide⟩) (pn_W "LatticeKeysModel" (en_ok g) (ci := 8) (kn := 148) (fl := [(0, 0), (0, 0), (0, 0), (0, 0), (3, 149), (3, 150), (3, 151), (3, 152), (3, 161), (3, 170), (3, 171), (3, 172), (3, 184), (3, 225)]) hK hO k_h0 rfl hP hD hS hA hEn [] rfl rfl rfl) rfl rfl hl.1 rfl (lv_room (Nat.le_of_ble_eq_true rfl)) dM_seal_25 ⟨by omega, by omega⟩) (fun r49 u30 H locs hu30 hP hD hS => ?_)
      obtain ⟨q30, pl⟩ := u30
      obtain ⟨⟨eq30, rfl, hFc30, ⟨x45, hx_45, hb_45⟩, ⟨x46, hx_46, hb_46⟩, ⟨x47, hx_47, hb_47⟩, -⟩, hO⟩ := hu30
      have hO : okn g T q30.2 pl := hO
      have hP : va_P g.1 vcl ([] ++ pl) _ := hP
      have hD : va_D _ ([] ++ pl) := hD
      have hFc30 : frm (M_M_fail) q21.2 q30.2 := hFc30
      have hb_45 : x45 = tp := hb_45
      have hb_46 : x46 = rs := hb_46
      have hb_47 : x47 = ks := hb_47
      replace hR := bnd_step hR eq30
      replace hE := bndP_step hE eq30
      have hF := frm_tr hF hFc30 (fun k hk => by unfold M_M_fail at hk; unfold M_M_seal; omega)
      have hf84 : q30.2.1 170 z21 = nI 4 := fc_F hs25 hFc30 (by unfold M_M_fail; omega)
      have hg53 : SETS ks (q30.2.1 170) := by rw [hFc30 170 (by unfold M_M_fail; omega)]; exact hg23
      have hg54 : HIDS ks (q30.2.1 171) := by rw [hFc30 171 (by unfold M_M_fail; omega)]; exact hg24
      refine W.widen (k := 0) (n := 0) (by omega) (by omega) ?_
      exact mp_iret hx hb hr hlk hP hD hS ((q30.1, q30.2), pl) ⟨⟨hR.symm, rfl, hF, ⟨x45, hx_45, by omega⟩, ⟨x46, hx_46, by omega⟩, ⟨x47, hx_47, by omega⟩, trivial⟩, hO⟩ [] rfl rfl rfl (by omega) (by omega) dM_seal_28
    replace hR := hR.trans (if_neg hs25)
    replace hE := iteP_neg hs25 hE
    have hs26 : (q21.2.1 170 z21) = nI 5 := set5 hg23 (by omega) hs21 hs22 hs23 hs24 hs25
    refine mi_as hs26 ?_
    refine lv_iconst (v := nI 2) hx hb dM_seal_19 (by decide) ?_
    refine mi_le (tgt := 29) hx hb dM_seal_20 (by decide) (by omega) (by omega) (fun h30 => absurd h30 (by omega)) (fun h30 => ?_)
    refine lv_aload_n hx hb dM_seal_23 rfl (lv_at hl 0 rfl) ?_
    refine lv_iconst (v := nI 1) hx hb dM_seal_24 (by decide) ?_
    refine mp_i (cx := []) (wr := []) hP hD hS hA [] [] rfl rfl rfl (by decide) (va_runV (As := [.int (nI 1)]) (rest := []) F (N_M_fail l g _ T q21.2 pl hO hU h0 (nI 1) tp rs ks k_h0 hf25 hf26 hf27) (cwV 1 hts (wg_app (wg_c kw_1577 (wg_c kw_1579 (wg_c ks_50 (wg_c kw_9 wg_n)))) kw_1580) rfl rfl rfl (by decide +kernel) ⟨by decide, by decide⟩) (pn_W "LatticeKeysModel" (en_ok g) (ci := 8) (kn := 148) (fl := [(0, 0), (0, 0), (0, 0), (0, 0), (3, 149), (3, 150), (3, 151), (3, 152), (3, 161), (3, 170), (3, 171), (3, 172), (3, 184), (3, 225)]) hK hO k_h0 rfl hP hD hS hA hEn [] rfl rfl rfl) rfl rfl hl.1 rfl (lv_room (Nat.le_of_ble_eq_true rfl)) dM_seal_25 ⟨by omega, by omega⟩) (fun r50 u31 H locs hu31 hP hD hS => ?_)
    obtain ⟨q31, pl⟩ := u31
    obtain ⟨⟨eq31, rfl, hFc31, ⟨x49, hx_49, hb_49⟩, ⟨x50, hx_50, hb_50⟩, ⟨x51, hx_51, hb_51⟩, -⟩, hO⟩ := hu31
    have hO : okn g T q31.2 pl := hO
    have hP : va_P g.1 vcl ([] ++ pl) _ := hP
    have hD : va_D _ ([] ++ pl) := hD
    have hFc31 : frm (M_M_fail) q21.2 q31.2 := hFc31
    have hb_49 : x49 = tp := hb_49
    have hb_50 : x50 = rs := hb_50
    have hb_51 : x51 = ks := hb_51
    replace hR := bnd_step hR eq31
    replace hE := bndP_step hE eq31
    have hF := frm_tr hF hFc31 (fun k hk => by unfold M_M_fail at hk; unfold M_M_seal; omega)
    have hf85 : q31.2.1 170 z21 = nI 5 := fc_F hs26 hFc31 (by unfold M_M_fail; omega)
    have hg55 : SETS ks (q31.2.1 170) := by rw [hFc31 170 (by unfold M_M_fail; omega)]; exact hg23
    have hg56 : HIDS ks (q31.2.1 171) := by rw [hFc31 171 (by unfold M_M_fail; omega)]; exact hg24
    refine W.widen (k := 0) (n := 0) (by omega) (by omega) ?_
    exact mp_iret hx hb hr hlk hP hD hS ((q31.1, q31.2), pl) ⟨⟨hR.symm, rfl, hF, ⟨x49, hx_49, by omega⟩, ⟨x50, hx_50, by omega⟩, ⟨x51, hx_51, by omega⟩, trivial⟩, hO⟩ [] rfl rfl rfl (by omega) (by omega) dM_seal_28
