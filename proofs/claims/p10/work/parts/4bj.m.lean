set_option linter.all false
def M_M_madeP (k : Nat) : Prop := k = 148 ∨ k = 170 ∨ k = 171 ∨ (0 : Nat) = 1
noncomputable def F_M_madeP (st : Nat) (hb_ : Nat) (s : Sto) : Int32 × Sto := bnd ((s.1 148 3).toNatClampNeg) fun z21 => bnd (sI s 170 z21 (nI st)) fun s21 => bnd ((s21.1 148 3).toNatClampNeg) fun z22 => bnd (sI s21 171 z22 (nI hb_)) fun s22 => bnd ((s22.1 148 3).toNatClampNeg) fun z23 => bnd (sI s22 148 3 (nI (z23 + 1))) fun s23 => bnd (sI s23 148 1 (nI 0)) fun s24 => bnd ((s24.1 148 3).toNatClampNeg) fun z24 => (nI (z24 - 1), s24)
set_option maxHeartbeats 2000000 in
set_option maxRecDepth 100000 in
theorem N_M_madeP (l : Launch) (g : Gd) (sz : Nat) (T : TyN) (s : Sto) (pl : va_W) (hO : okn g T s pl) (hU : inj T) (h0 : Nat) (st : Nat) (hb_ : Nat) (tp : Nat) (rs : Nat) (ks : Nat) (k_h0 : T h0 = some 148) (e_tp : s.1 148 1 = nI tp) (e_rs : s.1 148 2 = nI rs) (e_ks : s.1 148 3 = nI ks) (h1 : st ≤ 5) (h2 : hb_ ≤ 4896) (h3 : ks < 8) (qst : SETS ks (s.1 170)) (qhd : HIDS ks (s.1 171))  : Met l y_M_made w_M_made ({ frames := 0, cells := 0, slots := 0, locals := 0 } : Room) (va_Pc [.ref h0, .int (nI st), .int (nI hb_)] (pr (en g) g.1 vcl sz ([] ++ pl))) (va_Qi (fun (r : Int32) (u : (Int32 × Sto) × va_W) => (u.1 = F_M_madeP st hb_ s ∧ r = u.1.1 ∧ frm (M_M_madeP) s u.1.2 ∧ (∃ x : Nat, u.1.2.1 148 1 = nI x ∧ x = 0) ∧ (∃ x : Nat, u.1.2.1 148 2 = nI x ∧ x = rs) ∧ (∃ x : Nat, u.1.2.1 148 3 = nI x ∧ x = ks + 1) ∧ (∃ x : Nat, u.1.2.1 148 3 = nI x ∧ x = ks + 1 ∧ SETS (ks + 1) (u.1.2.1 170) ∧ HIDS (ks + 1) (u.1.2.1 171)) ∧ True) ∧ okn g T u.1.2 u.2) (po g.1 vcl (va_A ([] ++ pl) sz) (fun (u : (Int32 × Sto) × va_W) => [] ++ u.2)) (va_A ([] ++ pl) sz)) 0 0 (va_A ([] ++ pl) sz) := by
  refine mc_entry (cc := c_M_made) (maxL := 3) (ret := (some .int)) (by decide) rfl (Nat.le_of_ble_eq_true rfl) ?_
  intro p e s0 m args below meth c ls F hr hlk hnm hsz hP hD hE hA hl
  obtain ⟨hx, hb, hml, hown, hts⟩ := id F
  have hK := hE.1
  generalize va_A ([] ++ pl) sz = A at hD hE hA ⊢
  have hS : va_S A s0.heap s0.heap [] := va_S.rf
  have hl : lv_has ls 3 [(0, .ref h0), (1, .int (nI st)), (2, .int (nI hb_))] := hl
  have hR : F_M_madeP st hb_ s = F_M_madeP st hb_ s := rfl
  have hF : frm (M_M_madeP) s s := frm_rf
  refine lv_aload_n hx hb dM_made_0 rfl (lv_at hl 0 rfl) ?_
  refine nw_get (C := "LatticeKeysModel") (TT := T_M) (N := 14) hx hb hts (wg_ft i_M) hown hK hO k_h0 (kn := 148) (ci := 8) (fl := [(0, 0), (0, 0), (0, 0), (0, 0), (3, 149), (3, 150), (3, 151), (3, 152), (3, 161), (3, 170), (3, 171), (3, 172), (3, 184), (3, 225)]) rfl hP rfl 9 (by decide) (hts _ (wg_t kw_1535)) (fun _ h9 => h9) (cd := (3, 170)) rfl dM_made_1 (fun v21 hv21 => ?_)
  obtain ⟨r21, rfl, kr21⟩ := (show ∃ r : Nat, v21 = .ref r ∧ T r = some 170 from hv21)
  refine lv_aload_n hx hb dM_made_4 rfl (lv_at hl 0 rfl) ?_
  refine nw_get (C := "LatticeKeysModel") (TT := T_M) (N := 14) hx hb hts (wg_ft i_M) hown hK hO k_h0 (kn := 148) (ci := 8) (fl := [(0, 0), (0, 0), (0, 0), (0, 0), (3, 149), (3, 150), (3, 151), (3, 152), (3, 161), (3, 170), (3, 171), (3, 172), (3, 184), (3, 225)]) rfl hP rfl 3 (by decide) (hts _ (wg_t kw_1529)) (fun _ h9 => h9) (cd := (0, 0)) rfl dM_made_5 (fun v22 hv22 => ?_)
  obtain rfl := (show v22 = .int (s.1 148 3) from hv22)
  obtain ⟨z21, ez21, hz21, hz22⟩ := cl_of (b := 2147483648) e_ks (by omega) (by decide)
  replace hR := bnd_step hR ez21
  refine mi_as hz21 ?_
  refine lv_iload_n hx hb dM_made_8 rfl (lv_at hl 1 rfl) ?_
  refine nw_iast hx hb hK hO hU kr21 (k := 170) rfl hP hD hS (by omega) (by omega) dM_made_9 (fun s21 pl H locs es21 hO hP hD hS => ?_)
  replace hR := bnd_step hR es21
  have hF := frm_sI hF es21 (by unfold M_M_madeP; omega)
  have hf21 : s21.1 148 1 = nI tp := fc_ne e_tp es21 (by omega)
  have hf22 : s21.1 148 2 = nI rs := fc_ne e_rs es21 (by omega)
  have hf23 : s21.1 148 3 = nI ks := fc_ne e_ks es21 (by omega)
  have hg21 : HIDS ks (s21.1 171) := by rw [(ar_sI es21 (by omega))]; exact qhd
  have hg22 : SETS (ks + 1) (s21.1 170) := sets_push qst es21 (by omega) (by omega)
  refine lv_aload_n hx hb dM_made_10 rfl (lv_at hl 0 rfl) ?_
  refine nw_get (C := "LatticeKeysModel") (TT := T_M) (N := 14) hx hb hts (wg_ft i_M) hown hK hO k_h0 (kn := 148) (ci := 8) (fl := [(0, 0), (0, 0), (0, 0), (0, 0), (3, 149), (3, 150), (3, 151), (3, 152), (3, 161), (3, 170), (3, 171), (3, 172), (3, 184), (3, 225)]) rfl hP rfl 10 (by decide) (hts _ (wg_t kw_1536)) (fun _ h9 => h9) (cd := (3, 171)) rfl dM_made_11 (fun v23 hv23 => ?_)
  obtain ⟨r22, rfl, kr22⟩ := (show ∃ r : Nat, v23 = .ref r ∧ T r = some 171 from hv23)
  refine lv_aload_n hx hb dM_made_14 rfl (lv_at hl 0 rfl) ?_
  refine nw_get (C := "LatticeKeysModel") (TT := T_M) (N := 14) hx hb hts (wg_ft i_M) hown hK hO k_h0 (kn := 148) (ci := 8) (fl := [(0, 0), (0, 0), (0, 0), (0, 0), (3, 149), (3, 150), (3, 151), (3, 152), (3, 161), (3, 170), (3, 171), (3, 172), (3, 184), (3, 225)]) rfl hP rfl 3 (by decide) (hts _ (wg_t kw_1529)) (fun _ h9 => h9) (cd := (0, 0)) rfl dM_made_15 (fun v24 hv24 => ?_)
  obtain rfl := (show v24 = .int (s21.1 148 3) from hv24)
  obtain ⟨z22, ez22, hz23, hz24⟩ := cl_of (b := 2147483648) hf23 (by omega) (by decide)
  replace hR := bnd_step hR ez22
  refine mi_as hz23 ?_
  refine lv_iload_n hx hb dM_made_18 rfl (lv_at hl 2 rfl) ?_
  refine nw_iast hx hb hK hO hU kr22 (k := 171) rfl hP hD hS (by omega) (by omega) dM_made_19 (fun s22 pl H locs es22 hO hP hD hS => ?_)
  replace hR := bnd_step hR es22
  have hF := frm_sI hF es22 (by unfold M_M_madeP; omega)
  have hf24 : s22.1 148 1 = nI tp := fc_ne hf21 es22 (by omega)
  have hf25 : s22.1 148 2 = nI rs := fc_ne hf22 es22 (by omega)
  have hf26 : s22.1 148 3 = nI ks := fc_ne hf23 es22 (by omega)
  have hg23 : SETS (ks + 1) (s22.1 170) := by rw [(ar_sI es22 (by omega))]; exact hg22
  have hg24 : HIDS (ks + 1) (s22.1 171) := hids_push hg21 es22 (by omega) (by omega)
  refine lv_aload_n hx hb dM_made_20 rfl (lv_at hl 0 rfl) ?_
  refine lv_dup hx hb dM_made_21 rfl ?_
  refine nw_get (C := "LatticeKeysModel") (TT := T_M) (N := 14) hx hb hts (wg_ft i_M) hown hK hO k_h0 (kn := 148) (ci := 8) (fl := [(0, 0), (0, 0), (0, 0), (0, 0), (3, 149), (3, 150), (3, 151), (3, 152), (3, 161), (3, 170), (3, 171), (3, 172), (3, 184), (3, 225)]) rfl hP rfl 3 (by decide) (hts _ (wg_t kw_1529)) (fun _ h9 => h9) (cd := (0, 0)) rfl dM_made_22 (fun v25 hv25 => ?_)
  obtain rfl := (show v25 = .int (s22.1 148 3) from hv25)
  obtain ⟨z23, ez23, hz25, hz26⟩ := cl_of (b := 2147483648) hf26 (by omega) (by decide)
  replace hR := bnd_step hR ez23
  refine mi_as hz25 ?_
  refine lv_iconst (v := nI 1) hx hb dM_made_25 (by decide) ?_
  refine mi_iadd hx hb dM_made_26 ?_
  refine nw_put (C := "LatticeKeysModel") (TT := T_M) (N := 14) hx hb hts (wg_ft i_M) ty_M k_M n_M hown hK hO hU k_h0 (kn := 148) (ci := 8) (fl := [(0, 0), (0, 0), (0, 0), (0, 0), (3, 149), (3, 150), (3, 151), (3, 152), (3, 161), (3, 170), (3, 171), (3, 172), (3, 184), (3, 225)]) rfl hP hD hS rfl 3 (by decide) (hts _ (wg_t kw_1529)) (fun _ h9 => h9) rfl (by decide +kernel) rfl dM_made_27 (fun s23 pl H locs es23 hO hP hD hS => ?_)
  replace hR := bnd_step hR es23
  have hF := frm_sI hF es23 (by unfold M_M_madeP; omega)
  have hf27 : s23.1 148 1 = nI tp := fc_ne hf24 es23 (by omega)
  have hf28 : s23.1 148 2 = nI rs := fc_ne hf25 es23 (by omega)
  have hf30 : s23.1 148 3 = nI (z23 + 1) := fc_eq es23
  have hg25 : SETS (ks + 1) (s23.1 170) := by rw [(ar_sI es23 (by omega))]; exact hg23
  have hg26 : HIDS (ks + 1) (s23.1 171) := by rw [(ar_sI es23 (by omega))]; exact hg24
  refine lv_aload_n hx hb dM_made_30 rfl (lv_at hl 0 rfl) ?_
  refine lv_iconst (v := nI 0) hx hb dM_made_31 (by decide) ?_
  refine nw_put (C := "LatticeKeysModel") (TT := T_M) (N := 14) hx hb hts (wg_ft i_M) ty_M k_M n_M hown hK hO hU k_h0 (kn := 148) (ci := 8) (fl := [(0, 0), (0, 0), (0, 0), (0, 0), (3, 149), (3, 150), (3, 151), (3, 152), (3, 161), (3, 170), (3, 171), (3, 172), (3, 184), (3, 225)]) rfl hP hD hS rfl 1 (by decide) (hts _ (wg_t kw_1527)) (fun _ h9 => h9) rfl (by decide +kernel) rfl dM_made_32 (fun s24 pl H locs es24 hO hP hD hS => ?_)
  replace hR := bnd_step hR es24
  have hF := frm_sI hF es24 (by unfold M_M_madeP; omega)
  have hf32 : s24.1 148 2 = nI rs := fc_ne hf28 es24 (by omega)
  have hf33 : s24.1 148 3 = nI (z23 + 1) := fc_ne hf30 es24 (by omega)
  have hf34 : s24.1 148 1 = nI 0 := fc_eq es24
  have hg27 : SETS (ks + 1) (s24.1 170) := by rw [(ar_sI es24 (by omega))]; exact hg25
  have hg28 : HIDS (ks + 1) (s24.1 171) := by rw [(ar_sI es24 (by omega))]; exact hg26
  refine lv_aload_n hx hb dM_made_35 rfl (lv_at hl 0 rfl) ?_
  refine nw_get (C := "LatticeKeysModel") (TT := T_M) (N := 14) hx hb hts (wg_ft i_M) hown hK hO k_h0 (kn := 148) (ci := 8) (fl := [(0, 0), (0, 0), (0, 0), (0, 0), (3, 149), (3, 150), (3, 151), (3, 152), (3, 161), (3, 170), (3, 171), (3, 172), (3, 184), (3, 225)]) rfl hP rfl 3 (by decide) (hts _ (wg_t kw_1529)) (fun _ h9 => h9) (cd := (0, 0)) rfl dM_made_36 (fun v26 hv26 => ?_)
  obtain rfl := (show v26 = .int (s24.1 148 3) from hv26)
  obtain ⟨z24, ez24, hz27, hz28⟩ := cl_of (b := 2147483648) hf33 (by omega) (by decide)
  replace hR := bnd_step hR ez24
  refine mi_as hz27 ?_
  refine lv_iconst (v := nI 1) hx hb dM_made_39 (by decide) ?_
  refine mi_isub hx hb dM_made_40 (by omega) ?_
  exact mp_iret hx hb hr hlk hP hD hS ((nI (z24 - 1), s24), pl) ⟨⟨hR.symm, rfl, hF, ⟨0, hf34, by omega⟩, ⟨rs, hf32, by omega⟩, ⟨z23 + 1, hf33, by omega⟩, ⟨z23 + 1, hf33, by omega, hg27, hg28⟩, trivial⟩, hO⟩ [] rfl rfl rfl (by omega) (by omega) dM_made_41
