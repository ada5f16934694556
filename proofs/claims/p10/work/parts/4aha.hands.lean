set_option linter.all false
def M_MH_sign_0 (pt : Nat) (k : Nat) : Prop := (227 ≤ k ∧ k < 291) ∨ (292 ≤ k ∧ k < 299) ∨ (300 ≤ k ∧ k < 308) ∨ (309 ≤ k ∧ k < 317) ∨ (327 ≤ k ∧ k < 334) ∨ (335 ≤ k ∧ k < 342) ∨ (343 ≤ k ∧ k < 350) ∨ (351 ≤ k ∧ k < 359) ∨ (360 ≤ k ∧ k < 368) ∨ k = 172 ∨ k = 225 ∨ k = 368 ∨ k = 369 ∨ k = 370 ∨ k = 373 ∨ k = 374 ∨ k = 375 ∨ k = 376 ∨ k = pt ∨ (0 : Nat) = 1
noncomputable def F_MH_sign_0_L2 (pt : Nat) (i21 : Nat) (kk : Nat → Sto → Int32 × Sto) : Nat → Nat → Sto → Int32 × Sto
  | 0, i23, s34 => bnd ((s34.1 225 24).toNatClampNeg) fun z23 => bnd (F_MH_marked_0 (nI 0) 376 s34) fun s35 => bnd (F_MH_ball_0 376 s35) fun s36 => bnd (F_MH_fits_0  s36) fun q21 => if (q21.1) = 0 then kk (i21 + 1) q21.2 else bnd (F_MH_written_0 pt q21.2) fun s37 => (nI i21, s37)
  | n23 + 1, i23, s34 => bnd ((s34.1 225 24).toNatClampNeg) fun z24 => bnd (F_MH_rowBy_0 i23 (351 + i23) s34) fun s38 => F_MH_sign_0_L2 pt i21 kk n23 (i23 + 1) s38
noncomputable def E_MH_sign_0_L2 (pt : Nat) (i21 : Nat) (ke : Nat → Sto → Prop) : Nat → Nat → Sto → Prop
  | 0, i23, s34 => bnd ((s34.1 225 24).toNatClampNeg) fun z23 => bnd (F_MH_marked_0 (nI 0) 376 s34) fun s35 => (E_MH_ball_0 376 s35) ∧ (bnd (F_MH_ball_0 376 s35) fun s36 => bnd (F_MH_fits_0  s36) fun q21 => if (q21.1) = 0 then ke (i21 + 1) q21.2 else bnd (F_MH_written_0 pt q21.2) fun s37 => True)
  | n23 + 1, i23, s34 => bnd ((s34.1 225 24).toNatClampNeg) fun z24 => bnd (F_MH_rowBy_0 i23 (351 + i23) s34) fun s38 => E_MH_sign_0_L2 pt i21 ke n23 (i23 + 1) s38
noncomputable def F_MH_sign_0_L1 (pt : Nat) (i21 : Nat) (kk : Nat → Sto → Int32 × Sto) : Nat → Nat → Sto → Int32 × Sto
  | 0, i22, s33 => bnd ((s33.1 225 25).toNatClampNeg) fun z22 => F_MH_sign_0_L2 pt i21 (kk) 4 0 s33
  | n22 + 1, i22, s33 => bnd ((s33.1 225 25).toNatClampNeg) fun z25 => bnd (F_MR_forth_8_0 (327 + i22) (343 + i22) s33) fun s39 => F_MH_sign_0_L1 pt i21 kk n22 (i22 + 1) s39
noncomputable def E_MH_sign_0_L1 (pt : Nat) (i21 : Nat) (ke : Nat → Sto → Prop) : Nat → Nat → Sto → Prop
  | 0, i22, s33 => bnd ((s33.1 225 25).toNatClampNeg) fun z22 => E_MH_sign_0_L2 pt i21 (ke) 4 0 s33
  | n22 + 1, i22, s33 => bnd ((s33.1 225 25).toNatClampNeg) fun z25 => bnd (F_MR_forth_8_0 (327 + i22) (343 + i22) s33) fun s39 => E_MH_sign_0_L1 pt i21 ke n22 (i22 + 1) s39
noncomputable def F_MH_sign_0_L0 (pt : Nat) : Nat → Nat → Sto → Int32 × Sto
  | 0, i21, s31 => (nI 0, s31)
  | n21 + 1, i21, s31 => bnd ((s31.1 225 25).toNatClampNeg) fun z21 => bnd (F_MH_mask_0 (nI ((i21 - 1) * 4)) s31) fun s32 => F_MH_sign_0_L1 pt i21 (F_MH_sign_0_L0 pt n21) 4 0 s32
noncomputable def E_MH_sign_0_L0 (pt : Nat) : Nat → Nat → Sto → Prop
  | 0, i21, s31 => True
  | n21 + 1, i21, s31 => bnd ((s31.1 225 25).toNatClampNeg) fun z21 => bnd (F_MH_mask_0 (nI ((i21 - 1) * 4)) s31) fun s32 => E_MH_sign_0_L1 pt i21 (E_MH_sign_0_L0 pt n21) 4 0 s32
noncomputable def F_MH_sign_0 (psk : Nat) (pb : Nat) (n : Nat) (cl_ : Int32) (ed : Nat) (pt : Nat) (s : Sto) : Int32 × Sto := bnd (F_MH_as_0  s) fun s21 => bnd (F_MH_readHidden_0 psk s21) fun s22 => bnd (F_MH_expand_0 psk 4896 s22) fun s23 => bnd (F_MH_message_0 psk 4896 64 pb n 32 cl_ ed s23) fun s24 => bnd (F_MS_shake  s24) fun s25 => bnd (F_MS_puts psk 4896 32 32 s25) fun s26 => bnd (F_MS_puts pb n 0 32 s26) fun s27 => bnd (F_MS_puts 373 64 0 64 s27) fun s28 => bnd (F_MS_end  s28) fun s29 => bnd (F_MS_take 374 64 0 64 s29) fun s30 => F_MH_sign_0_L0 pt (201 - 1) 1 s30
noncomputable def E_MH_sign_0 (psk : Nat) (pb : Nat) (n : Nat) (cl_ : Int32) (ed : Nat) (pt : Nat) (s : Sto) : Prop := bnd (F_MH_as_0  s) fun s21 => bnd (F_MH_readHidden_0 psk s21) fun s22 => (E_MH_expand_0 psk 4896 s22) ∧ (bnd (F_MH_expand_0 psk 4896 s22) fun s23 => bnd (F_MH_message_0 psk 4896 64 pb n 32 cl_ ed s23) fun s24 => bnd (F_MS_shake  s24) fun s25 => bnd (F_MS_puts psk 4896 32 32 s25) fun s26 => bnd (F_MS_puts pb n 0 32 s26) fun s27 => bnd (F_MS_puts 373 64 0 64 s27) fun s28 => bnd (F_MS_end  s28) fun s29 => bnd (F_MS_take 374 64 0 64 s29) fun s30 => E_MH_sign_0_L0 pt (201 - 1) 1 s30)
set_option maxHeartbeats 8000000 in
set_option maxRecDepth 100000 in
theorem N_MH_sign_0 (l : Launch) (g : Gd) (sz : Nat) (T : TyN) (s : Sto) (pl : va_W) (hO : okn g T s pl) (hU : inj T) (h0 sk b to : Nat) (psk : Nat) (pb : Nat) (n : Nat) (cl_ : Int32) (ed : Nat) (pt : Nat) (k_h0 : T h0 = some 225) (k_sk : T sk = some psk) (n_sk : nsp psk = (1, 4896, [])) (k_b : T b = some pb) (n_b : nsp pb = (1, n, [])) (k_to : T to = some pt) (n_to : nsp pt = (1, 8192, [])) (h1 : 32 ≤ ed) (h3 : ed ≤ n) (h2 : n < 65536) (hE : E_MH_sign_0 psk pb n cl_ ed pt s)  : Met l y_MH_sign w_MH_sign ({ frames := 5, cells := 0, slots := 0, locals := 116 } : Room) (va_Pc [.ref h0, .int (nI 0), .ref sk, .ref b, .int cl_, .int (nI ed), .ref to] (pr (en g) g.1 vcl sz ([] ++ pl))) (va_Qi (fun (r : Int32) (u : (Int32 × Sto) × va_W) => (u.1 = F_MH_sign_0 psk pb n cl_ ed pt s ∧ r = u.1.1 ∧ frm (M_MH_sign_0 pt) s u.1.2 ∧ True) ∧ okn g T u.1.2 u.2) (po g.1 vcl (va_A ([] ++ pl) sz) (fun (u : (Int32 × Sto) × va_W) => [] ++ u.2)) (va_A ([] ++ pl) sz)) 0 0 (va_A ([] ++ pl) sz) := by
  refine mc_entry (cc := c_MH_sign) (maxL := 9) (ret := (some .int)) (by decide) rfl (Nat.le_of_ble_eq_true rfl) ?_
  intro p e s0 m args below meth c ls F hr hlk hnm hsz hP hD hEn hA hl
  obtain ⟨hx, hb, hml, hown, hts⟩ := id F
  have hK := hEn.1
  generalize va_A ([] ++ pl) sz = A at hD hEn hA ⊢
  have hS : va_S A s0.heap s0.heap [] := va_S.rf
  have hl : lv_has ls 9 [(0, .ref h0), (1, .int (nI 0)), (2, .ref sk), (3, .ref b), (4, .int cl_), (5, .int (nI ed)), (6, .ref to)] := hl
  have hR : F_MH_sign_0 psk pb n cl_ ed pt s = F_MH_sign_0 psk pb n cl_ ed pt s := rfl
  have hF : frm (M_MH_sign_0 pt) s s := frm_rf
  have ne_172_psk : 172 ≠ psk := nsp_ne (p := 172) rfl n_sk (show (5 : Nat) ≠ 1 by decide)
  have ne_172_pb : 172 ≠ pb := nsp_ne (p := 172) rfl n_b (show (5 : Nat) ≠ 1 by decide)
  have ne_172_pt : 172 ≠ pt := nsp_ne (p := 172) rfl n_to (show (5 : Nat) ≠ 1 by decide)
  have ne_225_psk : 225 ≠ psk := nsp_ne (p := 225) rfl n_sk (show (5 : Nat) ≠ 1 by decide)
  have ne_225_pb : 225 ≠ pb := nsp_ne (p := 225) rfl n_b (show (5 : Nat) ≠ 1 by decide)
  have ne_225_pt : 225 ≠ pt := nsp_ne (p := 225) rfl n_to (show (5 : Nat) ≠ 1 by decide)
  refine lv_aload_n hx hb dMH_sign_0 rfl (lv_at hl 0 rfl) ?_
  refine lv_iload_n hx hb dMH_sign_1 rfl (lv_at hl 1 rfl) ?_
  refine mp_v (cx := []) (wr := []) hP hD hS hA [] [] rfl rfl rfl (by decide) (va_runV (As := [.int (nI 0)]) (rest := []) F (N_MH_as_0 l g _ T s pl hO hU h0 k_h0) (cwV 1 hts (wg_app (wg_c kw_1702 (wg_c kw_1704 (wg_c ks_60 (wg_c kw_13 wg_n)))) kw_1705) rfl rfl rfl (by decide +kernel) ⟨by decide, by decide⟩) (pn_W "LatticeKeysModel$Hands" (en_ok g) (ci := 12) (kn := 225) (fl := [(3, 172), (3, 181), (3, 226), (3, 291), (3, 299), (3, 308), (3, 317), (3, 326), (3, 334), (3, 342), (3, 350), (3, 359), (3, 368), (3, 369), (3, 370), (3, 371), (3, 372), (3, 373), (3, 374), (3, 375), (3, 376), (3, 377), (3, 378), (0, 0), (0, 0), (0, 0), (0, 0), (0, 0), (0, 0), (0, 0), (0, 0)]) hK hO k_h0 rfl hP hD hS hA hEn [] rfl rfl rfl) rfl rfl hl.1 rfl (lv_room (Nat.le_of_ble_eq_true rfl)) dMH_sign_2 ⟨by omega, by omega⟩) (fun  u21 H locs hu21 hP hD hS => ?_)
  obtain ⟨s21, pl⟩ := u21
  obtain ⟨⟨eq21, hFc21, ⟨x21, hx_21, hb_21⟩, ⟨x22, hx_22, hb_22⟩, ⟨x23, hx_23, hb_23⟩, ⟨x24, hx_24, hb_24⟩, ⟨x25, hx_25, hb_25⟩, ⟨x26, hx_26, hb_26⟩, ⟨x27, hx_27, hb_27⟩, ⟨x28, hx_28, hb_28⟩, -⟩, hO⟩ := hu21
  have hO : okn g T s21 pl := hO
  have hP : va_P g.1 vcl ([] ++ pl) _ := hP
  have hD : va_D _ ([] ++ pl) := hD
  have hFc21 : frm (M_MH_as_0) s s21 := hFc21
  have hb_21 : x21 = 0 := hb_21
  have hb_22 : x22 = 4 := hb_22
  have hb_23 : x23 = 4 := hb_23
  have hb_24 : x24 = 2 := hb_24
  have hb_25 : x25 = 131072 := hb_25
  have hb_26 : x26 = 95232 := hb_26
  have hb_27 : x27 = 78 := hb_27
  have hb_28 : x28 = 32 := hb_28
  replace hR := bnd_step hR eq21
  first | rw [bnd_step rfl eq21] at hE | replace hE := bndP_step hE eq21
  have hF := frm_tr hF hFc21 (fun k hk => by unfold M_MH_as_0 at hk; unfold M_MH_sign_0; omega)
  subst hb_21
  subst hb_22
  subst hb_23
  subst hb_24
  subst hb_25
  subst hb_26
  subst hb_27
  subst hb_28
  refine W.widen (k := 0) (n := 0) (by omega) (by omega) ?_
  refine lv_aload_n hx hb dMH_sign_5 rfl (lv_at hl 0 rfl) ?_
  refine lv_aload_n hx hb dMH_sign_6 rfl (lv_at hl 2 rfl) ?_
  refine mp_v (cx := []) (wr := []) hP hD hS hA [] [] rfl rfl rfl (by decide) (va_runV (As := [.ref sk]) (rest := []) F (N_MH_readHidden_0 l g _ T s21 pl hO hU h0 sk psk k_h0 k_sk n_sk hx_21 hx_22 hx_23 hx_24 hx_25 hx_26 hx_27 hx_28) (cwV 1 hts (wg_app (wg_c kw_1860 (wg_c kw_1862 (wg_c ks_70 (wg_c kw_13 wg_n)))) kw_1863) rfl rfl rfl (by decide +kernel) ⟨by decide, by decide⟩) (pn_W "LatticeKeysModel$Hands" (en_ok g) (ci := 12) (kn := 225) (fl := [(3, 172), (3, 181), (3, 226), (3, 291), (3, 299), (3, 308), (3, 317), (3, 326), (3, 334), (3, 342), (3, 350), (3, 359), (3, 368), (3, 369), (3, 370), (3, 371), (3, 372), (3, 373), (3, 374), (3, 375), (3, 376), (3, 377), (3, 378), (0, 0), (0, 0), (0, 0), (0, 0), (0, 0), (0, 0), (0, 0), (0, 0)]) hK hO k_h0 rfl hP hD hS hA hEn [] rfl rfl rfl) rfl rfl hl.1 rfl (lv_room (Nat.le_of_ble_eq_true rfl)) dMH_sign_7 ⟨by omega, by omega⟩) (fun  u22 H locs hu22 hP hD hS => ?_)
  obtain ⟨s22, pl⟩ := u22
  obtain ⟨⟨eq22, hFc22, -⟩, hO⟩ := hu22
  have hO : okn g T s22 pl := hO
  have hP : va_P g.1 vcl ([] ++ pl) _ := hP
  have hD : va_D _ ([] ++ pl) := hD
  have hFc22 : frm (M_MH_readHidden_0) s21 s22 := hFc22
  replace hR := bnd_step hR eq22
  first | rw [bnd_step rfl eq22] at hE | replace hE := bndP_step hE eq22
  have hF := frm_tr hF hFc22 (fun k hk => by unfold M_MH_readHidden_0 at hk; unfold M_MH_sign_0; omega)
  have hf21 : s22.1 225 23 = nI 0 := fc_F hx_21 hFc22 (by unfold M_MH_readHidden_0; omega)
  have hf22 : s22.1 225 24 = nI 4 := fc_F hx_22 hFc22 (by unfold M_MH_readHidden_0; omega)
  have hf23 : s22.1 225 25 = nI 4 := fc_F hx_23 hFc22 (by unfold M_MH_readHidden_0; omega)
  have hf24 : s22.1 225 26 = nI 2 := fc_F hx_24 hFc22 (by unfold M_MH_readHidden_0; omega)
  have hf25 : s22.1 225 27 = nI 131072 := fc_F hx_25 hFc22 (by unfold M_MH_readHidden_0; omega)
  have hf26 : s22.1 225 28 = nI 95232 := fc_F hx_26 hFc22 (by unfold M_MH_readHidden_0; omega)
  have hf27 : s22.1 225 29 = nI 78 := fc_F hx_27 hFc22 (by unfold M_MH_readHidden_0; omega)
  have hf28 : s22.1 225 30 = nI 32 := fc_F hx_28 hFc22 (by unfold M_MH_readHidden_0; omega)
  refine W.widen (k := 0) (n := 0) (by omega) (by omega) ?_
  refine lv_aload_n hx hb dMH_sign_10 rfl (lv_at hl 0 rfl) ?_
  refine lv_aload_n hx hb dMH_sign_11 rfl (lv_at hl 2 rfl) ?_
  refine mp_v (cx := []) (wr := []) hP hD hS hA [] [] rfl rfl rfl (by decide) (va_runV (As := [.ref sk]) (rest := []) F (N_MH_expand_0 l g _ T s22 pl hO hU h0 sk psk 4896 k_h0 k_sk n_sk hf21 hf22 hf23 hf24 hf25 hf26 hf27 hf28 (by omega) (by omega) hE.1) (cwV 1 hts (wg_app (wg_c kw_1723 (wg_c kw_1725 (wg_c ks_61 (wg_c kw_13 wg_n)))) kw_1726) rfl rfl rfl (by decide +kernel) ⟨by decide, by decide⟩) (pn_W "LatticeKeysModel$Hands" (en_ok g) (ci := 12) (kn := 225) (fl := [(3, 172), (3, 181), (3, 226), (3, 291), (3, 299), (3, 308), (3, 317), (3, 326), (3, 334), (3, 342), (3, 350), (3, 359), (3, 368), (3, 369), (3, 370), (3, 371), (3, 372), (3, 373), (3, 374), (3, 375), (3, 376), (3, 377), (3, 378), (0, 0), (0, 0), (0, 0), (0, 0), (0, 0), (0, 0), (0, 0), (0, 0)]) hK hO k_h0 rfl hP hD hS hA hEn [] rfl rfl rfl) rfl rfl hl.1 rfl (lv_room (Nat.le_of_ble_eq_true rfl)) dMH_sign_12 ⟨by omega, by omega⟩) (fun  u23 H locs hu23 hP hD hS => ?_)
  obtain ⟨s23, pl⟩ := u23
  obtain ⟨⟨eq23, hFc23, -⟩, hO⟩ := hu23
  have hO : okn g T s23 pl := hO
  have hP : va_P g.1 vcl ([] ++ pl) _ := hP
  have hD : va_D _ ([] ++ pl) := hD
  have hFc23 : frm (M_MH_expand_0) s22 s23 := hFc23
  rw [and_iff_right hE.1] at hE
  replace hR := bnd_step hR eq23
  first | rw [bnd_step rfl eq23] at hE | replace hE := bndP_step hE eq23
  have hF := frm_tr hF hFc23 (fun k hk => by unfold M_MH_expand_0 at hk; unfold M_MH_sign_0; omega)
  have hf29 : s23.1 225 23 = nI 0 := fc_F hf21 hFc23 (by unfold M_MH_expand_0; omega)
  have hf30 : s23.1 225 24 = nI 4 := fc_F hf22 hFc23 (by unfold M_MH_expand_0; omega)
  have hf31 : s23.1 225 25 = nI 4 := fc_F hf23 hFc23 (by unfold M_MH_expand_0; omega)
  have hf32 : s23.1 225 26 = nI 2 := fc_F hf24 hFc23 (by unfold M_MH_expand_0; omega)
  have hf33 : s23.1 225 27 = nI 131072 := fc_F hf25 hFc23 (by unfold M_MH_expand_0; omega)
  have hf34 : s23.1 225 28 = nI 95232 := fc_F hf26 hFc23 (by unfold M_MH_expand_0; omega)
  have hf35 : s23.1 225 29 = nI 78 := fc_F hf27 hFc23 (by unfold M_MH_expand_0; omega)
  have hf36 : s23.1 225 30 = nI 32 := fc_F hf28 hFc23 (by unfold M_MH_expand_0; omega)
  refine W.widen (k := 0) (n := 0) (by omega) (by omega) ?_
  refine lv_aload_n hx hb dMH_sign_15 rfl (lv_at hl 0 rfl) ?_
  refine lv_aload_n hx hb dMH_sign_16 rfl (lv_at hl 2 rfl) ?_
  refine lv_bipush (v := nI 64) hx hb dMH_sign_17 (by decide) ?_
  refine lv_aload_n hx hb dMH_sign_19 rfl (lv_at hl 3 rfl) ?_
  refine lv_bipush (v := nI 32) hx hb dMH_sign_20 (by decide) ?_
  refine lv_iload hx hb dMH_sign_22 (lv_at hl 4 rfl) ?_
  refine lv_iload hx hb dMH_sign_24 (lv_at hl 5 rfl) ?_
  refine mp_v (cx := []) (wr := []) hP hD hS hA [] [] rfl rfl rfl (by decide) (va_runV (As := [.ref sk, .int (nI 64), .ref b, .int (nI 32), .int cl_, .int (nI ed)]) (rest := []) F (N_MH_message_0 l g _ T s23 pl hO hU h0 sk b psk 4896 64 pb n 32 cl_ ed k_h0 k_sk n_sk k_b n_b hf29 hf30 hf31 hf32 hf33 hf34 hf35 hf36 (by omega) (by omega) (by omega) (by omega) (by omega)) (cwV 6 hts (wg_app (wg_c kw_1868 (wg_c kw_1870 (wg_c ks_71 (wg_c kw_13 wg_n)))) kw_1871) rfl rfl rfl (by decide +kernel) ⟨by decide, by decide⟩) (pn_W "LatticeKeysModel$Hands" (en_ok g) (ci := 12) (kn := 225) (fl := [(3, 172), (3, 181), (3, 226), (3, 291), (3, 299), (3, 308), (3, 317), (3, 326), (3, 334), (3, 342), (3, 350), (3, 359), (3, 368), (3, 369), (3, 370), (3, 371), (3, 372), (3, 373), (3, 374), (3, 375), (3, 376), (3, 377), (3, 378), (0, 0), (0, 0), (0, 0), (0, 0), (0, 0), (0, 0), (0, 0), (0, 0)]) hK hO k_h0 rfl hP hD hS hA hEn [] rfl rfl rfl) rfl rfl hl.1 rfl (lv_room (Nat.le_of_ble_eq_true rfl)) dMH_sign_26 ⟨by omega, by omega⟩) (fun  u24 H locs hu24 hP hD hS => ?_)
  obtain ⟨s24, pl⟩ := u24
  obtain ⟨⟨eq24, hFc24, -⟩, hO⟩ := hu24
  have hO : okn g T s24 pl := hO
  have hP : va_P g.1 vcl ([] ++ pl) _ := hP
  have hD : va_D _ ([] ++ pl) := hD
  have hFc24 : frm (M_MH_message_0) s23 s24 := hFc24
  replace hR := bnd_step hR eq24
  first | rw [bnd_step rfl eq24] at hE | replace hE := bndP_step hE eq24
  have hF := frm_tr hF hFc24 (fun k hk => by unfold M_MH_message_0 at hk; unfold M_MH_sign_0; omega)
  have hf37 : s24.1 225 23 = nI 0 := fc_F hf29 hFc24 (by unfold M_MH_message_0; omega)
  have hf38 : s24.1 225 24 = nI 4 := fc_F hf30 hFc24 (by unfold M_MH_message_0; omega)
  have hf39 : s24.1 225 25 = nI 4 := fc_F hf31 hFc24 (by unfold M_MH_message_0; omega)
  have hf40 : s24.1 225 26 = nI 2 := fc_F hf32 hFc24 (by unfold M_MH_message_0; omega)
  have hf41 : s24.1 225 27 = nI 131072 := fc_F hf33 hFc24 (by unfold M_MH_message_0; omega)
  have hf42 : s24.1 225 28 = nI 95232 := fc_F hf34 hFc24 (by unfold M_MH_message_0; omega)
  have hf43 : s24.1 225 29 = nI 78 := fc_F hf35 hFc24 (by unfold M_MH_message_0; omega)
  have hf44 : s24.1 225 30 = nI 32 := fc_F hf36 hFc24 (by unfold M_MH_message_0; omega)
  refine W.widen (k := 0) (n := 0) (by omega) (by omega) ?_
  refine lv_aload_n hx hb dMH_sign_29 rfl (lv_at hl 0 rfl) ?_
  refine nw_get (C := "LatticeKeysModel$Hands") (TT := T_MH) (N := 31) hx hb hts (wg_ft i_MH) hown hK hO k_h0 (kn := 225) (ci := 12) (fl := [(3, 172), (3, 181), (3, 226), (3, 291), (3, 299), (3, 308), (3, 317), (3, 326), (3, 334), (3, 342), (3, 350), (3, 359), (3, 368), (3, 369), (3, 370), (3, 371), (3, 372), (3, 373), (3, 374), (3, 375), (3, 376), (3, 377), (3, 378), (0, 0), (0, 0), (0, 0), (0, 0), (0, 0), (0, 0), (0, 0), (0, 0)]) rfl hP rfl 0 (by decide) (hts _ (wg_t kw_1432)) (fun _ h9 => h9) (cd := (3, 172)) rfl dMH_sign_30 (fun v21 hv21 => ?_)
  obtain ⟨r21, rfl, kr21⟩ := (show ∃ r : Nat, v21 = .ref r ∧ T r = some 172 from hv21)
  refine mp_v (cx := []) (wr := []) hP hD hS hA [] [] rfl rfl rfl (by decide) (va_runV (As := []) (rest := []) F (N_MS_shake l g _ T s24 pl hO hU r21 kr21) (cwV 0 hts (wg_app (wg_c kw_1718 (wg_c kw_1661 (wg_c kw_1662 (wg_c kw_10 wg_n)))) kw_1663) rfl rfl rfl (by decide +kernel) ⟨by decide, by decide⟩) (pn_W "LatticeKeysModel$Sponge" (en_ok g) (ci := 9) (kn := 172) (fl := [(3, 173), (3, 174), (3, 175), (3, 176), (3, 177), (0, 0), (0, 0), (0, 0)]) hK hO kr21 rfl hP hD hS hA hEn [] rfl rfl rfl) rfl rfl hl.1 rfl (lv_room (Nat.le_of_ble_eq_true rfl)) dMH_sign_33 ⟨by omega, by omega⟩) (fun  u25 H locs hu25 hP hD hS => ?_)
  obtain ⟨s25, pl⟩ := u25
  obtain ⟨⟨eq25, hFc25, ⟨x33, hx_33, hb_33⟩, ⟨x34, hx_34, hb_34⟩, -⟩, hO⟩ := hu25
  have hO : okn g T s25 pl := hO
  have hP : va_P g.1 vcl ([] ++ pl) _ := hP
  have hD : va_D _ ([] ++ pl) := hD
  have hFc25 : frm (M_MS_shake) s24 s25 := hFc25
  have hb_33 : x33 = 0 := hb_33
  have hb_34 : x34 = 136 := hb_34
  replace hR := bnd_step hR eq25
  first | rw [bnd_step rfl eq25] at hE | replace hE := bndP_step hE eq25
  have hF := frm_tr hF hFc25 (fun k hk => by unfold M_MS_shake at hk; unfold M_MH_sign_0; omega)
  have hf45 : s25.1 225 23 = nI 0 := fc_F hf37 hFc25 (by unfold M_MS_shake; omega)
  have hf46 : s25.1 225 24 = nI 4 := fc_F hf38 hFc25 (by unfold M_MS_shake; omega)
  have hf47 : s25.1 225 25 = nI 4 := fc_F hf39 hFc25 (by unfold M_MS_shake; omega)
  have hf48 : s25.1 225 26 = nI 2 := fc_F hf40 hFc25 (by unfold M_MS_shake; omega)
  have hf49 : s25.1 225 27 = nI 131072 := fc_F hf41 hFc25 (by unfold M_MS_shake; omega)
  have hf50 : s25.1 225 28 = nI 95232 := fc_F hf42 hFc25 (by unfold M_MS_shake; omega)
  have hf51 : s25.1 225 29 = nI 78 := fc_F hf43 hFc25 (by unfold M_MS_shake; omega)
  have hf52 : s25.1 225 30 = nI 32 := fc_F hf44 hFc25 (by unfold M_MS_shake; omega)
  refine W.widen (k := 0) (n := 0) (by omega) (by omega) ?_
  refine lv_aload_n hx hb dMH_sign_36 rfl (lv_at hl 0 rfl) ?_
  refine nw_get (C := "LatticeKeysModel$Hands") (TT := T_MH) (N := 31) hx hb hts (wg_ft i_MH) hown hK hO k_h0 (kn := 225) (ci := 12) (fl := [(3, 172), (3, 181), (3, 226), (3, 291), (3, 299), (3, 308), (3, 317), (3, 326), (3, 334), (3, 342), (3, 350), (3, 359), (3, 368), (3, 369), (3, 370), (3, 371), (3, 372), (3, 373), (3, 374), (3, 375), (3, 376), (3, 377), (3, 378), (0, 0), (0, 0), (0, 0), (0, 0), (0, 0), (0, 0), (0, 0), (0, 0)]) rfl hP rfl 0 (by decide) (hts _ (wg_t kw_1432)) (fun _ h9 => h9) (cd := (3, 172)) rfl dMH_sign_37 (fun v22 hv22 => ?_)
  obtain ⟨r22, rfl, kr22⟩ := (show ∃ r : Nat, v22 = .ref r ∧ T r = some 172 from hv22)
  refine lv_aload_n hx hb dMH_sign_40 rfl (lv_at hl 2 rfl) ?_
  refine lv_bipush (v := nI 32) hx hb dMH_sign_41 (by decide) ?_
  refine lv_bipush (v := nI 32) hx hb dMH_sign_43 (by decide) ?_
  refine mp_v (cx := []) (wr := []) hP hD hS hA [] [] rfl rfl rfl (by decide) (va_runV (As := [.ref sk, .int (nI 32), .int (nI 32)]) (rest := []) F (N_MS_puts l g _ T s25 pl hO hU r22 sk psk 4896 32 32 x33 x34 kr22 k_sk n_sk hx_33 hx_34 (by omega) (by omega) (by omega) (by omega)) (cwV 3 hts (wg_app (wg_c kw_1719 (wg_c kw_1612 (wg_c kw_1613 (wg_c kw_10 wg_n)))) kw_1614) rfl rfl rfl (by decide +kernel) ⟨by decide, by decide⟩) (pn_W "LatticeKeysModel$Sponge" (en_ok g) (ci := 9) (kn := 172) (fl := [(3, 173), (3, 174), (3, 175), (3, 176), (3, 177), (0, 0), (0, 0), (0, 0)]) hK hO kr22 rfl hP hD hS hA hEn [] rfl rfl rfl) rfl rfl hl.1 rfl (lv_room (Nat.le_of_ble_eq_true rfl)) dMH_sign_45 ⟨by omega, by omega⟩) (fun  u26 H locs hu26 hP hD hS => ?_)
  obtain ⟨s26, pl⟩ := u26
  obtain ⟨⟨eq26, hFc26, ⟨x36, hx_36, hb_36⟩, ⟨x37, hx_37, hb_37⟩, -⟩, hO⟩ := hu26
  have hO : okn g T s26 pl := hO
  have hP : va_P g.1 vcl ([] ++ pl) _ := hP
  have hD : va_D _ ([] ++ pl) := hD
  have hFc26 : frm (M_MS_puts) s25 s26 := hFc26
  have hb_36 : x36 < x34 := hb_36
  have hb_37 : x37 = x34 := hb_37
  replace hR := bnd_step hR eq26
  first | rw [bnd_step rfl eq26] at hE | replace hE := bndP_step hE eq26
  have hF := frm_tr hF hFc26 (fun k hk => by unfold M_MS_puts at hk; unfold M_MH_sign_0; omega)
  have hf53 : s26.1 225 23 = nI 0 := fc_F hf45 hFc26 (by unfold M_MS_puts; omega)
  have hf54 : s26.1 225 24 = nI 4 := fc_F hf46 hFc26 (by unfold M_MS_puts; omega)
  have hf55 : s26.1 225 25 = nI 4 := fc_F hf47 hFc26 (by unfold M_MS_puts; omega)
  have hf56 : s26.1 225 26 = nI 2 := fc_F hf48 hFc26 (by unfold M_MS_puts; omega)
  have hf57 : s26.1 225 27 = nI 131072 := fc_F hf49 hFc26 (by unfold M_MS_puts; omega)
  have hf58 : s26.1 225 28 = nI 95232 := fc_F hf50 hFc26 (by unfold M_MS_puts; omega)
  have hf59 : s26.1 225 29 = nI 78 := fc_F hf51 hFc26 (by unfold M_MS_puts; omega)
  have hf60 : s26.1 225 30 = nI 32 := fc_F hf52 hFc26 (by unfold M_MS_puts; omega)
  refine W.widen (k := 0) (n := 0) (by omega) (by omega) ?_
  refine lv_aload_n hx hb dMH_sign_48 rfl (lv_at hl 0 rfl) ?_
  refine nw_get (C := "LatticeKeysModel$Hands") (TT := T_MH) (N := 31) hx hb hts (wg_ft i_MH) hown hK hO k_h0 (kn := 225) (ci := 12) (fl := [(3, 172), (3, 181), (3, 226), (3, 291), (3, 299), (3, 308), (3, 317), (3, 326), (3, 334), (3, 342), (3, 350), (3, 359), (3, 368), (3, 369), (3, 370), (3, 371), (3, 372), (3, 373), (3, 374), (3, 375), (3, 376), (3, 377), (3, 378), (0, 0), (0, 0), (0, 0), (0, 0), (0, 0), (0, 0), (0, 0), (0, 0)]) rfl hP rfl 0 (by decide) (hts _ (wg_t kw_1432)) (fun _ h9 => h9) (cd := (3, 172)) rfl dMH_sign_49 (fun v23 hv23 => ?_)
  obtain ⟨r23, rfl, kr23⟩ := (show ∃ r : Nat, v23 = .ref r ∧ T r = some 172 from hv23)
  refine lv_aload_n hx hb dMH_sign_52 rfl (lv_at hl 3 rfl) ?_
  refine lv_iconst (v := nI 0) hx hb dMH_sign_53 (by decide) ?_
  refine lv_bipush (v := nI 32) hx hb dMH_sign_54 (by decide) ?_
  refine mp_v (cx := []) (wr := []) hP hD hS hA [] [] rfl rfl rfl (by decide) (va_runV (As := [.ref b, .int (nI 0), .int (nI 32)]) (rest := []) F (N_MS_puts l g _ T s26 pl hO hU r23 b pb n 0 32 x36 x37 kr23 k_b n_b hx_36 hx_37 (by omega) (by omega) (by omega) (by omega)) (cwV 3 hts (wg_app (wg_c kw_1719 (wg_c kw_1612 (wg_c kw_1613 (wg_c kw_10 wg_n)))) kw_1614) rfl rfl rfl (by decide +kernel) ⟨by decide, by decide⟩) (pn_W "LatticeKeysModel$Sponge" (en_ok g) (ci := 9) (kn := 172) (fl := [(3, 173), (3, 174), (3, 175), (3, 176), (3, 177), (0, 0), (0, 0), (0, 0)]) hK hO kr23 rfl hP hD hS hA hEn [] rfl rfl rfl) rfl rfl hl.1 rfl (lv_room (Nat.le_of_ble_eq_true rfl)) dMH_sign_56 ⟨by omega, by omega⟩) (fun  u27 H locs hu27 hP hD hS => ?_)
  obtain ⟨s27, pl⟩ := u27
  obtain ⟨⟨eq27, hFc27, ⟨x39, hx_39, hb_39⟩, ⟨x40, hx_40, hb_40⟩, -⟩, hO⟩ := hu27
  have hO : okn g T s27 pl := hO
  have hP : va_P g.1 vcl ([] ++ pl) _ := hP
  have hD : va_D _ ([] ++ pl) := hD
  have hFc27 : frm (M_MS_puts) s26 s27 := hFc27
  have hb_39 : x39 < x37 := hb_39
  have hb_40 : x40 = x37 := hb_40
  replace hR := bnd_step hR eq27
  first | rw [bnd_step rfl eq27] at hE | replace hE := bndP_step hE eq27
  have hF := frm_tr hF hFc27 (fun k hk => by unfold M_MS_puts at hk; unfold M_MH_sign_0; omega)
  have hf61 : s27.1 225 23 = nI 0 := fc_F hf53 hFc27 (by unfold M_MS_puts; omega)
  have hf62 : s27.1 225 24 = nI 4 := fc_F hf54 hFc27 (by unfold M_MS_puts; omega)
  have hf63 : s27.1 225 25 = nI 4 := fc_F hf55 hFc27 (by unfold M_MS_puts; omega)
  have hf64 : s27.1 225 26 = nI 2 := fc_F hf56 hFc27 (by unfold M_MS_puts; omega)
  have hf65 : s27.1 225 27 = nI 131072 := fc_F hf57 hFc27 (by unfold M_MS_puts; omega)
  have hf66 : s27.1 225 28 = nI 95232 := fc_F hf58 hFc27 (by unfold M_MS_puts; omega)
  have hf67 : s27.1 225 29 = nI 78 := fc_F hf59 hFc27 (by unfold M_MS_puts; omega)
  have hf68 : s27.1 225 30 = nI 32 := fc_F hf60 hFc27 (by unfold M_MS_puts; omega)
  refine W.widen (k := 0) (n := 0) (by omega) (by omega) ?_
  refine lv_aload_n hx hb dMH_sign_59 rfl (lv_at hl 0 rfl) ?_
  refine nw_get (C := "LatticeKeysModel$Hands") (TT := T_MH) (N := 31) hx hb hts (wg_ft i_MH) hown hK hO k_h0 (kn := 225) (ci := 12) (fl := [(3, 172), (3, 181), (3, 226), (3, 291), (3, 299), (3, 308), (3, 317), (3, 326), (3, 334), (3, 342), (3, 350), (3, 359), (3, 368), (3, 369), (3, 370), (3, 371), (3, 372), (3, 373), (3, 374), (3, 375), (3, 376), (3, 377), (3, 378), (0, 0), (0, 0), (0, 0), (0, 0), (0, 0), (0, 0), (0, 0), (0, 0)]) rfl hP rfl 0 (by decide) (hts _ (wg_t kw_1432)) (fun _ h9 => h9) (cd := (3, 172)) rfl dMH_sign_60 (fun v24 hv24 => ?_)
  obtain ⟨r24, rfl, kr24⟩ := (show ∃ r : Nat, v24 = .ref r ∧ T r = some 172 from hv24)
  refine lv_aload_n hx hb dMH_sign_63 rfl (lv_at hl 0 rfl) ?_
  refine nw_get (C := "LatticeKeysModel$Hands") (TT := T_MH) (N := 31) hx hb hts (wg_ft i_MH) hown hK hO k_h0 (kn := 225) (ci := 12) (fl := [(3, 172), (3, 181), (3, 226), (3, 291), (3, 299), (3, 308), (3, 317), (3, 326), (3, 334), (3, 342), (3, 350), (3, 359), (3, 368), (3, 369), (3, 370), (3, 371), (3, 372), (3, 373), (3, 374), (3, 375), (3, 376), (3, 377), (3, 378), (0, 0), (0, 0), (0, 0), (0, 0), (0, 0), (0, 0), (0, 0), (0, 0)]) rfl hP rfl 17 (by decide) (hts _ (wg_t kw_1449)) (fun _ h9 => h9) (cd := (3, 373)) rfl dMH_sign_64 (fun v25 hv25 => ?_)
  obtain ⟨r25, rfl, kr25⟩ := (show ∃ r : Nat, v25 = .ref r ∧ T r = some 373 from hv25)
  refine lv_iconst (v := nI 0) hx hb dMH_sign_67 (by decide) ?_
  refine lv_bipush (v := nI 64) hx hb dMH_sign_68 (by decide) ?_
  refine mp_v (cx := []) (wr := []) hP hD hS hA [] [] rfl rfl rfl (by decide) (va_runV (As := [.ref r25, .int (nI 0), .int (nI 64)]) (rest := []) F (N_MS_puts l g _ T s27 pl hO hU r24 r25 373 64 0 64 x39 x40 kr24 kr25 rfl hx_39 hx_40 (by omega) (by omega) (by omega) (by omega)) (cwV 3 hts (wg_app (wg_c kw_1719 (wg_c kw_1612 (wg_c kw_1613 (wg_c kw_10 wg_n)))) kw_1614) rfl rfl rfl (by decide +kernel) ⟨by decide, by decide⟩) (pn_W "LatticeKeysModel$Sponge" (en_ok g) (ci := 9) (kn := 172) (fl := [(3, 173), (3, 174), (3, 175), (3, 176), (3, 177), (0, 0), (0, 0), (0, 0)]) hK hO kr24 rfl hP hD hS hA hEn [] rfl rfl rfl) rfl rfl hl.1 rfl (lv_room (Nat.le_of_ble_eq_true rfl)) dMH_sign_70 ⟨by omega, by omega⟩) (fun  u28 H locs hu28 hP hD hS => ?_)
  obtain ⟨s28, pl⟩ := u28
  obtain ⟨⟨eq28, hFc28, ⟨x42, hx_42, hb_42⟩, ⟨x43, hx_43, hb_43⟩, -⟩, hO⟩ := hu28
  have hO : okn g T s28 pl := hO
  have hP : va_P g.1 vcl ([] ++ pl) _ := hP
  have hD : va_D _ ([] ++ pl) := hD
  have hFc28 : frm (M_MS_puts) s27 s28 := hFc28
  have hb_42 : x42 < x40 := hb_42
  have hb_43 : x43 = x40 := hb_43
  replace hR := bnd_step hR eq28
  first | rw [bnd_step rfl eq28] at hE | replace hE := bndP_step hE eq28
  have hF := frm_tr hF hFc28 (fun k hk => by unfold M_MS_puts at hk; unfold M_MH_sign_0; omega)
  have hf69 : s28.1 225 23 = nI 0 := fc_F hf61 hFc28 (by unfold M_MS_puts; omega)
  have hf70 : s28.1 225 24 = nI 4 := fc_F hf62 hFc28 (by unfold M_MS_puts; omega)
  have hf71 : s28.1 225 25 = nI 4 := fc_F hf63 hFc28 (by unfold M_MS_puts; omega)
  have hf72 : s28.1 225 26 = nI 2 := fc_F hf64 hFc28 (by unfold M_MS_puts; omega)
  have hf73 : s28.1 225 27 = nI 131072 := fc_F hf65 hFc28 (by unfold M_MS_puts; omega)
  have hf74 : s28.1 225 28 = nI 95232 := fc_F hf66 hFc28 (by unfold M_MS_puts; omega)
  have hf75 : s28.1 225 29 = nI 78 := fc_F hf67 hFc28 (by unfold M_MS_puts; omega)
  have hf76 : s28.1 225 30 = nI 32 := fc_F hf68 hFc28 (by unfold M_MS_puts; omega)
  refine W.widen (k := 0) (n := 0) (by omega) (by omega) ?_
  refine lv_aload_n hx hb dMH_sign_73 rfl (lv_at hl 0 rfl) ?_
  refine nw_get (C := "LatticeKeysModel$Hands") (TT := T_MH) (N := 31) hx hb hts (wg_ft i_MH) hown hK hO k_h0 (kn := 225) (ci := 12) (fl := [(3, 172), (3, 181), (3, 226), (3, 291), (3, 299), (3, 308), (3, 317), (3, 326), (3, 334), (3, 342), (3, 350), (3, 359), (3, 368), (3, 369), (3, 370), (3, 371), (3, 372), (3, 373), (3, 374), (3, 375), (3, 376), (3, 377), (3, 378), (0, 0), (0, 0), (0, 0), (0, 0), (0, 0), (0, 0), (0, 0), (0, 0)]) rfl hP rfl 0 (by decide) (hts _ (wg_t kw_1432)) (fun _ h9 => h9) (cd := (3, 172)) rfl dMH_sign_74 (fun v26 hv26 => ?_)
  obtain ⟨r26, rfl, kr26⟩ := (show ∃ r : Nat, v26 = .ref r ∧ T r = some 172 from hv26)
  refine mp_v (cx := []) (wr := []) hP hD hS hA [] [] rfl rfl rfl (by decide) (va_runV (As := []) (rest := []) F (N_MS_end l g _ T s28 pl hO hU r26 x42 x43 kr26 hx_42 hx_43 (by omega) (by omega)) (cwV 0 hts (wg_app (wg_c kw_1721 (wg_c kw_1634 (wg_c kw_1635 (wg_c kw_10 wg_n)))) kw_1636) rfl rfl rfl (by decide +kernel) ⟨by decide, by decide⟩) (pn_W "LatticeKeysModel$Sponge" (en_ok g) (ci := 9) (kn := 172) (fl := [(3, 173), (3, 174), (3, 175), (3, 176), (3, 177), (0, 0), (0, 0), (0, 0)]) hK hO kr26 rfl hP hD hS hA hEn [] rfl rfl rfl) rfl rfl hl.1 rfl (lv_room (Nat.le_of_ble_eq_true rfl)) dMH_sign_77 ⟨by omega, by omega⟩) (fun  u29 H locs hu29 hP hD hS => ?_)
  obtain ⟨s29, pl⟩ := u29
  obtain ⟨⟨eq29, hFc29, ⟨x45, hx_45, hb_45⟩, ⟨x46, hx_46, hb_46⟩, -⟩, hO⟩ := hu29
  have hO : okn g T s29 pl := hO
  have hP : va_P g.1 vcl ([] ++ pl) _ := hP
  have hD : va_D _ ([] ++ pl) := hD
  have hFc29 : frm (M_MS_end) s28 s29 := hFc29
  have hb_45 : x45 = 0 := hb_45
  have hb_46 : x46 = x43 := hb_46
  replace hR := bnd_step hR eq29
  first | rw [bnd_step rfl eq29] at hE | replace hE := bndP_step hE eq29
  have hF := frm_tr hF hFc29 (fun k hk => by unfold M_MS_end at hk; unfold M_MH_sign_0; omega)
  have hf77 : s29.1 225 23 = nI 0 := fc_F hf69 hFc29 (by unfold M_MS_end; omega)
  have hf78 : s29.1 225 24 = nI 4 := fc_F hf70 hFc29 (by unfold M_MS_end; omega)
  have hf79 : s29.1 225 25 = nI 4 := fc_F hf71 hFc29 (by unfold M_MS_end; omega)
  have hf80 : s29.1 225 26 = nI 2 := fc_F hf72 hFc29 (by unfold M_MS_end; omega)
  have hf81 : s29.1 225 27 = nI 131072 := fc_F hf73 hFc29 (by unfold M_MS_end; omega)
  have hf82 : s29.1 225 28 = nI 95232 := fc_F hf74 hFc29 (by unfold M_MS_end; omega)
  have hf83 : s29.1 225 29 = nI 78 := fc_F hf75 hFc29 (by unfold M_MS_end; omega)
  have hf84 : s29.1 225 30 = nI 32 := fc_F hf76 hFc29 (by unfold M_MS_end; omega)
  refine W.widen (k := 0) (n := 0) (by omega) (by omega) ?_
  refine lv_aload_n hx hb dMH_sign_80 rfl (lv_at hl 0 rfl) ?_
  refine nw_get (C := "LatticeKeysModel$Hands") (TT := T_MH) (N := 31) hx hb hts (wg_ft i_MH) hown hK hO k_h0 (kn := 225) (ci := 12) (fl := [(3, 172), (3, 181), (3, 226), (3, 291), (3, 299), (3, 308), (3, 317), (3, 326), (3, 334), (3, 342), (3, 350), (3, 359), (3, 368), (3, 369), (3, 370), (3, 371), (3, 372), (3, 373), (3, 374), (3, 375), (3, 376), (3, 377), (3, 378), (0, 0), (0, 0), (0, 0), (0, 0), (0, 0), (0, 0), (0, 0), (0, 0)]) rfl hP rfl 0 (by decide) (hts _ (wg_t kw_1432)) (fun _ h9 => h9) (cd := (3, 172)) rfl dMH_sign_81 (fun v27 hv27 => ?_)
  obtain ⟨r27, rfl, kr27⟩ := (show ∃ r : Nat, v27 = .ref r ∧ T r = some 172 from hv27)
  refine lv_aload_n hx hb dMH_sign_84 rfl (lv_at hl 0 rfl) ?_
  refine nw_get (C := "LatticeKeysModel$Hands") (TT := T_MH) (N := 31) hx hb hts (wg_ft i_MH) hown hK hO k_h0 (kn := 225) (ci := 12) (fl := [(3, 172), (3, 181), (3, 226), (3, 291), (3, 299), (3, 308), (3, 317), (3, 326), (3, 334), (3, 342), (3, 350), (3, 359), (3, 368), (3, 369), (3, 370), (3, 371), (3, 372), (3, 373), (3, 374), (3, 375), (3, 376), (3, 377), (3, 378), (0, 0), (0, 0), (0, 0), (0, 0), (0, 0), (0, 0), (0, 0), (0, 0)]) rfl hP rfl 18 (by decide) (hts _ (wg_t kw_1450)) (fun _ h9 => h9) (cd := (3, 374)) rfl dMH_sign_85 (fun v28 hv28 => ?_)
  obtain ⟨r28, rfl, kr28⟩ := (show ∃ r : Nat, v28 = .ref r ∧ T r = some 374 from hv28)
  refine lv_iconst (v := nI 0) hx hb dMH_sign_88 (by decide) ?_
  refine lv_bipush (v := nI 64) hx hb dMH_sign_89 (by decide) ?_
  refine mp_v (cx := []) (wr := []) hP hD hS hA [] [] rfl rfl rfl (by decide) (va_runV (As := [.ref r28, .int (nI 0), .int (nI 64)]) (rest := []) F (N_MS_take l g _ T s29 pl hO hU r27 r28 374 64 0 64 x45 x46 kr27 kr28 rfl hx_45 hx_46 (by omega) (by omega) (by omega) (by omega)) (cwV 3 hts (wg_app (wg_c kw_1722 (wg_c kw_1638 (wg_c kw_1639 (wg_c kw_10 wg_n)))) kw_1640) rfl rfl rfl (by decide +kernel) ⟨by decide, by decide⟩) (pn_W "LatticeKeysModel$Sponge" (en_ok g) (ci := 9) (kn := 172) (fl := [(3, 173), (3, 174), (3, 175), (3, 176), (3, 177), (0, 0), (0, 0), (0, 0)]) hK hO kr27 rfl hP hD hS hA hEn [] rfl rfl rfl) rfl rfl hl.1 rfl (lv_room (Nat.le_of_ble_eq_true rfl)) dMH_sign_91 ⟨by omega, by omega⟩) (fun  u30 H locs hu30 hP hD hS => ?_)
  obtain ⟨s30, pl⟩ := u30
  obtain ⟨⟨eq30, hFc30, ⟨x48, hx_48, hb_48⟩, ⟨x49, hx_49, hb_49⟩, -⟩, hO⟩ := hu30
  have hO : okn g T s30 pl := hO
  have hP : va_P g.1 vcl ([] ++ pl) _ := hP
  have hD : va_D _ ([] ++ pl) := hD
  have hFc30 : frm (M_MS_take 374) s29 s30 := hFc30
  have hb_48 : x48 ≤ x46 := hb_48
  have hb_49 : x49 = x46 := hb_49
  replace hR := bnd_step hR eq30
  first | rw [bnd_step rfl eq30] at hE | replace hE := bndP_step hE eq30
  have hF := frm_tr hF hFc30 (fun k hk => by unfold M_MS_take at hk; unfold M_MH_sign_0; omega)
  have hf85 : s30.1 225 23 = nI 0 := fc_F hf77 hFc30 (by unfold M_MS_take; omega)
  have hf86 : s30.1 225 24 = nI 4 := fc_F hf78 hFc30 (by unfold M_MS_take; omega)
  have hf87 : s30.1 225 25 = nI 4 := fc_F hf79 hFc30 (by unfold M_MS_take; omega)
  have hf88 : s30.1 225 26 = nI 2 := fc_F hf80 hFc30 (by unfold M_MS_take; omega)
  have hf89 : s30.1 225 27 = nI 131072 := fc_F hf81 hFc30 (by unfold M_MS_take; omega)
  have hf90 : s30.1 225 28 = nI 95232 := fc_F hf82 hFc30 (by unfold M_MS_take; omega)
  have hf91 : s30.1 225 29 = nI 78 := fc_F hf83 hFc30 (by unfold M_MS_take; omega)
  have hf92 : s30.1 225 30 = nI 32 := fc_F hf84 hFc30 (by unfold M_MS_take; omega)
  refine W.widen (k := 0) (n := 0) (by omega) (by omega) ?_
  refine lv_iconst (v := nI 1) hx hb dMH_sign_94 (by decide) ?_
  refine lv_istore (lv' := [(7, .int (nI 1)), (0, .ref h0), (1, .int (nI 0)), (2, .ref sk), (3, .ref b), (4, .int cl_), (5, .int (nI ed)), (6, .ref to)]) hx hb dMH_sign_95 hl (by decide) rfl (fun ls hl => ?_)
  have lp21 : ∀ (n21 : Nat) (i21 : Nat) (s31 : Sto) (pl : va_W) (ls : Array Slot) (H : Heap) (locs : List Loc), n21 + i21 = 201 → (1 ≤ i21) → frm (M_MH_sign_0 pt) s s31 → s31.1 225 23 = nI 0 → s31.1 225 24 = nI 4 → s31.1 225 25 = nI 4 → s31.1 225 26 = nI 2 → s31.1 225 27 = nI 131072 → s31.1 225 28 = nI 95232 → s31.1 225 29 = nI 78 → s31.1 225 30 = nI 32 → E_MH_sign_0_L0 pt n21 i21 s31 → F_MH_sign_0 psk pb n cl_ ed pt s = F_MH_sign_0_L0 pt n21 i21 s31 → lv_has ls 9 [(7, .int (nI i21)), (0, .ref h0), (6, .ref to)] → okn g T s31 pl → va_P g.1 vcl ([] ++ pl) H → va_D A ([] ++ pl) → va_S A s0.heap H locs → W p l e ({ frames := 5, cells := 0, slots := 0, locals := 116 } : Room) s0 m args below meth c H locs 0 0 (MQ below (va_Qi (fun (r : Int32) (u : (Int32 × Sto) × va_W) => (u.1 = F_MH_sign_0 psk pb n cl_ ed pt s ∧ r = u.1.1 ∧ frm (M_MH_sign_0 pt) s u.1.2 ∧ True) ∧ okn g T u.1.2 u.2) (po g.1 vcl A (fun (u : (Int32 × Sto) × va_W) => [] ++ u.2)) A) args s0 0 0 A) (F0 m 97 ls []) := by
    intro n21
    induction n21 with
    | zero =>
      intro i21 s31 pl ls H locs hm21 hi21 hF hf93 hf94 hf95 hf96 hf97 hf98 hf99 hf100 hE hR hl hO hP hD hS
      refine lv_iload hx hb dMH_sign_97 (lv_at hl 0 rfl) ?_
      refine lv_sipush (v := nI 200) hx hb dMH_sign_99 (by decide) ?_
      refine mi_gt (tgt := 232) hx hb dMH_sign_102 (by decide) (by omega) (by omega) (fun h21 => ?_) (fun h21 => absurd h21 (by omega))
      refine lv_iconst (v := nI 0) hx hb dMH_sign_232 (by decide) ?_
      exact mp_iret hx hb hr hlk hP hD hS ((nI 0, s31), pl) ⟨⟨hR.symm, rfl, hF, trivial⟩, hO⟩ [] rfl rfl rfl (by omega) (by omega) dMH_sign_233
    | succ n21 ih21 =>
      intro i21 s31 pl ls H locs hm21 hi21 hF hf101 hf102 hf103 hf104 hf105 hf106 hf107 hf108 hE hR hl hO hP hD hS
      refine lv_iload hx hb dMH_sign_97 (lv_at hl 0 rfl) ?_
      refine lv_sipush (v := nI 200) hx hb dMH_sign_99 (by decide) ?_
      refine mi_gt (tgt := 232) hx hb dMH_sign_102 (by decide) (by omega) (by omega) (fun h22 => absurd h22 (by omega)) (fun h22 => ?_)
      refine lv_aload_n hx hb dMH_sign_105 rfl (lv_at hl 1 rfl) ?_
      refine lv_iload hx hb dMH_sign_106 (lv_at hl 0 rfl) ?_
      refine lv_iconst (v := nI 1) hx hb dMH_sign_108 (by decide) ?_
      refine mi_isub hx hb dMH_sign_109 (by omega) ?_
      refine lv_aload_n hx hb dMH_sign_110 rfl (lv_at hl 1 rfl) ?_
      refine nw_get (C := "LatticeKeysModel$Hands") (TT := T_MH) (N := 31) hx hb hts (wg_ft i_MH) hown hK hO k_h0 (kn := 225) (ci := 12) (fl := [(3, 172), (3, 181), (3, 226), (3, 291), (3, 299), (3, 308), (3, 317), (3, 326), (3, 334), (3, 342), (3, 350), (3, 359), (3, 368), (3, 369), (3, 370), (3, 371), (3, 372), (3, 373), (3, 374), (3, 375), (3, 376), (3, 377), (3, 378), (0, 0), (0, 0), (0, 0), (0, 0), (0, 0), (0, 0), (0, 0), (0, 0)]) rfl hP rfl 25 (by decide) (hts _ (wg_t kw_1457)) (fun _ h9 => h9) (cd := (0, 0)) rfl dMH_sign_111 (fun v29 hv29 => ?_)
      obtain rfl := (show v29 = .int (s31.1 225 25) from hv29)
      obtain ⟨z21, ez21, hz21, hz22⟩ := cl_of (b := 2147483648) hf103 (by omega) (by decide)
      replace hR := bnd_step hR ez21
      first | rw [bnd_step rfl ez21] at hE | replace hE := bndP_step hE ez21
      refine mi_as hz21 ?_
      subst hz22
      refine mi_imul hx hb dMH_sign_114 ?_
      refine mp_v (cx := []) (wr := []) hP hD hS hA [] [] rfl rfl rfl (by decide) (va_runV (As := [.int (nI ((i21 - 1) * 4))]) (rest := []) F (N_MH_mask_0 l g _ T s31 pl hO hU h0 (nI ((i21 - 1) * 4)) k_h0 hf101 hf102 hf103 hf104 hf105 hf106 hf107 hf108) (cwV 1 hts (wg_app (wg_c kw_1872 (wg_c kw_1874 (wg_c ks_72 (wg_c kw_13 wg_n)))) kw_1875) rfl rfl rfl (by decide +kernel) ⟨by decide, by decide⟩) (pn_W "LatticeKeysModel$Hands" (en_ok g) (ci := 12) (kn := 225) (fl := [(3, 172), (3, 181), (3, 226), (3, 291), (3, 299), (3, 308), (3, 317), (3, 326), (3, 334), (3, 342), (3, 350), (3, 359), (3, 368), (3, 369), (3, 370), (3, 371), (3, 372), (3, 373), (3, 374), (3, 375), (3, 376), (3, 377), (3, 378), (0, 0), (0, 0), (0, 0), (0, 0), (0, 0), (0, 0), (0, 0), (0, 0)]) hK hO k_h0 rfl hP hD hS hA hEn [] rfl rfl rfl) rfl rfl hl.1 rfl (lv_room (Nat.le_of_ble_eq_true rfl)) dMH_sign_115 ⟨by omega, by omega⟩) (fun  u31 H locs hu31 hP hD hS => ?_)
      obtain ⟨s32, pl⟩ := u31
      obtain ⟨⟨eq31, hFc31, -⟩, hO⟩ := hu31
      have hO : okn g T s32 pl := hO
      have hP : va_P g.1 vcl ([] ++ pl) _ := hP
      have hD : va_D _ ([] ++ pl) := hD
      have hFc31 : frm (M_MH_mask_0) s31 s32 := hFc31
      replace hR := bnd_step hR eq31
      first | rw [bnd_step rfl eq31] at hE | replace hE := bndP_step hE eq31
      have hF := frm_tr hF hFc31 (fun k hk => by unfold M_MH_mask_0 at hk; unfold M_MH_sign_0; omega)
      have hf109 : s32.1 225 23 = nI 0 := fc_F hf101 hFc31 (by unfold M_MH_mask_0; omega)
      have hf110 : s32.1 225 24 = nI 4 := fc_F hf102 hFc31 (by unfold M_MH_mask_0; omega)
      have hf111 : s32.1 225 25 = nI 4 := fc_F hf103 hFc31 (by unfold M_MH_mask_0; omega)
      have hf112 : s32.1 225 26 = nI 2 := fc_F hf104 hFc31 (by unfold M_MH_mask_0; omega)
      have hf113 : s32.1 225 27 = nI 131072 := fc_F hf105 hFc31 (by unfold M_MH_mask_0; omega)
      have hf114 : s32.1 225 28 = nI 95232 := fc_F hf106 hFc31 (by unfold M_MH_mask_0; omega)
      have hf115 : s32.1 225 29 = nI 78 := fc_F hf107 hFc31 (by unfold M_MH_mask_0; omega)
      have hf116 : s32.1 225 30 = nI 32 := fc_F hf108 hFc31 (by unfold M_MH_mask_0; omega)
      refine W.widen (k := 0) (n := 0) (by omega) (by omega) ?_
      refine lv_iconst (v := nI 0) hx hb dMH_sign_118 (by decide) ?_
      refine lv_istore (lv' := [(8, .int (nI 0)), (7, .int (nI i21)), (0, .ref h0), (6, .ref to)]) hx hb dMH_sign_119 hl (by decide) rfl (fun ls hl => ?_)
      have lp22 : ∀ (n22 : Nat) (i22 : Nat) (s33 : Sto) (pl : va_W) (ls : Array Slot) (H : Heap) (locs : List Loc), n22 + i22 = 4 → frm (M_MH_sign_0 pt) s s33 → s33.1 225 23 = nI 0 → s33.1 225 24 = nI 4 → s33.1 225 25 = nI 4 → s33.1 225 26 = nI 2 → s33.1 225 27 = nI 131072 → s33.1 225 28 = nI 95232 → s33.1 225 29 = nI 78 → s33.1 225 30 = nI 32 → E_MH_sign_0_L1 pt i21 (E_MH_sign_0_L0 pt n21) n22 i22 s33 → F_MH_sign_0 psk pb n cl_ ed pt s = F_MH_sign_0_L1 pt i21 (F_MH_sign_0_L0 pt n21) n22 i22 s33 → lv_has ls 9 [(8, .int (nI i22)), (7, .int (nI i21)), (0, .ref h0), (6, .ref to)] → okn g T s33 pl → va_P g.1 vcl ([] ++ pl) H → va_D A ([] ++ pl) → va_S A s0.heap H locs → W p l e ({ frames := 5, cells := 0, slots := 0, locals := 116 } : Room) s0 m args below meth c H locs 0 0 (MQ below (va_Qi (fun (r : Int32) (u : (Int32 × Sto) × va_W) => (u.1 = F_MH_sign_0 psk pb n cl_ ed pt s ∧ r = u.1.1 ∧ frm (M_MH_sign_0 pt) s u.1.2 ∧ True) ∧ okn g T u.1.2 u.2) (po g.1 vcl A (fun (u : (Int32 × Sto) × va_W) => [] ++ u.2)) A) args s0 0 0 A) (F0 m 121 ls []) := by
        intro n22
        induction n22 with
        | zero =>
          intro i22 s33 pl ls H locs hm22 hF hf117 hf118 hf119 hf120 hf121 hf122 hf123 hf124 hE hR hl hO hP hD hS
          refine lv_iload hx hb dMH_sign_121 (lv_at hl 0 rfl) ?_
          refine lv_aload_n hx hb dMH_sign_123 rfl (lv_at hl 2 rfl) ?_
          refine nw_get (C := "LatticeKeysModel$Hands") (TT := T_MH) (N := 31) hx hb hts (wg_ft i_MH) hown hK hO k_h0 (kn := 225) (ci := 12) (fl := [(3, 172), (3, 181), (3, 226), (3, 291), (3, 299), (3, 308), (3, 317), (3, 326), (3, 334), (3, 342), (3, 350), (3, 359), (3, 368), (3, 369), (3, 370), (3, 371), (3, 372), (3, 373), (3, 374), (3, 375), (3, 376), (3, 377), (3, 378), (0, 0), (0, 0), (0, 0), (0, 0), (0, 0), (0, 0), (0, 0), (0, 0)]) rfl hP rfl 25 (by decide) (hts _ (wg_t kw_1457)) (fun _ h9 => h9) (cd := (0, 0)) rfl dMH_sign_124 (fun v30 hv30 => ?_)
          obtain rfl := (show v30 = .int (s33.1 225 25) from hv30)
          obtain ⟨z22, ez22, hz23, hz24⟩ := cl_of (b := 2147483648) hf119 (by omega) (by decide)
          replace hR := bnd_step hR ez22
          first | rw [bnd_step rfl ez22] at hE | replace hE := bndP_step hE ez22
          refine mi_as hz23 ?_
          subst hz24
          refine mi_ge (tgt := 159) hx hb dMH_sign_127 (by decide) (by omega) (by omega) (fun h23 => ?_) (fun h23 => absurd h23 (by omega))
          refine lv_iconst (v := nI 0) hx hb dMH_sign_159 (by decide) ?_
          refine lv_istore (lv' := [(8, .int (nI 0)), (7, .int (nI i21)), (0, .ref h0), (6, .ref to)]) hx hb dMH_sign_160 hl (by decide) rfl (fun ls hl => ?_)
          have lp23 : ∀ (n23 : Nat) (i23 : Nat) (s34 : Sto) (pl : va_W) (ls : Array Slot) (H : Heap) (locs : List Loc), n23 + i23 = 4 → frm (M_MH_sign_0 pt) s s34 → s34.1 225 23 = nI 0 → s34.1 225 24 = nI 4 → s34.1 225 25 = nI 4 → s34.1 225 26 = nI 2 → s34.1 225 27 = nI 131072 → s34.1 225 28 = nI 95232 → s34.1 225 29 = nI 78 → s34.1 225 30 = nI 32 → E_MH_sign_0_L2 pt i21 (E_MH_sign_0_L0 pt n21) n23 i23 s34 → F_MH_sign_0 psk pb n cl_ ed pt s = F_MH_sign_0_L2 pt i21 (F_MH_sign_0_L0 pt n21) n23 i23 s34 → lv_has ls 9 [(8, .int (nI i23)), (7, .int (nI i21)), (0, .ref h0), (6, .ref to)] → okn g T s34 pl → va_P g.1 vcl ([] ++ pl) H → va_D A ([] ++ pl) → va_S A s0.heap H locs → W p l e ({ frames := 5, cells := 0, slots := 0, locals := 116 } : Room) s0 m args below meth c H locs 0 0 (MQ below (va_Qi (fun (r : Int32) (u : (Int32 × Sto) × va_W) => (u.1 = F_MH_sign_0 psk pb n cl_ ed pt s ∧ r = u.1.1 ∧ frm (M_MH_sign_0 pt) s u.1.2 ∧ True) ∧ okn g T u.1.2 u.2) (po g.1 vcl A (fun (u : (Int32 × Sto) × va_W) => [] ++ u.2)) A) args s0 0 0 A) (F0 m 162 ls []) := by
            intro n23
            induction n23 with
            | zero =>
              intro i23 s34 pl ls H locs hm23 hF hf125 hf126 hf127 hf128 hf129 hf130 hf131 hf132 hE hR hl hO hP hD hS
              refine lv_iload hx hb dMH_sign_162 (lv_at hl 0 rfl) ?_
              refine lv_aload_n hx hb dMH_sign_164 rfl (lv_at hl 2 rfl) ?_
              refine nw_get (C := "LatticeKeysModel$Hands") (TT := T_MH) (N := 31) hx hb hts (wg_ft i_MH) hown hK hO k_h0 (kn := 225) (ci := 12) (fl := [(3, 172), (3, 181), (3, 226), (3, 291), (3, 299), (3, 308), (3, 317), (3, 326), (3, 334), (3, 342), (3, 350), (3, 359), (3, 368), (3, 369), (3, 370), (3, 371), (3, 372), (3, 373), (3, 374), (3, 375), (3, 376), (3, 377), (3, 378), (0, 0), (0, 0), (0, 0), (0, 0), (0, 0), (0, 0), (0, 0), (0, 0)]) rfl hP rfl 24 (by decide) (hts _ (wg_t kw_1456)) (fun _ h9 => h9) (cd := (0, 0)) rfl dMH_sign_165 (fun v31 hv31 => ?_)
              obtain rfl := (show v31 = .int (s34.1 225 24) from hv31)
              obtain ⟨z23, ez23, hz25, hz26⟩ := cl_of (b := 2147483648) hf126 (by omega) (by decide)
              replace hR := bnd_step hR ez23
              first | rw [bnd_step rfl ez23] at hE | replace hE := bndP_step hE ez23
              refine mi_as hz25 ?_
              subst hz26
              refine mi_ge (tgt := 190) hx hb dMH_sign_168 (by decide) (by omega) (by omega) (fun h24 => ?_) (fun h24 => absurd h24 (by omega))
              refine lv_aload_n hx hb dMH_sign_190 rfl (lv_at hl 2 rfl) ?_
              refine lv_iconst (v := nI 0) hx hb dMH_sign_191 (by decide) ?_
              refine lv_aload_n hx hb dMH_sign_192 rfl (lv_at hl 2 rfl) ?_
              refine nw_get (C := "LatticeKeysModel$Hands") (TT := T_MH) (N := 31) hx hb hts (wg_ft i_MH) hown hK hO k_h0 (kn := 225) (ci := 12) (fl := [(3, 172), (3, 181), (3, 226), (3, 291), (3, 299), (3, 308), (3, 317), (3, 326), (3, 334), (3, 342), (3, 350), (3, 359), (3, 368), (3, 369), (3, 370), (3, 371), (3, 372), (3, 373), (3, 374), (3, 375), (3, 376), (3, 377), (3, 378), (0, 0), (0, 0), (0, 0), (0, 0), (0, 0), (0, 0), (0, 0), (0, 0)]) rfl hP rfl 20 (by decide) (hts _ (wg_t kw_1452)) (fun _ h9 => h9) (cd := (3, 376)) rfl dMH_sign_193 (fun v32 hv32 => ?_)
              obtain ⟨r29, rfl, kr29⟩ := (show ∃ r : Nat, v32 = .ref r ∧ T r = some 376 from hv32)
              refine mp_v (cx := []) (wr := []) hP hD hS hA [] [] rfl rfl rfl (by decide) (va_runV (As := [.int (nI 0), .ref r29]) (rest := []) F (N_MH_marked_0 l g _ T s34 pl hO hU h0 r29 (nI 0) 376 k_h0 kr29 rfl hf125 hf126 hf127 hf128 hf129 hf130 hf131 hf132) (cwV 2 hts (wg_app (wg_c kw_1876 (wg_c kw_1878 (wg_c ks_73 (wg_c kw_13 wg_n)))) kw_1879) rfl rfl rfl (by decide +kernel) ⟨by decide, by decide⟩) (pn_W "LatticeKeysModel$Hands" (en_ok g) (ci := 12) (kn := 225) (fl := [(3, 172), (3, 181), (3, 226), (3, 291), (3, 299), (3, 308), (3, 317), (3, 326), (3, 334), (3, 342), (3, 350), (3, 359), (3, 368), (3, 369), (3, 370), (3, 371), (3, 372), (3, 373), (3, 374), (3, 375), (3, 376), (3, 377), (3, 378), (0, 0), (0, 0), (0, 0), (0, 0), (0, 0), (0, 0), (0, 0), (0, 0)]) hK hO k_h0 rfl hP hD hS hA hEn [] rfl rfl rfl) rfl rfl hl.1 rfl (lv_room (Nat.le_of_ble_eq_true rfl)) dMH_sign_196 ⟨by omega, by omega⟩) (fun  u32 H locs hu32 hP hD hS => ?_)
              obtain ⟨s35, pl⟩ := u32
              obtain ⟨⟨eq32, hFc32, -⟩, hO⟩ := hu32
              have hO : okn g T s35 pl := hO
              have hP : va_P g.1 vcl ([] ++ pl) _ := hP
              have hD : va_D _ ([] ++ pl) := hD
              have hFc32 : frm (M_MH_marked_0 376) s34 s35 := hFc32
              replace hR := bnd_step hR eq32
              first | rw [bnd_step rfl eq32] at hE | replace hE := bndP_step hE eq32
              have hF := frm_tr hF hFc32 (fun k hk => by unfold M_MH_marked_0 at hk; unfold M_MH_sign_0; omega)
              have hf133 : s35.1 225 23 = nI 0 := fc_F hf125 hFc32 (by unfold M_MH_marked_0; omega)
              have hf134 : s35.1 225 24 = nI 4 := fc_F hf126 hFc32 (by unfold M_MH_marked_0; omega)
              have hf135 : s35.1 225 25 = nI 4 := fc_F hf127 hFc32 (by unfold M_MH_marked_0; omega)
              have hf136 : s35.1 225 26 = nI 2 := fc_F hf128 hFc32 (by unfold M_MH_marked_0; omega)
              have hf137 : s35.1 225 27 = nI 131072 := fc_F hf129 hFc32 (by unfold M_MH_marked_0; omega)
              have hf138 : s35.1 225 28 = nI 95232 := fc_F hf130 hFc32 (by unfold M_MH_marked_0; omega)
              have hf139 : s35.1 225 29 = nI 78 := fc_F hf131 hFc32 (by unfold M_MH_marked_0; omega)
              have hf140 : s35.1 225 30 = nI 32 := fc_F hf132 hFc32 (by unfold M_MH_marked_0; omega)
              refine W.widen (k := 0) (n := 0) (by omega) (by omega) ?_
              refine lv_aload_n hx hb dMH_sign_199 rfl (lv_at hl 2 rfl) ?_
              refine lv_aload_n hx hb dMH_sign_200 rfl (lv_at hl 2 rfl) ?_
              refine nw_get (C := "LatticeKeysModel$Hands") (TT := T_MH) (N := 31) hx hb hts (wg_ft i_MH) hown hK hO k_h0 (kn := 225) (ci := 12) (fl := [(3, 172), (3, 181), (3, 226), (3, 291), (3, 299), (3, 308), (3, 317), (3, 326), (3, 334), (3, 342), (3, 350), (3, 359), (3, 368), (3, 369), (3, 370), (3, 371), (3, 372), (3, 373), (3, 374), (3, 375), (3, 376), (3, 377), (3, 378), (0, 0), (0, 0), (0, 0), (0, 0), (0, 0), (0, 0), (0, 0), (0, 0)]) rfl hP rfl 20 (by decide) (hts _ (wg_t kw_1452)) (fun _ h9 => h9) (cd := (3, 376)) rfl dMH_sign_201 (fun v33 hv33 => ?_)
              obtain ⟨r30, rfl, kr30⟩ := (show ∃ r : Nat, v33 = .ref r ∧ T r = some 376 from hv33)
              refine mp_v (cx := []) (wr := []) hP hD hS hA [] [] rfl rfl rfl (by decide) (va_runV (As := [.ref r30]) (rest := []) F (N_MH_ball_0 l g _ T s35 pl hO hU h0 r30 376 k_h0 kr30 rfl hf133 hf134 hf135 hf136 hf137 hf138 hf139 hf140 hE.1) (cwV 1 hts (wg_app (wg_c kw_1893 (wg_c kw_1895 (wg_c ks_77 (wg_c kw_13 wg_n)))) kw_1896) rfl rfl rfl (by decide +kernel) ⟨by decide, by decide⟩) (pn_W "LatticeKeysModel$Hands" (en_ok g) (ci := 12) (kn := 225) (fl := [(3, 172), (3, 181), (3, 226), (3, 291), (3, 299), (3, 308), (3, 317), (3, 326), (3, 334), (3, 342), (3, 350), (3, 359), (3, 368), (3, 369), (3, 370), (3, 371), (3, 372), (3, 373), (3, 374), (3, 375), (3, 376), (3, 377), (3, 378), (0, 0), (0, 0), (0, 0), (0, 0), (0, 0), (0, 0), (0, 0), (0, 0)]) hK hO k_h0 rfl hP hD hS hA hEn [] rfl rfl rfl) rfl rfl hl.1 rfl (lv_room (Nat.le_of_ble_eq_true rfl)) dMH_sign_204 ⟨by omega, by omega⟩) (fun  u33 H locs hu33 hP hD hS => ?_)
              obtain ⟨s36, pl⟩ := u33
              obtain ⟨⟨eq33, hFc33, -⟩, hO⟩ := hu33
              have hO : okn g T s36 pl := hO
              have hP : va_P g.1 vcl ([] ++ pl) _ := hP
              have hD : va_D _ ([] ++ pl) := hD
              have hFc33 : frm (M_MH_ball_0) s35 s36 := hFc33
              rw [and_iff_right hE.1] at hE
              replace hR := bnd_step hR eq33
              first | rw [bnd_step rfl eq33] at hE | replace hE := bndP_step hE eq33
              have hF := frm_tr hF hFc33 (fun k hk => by unfold M_MH_ball_0 at hk; unfold M_MH_sign_0; omega)
              have hf141 : s36.1 225 23 = nI 0 := fc_F hf133 hFc33 (by unfold M_MH_ball_0; omega)
              have hf142 : s36.1 225 24 = nI 4 := fc_F hf134 hFc33 (by unfold M_MH_ball_0; omega)
              have hf143 : s36.1 225 25 = nI 4 := fc_F hf135 hFc33 (by unfold M_MH_ball_0; omega)
              have hf144 : s36.1 225 26 = nI 2 := fc_F hf136 hFc33 (by unfold M_MH_ball_0; omega)
              have hf145 : s36.1 225 27 = nI 131072 := fc_F hf137 hFc33 (by unfold M_MH_ball_0; omega)
              have hf146 : s36.1 225 28 = nI 95232 := fc_F hf138 hFc33 (by unfold M_MH_ball_0; omega)
              have hf147 : s36.1 225 29 = nI 78 := fc_F hf139 hFc33 (by unfold M_MH_ball_0; omega)
              have hf148 : s36.1 225 30 = nI 32 := fc_F hf140 hFc33 (by unfold M_MH_ball_0; omega)
              refine W.widen (k := 0) (n := 0) (by omega) (by omega) ?_
              refine lv_aload_n hx hb dMH_sign_207 rfl (lv_at hl 2 rfl) ?_
              refine mp_i (cx := []) (wr := []) hP hD hS hA [] [] rfl rfl rfl (by decide) (va_runV (As := []) (rest := []) F (N_MH_fits_0 l g _ T s36 pl hO hU h0 k_h0 hf141 hf142 hf143 hf144 hf145 hf146 hf147 hf148) (cwV 0 hts (wg_app (wg_c kw_1897 (wg_c kw_1899 (wg_c ks_78 (wg_c kw_13 wg_n)))) kw_1900) rfl rfl rfl (by decide +kernel) ⟨by decide, by decide⟩) (pn_W "LatticeKeysModel$Hands" (en_ok g) (ci := 12) (kn := 225) (fl := [(3, 172), (3, 181), (3, 226), (3, 291), (3, 299), (3, 308), (3, 317), (3, 326), (3, 334), (3, 342), (3, 350), (3, 359), (3, 368), (3, 369), (3, 370), (3, 371), (3, 372), (3, 373), (3, 374), (3, 375), (3, 376), (3, 377), (3, 378), (0, 0), (0, 0), (0, 0), (0, 0), (0, 0), (0, 0), (0, 0), (0, 0)]) hK hO k_h0 rfl hP hD hS hA hEn [] rfl rfl rfl) rfl rfl hl.1 rfl (lv_room (Nat.le_of_ble_eq_true rfl)) dMH_sign_208 ⟨by omega, by omega⟩) (fun r31 u34 H locs hu34 hP hD hS => ?_)
              obtain ⟨q21, pl⟩ := u34
              obtain ⟨⟨eq34, rfl, hFc34, -⟩, hO⟩ := hu34
              have hO : okn g T q21.2 pl := hO
              have hP : va_P g.1 vcl ([] ++ pl) _ := hP
              have hD : va_D _ ([] ++ pl) := hD
              have hFc34 : frm (M_MH_fits_0) s36 q21.2 := hFc34
              replace hR := bnd_step hR eq34
              first | rw [bnd_step rfl eq34] at hE | replace hE := bndP_step hE eq34
              have hF := frm_tr hF hFc34 (fun k hk => by unfold M_MH_fits_0 at hk; unfold M_MH_sign_0; omega)
              have hf149 : q21.2.1 225 23 = nI 0 := fc_F hf141 hFc34 (by unfold M_MH_fits_0; omega)
              have hf150 : q21.2.1 225 24 = nI 4 := fc_F hf142 hFc34 (by unfold M_MH_fits_0; omega)
              have hf151 : q21.2.1 225 25 = nI 4 := fc_F hf143 hFc34 (by unfold M_MH_fits_0; omega)
              have hf152 : q21.2.1 225 26 = nI 2 := fc_F hf144 hFc34 (by unfold M_MH_fits_0; omega)
              have hf153 : q21.2.1 225 27 = nI 131072 := fc_F hf145 hFc34 (by unfold M_MH_fits_0; omega)
              have hf154 : q21.2.1 225 28 = nI 95232 := fc_F hf146 hFc34 (by unfold M_MH_fits_0; omega)
              have hf155 : q21.2.1 225 29 = nI 78 := fc_F hf147 hFc34 (by unfold M_MH_fits_0; omega)
              have hf156 : q21.2.1 225 30 = nI 32 := fc_F hf148 hFc34 (by unfold M_MH_fits_0; omega)
              refine W.widen (k := 0) (n := 0) (by omega) (by omega) ?_
              refine lv_if_ne (tgt := 217) hx hb dMH_sign_211 (by decide) (fun h25 => ?_) (fun h25 => ?_)
              · replace hR := hR.trans (if_neg h25)
                first | rw [if_neg h25] at hE | rw [E_MH_sign_0_L0, if_neg h25] at hE | rw [E_MH_sign_0_L1, if_neg h25] at hE | rw [E_MH_sign_0_L2, if_neg h25] at hE | rw [E_MH_sign_0_L3, if_neg h25] at hE | rw [E_MH_sign_0_L4, if_neg h25] at hE | rw [E_MH_sign_0_L5, if_neg h25] at hE | rw [E_MH_sign_0_L6, if_neg h25] at hE | rw [E_MH_sign_0_L7, if_neg h25] at hE | rw [E_MH_sign_0_L8, if_neg h25] at hE | replace hE := iteP_neg h25 hE
                refine lv_aload_n hx hb dMH_sign_217 rfl (lv_at hl 2 rfl) ?_
                refine lv_aload hx hb dMH_sign_218 (lv_at hl 3 rfl) ?_
                refine mp_v (cx := []) (wr := []) hP hD hS hA [] [] rfl rfl rfl (by decide) (va_runV (As := [.ref to]) (rest := []) F (N_MH_written_0 l g _ T q21.2 pl hO hU h0 to pt k_h0 k_to n_to hf149 hf150 hf151 hf152 hf153 hf154 hf155 hf156) (cwV 1 hts (wg_app (wg_c kw_1914 (wg_c kw_1916 (wg_c ks_80 (wg_c kw_13 wg_n)))) kw_1917) rfl rfl rfl (by decide +kernel) ⟨by decide, by decide⟩) (pn_W "LatticeKeysModel$Hands" (en_ok g) (ci := 12) (kn := 225) (fl := [(3, 172), (3, 181), (3, 226), (3, 291), (3, 299), (3, 308), (3, 317), (3, 326), (3, 334), (3, 342), (3, 350), (3, 359), (3, 368), (3, 369), (3, 370), (3, 371), (3, 372), (3, 373), (3, 374), (3, 375), (3, 376), (3, 377), (3, 378), (0, 0), (0, 0), (0, 0), (0, 0), (0, 0), (0, 0), (0, 0), (0, 0)]) hK hO k_h0 rfl hP hD hS hA hEn [] rfl rfl rfl) rfl rfl hl.1 rfl (lv_room (Nat.le_of_ble_eq_true rfl)) dMH_sign_220 ⟨by omega, by omega⟩) (fun  u35 H locs hu35 hP hD hS => ?_)
                obtain ⟨s37, pl⟩ := u35
                obtain ⟨⟨eq35, hFc35, -⟩, hO⟩ := hu35
                have hO : okn g T s37 pl := hO
                have hP : va_P g.1 vcl ([] ++ pl) _ := hP
                have hD : va_D _ ([] ++ pl) := hD
                have hFc35 : frm (M_MH_written_0 pt) q21.2 s37 := hFc35
                replace hR := bnd_step hR eq35
                first | rw [bnd_step rfl eq35] at hE | replace hE := bndP_step hE eq35
                have hF := frm_tr hF hFc35 (fun k hk => by unfold M_MH_written_0 at hk; unfold M_MH_sign_0; omega)
                have hf157 : s37.1 225 23 = nI 0 := fc_F hf149 hFc35 (by unfold M_MH_written_0; omega)
                have hf158 : s37.1 225 24 = nI 4 := fc_F hf150 hFc35 (by unfold M_MH_written_0; omega)
                have hf159 : s37.1 225 25 = nI 4 := fc_F hf151 hFc35 (by unfold M_MH_written_0; omega)
                have hf160 : s37.1 225 26 = nI 2 := fc_F hf152 hFc35 (by unfold M_MH_written_0; omega)
                have hf161 : s37.1 225 27 = nI 131072 := fc_F hf153 hFc35 (by unfold M_MH_written_0; omega)
                have hf162 : s37.1 225 28 = nI 95232 := fc_F hf154 hFc35 (by unfold M_MH_written_0; omega)
                have hf163 : s37.1 225 29 = nI 78 := fc_F hf155 hFc35 (by unfold M_MH_written_0; omega)
                have hf164 : s37.1 225 30 = nI 32 := fc_F hf156 hFc35 (by unfold M_MH_written_0; omega)
                refine W.widen (k := 0) (n := 0) (by omega) (by omega) ?_
                refine lv_iload hx hb dMH_sign_223 (lv_at hl 1 rfl) ?_
                exact mp_iret hx hb hr hlk hP hD hS ((nI i21, s37), pl) ⟨⟨hR.symm, rfl, hF, trivial⟩, hO⟩ [] rfl rfl rfl (by omega) (by omega) dMH_sign_225
              · replace hR := hR.trans (if_pos h25)
                first | rw [if_pos h25] at hE | rw [E_MH_sign_0_L0, if_pos h25] at hE | rw [E_MH_sign_0_L1, if_pos h25] at hE | rw [E_MH_sign_0_L2, if_pos h25] at hE | rw [E_MH_sign_0_L3, if_pos h25] at hE | rw [E_MH_sign_0_L4, if_pos h25] at hE | rw [E_MH_sign_0_L5, if_pos h25] at hE | rw [E_MH_sign_0_L6, if_pos h25] at hE | rw [E_MH_sign_0_L7, if_pos h25] at hE | rw [E_MH_sign_0_L8, if_pos h25] at hE | replace hE := iteP_pos h25 hE
                refine lv_goto (tgt := 226) hx hb dMH_sign_214 (by decide) ?_
                refine mi_iinc (k := 1) (x := i21) (d := 1) (y := i21 + 1) (lv' := [(7, .int (nI (i21 + 1))), (8, .int (nI i23)), (0, .ref h0), (6, .ref to)]) hx hb dMH_sign_226 hl rfl (by decide) rfl (by decide) rfl (fun ls hl => ?_)
                refine lv_goto (tgt := 97) hx hb dMH_sign_229 (by decide) ?_
                exact ih21 (i21 + 1) q21.2 pl ls H locs (by omega) (by omega) hF hf149 hf150 hf151 hf152 hf153 hf154 hf155 hf156 hE hR (lv_sub hl [0, 2, 3] rfl) hO hP hD hS
            | succ n23 ih23 =>
              intro i23 s34 pl ls H locs hm23 hF hf165 hf166 hf167 hf168 hf169 hf170 hf171 hf172 hE hR hl hO hP hD hS
              refine lv_iload hx hb dMH_sign_162 (lv_at hl 0 rfl) ?_
              refine lv_aload_n hx hb dMH_sign_164 rfl (lv_at hl 2 rfl) ?_
              refine nw_get (C := "LatticeKeysModel$Hands") (TT := T_MH) (N := 31) hx hb hts (wg_ft i_MH) hown hK hO k_h0 (kn := 225) (ci := 12) (fl := [(3, 172), (3, 181), (3, 226), (3, 291), (3, 299), (3, 308), (3, 317), (3, 326), (3, 334), (3, 342), (3, 350), (3, 359), (3, 368), (3, 369), (3, 370), (3, 371), (3, 372), (3, 373), (3, 374), (3, 375), (3, 376), (3, 377), (3, 378), (0, 0), (0, 0), (0, 0), (0, 0), (0, 0), (0, 0), (0, 0), (0, 0)]) rfl hP rfl 24 (by decide) (hts _ (wg_t kw_1456)) (fun _ h9 => h9) (cd := (0, 0)) rfl dMH_sign_165 (fun v34 hv34 => ?_)
              obtain rfl := (show v34 = .int (s34.1 225 24) from hv34)
              obtain ⟨z24, ez24, hz27, hz28⟩ := cl_of (b := 2147483648) hf166 (by omega) (by decide)
              replace hR := bnd_step hR ez24
              first | rw [bnd_step rfl ez24] at hE | replace hE := bndP_step hE ez24
              refine mi_as hz27 ?_
              subst hz28
              refine mi_ge (tgt := 190) hx hb dMH_sign_168 (by decide) (by omega) (by omega) (fun h26 => absurd h26 (by omega)) (fun h26 => ?_)
              refine lv_aload_n hx hb dMH_sign_171 rfl (lv_at hl 2 rfl) ?_
              refine lv_iload hx hb dMH_sign_172 (lv_at hl 0 rfl) ?_
              refine lv_aload_n hx hb dMH_sign_174 rfl (lv_at hl 2 rfl) ?_
              refine nw_get (C := "LatticeKeysModel$Hands") (TT := T_MH) (N := 31) hx hb hts (wg_ft i_MH) hown hK hO k_h0 (kn := 225) (ci := 12) (fl := [(3, 172), (3, 181), (3, 226), (3, 291), (3, 299), (3, 308), (3, 317), (3, 326), (3, 334), (3, 342), (3, 350), (3, 359), (3, 368), (3, 369), (3, 370), (3, 371), (3, 372), (3, 373), (3, 374), (3, 375), (3, 376), (3, 377), (3, 378), (0, 0), (0, 0), (0, 0), (0, 0), (0, 0), (0, 0), (0, 0), (0, 0)]) rfl hP rfl 10 (by decide) (hts _ (wg_t kw_1442)) (fun _ h9 => h9) (cd := (3, 350)) rfl dMH_sign_175 (fun v35 hv35 => ?_)
              obtain ⟨r32, rfl, kr31⟩ := (show ∃ r : Nat, v35 = .ref r ∧ T r = some 350 from hv35)
              refine lv_iload hx hb dMH_sign_178 (lv_at hl 0 rfl) ?_
              refine nw_aald3 hx hb hK hO kr31 (k := 350) (b := 351) rfl hP (by omega) (by omega) dMH_sign_180 (fun r33 kr32 => ?_)
              have hn21 : nsp (351 + i23) = (0, 256, []) := rows_ok 351 8 (by decide) _ (by omega)
              refine mp_v (cx := []) (wr := []) hP hD hS hA [] [] rfl rfl rfl (by decide) (va_runV (As := [.int (nI i23), .ref r33]) (rest := []) F (N_MH_rowBy_0 l g _ T s34 pl hO hU h0 r33 i23 (351 + i23) k_h0 kr32 hn21 hf165 hf166 hf167 hf168 hf169 hf170 hf171 hf172 (by omega)) (cwV 2 hts (wg_app (wg_c kw_1734 (wg_c kw_1736 (wg_c ks_63 (wg_c kw_13 wg_n)))) kw_1737) rfl rfl rfl (by decide +kernel) ⟨by decide, by decide⟩) (pn_W "LatticeKeysModel$Hands" (en_ok g) (ci := 12) (kn := 225) (fl := [(3, 172), (3, 181), (3, 226), (3, 291), (3, 299), (3, 308), (3, 317), (3, 326), (3, 334), (3, 342), (3, 350), (3, 359), (3, 368), (3, 369), (3, 370), (3, 371), (3, 372), (3, 373), (3, 374), (3, 375), (3, 376), (3, 377), (3, 378), (0, 0), (0, 0), (0, 0), (0, 0), (0, 0), (0, 0), (0, 0), (0, 0)]) hK hO k_h0 rfl hP hD hS hA hEn [] rfl rfl rfl) rfl rfl hl.1 rfl (lv_room (Nat.le_of_ble_eq_true rfl)) dMH_sign_181 ⟨by omega, by omega⟩) (fun  u36 H locs hu36 hP hD hS => ?_)
              obtain ⟨s38, pl⟩ := u36
              obtain ⟨⟨eq36, hFc36, -⟩, hO⟩ := hu36
              have hO : okn g T s38 pl := hO
              have hP : va_P g.1 vcl ([] ++ pl) _ := hP
              have hD : va_D _ ([] ++ pl) := hD
              have hFc36 : frm (M_MH_rowBy_0 (351 + i23)) s34 s38 := hFc36
              replace hR := bnd_step hR eq36
              first | rw [bnd_step rfl eq36] at hE | replace hE := bndP_step hE eq36
              have hF := frm_tr hF hFc36 (fun k hk => by unfold M_MH_rowBy_0 at hk; unfold M_MH_sign_0; omega)
              have hf173 : s38.1 225 23 = nI 0 := fc_F hf165 hFc36 (by unfold M_MH_rowBy_0; omega)
              have hf174 : s38.1 225 24 = nI 4 := fc_F hf166 hFc36 (by unfold M_MH_rowBy_0; omega)
              have hf175 : s38.1 225 25 = nI 4 := fc_F hf167 hFc36 (by unfold M_MH_rowBy_0; omega)
              have hf176 : s38.1 225 26 = nI 2 := fc_F hf168 hFc36 (by unfold M_MH_rowBy_0; omega)
              have hf177 : s38.1 225 27 = nI 131072 := fc_F hf169 hFc36 (by unfold M_MH_rowBy_0; omega)
              have hf178 : s38.1 225 28 = nI 95232 := fc_F hf170 hFc36 (by unfold M_MH_rowBy_0; omega)
              have hf179 : s38.1 225 29 = nI 78 := fc_F hf171 hFc36 (by unfold M_MH_rowBy_0; omega)
              have hf180 : s38.1 225 30 = nI 32 := fc_F hf172 hFc36 (by unfold M_MH_rowBy_0; omega)
              refine W.widen (k := 0) (n := 0) (by omega) (by omega) ?_
              refine mi_iinc (k := 0) (x := i23) (d := 1) (y := i23 + 1) (lv' := [(8, .int (nI (i23 + 1))), (7, .int (nI i21)), (0, .ref h0), (6, .ref to)]) hx hb dMH_sign_184 hl rfl (by decide) rfl (by decide) rfl (fun ls hl => ?_)
              refine lv_goto (tgt := 162) hx hb dMH_sign_187 (by decide) ?_
              exact ih23 (i23 + 1) s38 pl ls H locs (by omega) hF hf173 hf174 hf175 hf176 hf177 hf178 hf179 hf180 hE hR (lv_sub hl [0, 1, 2, 3] rfl) hO hP hD hS
          exact lp23 4 0 s33 pl ls _ _ (by omega) hF hf117 hf118 hf119 hf120 hf121 hf122 hf123 hf124 hE hR (lv_sub hl [0, 1, 2, 3] rfl) hO hP hD hS
        | succ n22 ih22 =>
          intro i22 s33 pl ls H locs hm22 hF hf181 hf182 hf183 hf184 hf185 hf186 hf187 hf188 hE hR hl hO hP hD hS
          refine lv_iload hx hb dMH_sign_121 (lv_at hl 0 rfl) ?_
          refine lv_aload_n hx hb dMH_sign_123 rfl (lv_at hl 2 rfl) ?_
          refine nw_get (C := "LatticeKeysModel$Hands") (TT := T_MH) (N := 31) hx hb hts (wg_ft i_MH) hown hK hO k_h0 (kn := 225) (ci := 12) (fl := [(3, 172), (3, 181), (3, 226), (3, 291), (3, 299), (3, 308), (3, 317), (3, 326), (3, 334), (3, 342), (3, 350), (3, 359), (3, 368), (3, 369), (3, 370), (3, 371), (3, 372), (3, 373), (3, 374), (3, 375), (3, 376), (3, 377), (3, 378), (0, 0), (0, 0), (0, 0), (0, 0), (0, 0), (0, 0), (0, 0), (0, 0)]) rfl hP rfl 25 (by decide) (hts _ (wg_t kw_1457)) (fun _ h9 => h9) (cd := (0, 0)) rfl dMH_sign_124 (fun v36 hv36 => ?_)
          obtain rfl := (show v36 = .int (s33.1 225 25) from hv36)
          obtain ⟨z25, ez25, hz29, hz30⟩ := cl_of (b := 2147483648) hf183 (by omega) (by decide)
          replace hR := bnd_step hR ez25
          first | rw [bnd_step rfl ez25] at hE | replace hE := bndP_step hE ez25
          refine mi_as hz29 ?_
          subst hz30
          refine mi_ge (tgt := 159) hx hb dMH_sign_127 (by decide) (by omega) (by omega) (fun h27 => absurd h27 (by omega)) (fun h27 => ?_)
          refine lv_aload_n hx hb dMH_sign_130 rfl (lv_at hl 2 rfl) ?_
          refine nw_get (C := "LatticeKeysModel$Hands") (TT := T_MH) (N := 31) hx hb hts (wg_ft i_MH) hown hK hO k_h0 (kn := 225) (ci := 12) (fl := [(3, 172), (3, 181), (3, 226), (3, 291), (3, 299), (3, 308), (3, 317), (3, 326), (3, 334), (3, 342), (3, 350), (3, 359), (3, 368), (3, 369), (3, 370), (3, 371), (3, 372), (3, 373), (3, 374), (3, 375), (3, 376), (3, 377), (3, 378), (0, 0), (0, 0), (0, 0), (0, 0), (0, 0), (0, 0), (0, 0), (0, 0)]) rfl hP rfl 1 (by decide) (hts _ (wg_t kw_1433)) (fun _ h9 => h9) (cd := (3, 181)) rfl dMH_sign_131 (fun v37 hv37 => ?_)
          obtain ⟨r34, rfl, kr33⟩ := (show ∃ r : Nat, v37 = .ref r ∧ T r = some 181 from hv37)
          refine lv_aload_n hx hb dMH_sign_134 rfl (lv_at hl 2 rfl) ?_
          refine nw_get (C := "LatticeKeysModel$Hands") (TT := T_MH) (N := 31) hx hb hts (wg_ft i_MH) hown hK hO k_h0 (kn := 225) (ci := 12) (fl := [(3, 172), (3, 181), (3, 226), (3, 291), (3, 299), (3, 308), (3, 317), (3, 326), (3, 334), (3, 342), (3, 350), (3, 359), (3, 368), (3, 369), (3, 370), (3, 371), (3, 372), (3, 373), (3, 374), (3, 375), (3, 376), (3, 377), (3, 378), (0, 0), (0, 0), (0, 0), (0, 0), (0, 0), (0, 0), (0, 0), (0, 0)]) rfl hP rfl 7 (by decide) (hts _ (wg_t kw_1439)) (fun _ h9 => h9) (cd := (3, 326)) rfl dMH_sign_135 (fun v38 hv38 => ?_)
          obtain ⟨r35, rfl, kr34⟩ := (show ∃ r : Nat, v38 = .ref r ∧ T r = some 326 from hv38)
          refine lv_iload hx hb dMH_sign_138 (lv_at hl 0 rfl) ?_
          refine nw_aald3 hx hb hK hO kr34 (k := 326) (b := 327) rfl hP (by omega) (by omega) dMH_sign_140 (fun r36 kr35 => ?_)
          have hn22 : nsp (327 + i22) = (0, 256, []) := rows_ok 327 7 (by decide) _ (by omega)
          refine lv_aload_n hx hb dMH_sign_141 rfl (lv_at hl 2 rfl) ?_
          refine nw_get (C := "LatticeKeysModel$Hands") (TT := T_MH) (N := 31) hx hb hts (wg_ft i_MH) hown hK hO k_h0 (kn := 225) (ci := 12) (fl := [(3, 172), (3, 181), (3, 226), (3, 291), (3, 299), (3, 308), (3, 317), (3, 326), (3, 334), (3, 342), (3, 350), (3, 359), (3, 368), (3, 369), (3, 370), (3, 371), (3, 372), (3, 373), (3, 374), (3, 375), (3, 376), (3, 377), (3, 378), (0, 0), (0, 0), (0, 0), (0, 0), (0, 0), (0, 0), (0, 0), (0, 0)]) rfl hP rfl 9 (by decide) (hts _ (wg_t kw_1441)) (fun _ h9 => h9) (cd := (3, 342)) rfl dMH_sign_142 (fun v39 hv39 => ?_)
          obtain ⟨r37, rfl, kr36⟩ := (show ∃ r : Nat, v39 = .ref r ∧ T r = some 342 from hv39)
          refine lv_iload hx hb dMH_sign_145 (lv_at hl 0 rfl) ?_
          refine nw_aald3 hx hb hK hO kr36 (k := 342) (b := 343) rfl hP (by omega) (by omega) dMH_sign_147 (fun r38 kr37 => ?_)
          have hn23 : nsp (343 + i22) = (0, 256, []) := rows_ok 343 7 (by decide) _ (by omega)
          refine lv_iconst (v := nI 1) hx hb dMH_sign_148 (by decide) ?_
          refine lv_iconst (v := nI 0) hx hb dMH_sign_149 (by decide) ?_
          refine mp_v (cx := []) (wr := []) hP hD hS hA [] [] rfl rfl rfl (by decide) (va_runV (As := [.ref r36, .ref r38, .int (nI 1), .int (nI 0)]) (rest := []) F (N_MR_forth_8_0 l g _ T s33 pl hO hU r34 r36 r38 (327 + i22) (343 + i22) kr33 kr35 hn22 kr37 hn23) (cwV 4 hts (wg_app (wg_c kw_1733 (wg_c kw_1673 (wg_c kw_1674 (wg_c kw_12 wg_n)))) kw_1675) rfl rfl rfl (by decide +kernel) ⟨by decide, by decide⟩) (pn_W "LatticeKeysModel$Ring" (en_ok g) (ci := 10) (kn := 181) (fl := [(1, 8380417), (1, 256), (3, 182), (3, 183), (4, 8347681)]) hK hO kr33 rfl hP hD hS hA hEn [] rfl rfl rfl) rfl rfl hl.1 rfl (lv_room (Nat.le_of_ble_eq_true rfl)) dMH_sign_150 ⟨by omega, by omega⟩) (fun  u37 H locs hu37 hP hD hS => ?_)
          obtain ⟨s39, pl⟩ := u37
          obtain ⟨⟨eq37, hFc37, -⟩, hO⟩ := hu37
          have hO : okn g T s39 pl := hO
          have hP : va_P g.1 vcl ([] ++ pl) _ := hP
          have hD : va_D _ ([] ++ pl) := hD
          have hFc37 : frm (M_MR_forth_8_0 (343 + i22)) s33 s39 := hFc37
          replace hR := bnd_step hR eq37
          first | rw [bnd_step rfl eq37] at hE | replace hE := bndP_step hE eq37
          have hF := frm_tr hF hFc37 (fun k hk => by unfold M_MR_forth_8_0 at hk; unfold M_MH_sign_0; omega)
          have hf189 : s39.1 225 23 = nI 0 := fc_F hf181 hFc37 (by unfold M_MR_forth_8_0; omega)
          have hf190 : s39.1 225 24 = nI 4 := fc_F hf182 hFc37 (by unfold M_MR_forth_8_0; omega)
          have hf191 : s39.1 225 25 = nI 4 := fc_F hf183 hFc37 (by unfold M_MR_forth_8_0; omega)
          have hf192 : s39.1 225 26 = nI 2 := fc_F hf184 hFc37 (by unfold M_MR_forth_8_0; omega)
          have hf193 : s39.1 225 27 = nI 131072 := fc_F hf185 hFc37 (by unfold M_MR_forth_8_0; omega)
          have hf194 : s39.1 225 28 = nI 95232 := fc_F hf186 hFc37 (by unfold M_MR_forth_8_0; omega)
          have hf195 : s39.1 225 29 = nI 78 := fc_F hf187 hFc37 (by unfold M_MR_forth_8_0; omega)
          have hf196 : s39.1 225 30 = nI 32 := fc_F hf188 hFc37 (by unfold M_MR_forth_8_0; omega)
          refine W.widen (k := 0) (n := 0) (by omega) (by omega) ?_
          refine mi_iinc (k := 0) (x := i22) (d := 1) (y := i22 + 1) (lv' := [(8, .int (nI (i22 + 1))), (7, .int (nI i21)), (0, .ref h0), (6, .ref to)]) hx hb dMH_sign_153 hl rfl (by decide) rfl (by decide) rfl (fun ls hl => ?_)
          refine lv_goto (tgt := 121) hx hb dMH_sign_156 (by decide) ?_
          exact ih22 (i22 + 1) s39 pl ls H locs (by omega) hF hf189 hf190 hf191 hf192 hf193 hf194 hf195 hf196 hE hR (lv_sub hl [0, 1, 2, 3] rfl) hO hP hD hS
      exact lp22 4 0 s32 pl ls _ _ (by omega) hF hf109 hf110 hf111 hf112 hf113 hf114 hf115 hf116 hE hR (lv_sub hl [0, 1, 2, 3] rfl) hO hP hD hS
  exact lp21 (201 - 1) 1 s30 pl ls _ _ (by omega) (by omega) hF hf85 hf86 hf87 hf88 hf89 hf90 hf91 hf92 hE hR (lv_sub hl [0, 1, 7] rfl) hO hP hD hS
