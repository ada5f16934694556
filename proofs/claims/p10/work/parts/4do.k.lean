set_option linter.all false
def M_DA_makeSignatureA_0 (k : Nat) : Prop := (106 ≤ k ∧ k < 114) ∨ (115 ≤ k ∧ k < 123) ∨ (124 ≤ k ∧ k < 131) ∨ (132 ≤ k ∧ k < 140) ∨ (41 ≤ k ∧ k < 97) ∨ (98 ≤ k ∧ k < 105) ∨ k = 140 ∨ k = 141 ∨ k = 142 ∨ k = 143 ∨ k = 144 ∨ k = 146 ∨ k = 147 ∨ k = 16 ∨ k = 18 ∨ k = 2 ∨ k = 38 ∨ (0 : Nat) = 1
noncomputable def F_DA_makeSignatureA_0_L0 : Nat → Nat → Sto → Int32 × Sto
  | 0, i21, s30 => (nI 0, s30)
  | n21 + 1, i21, s30 => bnd (F_DA_commit_0 (nI (4 * (i21 - 1))) s30) fun s31 => bnd (F_DA_answerIsShort_0  s31) fun q21 => if (q21.1) = 0 then F_DA_makeSignatureA_0_L0  n21 (i21 + 1) q21.2 else bnd (F_DA_restIsShort_0  q21.2) fun q22 => if (q22.1) = 0 then F_DA_makeSignatureA_0_L0  n21 (i21 + 1) q22.2 else bnd (F_DA_makeHints_0  q22.2) fun q23 => if (q23.1) = 0 then F_DA_makeSignatureA_0_L0  n21 (i21 + 1) q23.2 else bnd (F_DA_writeSignature_0 2 q23.2) fun s32 => (nI i21, s32)
noncomputable def F_DA_makeSignatureA_0 (psk : Nat) (len : Nat) (cl_ : Int32) (s : Sto) : Int32 × Sto := bnd (F_DA_readSecret_0 psk s) fun s21 => bnd (sC s21 psk 143 64 0 64) fun s22 => bnd (F_DA_digestMessage 1 16384 32 len cl_ s22) fun s23 => bnd (F_SP_start_3 16 17 s23) fun s24 => bnd (F_SP_absorb 16 17 psk 2560 32 32 s24) fun s25 => bnd (F_SP_absorb 16 17 1 16384 0 32 s25) fun s26 => bnd (F_SP_absorb 16 17 143 64 0 64 s26) fun s27 => bnd (F_SP_finish 16 17 s27) fun s28 => bnd (F_SP_squeeze 16 17 142 128 0 64 s28) fun s29 => F_DA_makeSignatureA_0_L0 (201 - 1) 1 s29
set_option maxHeartbeats 2000000 in
set_option maxRecDepth 100000 in
theorem N_DA_makeSignatureA_0 (l : Launch) (g : Gd) (sz : Nat) (T : TyN) (s : Sto) (pl : va_W) (hO : okn g T s pl) (hU : inj T) (h0 st sk tp to : Nat) (psk : Nat) (len : Nat) (cl_ : Int32) (k_h0 : T h0 = some 39) (k_st : T st = some 9) (k_sk : T sk = some psk) (n_sk : nsp psk = (1, 2560, [])) (k_tp : T tp = some 1) (k_to : T to = some 2) (h1 : 32 ≤ len) (h3 : len ≤ 16384)  : Met l y_DA_makeSignature w_DA_makeSignature ({ frames := 6, cells := 0, slots := 0, locals := 176 } : Room) (va_Pc [.ref h0, .ref st, .ref sk, .ref tp, .int (nI len), .int cl_, .ref to] (pr (en g) g.1 vcl sz ([] ++ pl))) (va_Qi (fun (r : Int32) (u : (Int32 × Sto) × va_W) => (u.1 = F_DA_makeSignatureA_0 psk len cl_ s ∧ r = u.1.1 ∧ frm (M_DA_makeSignatureA_0) s u.1.2 ∧ (u.1.1 = nI 0 → u.1.2.1 2 = s.1 2) ∧ True) ∧ okn g T u.1.2 u.2) (po g.1 vcl (va_A ([] ++ pl) sz) (fun (u : (Int32 × Sto) × va_W) => [] ++ u.2)) (va_A ([] ++ pl) sz)) 0 0 (va_A ([] ++ pl) sz) := by
  refine mc_entry (cc := c_DA_makeSignature) (maxL := 8) (ret := (some .int)) (by decide) rfl (Nat.le_of_ble_eq_true rfl) ?_
  intro p e s0 m args below meth c ls F hr hlk hnm hsz hP hD hE hA hl
  obtain ⟨hx, hb, hml, hown, hts⟩ := id F
  have hK := hE.1
  generalize va_A ([] ++ pl) sz = A at hD hE hA ⊢
  have hS : va_S A s0.heap s0.heap [] := va_S.rf
  have hl : lv_has ls 8 [(0, .ref h0), (1, .ref st), (2, .ref sk), (3, .ref tp), (4, .int (nI len)), (5, .int cl_), (6, .ref to)] := hl
  have hR : F_DA_makeSignatureA_0 psk len cl_ s = F_DA_makeSignatureA_0 psk len cl_ s := rfl
  have hF : frm (M_DA_makeSignatureA_0) s s := frm_rf
  refine lv_aload_n hx hb dDA_makeSignature_0 rfl (lv_at hl 0 rfl) ?_
  refine lv_aload_n hx hb dDA_makeSignature_1 rfl (lv_at hl 1 rfl) ?_
  refine lv_aload_n hx hb dDA_makeSignature_2 rfl (lv_at hl 2 rfl) ?_
  refine mp_v (cx := []) (wr := []) hP hD hS hA [] [] rfl rfl rfl (by decide) (va_runV (As := [.ref st, .ref sk]) (rest := []) F (N_DA_readSecret_0 l g _ T s pl hO hU h0 st sk psk k_h0 k_st k_sk n_sk) (cwV 2 hts (wg_app (wg_c kw_1179 (wg_c kw_1181 (wg_c ks_34 (wg_c kw_5 wg_n)))) kw_1182) rfl rfl rfl (by decide +kernel) ⟨by decide, by decide⟩) (pn_W "LatticeKeys$Dsa" (en_ok g) (ci := 6) (kn := 39) (fl := [(3, 16), (3, 22), (3, 37), (3, 40), (3, 97), (3, 105), (3, 114), (3, 123), (3, 131), (3, 140), (3, 141), (3, 142), (3, 143), (3, 144), (3, 145), (3, 146), (3, 147)]) hK hO k_h0 rfl hP hD hS hA hE [] rfl rfl rfl) rfl rfl hl.1 rfl (lv_room (Nat.le_of_ble_eq_true rfl)) dDA_makeSignature_3 ⟨by omega, by omega⟩) (fun  u21 H locs hu21 hP hD hS => ?_)
  obtain ⟨s21, pl⟩ := u21
  obtain ⟨⟨eq21, hFc21, -⟩, hO⟩ := hu21
  have hO : okn g T s21 pl := hO
  have hP : va_P g.1 vcl ([] ++ pl) _ := hP
  have hD : va_D _ ([] ++ pl) := hD
  have hFc21 : frm (M_DA_readSecret_0) s s21 := hFc21
  replace hR := bnd_step hR eq21
  have hF := frm_tr hF hFc21 (fun k hk => by unfold M_DA_readSecret_0 at hk; unfold M_DA_makeSignatureA_0; omega)
  have hg21 : (s21.1 2) = s.1 2 := by rw [hFc21 2 (by unfold M_DA_readSecret_0; omega)]
  refine W.widen (k := 0) (n := 0) (by omega) (by omega) ?_
  refine lv_aload_n hx hb dDA_makeSignature_6 rfl (lv_at hl 2 rfl) ?_
  refine lv_bipush (v := nI 64) hx hb dDA_makeSignature_7 (by decide) ?_
  refine lv_aload_n hx hb dDA_makeSignature_9 rfl (lv_at hl 0 rfl) ?_
  refine nw_get (C := "LatticeKeys$Dsa") (TT := T_DA) (N := 17) hx hb hts (wg_ft i_DA) hown hK hO k_h0 (kn := 39) (ci := 6) (fl := [(3, 16), (3, 22), (3, 37), (3, 40), (3, 97), (3, 105), (3, 114), (3, 123), (3, 131), (3, 140), (3, 141), (3, 142), (3, 143), (3, 144), (3, 145), (3, 146), (3, 147)]) rfl hP rfl 12 (by decide) (hts _ (wg_t kw_177)) (fun _ h9 => h9) (cd := (3, 143)) rfl dDA_makeSignature_10 (fun v21 hv21 => ?_)
  obtain ⟨r21, rfl, kr21⟩ := (show ∃ r : Nat, v21 = .ref r ∧ T r = some 143 from hv21)
  refine lv_iconst (v := nI 0) hx hb dDA_makeSignature_13 (by decide) ?_
  refine lv_bipush (v := nI 64) hx hb dDA_makeSignature_14 (by decide) ?_
  refine nw_copyb hx hb (hml.trans hl.1.symm) hown (hts _ (wg_t kw_674)) (hts _ (wg_t kw_526)) (hts _ (wg_t kw_525)) (hts _ (wg_t kw_19)) hK hO hU k_sk (k0 := psk) n_sk kr21 (k1 := 143) rfl hP hD hS (sp := 64) (dp := 0) (n := 64) (by omega) (by omega) (by omega) (by decide) (Nat.le_of_ble_eq_true rfl) dDA_makeSignature_16 (fun s22 pl H locs es21 hO hP hD hS => ?_)
  replace hR := bnd_step hR es21
  have hF := frm_sC hF es21 (by unfold M_DA_makeSignatureA_0; omega)
  have hg22 : (s22.1 2) = s.1 2 := by rw [(ar_sC es21 (by omega))]; exact hg21
  refine lv_aload_n hx hb dDA_makeSignature_19 rfl (lv_at hl 0 rfl) ?_
  refine lv_aload_n hx hb dDA_makeSignature_20 rfl (lv_at hl 3 rfl) ?_
  refine lv_bipush (v := nI 32) hx hb dDA_makeSignature_21 (by decide) ?_
  refine lv_iload hx hb dDA_makeSignature_23 (lv_at hl 4 rfl) ?_
  refine lv_iload hx hb dDA_makeSignature_25 (lv_at hl 5 rfl) ?_
  refine mp_v (cx := []) (wr := []) hP hD hS hA [] [] rfl rfl rfl (by decide) (va_runV (As := [.ref tp, .int (nI 32), .int (nI len), .int cl_]) (rest := []) F (N_DA_digestMessage l g _ T s22 pl hO hU h0 tp 1 16384 32 len cl_ k_h0 k_tp rfl (by omega) (by omega) (by omega)) (cwV 4 hts (wg_app (wg_c kw_1188 (wg_c kw_1190 (wg_c ks_36 (wg_c kw_5 wg_n)))) kw_1191) rfl rfl rfl (by decide +kernel) ⟨by decide, by decide⟩) (pn_W "LatticeKeys$Dsa" (en_ok g) (ci := 6) (kn := 39) (fl := [(3, 16), (3, 22), (3, 37), (3, 40), (3, 97), (3, 105), (3, 114), (3, 123), (3, 131), (3, 140), (3, 141), (3, 142), (3, 143), (3, 144), (3, 145), (3, 146), (3, 147)]) hK hO k_h0 rfl hP hD hS hA hE [] rfl rfl rfl) rfl rfl hl.1 rfl (lv_room (Nat.le_of_ble_eq_true rfl)) dDA_makeSignature_27 ⟨by omega, by omega⟩) (fun  u22 H locs hu22 hP hD hS => ?_)
  obtain ⟨s23, pl⟩ := u22
  obtain ⟨⟨eq22, hFc22, -⟩, hO⟩ := hu22
  have hO : okn g T s23 pl := hO
  have hP : va_P g.1 vcl ([] ++ pl) _ := hP
  have hD : va_D _ ([] ++ pl) := hD
  have hFc22 : frm (M_DA_digestMessage) s22 s23 := hFc22
  replace hR := bnd_step hR eq22
  have hF := frm_tr hF hFc22 (fun k hk => by unfold M_DA_digestMessage at hk; unfold M_DA_makeSignatureA_0; omega)
  have hg23 : (s23.1 2) = s.1 2 := by rw [hFc22 2 (by unfold M_DA_digestMessage; omega)]; exact hg22
  refine W.widen (k := 0) (n := 0) (by omega) (by omega) ?_
  refine lv_aload_n hx hb dDA_makeSignature_30 rfl (lv_at hl 0 rfl) ?_
  refine nw_get (C := "LatticeKeys$Dsa") (TT := T_DA) (N := 17) hx hb hts (wg_ft i_DA) hown hK hO k_h0 (kn := 39) (ci := 6) (fl := [(3, 16), (3, 22), (3, 37), (3, 40), (3, 97), (3, 105), (3, 114), (3, 123), (3, 131), (3, 140), (3, 141), (3, 142), (3, 143), (3, 144), (3, 145), (3, 146), (3, 147)]) rfl hP rfl 0 (by decide) (hts _ (wg_t kw_165)) (fun _ h9 => h9) (cd := (3, 16)) rfl dDA_makeSignature_31 (fun v22 hv22 => ?_)
  obtain ⟨r22, rfl, kr22⟩ := (show ∃ r : Nat, v22 = .ref r ∧ T r = some 16 from hv22)
  refine lv_iconst (v := nI 3) hx hb dDA_makeSignature_34 (by decide) ?_
  refine mp_v (cx := []) (wr := []) hP hD hS hA [] [] rfl rfl rfl (by decide) (va_runV (As := [.int (nI 3)]) (rest := []) F (N_SP_start_3 l g _ T s23 pl hO hU r22 16 17 kr22 rfl rfl) (cwV 1 hts (wg_app (wg_c kw_669 (wg_c kw_579 (wg_c kw_580 (wg_c kw_2 wg_n)))) kw_581) rfl rfl rfl (by decide +kernel) ⟨by decide, by decide⟩) (pn_W "LatticeKeys$Sponge" (en_ok g) (ci := 3) (kn := 16) (fl := [(3, 17), (0, 0), (0, 0), (0, 0)]) hK hO kr22 rfl hP hD hS hA hE [] rfl rfl rfl) rfl rfl hl.1 rfl (lv_room (Nat.le_of_ble_eq_true rfl)) dDA_makeSignature_35 ⟨by omega, by omega⟩) (fun  u23 H locs hu23 hP hD hS => ?_)
  obtain ⟨s24, pl⟩ := u23
  obtain ⟨⟨eq23, hFc23, ⟨x23, hx_23, hb_23⟩, ⟨x24, hx_24, hb_24⟩, -⟩, hO⟩ := hu23
  have hO : okn g T s24 pl := hO
  have hP : va_P g.1 vcl ([] ++ pl) _ := hP
  have hD : va_D _ ([] ++ pl) := hD
  have hFc23 : frm (M_SP_start_3 16) s23 s24 := hFc23
  have hb_23 : x23 = 0 := hb_23
  have hb_24 : x24 = 136 := hb_24
  replace hR := bnd_step hR eq23
  have hF := frm_tr hF hFc23 (fun k hk => by unfold M_SP_start_3 at hk; unfold M_DA_makeSignatureA_0; omega)
  have hg24 : (s24.1 2) = s.1 2 := by rw [hFc23 2 (by unfold M_SP_start_3; omega)]; exact hg23
  refine W.widen (k := 0) (n := 0) (by omega) (by omega) ?_
  refine lv_aload_n hx hb dDA_makeSignature_38 rfl (lv_at hl 0 rfl) ?_
  refine nw_get (C := "LatticeKeys$Dsa") (TT := T_DA) (N := 17) hx hb hts (wg_ft i_DA) hown hK hO k_h0 (kn := 39) (ci := 6) (fl := [(3, 16), (3, 22), (3, 37), (3, 40), (3, 97), (3, 105), (3, 114), (3, 123), (3, 131), (3, 140), (3, 141), (3, 142), (3, 143), (3, 144), (3, 145), (3, 146), (3, 147)]) rfl hP rfl 0 (by decide) (hts _ (wg_t kw_165)) (fun _ h9 => h9) (cd := (3, 16)) rfl dDA_makeSignature_39 (fun v23 hv23 => ?_)
  obtain ⟨r23, rfl, kr23⟩ := (show ∃ r : Nat, v23 = .ref r ∧ T r = some 16 from hv23)
  refine lv_aload_n hx hb dDA_makeSignature_42 rfl (lv_at hl 2 rfl) ?_
  refine lv_bipush (v := nI 32) hx hb dDA_makeSignature_43 (by decide) ?_
  refine lv_bipush (v := nI 32) hx hb dDA_makeSignature_45 (by decide) ?_
  refine mp_v (cx := []) (wr := []) hP hD hS hA [] [] rfl rfl rfl (by decide) (va_runV (As := [.ref sk, .int (nI 32), .int (nI 32)]) (rest := []) F (N_SP_absorb l g _ T s24 pl hO hU r23 sk 16 17 psk 2560 32 32 x23 x24 kr23 rfl rfl k_sk n_sk hx_23 hx_24 (by omega) (by omega) (by omega) (by omega)) (cwV 3 hts (wg_app (wg_c kw_670 (wg_c kw_586 (wg_c kw_587 (wg_c kw_2 wg_n)))) kw_588) rfl rfl rfl (by decide +kernel) ⟨by decide, by decide⟩) (pn_W "LatticeKeys$Sponge" (en_ok g) (ci := 3) (kn := 16) (fl := [(3, 17), (0, 0), (0, 0), (0, 0)]) hK hO kr23 rfl hP hD hS hA hE [] rfl rfl rfl) rfl rfl hl.1 rfl (lv_room (Nat.le_of_ble_eq_true rfl)) dDA_makeSignature_47 ⟨by omega, by omega⟩) (fun  u24 H locs hu24 hP hD hS => ?_)
  obtain ⟨s25, pl⟩ := u24
  obtain ⟨⟨eq24, hFc24, ⟨x26, hx_26, hb_26⟩, ⟨x27, hx_27, hb_27⟩, -⟩, hO⟩ := hu24
  have hO : okn g T s25 pl := hO
  have hP : va_P g.1 vcl ([] ++ pl) _ := hP
  have hD : va_D _ ([] ++ pl) := hD
  have hFc24 : frm (M_SP_absorb 16) s24 s25 := hFc24
  have hb_26 : x26 < x24 := hb_26
  have hb_27 : x27 = x24 := hb_27
  replace hR := bnd_step hR eq24
  have hF := frm_tr hF hFc24 (fun k hk => by unfold M_SP_absorb at hk; unfold M_DA_makeSignatureA_0; omega)
  have hg25 : (s25.1 2) = s.1 2 := by rw [hFc24 2 (by unfold M_SP_absorb; omega)]; exact hg24
  refine W.widen (k := 0) (n := 0) (by omega) (by omega) ?_
  refine lv_aload_n hx hb dDA_makeSignature_50 rfl (lv_at hl 0 rfl) ?_
  refine nw_get (C := "LatticeKeys$Dsa") (TT := T_DA) (N := 17) hx hb hts (wg_ft i_DA) hown hK hO k_h0 (kn := 39) (ci := 6) (fl := [(3, 16), (3, 22), (3, 37), (3, 40), (3, 97), (3, 105), (3, 114), (3, 123), (3, 131), (3, 140), (3, 141), (3, 142), (3, 143), (3, 144), (3, 145), (3, 146), (3, 147)]) rfl hP rfl 0 (by decide) (hts _ (wg_t kw_165)) (fun _ h9 => h9) (cd := (3, 16)) rfl dDA_makeSignature_51 (fun v24 hv24 => ?_)
  obtain ⟨r24, rfl, kr24⟩ := (show ∃ r : Nat, v24 = .ref r ∧ T r = some 16 from hv24)
  refine lv_aload_n hx hb dDA_makeSignature_54 rfl (lv_at hl 3 rfl) ?_
  refine lv_iconst (v := nI 0) hx hb dDA_makeSignature_55 (by decide) ?_
  refine lv_bipush (v := nI 32) hx hb dDA_makeSignature_56 (by decide) ?_
  refine mp_v (cx := []) (wr := []) hP hD hS hA [] [] rfl rfl rfl (by decide) (va_runV (As := [.ref tp, .int (nI 0), .int (nI 32)]) (rest := []) F (N_SP_absorb l g _ T s25 pl hO hU r24 tp 16 17 1 16384 0 32 x26 x27 kr24 rfl rfl k_tp rfl hx_26 hx_27 (by omega) (by omega) (by omega) (by omega)) (cwV 3 hts (wg_app (wg_c kw_670 (wg_c kw_586 (wg_c kw_587 (wg_c kw_2 wg_n)))) kw_588) rfl rfl rfl (by decide +kernel) ⟨by decide, by decide⟩) (pn_W "LatticeKeys$Sponge" (en_ok g) (ci := 3) (kn := 16) (fl := [(3, 17), (0, 0), (0, 0), (0, 0)]) hK hO kr24 rfl hP hD hS hA hE [] rfl rfl rfl) rfl rfl hl.1 rfl (lv_room (Nat.le_of_ble_eq_true rfl)) dDA_makeSignature_58 ⟨by omega, by omega⟩) (fun  u25 H locs hu25 hP hD hS => ?_)
  obtain ⟨s26, pl⟩ := u25
  obtain ⟨⟨eq25, hFc25, ⟨x29, hx_29, hb_29⟩, ⟨x30, hx_30, hb_30⟩, -⟩, hO⟩ := hu25
  have hO : okn g T s26 pl := hO
  have hP : va_P g.1 vcl ([] ++ pl) _ := hP
  have hD : va_D _ ([] ++ pl) := hD
  have hFc25 : frm (M_SP_absorb 16) s25 s26 := hFc25
  have hb_29 : x29 < x27 := hb_29
  have hb_30 : x30 = x27 := hb_30
  replace hR := bnd_step hR eq25
  have hF := frm_tr hF hFc25 (fun k hk => by unfold M_SP_absorb at hk; unfold M_DA_makeSignatureA_0; omega)
  have hg26 : (s26.1 2) = s.1 2 := by rw [hFc25 2 (by unfold M_SP_absorb; omega)]; exact hg25
  refine W.widen (k := 0) (n := 0) (by omega) (by omega) ?_
  refine lv_aload_n hx hb dDA_makeSignature_61 rfl (lv_at hl 0 rfl) ?_
  refine nw_get (C := "LatticeKeys$Dsa") (TT := T_DA) (N := 17) hx hb hts (wg_ft i_DA) hown hK hO k_h0 (kn := 39) (ci := 6) (fl := [(3, 16), (3, 22), (3, 37), (3, 40), (3, 97), (3, 105), (3, 114), (3, 123), (3, 131), (3, 140), (3, 141), (3, 142), (3, 143), (3, 144), (3, 145), (3, 146), (3, 147)]) rfl hP rfl 0 (by decide) (hts _ (wg_t kw_165)) (fun _ h9 => h9) (cd := (3, 16)) rfl dDA_makeSignature_62 (fun v25 hv25 => ?_)
  obtain ⟨r25, rfl, kr25⟩ := (show ∃ r : Nat, v25 = .ref r ∧ T r = some 16 from hv25)
  refine lv_aload_n hx hb dDA_makeSignature_65 rfl (lv_at hl 0 rfl) ?_
  refine nw_get (C := "LatticeKeys$Dsa") (TT := T_DA) (N := 17) hx hb hts (wg_ft i_DA) hown hK hO k_h0 (kn := 39) (ci := 6) (fl := [(3, 16), (3, 22), (3, 37), (3, 40), (3, 97), (3, 105), (3, 114), (3, 123), (3, 131), (3, 140), (3, 141), (3, 142), (3, 143), (3, 144), (3, 145), (3, 146), (3, 147)]) rfl hP rfl 12 (by decide) (hts _ (wg_t kw_177)) (fun _ h9 => h9) (cd := (3, 143)) rfl dDA_makeSignature_66 (fun v26 hv26 => ?_)
  obtain ⟨r26, rfl, kr26⟩ := (show ∃ r : Nat, v26 = .ref r ∧ T r = some 143 from hv26)
  refine lv_iconst (v := nI 0) hx hb dDA_makeSignature_69 (by decide) ?_
  refine lv_bipush (v := nI 64) hx hb dDA_makeSignature_70 (by decide) ?_
  refine mp_v (cx := []) (wr := []) hP hD hS hA [] [] rfl rfl rfl (by decide) (va_runV (As := [.ref r26, .int (nI 0), .int (nI 64)]) (rest := []) F (N_SP_absorb l g _ T s26 pl hO hU r25 r26 16 17 143 64 0 64 x29 x30 kr25 rfl rfl kr26 rfl hx_29 hx_30 (by omega) (by omega) (by omega) (by omega)) (cwV 3 hts (wg_app (wg_c kw_670 (wg_c kw_586 (wg_c kw_587 (wg_c kw_2 wg_n)))) kw_588) rfl rfl rfl (by decide +kernel) ⟨by decide, by decide⟩) (pn_W "LatticeKeys$Sponge" (en_ok g) (ci := 3) (kn := 16) (fl := [(3, 17), (0, 0), (0, 0), (0, 0)]) hK hO kr25 rfl hP hD hS hA hE [] rfl rfl rfl) rfl rfl hl.1 rfl (lv_room (Nat.le_of_ble_eq_true rfl)) dDA_makeSignature_72 ⟨by omega, by omega⟩) (fun  u26 H locs hu26 hP hD hS => ?_)
  obtain ⟨s27, pl⟩ := u26
  obtain ⟨⟨eq26, hFc26, ⟨x32, hx_32, hb_32⟩, ⟨x33, hx_33, hb_33⟩, -⟩, hO⟩ := hu26
  have hO : okn g T s27 pl := hO
  have hP : va_P g.1 vcl ([] ++ pl) _ := hP
  have hD : va_D _ ([] ++ pl) := hD
  have hFc26 : frm (M_SP_absorb 16) s26 s27 := hFc26
  have hb_32 : x32 < x30 := hb_32
  have hb_33 : x33 = x30 := hb_33
  replace hR := bnd_step hR eq26
  have hF := frm_tr hF hFc26 (fun k hk => by unfold M_SP_absorb at hk; unfold M_DA_makeSignatureA_0; omega)
  have hg27 : (s27.1 2) = s.1 2 := by rw [hFc26 2 (by unfold M_SP_absorb; omega)]; exact hg26
  refine W.widen (k := 0) (n := 0) (by omega) (by omega) ?_
  refine lv_aload_n hx hb dDA_makeSignature_75 rfl (lv_at hl 0 rfl) ?_
  refine nw_get (C := "LatticeKeys$Dsa") (TT := T_DA) (N := 17) hx hb hts (wg_ft i_DA) hown hK hO k_h0 (kn := 39) (ci := 6) (fl := [(3, 16), (3, 22), (3, 37), (3, 40), (3, 97), (3, 105), (3, 114), (3, 123), (3, 131), (3, 140), (3, 141), (3, 142), (3, 143), (3, 144), (3, 145), (3, 146), (3, 147)]) rfl hP rfl 0 (by decide) (hts _ (wg_t kw_165)) (fun _ h9 => h9) (cd := (3, 16)) rfl dDA_makeSignature_76 (fun v27 hv27 => ?_)
  obtain ⟨r27, rfl, kr27⟩ := (show ∃ r : Nat, v27 = .ref r ∧ T r = some 16 from hv27)
  refine mp_v (cx := []) (wr := []) hP hD hS hA [] [] rfl rfl rfl (by decide) (va_runV (As := []) (rest := []) F (N_SP_finish l g _ T s27 pl hO hU r27 16 17 x32 x33 kr27 rfl rfl hx_32 hx_33 (by omega) (by omega)) (cwV 0 hts (wg_app (wg_c kw_672 (wg_c kw_611 (wg_c kw_612 (wg_c kw_2 wg_n)))) kw_613) rfl rfl rfl (by decide +kernel) ⟨by decide, by decide⟩) (pn_W "LatticeKeys$Sponge" (en_ok g) (ci := 3) (kn := 16) (fl := [(3, 17), (0, 0), (0, 0), (0, 0)]) hK hO kr27 rfl hP hD hS hA hE [] rfl rfl rfl) rfl rfl hl.1 rfl (lv_room (Nat.le_of_ble_eq_true rfl)) dDA_makeSignature_79 ⟨by omega, by omega⟩) (fun  u27 H locs hu27 hP hD hS => ?_)
  obtain ⟨s28, pl⟩ := u27
  obtain ⟨⟨eq27, hFc27, ⟨x35, hx_35, hb_35⟩, ⟨x36, hx_36, hb_36⟩, -⟩, hO⟩ := hu27
  have hO : okn g T s28 pl := hO
  have hP : va_P g.1 vcl ([] ++ pl) _ := hP
  have hD : va_D _ ([] ++ pl) := hD
  have hFc27 : frm (M_SP_finish 16) s27 s28 := hFc27
  have hb_35 : x35 = x33 := hb_35
  have hb_36 : x36 = x33 := hb_36
  replace hR := bnd_step hR eq27
  have hF := frm_tr hF hFc27 (fun k hk => by unfold M_SP_finish at hk; unfold M_DA_makeSignatureA_0; omega)
  have hg28 : (s28.1 2) = s.1 2 := by rw [hFc27 2 (by unfold M_SP_finish; omega)]; exact hg27
  refine W.widen (k := 0) (n := 0) (by omega) (by omega) ?_
  refine lv_aload_n hx hb dDA_makeSignature_82 rfl (lv_at hl 0 rfl) ?_
  refine nw_get (C := "LatticeKeys$Dsa") (TT := T_DA) (N := 17) hx hb hts (wg_ft i_DA) hown hK hO k_h0 (kn := 39) (ci := 6) (fl := [(3, 16), (3, 22), (3, 37), (3, 40), (3, 97), (3, 105), (3, 114), (3, 123), (3, 131), (3, 140), (3, 141), (3, 142), (3, 143), (3, 144), (3, 145), (3, 146), (3, 147)]) rfl hP rfl 0 (by decide) (hts _ (wg_t kw_165)) (fun _ h9 => h9) (cd := (3, 16)) rfl dDA_makeSignature_83 (fun v28 hv28 => ?_)
  obtain ⟨r28, rfl, kr28⟩ := (show ∃ r : Nat, v28 = .ref r ∧ T r = some 16 from hv28)
  refine lv_aload_n hx hb dDA_makeSignature_86 rfl (lv_at hl 0 rfl) ?_
  refine nw_get (C := "LatticeKeys$Dsa") (TT := T_DA) (N := 17) hx hb hts (wg_ft i_DA) hown hK hO k_h0 (kn := 39) (ci := 6) (fl := [(3, 16), (3, 22), (3, 37), (3, 40), (3, 97), (3, 105), (3, 114), (3, 123), (3, 131), (3, 140), (3, 141), (3, 142), (3, 143), (3, 144), (3, 145), (3, 146), (3, 147)]) rfl hP rfl 11 (by decide) (hts _ (wg_t kw_176)) (fun _ h9 => h9) (cd := (3, 142)) rfl dDA_makeSignature_87 (fun v29 hv29 => ?_)
  obtain ⟨r29, rfl, kr29⟩ := (show ∃ r : Nat, v29 = .ref r ∧ T r = some 142 from hv29)
  refine lv_iconst (v := nI 0) hx hb dDA_makeSignature_90 (by decide) ?_
  refine lv_bipush (v := nI 64) hx hb dDA_makeSignature_91 (by decide) ?_
  refine mp_v (cx := []) (wr := []) hP hD hS hA [] [] rfl rfl rfl (by decide) (va_runV (As := [.ref r29, .int (nI 0), .int (nI 64)]) (rest := []) F (N_SP_squeeze l g _ T s28 pl hO hU r28 r29 16 17 142 128 0 64 x35 x36 kr28 rfl rfl kr29 rfl hx_35 hx_36 (by omega) (by omega) (by omega) (by omega)) (cwV 3 hts (wg_app (wg_c kw_673 (wg_c kw_615 (wg_c kw_616 (wg_c kw_2 wg_n)))) kw_617) rfl rfl rfl (by decide +kernel) ⟨by decide, by decide⟩) (pn_W "LatticeKeys$Sponge" (en_ok g) (ci := 3) (kn := 16) (fl := [(3, 17), (0, 0), (0, 0), (0, 0)]) hK hO kr28 rfl hP hD hS hA hE [] rfl rfl rfl) rfl rfl hl.1 rfl (lv_room (Nat.le_of_ble_eq_true rfl)) dDA_makeSignature_93 ⟨by omega, by omega⟩) (fun  u28 H locs hu28 hP hD hS => ?_)
  obtain ⟨s29, pl⟩ := u28
  obtain ⟨⟨eq28, hFc28, ⟨x38, hx_38, hb_38⟩, ⟨x39, hx_39, hb_39⟩, -⟩, hO⟩ := hu28
  have hO : okn g T s29 pl := hO
  have hP : va_P g.1 vcl ([] ++ pl) _ := hP
  have hD : va_D _ ([] ++ pl) := hD
  have hFc28 : frm (M_SP_squeeze 16 142) s28 s29 := hFc28
  have hb_38 : x38 ≤ x36 := hb_38
  have hb_39 : x39 = x36 := hb_39
  replace hR := bnd_step hR eq28
  have hF := frm_tr hF hFc28 (fun k hk => by unfold M_SP_squeeze at hk; unfold M_DA_makeSignatureA_0; omega)
  have hg29 : (s29.1 2) = s.1 2 := by rw [hFc28 2 (by unfold M_SP_squeeze; omega)]; exact hg28
  refine W.widen (k := 0) (n := 0) (by omega) (by omega) ?_
  refine lv_iconst (v := nI 1) hx hb dDA_makeSignature_96 (by decide) ?_
  refine lv_istore (lv' := [(7, .int (nI 1)), (0, .ref h0), (1, .ref st), (2, .ref sk), (3, .ref tp), (4, .int (nI len)), (5, .int cl_), (6, .ref to)]) hx hb dDA_makeSignature_97 hl (by decide) rfl (fun ls hl => ?_)
  have lp21 : ∀ (n21 : Nat) (i21 : Nat) (s30 : Sto) (pl : va_W) (ls : Array Slot) (H : Heap) (locs : List Loc), n21 + i21 = 201 → (1 ≤ i21) → frm (M_DA_makeSignatureA_0) s s30 → ((s30.1 2) = s.1 2) → F_DA_makeSignatureA_0 psk len cl_ s = F_DA_makeSignatureA_0_L0 n21 i21 s30 → lv_has ls 8 [(7, .int (nI i21)), (0, .ref h0), (1, .ref st), (6, .ref to)] → okn g T s30 pl → va_P g.1 vcl ([] ++ pl) H → va_D A ([] ++ pl) → va_S A s0.heap H locs → W p l e ({ frames := 6, cells := 0, slots := 0, locals := 176 } : Room) s0 m args below meth c H locs 0 0 (MQ below (va_Qi (fun (r : Int32) (u : (Int32 × Sto) × va_W) => (u.1 = F_DA_makeSignatureA_0 psk len cl_ s ∧ r = u.1.1 ∧ frm (M_DA_makeSignatureA_0) s u.1.2 ∧ (u.1.1 = nI 0 → u.1.2.1 2 = s.1 2) ∧ True) ∧ okn g T u.1.2 u.2) (po g.1 vcl A (fun (u : (Int32 × Sto) × va_W) => [] ++ u.2)) A) args s0 0 0 A) (F0 m 99 ls []) := by
    intro n21
    induction n21 with
    | zero =>
      intro i21 s30 pl ls H locs hm21 hi21 hF hg30 hR hl hO hP hD hS
      refine lv_iload hx hb dDA_makeSignature_99 (lv_at hl 0 rfl) ?_
      refine lv_sipush (v := nI 200) hx hb dDA_makeSignature_101 (by decide) ?_
      refine mi_gt (tgt := 161) hx hb dDA_makeSignature_104 (by decide) (by omega) (by omega) (fun h21 => ?_) (fun h21 => absurd h21 (by omega))
      refine lv_iconst (v := nI 0) hx hb dDA_makeSignature_161 (by decide) ?_
      exact mp_iret hx hb hr hlk hP hD hS ((nI 0, s30), pl) ⟨⟨hR.symm, rfl, hF, (fun _ => hg30), trivial⟩, hO⟩ [] rfl rfl rfl (by omega) (by omega) dDA_makeSignature_162
    | succ n21 ih21 =>
      intro i21 s30 pl ls H locs hm21 hi21 hF hg30 hR hl hO hP hD hS
      refine lv_iload hx hb dDA_makeSignature_99 (lv_at hl 0 rfl) ?_
      refine lv_sipush (v := nI 200) hx hb dDA_makeSignature_101 (by decide) ?_
      refine mi_gt (tgt := 161) hx hb dDA_makeSignature_104 (by decide) (by omega) (by omega) (fun h22 => absurd h22 (by omega)) (fun h22 => ?_)
      refine lv_aload_n hx hb dDA_makeSignature_107 rfl (lv_at hl 1 rfl) ?_
      refine lv_aload_n hx hb dDA_makeSignature_108 rfl (lv_at hl 2 rfl) ?_
      refine lv_aload_n hx hb dDA_makeSignature_109 rfl (lv_at hl 2 rfl) ?_
      refine nw_get (C := "LatticeKeys$DsaSet") (TT := T_DS) (N := 17) hx hb hts (wg_ft i_DS) hown hK hO k_st (kn := 9) (ci := 2) (fl := [(1, 4), (1, 4), (1, 2), (1, 3), (1, 39), (1, 32), (1, 18), (1, 131072), (1, 44), (1, 6), (1, 95232), (1, 80), (1, 78), (1, 1312), (1, 2560), (1, 2336), (1, 2420)]) rfl hP rfl 1 (by decide) (hts _ (wg_t kw_305)) (fun _ h9 => h9) (cd := (1, 4)) rfl dDA_makeSignature_110 (fun v30 hv30 => ?_)
      obtain rfl := (show v30 = .int (nI 4) from hv30)
      refine lv_iload hx hb dDA_makeSignature_113 (lv_at hl 0 rfl) ?_
      refine lv_iconst (v := nI 1) hx hb dDA_makeSignature_115 (by decide) ?_
      refine mi_isub hx hb dDA_makeSignature_116 (by omega) ?_
      refine mi_imul hx hb dDA_makeSignature_117 ?_
      refine mp_v (cx := []) (wr := []) hP hD hS hA [] [] rfl rfl rfl (by decide) (va_runV (As := [.ref st, .int (nI (4 * (i21 - 1)))]) (rest := []) F (N_DA_commit_0 l g _ T s30 pl hO hU h0 st (nI (4 * (i21 - 1))) k_h0 k_st) (cwV 2 hts (wg_app (wg_c kw_1192 (wg_c kw_1194 (wg_c ks_37 (wg_c kw_5 wg_n)))) kw_1195) rfl rfl rfl (by decide +kernel) ⟨by decide, by decide⟩) (pn_W "LatticeKeys$Dsa" (en_ok g) (ci := 6) (kn := 39) (fl := [(3, 16), (3, 22), (3, 37), (3, 40), (3, 97), (3, 105), (3, 114), (3, 123), (3, 131), (3, 140), (3, 141), (3, 142), (3, 143), (3, 144), (3, 145), (3, 146), (3, 147)]) hK hO k_h0 rfl hP hD hS hA hE [] rfl rfl rfl) rfl rfl hl.1 rfl (lv_room (Nat.le_of_ble_eq_true rfl)) dDA_makeSignature_118 ⟨by omega, by omega⟩) (fun  u29 H locs hu29 hP hD hS => ?_)
      obtain ⟨s31, pl⟩ := u29
      obtain ⟨⟨eq29, hFc29, -⟩, hO⟩ := hu29
      have hO : okn g T s31 pl := hO
      have hP : va_P g.1 vcl ([] ++ pl) _ := hP
      have hD : va_D _ ([] ++ pl) := hD
      have hFc29 : frm (M_DA_commit_0) s30 s31 := hFc29
      replace hR := bnd_step hR eq29
      have hF := frm_tr hF hFc29 (fun k hk => by unfold M_DA_commit_0 at hk; unfold M_DA_makeSignatureA_0; omega)
      have hg31 : (s31.1 2) = s.1 2 := by rw [hFc29 2 (by unfold M_DA_commit_0; omega)]; exact hg30
      refine W.widen (k := 0) (n := 0) (by omega) (by omega) ?_
      refine lv_aload_n hx hb dDA_makeSignature_121 rfl (lv_at hl 1 rfl) ?_
      refine lv_aload_n hx hb dDA_makeSignature_122 rfl (lv_at hl 2 rfl) ?_
      refine mp_i (cx := []) (wr := []) hP hD hS hA [] [] rfl rfl rfl (by decide) (va_runV (As := [.ref st]) (rest := []) F (N_DA_answerIsShort_0 l g _ T s31 pl hO hU h0 st k_h0 k_st) (cwV 1 hts (wg_app (wg_c kw_1220 (wg_c kw_1222 (wg_c ks_40 (wg_c kw_5 wg_n)))) kw_1223) rfl rfl rfl (by decide +kernel) ⟨by decide, by decide⟩) (pn_W "LatticeKeys$Dsa" (en_ok g) (ci := 6) (kn := 39) (fl := [(3, 16), (3, 22), (3, 37), (3, 40), (3, 97), (3, 105), (3, 114), (3, 123), (3, 131), (3, 140), (3, 141), (3, 142), (3, 143), (3, 144), (3, 145), (3, 146), (3, 147)]) hK hO k_h0 rfl hP hD hS hA hE [] rfl rfl rfl) rfl rfl hl.1 rfl (lv_room (Nat.le_of_ble_eq_true rfl)) dDA_makeSignature_123 ⟨by omega, by omega⟩) (fun r30 u30 H locs hu30 hP hD hS => ?_)
      obtain ⟨q21, pl⟩ := u30
      obtain ⟨⟨eq30, rfl, hFc30, -⟩, hO⟩ := hu30
      have hO : okn g T q21.2 pl := hO
      have hP : va_P g.1 vcl ([] ++ pl) _ := hP
      have hD : va_D _ ([] ++ pl) := hD
      have hFc30 : frm (M_DA_answerIsShort_0) s31 q21.2 := hFc30
      replace hR := bnd_step hR eq30
      have hF := frm_tr hF hFc30 (fun k hk => by unfold M_DA_answerIsShort_0 at hk; unfold M_DA_makeSignatureA_0; omega)
      have hg32 : (q21.2.1 2) = s.1 2 := by rw [hFc30 2 (by unfold M_DA_answerIsShort_0; omega)]; exact hg31
      refine W.widen (k := 0) (n := 0) (by omega) (by omega) ?_
      refine lv_if_eq (tgt := 155) hx hb dDA_makeSignature_126 (by decide) (fun h23 => ?_) (fun h23 => ?_)
      · replace hR := hR.trans (if_pos h23)
        refine mi_iinc (k := 0) (x := i21) (d := 1) (y := i21 + 1) (lv' := [(7, .int (nI (i21 + 1))), (0, .ref h0), (1, .ref st), (6, .ref to)]) hx hb dDA_makeSignature_155 hl rfl (by decide) rfl (by decide) rfl (fun ls hl => ?_)
        refine lv_goto (tgt := 99) hx hb dDA_makeSignature_158 (by decide) ?_
        exact ih21 (i21 + 1) q21.2 pl ls H locs (by omega) (by omega) hF hg32 hR (lv_sub hl [0, 1, 2, 3] rfl) hO hP hD hS
      · replace hR := hR.trans (if_neg h23)
        refine lv_aload_n hx hb dDA_makeSignature_129 rfl (lv_at hl 1 rfl) ?_
        refine lv_aload_n hx hb dDA_makeSignature_130 rfl (lv_at hl 2 rfl) ?_
        refine mp_i (cx := []) (wr := []) hP hD hS hA [] [] rfl rfl rfl (by decide) (va_runV (As := [.ref st]) (rest := []) F (N_DA_restIsShort_0 l g _ T q21.2 pl hO hU h0 st k_h0 k_st) (cwV 1 hts (wg_app (wg_c kw_1232 (wg_c kw_1234 (wg_c ks_42 (wg_c kw_5 wg_n)))) kw_1235) rfl rfl rfl (by decide +kernel) ⟨by decide, by decide⟩) (pn_W "LatticeKeys$Dsa" (en_ok g) (ci := 6) (kn := 39) (fl := [(3, 16), (3, 22), (3, 37), (3, 40), (3, 97), (3, 105), (3, 114), (3, 123), (3, 131), (3, 140), (3, 141), (3, 142), (3, 143), (3, 144), (3, 145), (3, 146), (3, 147)]) hK hO k_h0 rfl hP hD hS hA hE [] rfl rfl rfl) rfl rfl hl.1 rfl (lv_room (Nat.le_of_ble_eq_true rfl)) dDA_makeSignature_131 ⟨by omega, by omega⟩) (fun r31 u31 H locs hu31 hP hD hS => ?_)
        obtain ⟨q22, pl⟩ := u31
        obtain ⟨⟨eq31, rfl, hFc31, -⟩, hO⟩ := hu31
        have hO : okn g T q22.2 pl := hO
        have hP : va_P g.1 vcl ([] ++ pl) _ := hP
        have hD : va_D _ ([] ++ pl) := hD
        have hFc31 : frm (M_DA_restIsShort_0) q21.2 q22.2 := hFc31
        replace hR := bnd_step hR eq31
        have hF := frm_tr hF hFc31 (fun k hk => by unfold M_DA_restIsShort_0 at hk; unfold M_DA_makeSignatureA_0; omega)
        have hg33 : (q22.2.1 2) = s.1 2 := by rw [hFc31 2 (by unfold M_DA_restIsShort_0; omega)]; exact hg32
        refine W.widen (k := 0) (n := 0) (by omega) (by omega) ?_
        refine lv_if_eq (tgt := 155) hx hb dDA_makeSignature_134 (by decide) (fun h24 => ?_) (fun h24 => ?_)
        · replace hR := hR.trans (if_pos h24)
          refine mi_iinc (k := 0) (x := i21) (d := 1) (y := i21 + 1) (lv' := [(7, .int (nI (i21 + 1))), (0, .ref h0), (1, .ref st), (6, .ref to)]) hx hb dDA_makeSignature_155 hl rfl (by decide) rfl (by decide) rfl (fun ls hl => ?_)
          refine lv_goto (tgt := 99) hx hb dDA_makeSignature_158 (by decide) ?_
          exact ih21 (i21 + 1) q22.2 pl ls H locs (by omega) (by omega) hF hg33 hR (lv_sub hl [0, 1, 2, 3] rfl) hO hP hD hS
        · replace hR := hR.trans (if_neg h24)
          refine lv_aload_n hx hb dDA_makeSignature_137 rfl (lv_at hl 1 rfl) ?_
          refine lv_aload_n hx hb dDA_makeSignature_138 rfl (lv_at hl 2 rfl) ?_
          refine mp_i (cx := []) (wr := []) hP hD hS hA [] [] rfl rfl rfl (by decide) (va_runV (As := [.ref st]) (rest := []) F (N_DA_makeHints_0 l g _ T q22.2 pl hO hU h0 st k_h0 k_st) (cwV 1 hts (wg_app (wg_c kw_1241 (wg_c kw_1243 (wg_c ks_43 (wg_c kw_5 wg_n)))) kw_1244) rfl rfl rfl (by decide +kernel) ⟨by decide, by decide⟩) (pn_W "LatticeKeys$Dsa" (en_ok g) (ci := 6) (kn := 39) (fl := [(3, 16), (3, 22), (3, 37), (3, 40), (3, 97), (3, 105), (3, 114), (3, 123), (3, 131), (3, 140), (3, 141), (3, 142), (3, 143), (3, 144), (3, 145), (3, 146), (3, 147)]) hK hO k_h0 rfl hP hD hS hA hE [] rfl rfl rfl) rfl rfl hl.1 rfl (lv_room (Nat.le_of_ble_eq_true rfl)) dDA_makeSignature_139 ⟨by omega, by omega⟩) (fun r32 u32 H locs hu32 hP hD hS => ?_)
          obtain ⟨q23, pl⟩ := u32
          obtain ⟨⟨eq32, rfl, hFc32, -⟩, hO⟩ := hu32
          have hO : okn g T q23.2 pl := hO
          have hP : va_P g.1 vcl ([] ++ pl) _ := hP
          have hD : va_D _ ([] ++ pl) := hD
          have hFc32 : frm (M_DA_makeHints_0) q22.2 q23.2 := hFc32
          replace hR := bnd_step hR eq32
          have hF := frm_tr hF hFc32 (fun k hk => by unfold M_DA_makeHints_0 at hk; unfold M_DA_makeSignatureA_0; omega)
          have hg34 : (q23.2.1 2) = s.1 2 := by rw [hFc32 2 (by unfold M_DA_makeHints_0; omega)]; exact hg33
          refine W.widen (k := 0) (n := 0) (by omega) (by omega) ?_
          refine lv_if_eq (tgt := 155) hx hb dDA_makeSignature_142 (by decide) (fun h25 => ?_) (fun h25 => ?_)
          · replace hR := hR.trans (if_pos h25)
            refine mi_iinc (k := 0) (x := i21) (d := 1) (y := i21 + 1) (lv' := [(7, .int (nI (i21 + 1))), (0, .ref h0), (1, .ref st), (6, .ref to)]) hx hb dDA_makeSignature_155 hl rfl (by decide) rfl (by decide) rfl (fun ls hl => ?_)
            refine lv_goto (tgt := 99) hx hb dDA_makeSignature_158 (by decide) ?_
            exact ih21 (i21 + 1) q23.2 pl ls H locs (by omega) (by omega) hF hg34 hR (lv_sub hl [0, 1, 2, 3] rfl) hO hP hD hS
          · replace hR := hR.trans (if_neg h25)
            refine lv_aload_n hx hb dDA_makeSignature_145 rfl (lv_at hl 1 rfl) ?_
            refine lv_aload_n hx hb dDA_makeSignature_146 rfl (lv_at hl 2 rfl) ?_
            refine lv_aload hx hb dDA_makeSignature_147 (lv_at hl 3 rfl) ?_
            refine mp_v (cx := []) (wr := []) hP hD hS hA [] [] rfl rfl rfl (by decide) (va_runV (As := [.ref st, .ref to]) (rest := []) F (N_DA_writeSignature_0 l g _ T q23.2 pl hO hU h0 st to 2 k_h0 k_st k_to rfl) (cwV 2 hts (wg_app (wg_c kw_1248 (wg_c kw_1250 (wg_c ks_44 (wg_c kw_5 wg_n)))) kw_1251) rfl rfl rfl (by decide +kernel) ⟨by decide, by decide⟩) (pn_W "LatticeKeys$Dsa" (en_ok g) (ci := 6) (kn := 39) (fl := [(3, 16), (3, 22), (3, 37), (3, 40), (3, 97), (3, 105), (3, 114), (3, 123), (3, 131), (3, 140), (3, 141), (3, 142), (3, 143), (3, 144), (3, 145), (3, 146), (3, 147)]) hK hO k_h0 rfl hP hD hS hA hE [] rfl rfl rfl) rfl rfl hl.1 rfl (lv_room (Nat.le_of_ble_eq_true rfl)) dDA_makeSignature_149 ⟨by omega, by omega⟩) (fun  u33 H locs hu33 hP hD hS => ?_)
            obtain ⟨s32, pl⟩ := u33
            obtain ⟨⟨eq33, hFc33, -⟩, hO⟩ := hu33
            have hO : okn g T s32 pl := hO
            have hP : va_P g.1 vcl ([] ++ pl) _ := hP
            have hD : va_D _ ([] ++ pl) := hD
            have hFc33 : frm (M_DA_writeSignature_0 2) q23.2 s32 := hFc33
            replace hR := bnd_step hR eq33
            have hF := frm_tr hF hFc33 (fun k hk => by unfold M_DA_writeSignature_0 at hk; unfold M_DA_makeSignatureA_0; omega)
            refine W.widen (k := 0) (n := 0) (by omega) (by omega) ?_
            refine lv_iload hx hb dDA_makeSignature_152 (lv_at hl 0 rfl) ?_
            exact mp_iret hx hb hr hlk hP hD hS ((nI i21, s32), pl) ⟨⟨hR.symm, rfl, hF, (fun h9 => absurd ((nI_eq (by omega) (by omega)).mp h9) (by omega)), trivial⟩, hO⟩ [] rfl rfl rfl (by omega) (by omega) dDA_makeSignature_154
  exact lp21 (201 - 1) 1 s29 pl ls _ _ (by omega) (by omega) hF hg29 hR (lv_sub hl [0, 1, 2, 7] rfl) hO hP hD hS
def M_DA_makeSignatureA_1 (k : Nat) : Prop := (106 ≤ k ∧ k < 114) ∨ (115 ≤ k ∧ k < 123) ∨ (124 ≤ k ∧ k < 131) ∨ (132 ≤ k ∧ k < 140) ∨ (41 ≤ k ∧ k < 97) ∨ (98 ≤ k ∧ k < 105) ∨ k = 140 ∨ k = 141 ∨ k = 142 ∨ k = 143 ∨ k = 144 ∨ k = 146 ∨ k = 147 ∨ k = 16 ∨ k = 18 ∨ k = 2 ∨ k = 38 ∨ (0 : Nat) = 1
noncomputable def F_DA_makeSignatureA_1_L0 : Nat → Nat → Sto → Int32 × Sto
  | 0, i21, s30 => (nI 0, s30)
  | n21 + 1, i21, s30 => bnd (F_DA_commit_1 (nI (5 * (i21 - 1))) s30) fun s31 => bnd (F_DA_answerIsShort_1  s31) fun q21 => if (q21.1) = 0 then F_DA_makeSignatureA_1_L0  n21 (i21 + 1) q21.2 else bnd (F_DA_restIsShort_1  q21.2) fun q22 => if (q22.1) = 0 then F_DA_makeSignatureA_1_L0  n21 (i21 + 1) q22.2 else bnd (F_DA_makeHints_1  q22.2) fun q23 => if (q23.1) = 0 then F_DA_makeSignatureA_1_L0  n21 (i21 + 1) q23.2 else bnd (F_DA_writeSignature_1 2 q23.2) fun s32 => (nI i21, s32)
noncomputable def F_DA_makeSignatureA_1 (psk : Nat) (len : Nat) (cl_ : Int32) (s : Sto) : Int32 × Sto := bnd (F_DA_readSecret_1 psk s) fun s21 => bnd (sC s21 psk 143 64 0 64) fun s22 => bnd (F_DA_digestMessage 1 16384 32 len cl_ s22) fun s23 => bnd (F_SP_start_3 16 17 s23) fun s24 => bnd (F_SP_absorb 16 17 psk 4032 32 32 s24) fun s25 => bnd (F_SP_absorb 16 17 1 16384 0 32 s25) fun s26 => bnd (F_SP_absorb 16 17 143 64 0 64 s26) fun s27 => bnd (F_SP_finish 16 17 s27) fun s28 => bnd (F_SP_squeeze 16 17 142 128 0 64 s28) fun s29 => F_DA_makeSignatureA_1_L0 (201 - 1) 1 s29
set_option maxHeartbeats 2000000 in
set_option maxRecDepth 100000 in
theorem N_DA_makeSignatureA_1 (l : Launch) (g : Gd) (sz : Nat) (T : TyN) (s : Sto) (pl : va_W) (hO : okn g T s pl) (hU : inj T) (h0 st sk tp to : Nat) (psk : Nat) (len : Nat) (cl_ : Int32) (k_h0 : T h0 = some 39) (k_st : T st = some 10) (k_sk : T sk = some psk) (n_sk : nsp psk = (1, 4032, [])) (k_tp : T tp = some 1) (k_to : T to = some 2) (h1 : 32 ≤ len) (h3 : len ≤ 16384)  : Met l y_DA_makeSignature w_DA_makeSignature ({ frames := 6, cells := 0, slots := 0, locals := 176 } : Room) (va_Pc [.ref h0, .ref st, .ref sk, .ref tp, .int (nI len), .int cl_, .ref to] (pr (en g) g.1 vcl sz ([] ++ pl))) (va_Qi (fun (r : Int32) (u : (Int32 × Sto) × va_W) => (u.1 = F_DA_makeSignatureA_1 psk len cl_ s ∧ r = u.1.1 ∧ frm (M_DA_makeSignatureA_1) s u.1.2 ∧ (u.1.1 = nI 0 → u.1.2.1 2 = s.1 2) ∧ True) ∧ okn g T u.1.2 u.2) (po g.1 vcl (va_A ([] ++ pl) sz) (fun (u : (Int32 × Sto) × va_W) => [] ++ u.2)) (va_A ([] ++ pl) sz)) 0 0 (va_A ([] ++ pl) sz) := by
  refine mc_entry (cc := c_DA_makeSignature) (maxL := 8) (ret := (some .int)) (by decide) rfl (Nat.le_of_ble_eq_true rfl) ?_
  intro p e s0 m args below meth c ls F hr hlk hnm hsz hP hD hE hA hl
  obtain ⟨hx, hb, hml, hown, hts⟩ := id F
  have hK := hE.1
  generalize va_A ([] ++ pl) sz = A at hD hE hA ⊢
  have hS : va_S A s0.heap s0.heap [] := va_S.rf
  have hl : lv_has ls 8 [(0, .ref h0), (1, .ref st), (2, .ref sk), (3, .ref tp), (4, .int (nI len)), (5, .int cl_), (6, .ref to)] := hl
  have hR : F_DA_makeSignatureA_1 psk len cl_ s = F_DA_makeSignatureA_1 psk len cl_ s := rfl
  have hF : frm (M_DA_makeSignatureA_1) s s := frm_rf
  refine lv_aload_n hx hb dDA_makeSignature_0 rfl (lv_at hl 0 rfl) ?_
  refine lv_aload_n hx hb dDA_makeSignature_1 rfl (lv_at hl 1 rfl) ?_
  refine lv_aload_n hx hb dDA_makeSignature_2 rfl (lv_at hl 2 rfl) ?_
  refine mp_v (cx := []) (wr := []) hP hD hS hA [] [] rfl rfl rfl (by decide) (va_runV (As := [.ref st, .ref sk]) (rest := []) F (N_DA_readSecret_1 l g _ T s pl hO hU h0 st sk psk k_h0 k_st k_sk n_sk) (cwV 2 hts (wg_app (wg_c kw_1179 (wg_c kw_1181 (wg_c ks_34 (wg_c kw_5 wg_n)))) kw_1182) rfl rfl rfl (by decide +kernel) ⟨by decide, by decide⟩) (pn_W "LatticeKeys$Dsa" (en_ok g) (ci := 6) (kn := 39) (fl := [(3, 16), (3, 22), (3, 37), (3, 40), (3, 97), (3, 105), (3, 114), (3, 123), (3, 131), (3, 140), (3, 141), (3, 142), (3, 143), (3, 144), (3, 145), (3, 146), (3, 147)]) hK hO k_h0 rfl hP hD hS hA hE [] rfl rfl rfl) rfl rfl hl.1 rfl (lv_room (Nat.le_of_ble_eq_true rfl)) dDA_makeSignature_3 ⟨by omega, by omega⟩) (fun  u21 H locs hu21 hP hD hS => ?_)
  obtain ⟨s21, pl⟩ := u21
  obtain ⟨⟨eq21, hFc21, -⟩, hO⟩ := hu21
  have hO : okn g T s21 pl := hO
  have hP : va_P g.1 vcl ([] ++ pl) _ := hP
  have hD : va_D _ ([] ++ pl) := hD
  have hFc21 : frm (M_DA_readSecret_1) s s21 := hFc21
  replace hR := bnd_step hR eq21
  have hF := frm_tr hF hFc21 (fun k hk => by unfold M_DA_readSecret_1 at hk; unfold M_DA_makeSignatureA_1; omega)
  have hg21 : (s21.1 2) = s.1 2 := by rw [hFc21 2 (by unfold M_DA_readSecret_1; omega)]
  refine W.widen (k := 0) (n := 0) (by omega) (by omega) ?_
  refine lv_aload_n hx hb dDA_makeSignature_6 rfl (lv_at hl 2 rfl) ?_
  refine lv_bipush (v := nI 64) hx hb dDA_makeSignature_7 (by decide) ?_
  refine lv_aload_n hx hb dDA_makeSignature_9 rfl (lv_at hl 0 rfl) ?_
  refine nw_get (C := "LatticeKeys$Dsa") (TT := T_DA) (N := 17) hx hb hts (wg_ft i_DA) hown hK hO k_h0 (kn := 39) (ci := 6) (fl := [(3, 16), (3, 22), (3, 37), (3, 40), (3, 97), (3, 105), (3, 114), (3, 123), (3, 131), (3, 140), (3, 141), (3, 142), (3, 143), (3, 144), (3, 145), (3, 146), (3, 147)]) rfl hP rfl 12 (by decide) (hts _ (wg_t kw_177)) (fun _ h9 => h9) (cd := (3, 143)) rfl dDA_makeSignature_10 (fun v21 hv21 => ?_)
  obtain ⟨r21, rfl, kr21⟩ := (show ∃ r : Nat, v21 = .ref r ∧ T r = some 143 from hv21)
  refine lv_iconst (v := nI 0) hx hb dDA_makeSignature_13 (by decide) ?_
  refine lv_bipush (v := nI 64) hx hb dDA_makeSignature_14 (by decide) ?_
  refine nw_copyb hx hb (hml.trans hl.1.symm) hown (hts _ (wg_t kw_674)) (hts _ (wg_t kw_526)) (hts _ (wg_t kw_525)) (hts _ (wg_t kw_19)) hK hO hU k_sk (k0 := psk) n_sk kr21 (k1 := 143) rfl hP hD hS (sp := 64) (dp := 0) (n := 64) (by omega) (by omega) (by omega) (by decide) (Nat.le_of_ble_eq_true rfl) dDA_makeSignature_16 (fun s22 pl H locs es21 hO hP hD hS => ?_)
  replace hR := bnd_step hR es21
  have hF := frm_sC hF es21 (by unfold M_DA_makeSignatureA_1; omega)
  have hg22 : (s22.1 2) = s.1 2 := by rw [(ar_sC es21 (by omega))]; exact hg21
  refine lv_aload_n hx hb dDA_makeSignature_19 rfl (lv_at hl 0 rfl) ?_
  refine lv_aload_n hx hb dDA_makeSignature_20 rfl (lv_at hl 3 rfl) ?_
  refine lv_bipush (v := nI 32) hx hb dDA_makeSignature_21 (by decide) ?_
  refine lv_iload hx hb dDA_makeSignature_23 (lv_at hl 4 rfl) ?_
  refine lv_iload hx hb dDA_makeSignature_25 (lv_at hl 5 rfl) ?_
  refine mp_v (cx := []) (wr := []) hP hD hS hA [] [] rfl rfl rfl (by decide) (va_runV (As := [.ref tp, .int (nI 32), .int (nI len), .int cl_]) (rest := []) F (N_DA_digestMessage l g _ T s22 pl hO hU h0 tp 1 16384 32 len cl_ k_h0 k_tp rfl (by omega) (by omega) (by omega)) (cwV 4 hts (wg_app (wg_c kw_1188 (wg_c kw_1190 (wg_c ks_36 (wg_c kw_5 wg_n)))) kw_1191) rfl rfl rfl (by decide +kernel) ⟨by decide, by decide⟩) (pn_W "LatticeKeys$Dsa" (en_ok g) (ci := 6) (kn := 39) (fl := [(3, 16), (3, 22), (3, 37), (3, 40), (3, 97), (3, 105), (3, 114), (3, 123), (3, 131), (3, 140), (3, 141), (3, 142), (3, 143), (3, 144), (3, 145), (3, 146), (3, 147)]) hK hO k_h0 rfl hP hD hS hA hE [] rfl rfl rfl) rfl rfl hl.1 rfl (lv_room (Nat.le_of_ble_eq_true rfl)) dDA_makeSignature_27 ⟨by omega, by omega⟩) (fun  u22 H locs hu22 hP hD hS => ?_)
  obtain ⟨s23, pl⟩ := u22
  obtain ⟨⟨eq22, hFc22, -⟩, hO⟩ := hu22
  have hO : okn g T s23 pl := hO
  have hP : va_P g.1 vcl ([] ++ pl) _ := hP
  have hD : va_D _ ([] ++ pl) := hD
  have hFc22 : frm (M_DA_digestMessage) s22 s23 := hFc22
  replace hR := bnd_step hR eq22
  have hF := frm_tr hF hFc22 (fun k hk => by unfold M_DA_digestMessage at hk; unfold M_DA_makeSignatureA_1; omega)
  have hg23 : (s23.1 2) = s.1 2 := by rw [hFc22 2 (by unfold M_DA_digestMessage; omega)]; exact hg22
  refine W.widen (k := 0) (n := 0) (by omega) (by omega) ?_
  refine lv_aload_n hx hb dDA_makeSignature_30 rfl (lv_at hl 0 rfl) ?_
  refine nw_get (C := "LatticeKeys$Dsa") (TT := T_DA) (N := 17) hx hb hts (wg_ft i_DA) hown hK hO k_h0 (kn := 39) (ci := 6) (fl := [(3, 16), (3, 22), (3, 37), (3, 40), (3, 97), (3, 105), (3, 114), (3, 123), (3, 131), (3, 140), (3, 141), (3, 142), (3, 143), (3, 144), (3, 145), (3, 146), (3, 147)]) rfl hP rfl 0 (by decide) (hts _ (wg_t kw_165)) (fun _ h9 => h9) (cd := (3, 16)) rfl dDA_makeSignature_31 (fun v22 hv22 => ?_)
  obtain ⟨r22, rfl, kr22⟩ := (show ∃ r : Nat, v22 = .ref r ∧ T r = some 16 from hv22)
  refine lv_iconst (v := nI 3) hx hb dDA_makeSignature_34 (by decide) ?_
  refine mp_v (cx := []) (wr := []) hP hD hS hA [] [] rfl rfl rfl (by decide) (va_runV (As := [.int (nI 3)]) (rest := []) F (N_SP_start_3 l g _ T s23 pl hO hU r22 16 17 kr22 rfl rfl) (cwV 1 hts (wg_app (wg_c kw_669 (wg_c kw_579 (wg_c kw_580 (wg_c kw_2 wg_n)))) kw_581) rfl rfl rfl (by decide +kernel) ⟨by decide, by decide⟩) (pn_W "LatticeKeys$Sponge" (en_ok g) (ci := 3) (kn := 16) (fl := [(3, 17), (0, 0), (0, 0), (0, 0)]) hK hO kr22 rfl hP hD hS hA hE [] rfl rfl rfl) rfl rfl hl.1 rfl (lv_room (Nat.le_of_ble_eq_true rfl)) dDA_makeSignature_35 ⟨by omega, by omega⟩) (fun  u23 H locs hu23 hP hD hS => ?_)
  obtain ⟨s24, pl⟩ := u23
  obtain ⟨⟨eq23, hFc23, ⟨x23, hx_23, hb_23⟩, ⟨x24, hx_24, hb_24⟩, -⟩, hO⟩ := hu23
  have hO : okn g T s24 pl := hO
  have hP : va_P g.1 vcl ([] ++ pl) _ := hP
  have hD : va_D _ ([] ++ pl) := hD
  have hFc23 : frm (M_SP_start_3 16) s23 s24 := hFc23
  have hb_23 : x23 = 0 := hb_23
  have hb_24 : x24 = 136 := hb_24
  replace hR := bnd_step hR eq23
  have hF := frm_tr hF hFc23 (fun k hk => by unfold M_SP_start_3 at hk; unfold M_DA_makeSignatureA_1; omega)
  have hg24 : (s24.1 2) = s.1 2 := by rw [hFc23 2 (by unfold M_SP_start_3; omega)]; exact hg23
  refine W.widen (k := 0) (n := 0) (by omega) (by omega) ?_
  refine lv_aload_n hx hb dDA_makeSignature_38 rfl (lv_at hl 0 rfl) ?_
  refine nw_get (C := "LatticeKeys$Dsa") (TT := T_DA) (N := 17) hx hb hts (wg_ft i_DA) hown hK hO k_h0 (kn := 39) (ci := 6) (fl := [(3, 16), (3, 22), (3, 37), (3, 40), (3, 97), (3, 105), (3, 114), (3, 123), (3, 131), (3, 140), (3, 141), (3, 142), (3, 143), (3, 144), (3, 145), (3, 146), (3, 147)]) rfl hP rfl 0 (by decide) (hts _ (wg_t kw_165)) (fun _ h9 => h9) (cd := (3, 16)) rfl dDA_makeSignature_39 (fun v23 hv23 => ?_)
  obtain ⟨r23, rfl, kr23⟩ := (show ∃ r : Nat, v23 = .ref r ∧ T r = some 16 from hv23)
  refine lv_aload_n hx hb dDA_makeSignature_42 rfl (lv_at hl 2 rfl) ?_
  refine lv_bipush (v := nI 32) hx hb dDA_makeSignature_43 (by decide) ?_
  refine lv_bipush (v := nI 32) hx hb dDA_makeSignature_45 (by decide) ?_
  refine mp_v (cx := []) (wr := []) hP hD hS hA [] [] rfl rfl rfl (by decide) (va_runV (As := [.ref sk, .int (nI 32), .int (nI 32)]) (rest := []) F (N_SP_absorb l g _ T s24 pl hO hU r23 sk 16 17 psk 4032 32 32 x23 x24 kr23 rfl rfl k_sk n_sk hx_23 hx_24 (by omega) (by omega) (by omega) (by omega)) (cwV 3 hts (wg_app (wg_c kw_670 (wg_c kw_586 (wg_c kw_587 (wg_c kw_2 wg_n)))) kw_588) rfl rfl rfl (by decide +kernel) ⟨by decide, by decide⟩) (pn_W "LatticeKeys$Sponge" (en_ok g) (ci := 3) (kn := 16) (fl := [(3, 17), (0, 0), (0, 0), (0, 0)]) hK hO kr23 rfl hP hD hS hA hE [] rfl rfl rfl) rfl rfl hl.1 rfl (lv_room (Nat.le_of_ble_eq_true rfl)) dDA_makeSignature_47 ⟨by omega, by omega⟩) (fun  u24 H locs hu24 hP hD hS => ?_)
  obtain ⟨s25, pl⟩ := u24
  obtain ⟨⟨eq24, hFc24, ⟨x26, hx_26, hb_26⟩, ⟨x27, hx_27, hb_27⟩, -⟩, hO⟩ := hu24
  have hO : okn g T s25 pl := hO
  have hP : va_P g.1 vcl ([] ++ pl) _ := hP
  have hD : va_D _ ([] ++ pl) := hD
  have hFc24 : frm (M_SP_absorb 16) s24 s25 := hFc24
  have hb_26 : x26 < x24 := hb_26
  have hb_27 : x27 = x24 := hb_27
  replace hR := bnd_step hR eq24
  have hF := frm_tr hF hFc24 (fun k hk => by unfold M_SP_absorb at hk; unfold M_DA_makeSignatureA_1; omega)
  have hg25 : (s25.1 2) = s.1 2 := by rw [hFc24 2 (by unfold M_SP_absorb; omega)]; exact hg24
  refine W.widen (k := 0) (n := 0) (by omega) (by omega) ?_
  refine lv_aload_n hx hb dDA_makeSignature_50 rfl (lv_at hl 0 rfl) ?_
  refine nw_get (C := "LatticeKeys$Dsa") (TT := T_DA) (N := 17) hx hb hts (wg_ft i_DA) hown hK hO k_h0 (kn := 39) (ci := 6) (fl := [(3, 16), (3, 22), (3, 37), (3, 40), (3, 97), (3, 105), (3, 114), (3, 123), (3, 131), (3, 140), (3, 141), (3, 142), (3, 143), (3, 144), (3, 145), (3, 146), (3, 147)]) rfl hP rfl 0 (by decide) (hts _ (wg_t kw_165)) (fun _ h9 => h9) (cd := (3, 16)) rfl dDA_makeSignature_51 (fun v24 hv24 => ?_)
  obtain ⟨r24, rfl, kr24⟩ := (show ∃ r : Nat, v24 = .ref r ∧ T r = some 16 from hv24)
  refine lv_aload_n hx hb dDA_makeSignature_54 rfl (lv_at hl 3 rfl) ?_
  refine lv_iconst (v := nI 0) hx hb dDA_makeSignature_55 (by decide) ?_
  refine lv_bipush (v := nI 32) hx hb dDA_makeSignature_56 (by decide) ?_
  refine mp_v (cx := []) (wr := []) hP hD hS hA [] [] rfl rfl rfl (by decide) (va_runV (As := [.ref tp, .int (nI 0), .int (nI 32)]) (rest := []) F (N_SP_absorb l g _ T s25 pl hO hU r24 tp 16 17 1 16384 0 32 x26 x27 kr24 rfl rfl k_tp rfl hx_26 hx_27 (by omega) (by omega) (by omega) (by omega)) (cwV 3 hts (wg_app (wg_c kw_670 (wg_c kw_586 (wg_c kw_587 (wg_c kw_2 wg_n)))) kw_588) rfl rfl rfl (by decide +kernel) ⟨by decide, by decide⟩) (pn_W "LatticeKeys$Sponge" (en_ok g) (ci := 3) (kn := 16) (fl := [(3, 17), (0, 0), (0, 0), (0, 0)]) hK hO kr24 rfl hP hD hS hA hE [] rfl rfl rfl) rfl rfl hl.1 rfl (lv_room (Nat.le_of_ble_eq_true rfl)) dDA_makeSignature_58 ⟨by omega, by omega⟩) (fun  u25 H locs hu25 hP hD hS => ?_)
  obtain ⟨s26, pl⟩ := u25
  obtain ⟨⟨eq25, hFc25, ⟨x29, hx_29, hb_29⟩, ⟨x30, hx_30, hb_30⟩, -⟩, hO⟩ := hu25
  have hO : okn g T s26 pl := hO
  have hP : va_P g.1 vcl ([] ++ pl) _ := hP
  have hD : va_D _ ([] ++ pl) := hD
  have hFc25 : frm (M_SP_absorb 16) s25 s26 := hFc25
  have hb_29 : x29 < x27 := hb_29
  have hb_30 : x30 = x27 := hb_30
  replace hR := bnd_step hR eq25
  have hF := frm_tr hF hFc25 (fun k hk => by unfold M_SP_absorb at hk; unfold M_DA_makeSignatureA_1; omega)
  have hg26 : (s26.1 2) = s.1 2 := by rw [hFc25 2 (by unfold M_SP_absorb; omega)]; exact hg25
  refine W.widen (k := 0) (n := 0) (by omega) (by omega) ?_
  refine lv_aload_n hx hb dDA_makeSignature_61 rfl (lv_at hl 0 rfl) ?_
  refine nw_get (C := "LatticeKeys$Dsa") (TT := T_DA) (N := 17) hx hb hts (wg_ft i_DA) hown hK hO k_h0 (kn := 39) (ci := 6) (fl := [(3, 16), (3, 22), (3, 37), (3, 40), (3, 97), (3, 105), (3, 114), (3, 123), (3, 131), (3, 140), (3, 141), (3, 142), (3, 143), (3, 144), (3, 145), (3, 146), (3, 147)]) rfl hP rfl 0 (by decide) (hts _ (wg_t kw_165)) (fun _ h9 => h9) (cd := (3, 16)) rfl dDA_makeSignature_62 (fun v25 hv25 => ?_)
  obtain ⟨r25, rfl, kr25⟩ := (show ∃ r : Nat, v25 = .ref r ∧ T r = some 16 from hv25)
  refine lv_aload_n hx hb dDA_makeSignature_65 rfl (lv_at hl 0 rfl) ?_
  refine nw_get (C := "LatticeKeys$Dsa") (TT := T_DA) (N := 17) hx hb hts (wg_ft i_DA) hown hK hO k_h0 (kn := 39) (ci := 6) (fl := [(3, 16), (3, 22), (3, 37), (3, 40), (3, 97), (3, 105), (3, 114), (3, 123), (3, 131), (3, 140), (3, 141), (3, 142), (3, 143), (3, 144), (3, 145), (3, 146), (3, 147)]) rfl hP rfl 12 (by decide) (hts _ (wg_t kw_177)) (fun _ h9 => h9) (cd := (3, 143)) rfl dDA_makeSignature_66 (fun v26 hv26 => ?_)
  obtain ⟨r26, rfl, kr26⟩ := (show ∃ r : Nat, v26 = .ref r ∧ T r = some 143 from hv26)
  refine lv_iconst (v := nI 0) hx hb dDA_makeSignature_69 (by decide) ?_
  refine lv_bipush (v := nI 64) hx hb dDA_makeSignature_70 (by decide) ?_
  refine mp_v (cx := []) (wr := []) hP hD hS hA [] [] rfl rfl rfl (by decide) (va_runV (As := [.ref r26, .int (nI 0), .int (nI 64)]) (rest := []) F (N_SP_absorb l g _ T s26 pl hO hU r25 r26 16 17 143 64 0 64 x29 x30 kr25 rfl rfl kr26 rfl hx_29 hx_30 (by omega) (by omega) (by omega) (by omega)) (cwV 3 hts (wg_app (wg_c kw_670 (wg_c kw_586 (wg_c kw_587 (wg_c kw_2 wg_n)))) kw_588) rfl rfl rfl (by decide +kernel) ⟨by decide, by decide⟩) (pn_W "LatticeKeys$Sponge" (en_ok g) (ci := 3) (kn := 16) (fl := [(3, 17), (0, 0), (0, 0), (0, 0)]) hK hO kr25 rfl hP hD hS hA hE [] rfl rfl rfl) rfl rfl hl.1 rfl (lv_room (Nat.le_of_ble_eq_true rfl)) dDA_makeSignature_72 ⟨by omega, by omega⟩) (fun  u26 H locs hu26 hP hD hS => ?_)
  obtain ⟨s27, pl⟩ := u26
  obtain ⟨⟨eq26, hFc26, ⟨x32, hx_32, hb_32⟩, ⟨x33, hx_33, hb_33⟩, -⟩, hO⟩ := hu26
  have hO : okn g T s27 pl := hO
  have hP : va_P g.1 vcl ([] ++ pl) _ := hP
  have hD : va_D _ ([] ++ pl) := hD
  have hFc26 : frm (M_SP_absorb 16) s26 s27 := hFc26
  have hb_32 : x32 < x30 := hb_32
  have hb_33 : x33 = x30 := hb_33
  replace hR := bnd_step hR eq26
  have hF := frm_tr hF hFc26 (fun k hk => by unfold M_SP_absorb at hk; unfold M_DA_makeSignatureA_1; omega)
  have hg27 : (s27.1 2) = s.1 2 := by rw [hFc26 2 (by unfold M_SP_absorb; omega)]; exact hg26
  refine W.widen (k := 0) (n := 0) (by omega) (by omega) ?_
  refine lv_aload_n hx hb dDA_makeSignature_75 rfl (lv_at hl 0 rfl) ?_
  refine nw_get (C := "LatticeKeys$Dsa") (TT := T_DA) (N := 17) hx hb hts (wg_ft i_DA) hown hK hO k_h0 (kn := 39) (ci := 6) (fl := [(3, 16), (3, 22), (3, 37), (3, 40), (3, 97), (3, 105), (3, 114), (3, 123), (3, 131), (3, 140), (3, 141), (3, 142), (3, 143), (3, 144), (3, 145), (3, 146), (3, 147)]) rfl hP rfl 0 (by decide) (hts _ (wg_t kw_165)) (fun _ h9 => h9) (cd := (3, 16)) rfl dDA_makeSignature_76 (fun v27 hv27 => ?_)
  obtain ⟨r27, rfl, kr27⟩ := (show ∃ r : Nat, v27 = .ref r ∧ T r = some 16 from hv27)
  refine mp_v (cx := []) (wr := []) hP hD hS hA [] [] rfl rfl rfl (by decide) (va_runV (As := []) (rest := []) F (N_SP_finish l g _ T s27 pl hO hU r27 16 17 x32 x33 kr27 rfl rfl hx_32 hx_33 (by omega) (by omega)) (cwV 0 hts (wg_app (wg_c kw_672 (wg_c kw_611 (wg_c kw_612 (wg_c kw_2 wg_n)))) kw_613) rfl rfl rfl (by decide +kernel) ⟨by decide, by decide⟩) (pn_W "LatticeKeys$Sponge" (en_ok g) (ci := 3) (kn := 16) (fl := [(3, 17), (0, 0), (0, 0), (0, 0)]) hK hO kr27 rfl hP hD hS hA hE [] rfl rfl rfl) rfl rfl hl.1 rfl (lv_room (Nat.le_of_ble_eq_true rfl)) dDA_makeSignature_79 ⟨by omega, by omega⟩) (fun  u27 H locs hu27 hP hD hS => ?_)
  obtain ⟨s28, pl⟩ := u27
  obtain ⟨⟨eq27, hFc27, ⟨x35, hx_35, hb_35⟩, ⟨x36, hx_36, hb_36⟩, -⟩, hO⟩ := hu27
  have hO : okn g T s28 pl := hO
  have hP : va_P g.1 vcl ([] ++ pl) _ := hP
  have hD : va_D _ ([] ++ pl) := hD
  have hFc27 : frm (M_SP_finish 16) s27 s28 := hFc27
  have hb_35 : x35 = x33 := hb_35
  have hb_36 : x36 = x33 := hb_36
  replace hR := bnd_step hR eq27
  have hF := frm_tr hF hFc27 (fun k hk => by unfold M_SP_finish at hk; unfold M_DA_makeSignatureA_1; omega)
  have hg28 : (s28.1 2) = s.1 2 := by rw [hFc27 2 (by unfold M_SP_finish; omega)]; exact hg27
  refine W.widen (k := 0) (n := 0) (by omega) (by omega) ?_
  refine lv_aload_n hx hb dDA_makeSignature_82 rfl (lv_at hl 0 rfl) ?_
  refine nw_get (C := "LatticeKeys$Dsa") (TT := T_DA) (N := 17) hx hb hts (wg_ft i_DA) hown hK hO k_h0 (kn := 39) (ci := 6) (fl := [(3, 16), (3, 22), (3, 37), (3, 40), (3, 97), (3, 105), (3, 114), (3, 123), (3, 131), (3, 140), (3, 141), (3, 142), (3, 143), (3, 144), (3, 145), (3, 146), (3, 147)]) rfl hP rfl 0 (by decide) (hts _ (wg_t kw_165)) (fun _ h9 => h9) (cd := (3, 16)) rfl dDA_makeSignature_83 (fun v28 hv28 => ?_)
  obtain ⟨r28, rfl, kr28⟩ := (show ∃ r : Nat, v28 = .ref r ∧ T r = some 16 from hv28)
  refine lv_aload_n hx hb dDA_makeSignature_86 rfl (lv_at hl 0 rfl) ?_
  refine nw_get (C := "LatticeKeys$Dsa") (TT := T_DA) (N := 17) hx hb hts (wg_ft i_DA) hown hK hO k_h0 (kn := 39) (ci := 6) (fl := [(3, 16), (3, 22), (3, 37), (3, 40), (3, 97), (3, 105), (3, 114), (3, 123), (3, 131), (3, 140), (3, 141), (3, 142), (3, 143), (3, 144), (3, 145), (3, 146), (3, 147)]) rfl hP rfl 11 (by decide) (hts _ (wg_t kw_176)) (fun _ h9 => h9) (cd := (3, 142)) rfl dDA_makeSignature_87 (fun v29 hv29 => ?_)
  obtain ⟨r29, rfl, kr29⟩ := (show ∃ r : Nat, v29 = .ref r ∧ T r = some 142 from hv29)
  refine lv_iconst (v := nI 0) hx hb dDA_makeSignature_90 (by decide) ?_
  refine lv_bipush (v := nI 64) hx hb dDA_makeSignature_91 (by decide) ?_
  refine mp_v (cx := []) (wr := []) hP hD hS hA [] [] rfl rfl rfl (by decide) (va_runV (As := [.ref r29, .int (nI 0), .int (nI 64)]) (rest := []) F (N_SP_squeeze l g _ T s28 pl hO hU r28 r29 16 17 142 128 0 64 x35 x36 kr28 rfl rfl kr29 rfl hx_35 hx_36 (by omega) (by omega) (by omega) (by omega)) (cwV 3 hts (wg_app (wg_c kw_673 (wg_c kw_615 (wg_c kw_616 (wg_c kw_2 wg_n)))) kw_617) rfl rfl rfl (by decide +kernel) ⟨by decide, by decide⟩) (pn_W "LatticeKeys$Sponge" (en_ok g) (ci := 3) (kn := 16) (fl := [(3, 17), (0, 0), (0, 0), (0, 0)]) hK hO kr28 rfl hP hD hS hA hE [] rfl rfl rfl) rfl rfl hl.1 rfl (lv_room (Nat.le_of_ble_eq_true rfl)) dDA_makeSignature_93 ⟨by omega, by omega⟩) (fun  u28 H locs hu28 hP hD hS => ?_)
  obtain ⟨s29, pl⟩ := u28
  obtain ⟨⟨eq28, hFc28, ⟨x38, hx_38, hb_38⟩, ⟨x39, hx_39, hb_39⟩, -⟩, hO⟩ := hu28
  have hO : okn g T s29 pl := hO
  have hP : va_P g.1 vcl ([] ++ pl) _ := hP
  have hD : va_D _ ([] ++ pl) := hD
  have hFc28 : frm (M_SP_squeeze 16 142) s28 s29 := hFc28
  have hb_38 : x38 ≤ x36 := hb_38
  have hb_39 : x39 = x36 := hb_39
  replace hR := bnd_step hR eq28
  have hF := frm_tr hF hFc28 (fun k hk => by unfold M_SP_squeeze at hk; unfold M_DA_makeSignatureA_1; omega)
  have hg29 : (s29.1 2) = s.1 2 := by rw [hFc28 2 (by unfold M_SP_squeeze; omega)]; exact hg28
  refine W.widen (k := 0) (n := 0) (by omega) (by omega) ?_
  refine lv_iconst (v := nI 1) hx hb dDA_makeSignature_96 (by decide) ?_
  refine lv_istore (lv' := [(7, .int (nI 1)), (0, .ref h0), (1, .ref st), (2, .ref sk), (3, .ref tp), (4, .int (nI len)), (5, .int cl_), (6, .ref to)]) hx hb dDA_makeSignature_97 hl (by decide) rfl (fun ls hl => ?_)
  have lp21 : ∀ (n21 : Nat) (i21 : Nat) (s30 : Sto) (pl : va_W) (ls : Array Slot) (H : Heap) (locs : List Loc), n21 + i21 = 201 → (1 ≤ i21) → frm (M_DA_makeSignatureA_1) s s30 → ((s30.1 2) = s.1 2) → F_DA_makeSignatureA_1 psk len cl_ s = F_DA_makeSignatureA_1_L0 n21 i21 s30 → lv_has ls 8 [(7, .int (nI i21)), (0, .ref h0), (1, .ref st), (6, .ref to)] → okn g T s30 pl → va_P g.1 vcl ([] ++ pl) H → va_D A ([] ++ pl) → va_S A s0.heap H locs → W p l e ({ frames := 6, cells := 0, slots := 0, locals := 176 } : Room) s0 m args below meth c H locs 0 0 (MQ below (va_Qi (fun (r : Int32) (u : (Int32 × Sto) × va_W) => (u.1 = F_DA_makeSignatureA_1 psk len cl_ s ∧ r = u.1.1 ∧ frm (M_DA_makeSignatureA_1) s u.1.2 ∧ (u.1.1 = nI 0 → u.1.2.1 2 = s.1 2) ∧ True) ∧ okn g T u.1.2 u.2) (po g.1 vcl A (fun (u : (Int32 × Sto) × va_W) => [] ++ u.2)) A) args s0 0 0 A) (F0 m 99 ls []) := by
    intro n21
    induction n21 with
    | zero =>
      intro i21 s30 pl ls H locs hm21 hi21 hF hg30 hR hl hO hP hD hS
      refine lv_iload hx hb dDA_makeSignature_99 (lv_at hl 0 rfl) ?_
      refine lv_sipush (v := nI 200) hx hb dDA_makeSignature_101 (by decide) ?_
      refine mi_gt (tgt := 161) hx hb dDA_makeSignature_104 (by decide) (by omega) (by omega) (fun h21 => ?_) (fun h21 => absurd h21 (by omega))
      refine lv_iconst (v := nI 0) hx hb dDA_makeSignature_161 (by decide) ?_
      exact mp_iret hx hb hr hlk hP hD hS ((nI 0, s30), pl) ⟨⟨hR.symm, rfl, hF, (fun _ => hg30), trivial⟩, hO⟩ [] rfl rfl rfl (by omega) (by omega) dDA_makeSignature_162
    | succ n21 ih21 =>
      intro i21 s30 pl ls H locs hm21 hi21 hF hg30 hR hl hO hP hD hS
      refine lv_iload hx hb dDA_makeSignature_99 (lv_at hl 0 rfl) ?_
      refine lv_sipush (v := nI 200) hx hb dDA_makeSignature_101 (by decide) ?_
      refine mi_gt (tgt := 161) hx hb dDA_makeSignature_104 (by decide) (by omega) (by omega) (fun h22 => absurd h22 (by omega)) (fun h22 => ?_)
      refine lv_aload_n hx hb dDA_makeSignature_107 rfl (lv_at hl 1 rfl) ?_
      refine lv_aload_n hx hb dDA_makeSignature_108 rfl (lv_at hl 2 rfl) ?_
      refine lv_aload_n hx hb dDA_makeSignature_109 rfl (lv_at hl 2 rfl) ?_
      refine nw_get (C := "LatticeKeys$DsaSet") (TT := T_DS) (N := 17) hx hb hts (wg_ft i_DS) hown hK hO k_st (kn := 10) (ci := 2) (fl := [(1, 6), (1, 5), (1, 4), (1, 4), (1, 49), (1, 48), (1, 20), (1, 524288), (1, 16), (1, 4), (1, 261888), (1, 55), (1, 196), (1, 1952), (1, 4032), (1, 3248), (1, 3309)]) rfl hP rfl 1 (by decide) (hts _ (wg_t kw_305)) (fun _ h9 => h9) (cd := (1, 5)) rfl dDA_makeSignature_110 (fun v30 hv30 => ?_)
      obtain rfl := (show v30 = .int (nI 5) from hv30)
      refine lv_iload hx hb dDA_makeSignature_113 (lv_at hl 0 rfl) ?_
      refine lv_iconst (v := nI 1) hx hb dDA_makeSignature_115 (by decide) ?_
      refine mi_isub hx hb dDA_makeSignature_116 (by omega) ?_
      refine mi_imul hx hb dDA_makeSignature_117 ?_
      refine mp_v (cx := []) (wr := []) hP hD hS hA [] [] rfl rfl rfl (by decide) (va_runV (As := [.ref st, .int (nI (5 * (i21 - 1)))]) (rest := []) F (N_DA_commit_1 l g _ T s30 pl hO hU h0 st (nI (5 * (i21 - 1))) k_h0 k_st) (cwV 2 hts (wg_app (wg_c kw_1192 (wg_c kw_1194 (wg_c ks_37 (wg_c kw_5 wg_n)))) kw_1195) rfl rfl rfl (by decide +kernel) ⟨by decide, by decide⟩) (pn_W "LatticeKeys$Dsa" (en_ok g) (ci := 6) (kn := 39) (fl := [(3, 16), (3, 22), (3, 37), (3, 40), (3, 97), (3, 105), (3, 114), (3, 123), (3, 131), (3, 140), (3, 141), (3, 142), (3, 143), (3, 144), (3, 145), (3, 146), (3, 147)]) hK hO k_h0 rfl hP hD hS hA hE [] rfl rfl rfl) rfl rfl hl.1 rfl (lv_room (Nat.le_of_ble_eq_true rfl)) dDA_makeSignature_118 ⟨by omega, by omega⟩) (fun  u29 H locs hu29 hP hD hS => ?_)
      obtain ⟨s31, pl⟩ := u29
      obtain ⟨⟨eq29, hFc29, -⟩, hO⟩ := hu29
      have hO : okn g T s31 pl := hO
      have hP : va_P g.1 vcl ([] ++ pl) _ := hP
      have hD : va_D _ ([] ++ pl) := hD
      have hFc29 : frm (M_DA_commit_1) s30 s31 := hFc29
      replace hR := bnd_step hR eq29
      have hF := frm_tr hF hFc29 (fun k hk => by unfold M_DA_commit_1 at hk; unfold M_DA_makeSignatureA_1; omega)
      have hg31 : (s31.1 2) = s.1 2 := by rw [hFc29 2 (by unfold M_DA_commit_1; omega)]; exact hg30
      refine W.widen (k := 0) (n := 0) (by omega) (by omega) ?_
      refine lv_aload_n hx hb dDA_makeSignature_121 rfl (lv_at hl 1 rfl) ?_
      refine lv_aload_n hx hb dDA_makeSignature_122 rfl (lv_at hl 2 rfl) ?_
      refine mp_i (cx := []) (wr := []) hP hD hS hA [] [] rfl rfl rfl (by decide) (va_runV (As := [.ref st]) (rest := []) F (N_DA_answerIsShort_1 l g _ T s31 pl hO hU h0 st k_h0 k_st) (cwV 1 hts (wg_app (wg_c kw_1220 (wg_c kw_1222 (wg_c ks_40 (wg_c kw_5 wg_n)))) kw_1223) rfl rfl rfl (by decide +kernel) ⟨by decide, by decide⟩) (pn_W "LatticeKeys$Dsa" (en_ok g) (ci := 6) (kn := 39) (fl := [(3, 16), (3, 22), (3, 37), (3, 40), (3, 97), (3, 105), (3, 114), (3, 123), (3, 131), (3, 140), (3, 141), (3, 142), (3, 143), (3, 144), (3, 145), (3, 146), (3, 147)]) hK hO k_h0 rfl hP hD hS hA hE [] rfl rfl rfl) rfl rfl hl.1 rfl (lv_room (Nat.le_of_ble_eq_true rfl)) dDA_makeSignature_123 ⟨by omega, by omega⟩) (fun r30 u30 H locs hu30 hP hD hS => ?_)
      obtain ⟨q21, pl⟩ := u30
      obtain ⟨⟨eq30, rfl, hFc30, -⟩, hO⟩ := hu30
      have hO : okn g T q21.2 pl := hO
      have hP : va_P g.1 vcl ([] ++ pl) _ := hP
      have hD : va_D _ ([] ++ pl) := hD
      have hFc30 : frm (M_DA_answerIsShort_1) s31 q21.2 := hFc30
      replace hR := bnd_step hR eq30
      have hF := frm_tr hF hFc30 (fun k hk => by unfold M_DA_answerIsShort_1 at hk; unfold M_DA_makeSignatureA_1; omega)
      have hg32 : (q21.2.1 2) = s.1 2 := by rw [hFc30 2 (by unfold M_DA_answerIsShort_1; omega)]; exact hg31
      refine W.widen (k := 0) (n := 0) (by omega) (by omega) ?_
      refine lv_if_eq (tgt := 155) hx hb dDA_makeSignature_126 (by decide) (fun h23 => ?_) (fun h23 => ?_)
      · replace hR := hR.trans (if_pos h23)
        refine mi_iinc (k := 0) (x := i21) (d := 1) (y := i21 + 1) (lv' := [(7, .int (nI (i21 + 1))), (0, .ref h0), (1, .ref st), (6, .ref to)]) hx hb dDA_makeSignature_155 hl rfl (by decide) rfl (by decide) rfl (fun ls hl => ?_)
        refine lv_goto (tgt := 99) hx hb dDA_makeSignature_158 (by decide) ?_
        exact ih21 (i21 + 1) q21.2 pl ls H locs (by omega) (by omega) hF hg32 hR (lv_sub hl [0, 1, 2, 3] rfl) hO hP hD hS
      · replace hR := hR.trans (if_neg h23)
        refine lv_aload_n hx hb dDA_makeSignature_129 rfl (lv_at hl 1 rfl) ?_
        refine lv_aload_n hx hb dDA_makeSignature_130 rfl (lv_at hl 2 rfl) ?_
        refine mp_i (cx := []) (wr := []) hP hD hS hA [] [] rfl rfl rfl (by decide) (va_runV (As := [.ref st]) (rest := []) F (N_DA_restIsShort_1 l g _ T q21.2 pl hO hU h0 st k_h0 k_st) (cwV 1 hts (wg_app (wg_c kw_1232 (wg_c kw_1234 (wg_c ks_42 (wg_c kw_5 wg_n)))) kw_1235) rfl rfl rfl (by decide +kernel) ⟨by decide, by decide⟩) (pn_W "LatticeKeys$Dsa" (en_ok g) (ci := 6) (kn := 39) (fl := [(3, 16), (3, 22), (3, 37), (3, 40), (3, 97), (3, 105), (3, 114), (3, 123), (3, 131), (3, 140), (3, 141), (3, 142), (3, 143), (3, 144), (3, 145), (3, 146), (3, 147)]) hK hO k_h0 rfl hP hD hS hA hE [] rfl rfl rfl) rfl rfl hl.1 rfl (lv_room (Nat.le_of_ble_eq_true rfl)) dDA_makeSignature_131 ⟨by omega, by omega⟩) (fun r31 u31 H locs hu31 hP hD hS => ?_)
        obtain ⟨q22, pl⟩ := u31
        obtain ⟨⟨eq31, rfl, hFc31, -⟩, hO⟩ := hu31
        have hO : okn g T q22.2 pl := hO
        have hP : va_P g.1 vcl ([] ++ pl) _ := hP
        have hD : va_D _ ([] ++ pl) := hD
        have hFc31 : frm (M_DA_restIsShort_1) q21.2 q22.2 := hFc31
        replace hR := bnd_step hR eq31
        have hF := frm_tr hF hFc31 (fun k hk => by unfold M_DA_restIsShort_1 at hk; unfold M_DA_makeSignatureA_1; omega)
        have hg33 : (q22.2.1 2) = s.1 2 := by rw [hFc31 2 (by unfold M_DA_restIsShort_1; omega)]; exact hg32
        refine W.widen (k := 0) (n := 0) (by omega) (by omega) ?_
        refine lv_if_eq (tgt := 155) hx hb dDA_makeSignature_134 (by decide) (fun h24 => ?_) (fun h24 => ?_)
        · replace hR := hR.trans (if_pos h24)
          refine mi_iinc (k := 0) (x := i21) (d := 1) (y := i21 + 1) (lv' := [(7, .int (nI (i21 + 1))), (0, .ref h0), (1, .ref st), (6, .ref to)]) hx hb dDA_makeSignature_155 hl rfl (by decide) rfl (by decide) rfl (fun ls hl => ?_)
          refine lv_goto (tgt := 99) hx hb dDA_makeSignature_158 (by decide) ?_
          exact ih21 (i21 + 1) q22.2 pl ls H locs (by omega) (by omega) hF hg33 hR (lv_sub hl [0, 1, 2, 3] rfl) hO hP hD hS
        · replace hR := hR.trans (if_neg h24)
          refine lv_aload_n hx hb dDA_makeSignature_137 rfl (lv_at hl 1 rfl) ?_
          refine lv_aload_n hx hb dDA_makeSignature_138 rfl (lv_at hl 2 rfl) ?_
          refine mp_i (cx := []) (wr := []) hP hD hS hA [] [] rfl rfl rfl (by decide) (va_runV (As := [.ref st]) (rest := []) F (N_DA_makeHints_1 l g _ T q22.2 pl hO hU h0 st k_h0 k_st) (cwV 1 hts (wg_app (wg_c kw_1241 (wg_c kw_1243 (wg_c ks_43 (wg_c kw_5 wg_n)))) kw_1244) rfl rfl rfl (by decide +kernel) ⟨by decide, by decide⟩) (pn_W "LatticeKeys$Dsa" (en_ok g) (ci := 6) (kn := 39) (fl := [(3, 16), (3, 22), (3, 37), (3, 40), (3, 97), (3, 105), (3, 114), (3, 123), (3, 131), (3, 140), (3, 141), (3, 142), (3, 143), (3, 144), (3, 145), (3, 146), (3, 147)]) hK hO k_h0 rfl hP hD hS hA hE [] rfl rfl rfl) rfl rfl hl.1 rfl (lv_room (Nat.le_of_ble_eq_true rfl)) dDA_makeSignature_139 ⟨by omega, by omega⟩) (fun r32 u32 H locs hu32 hP hD hS => ?_)
          obtain ⟨q23, pl⟩ := u32
          obtain ⟨⟨eq32, rfl, hFc32, -⟩, hO⟩ := hu32
          have hO : okn g T q23.2 pl := hO
          have hP : va_P g.1 vcl ([] ++ pl) _ := hP
          have hD : va_D _ ([] ++ pl) := hD
          have hFc32 : frm (M_DA_makeHints_1) q22.2 q23.2 := hFc32
          replace hR := bnd_step hR eq32
          have hF := frm_tr hF hFc32 (fun k hk => by unfold M_DA_makeHints_1 at hk; unfold M_DA_makeSignatureA_1; omega)
          have hg34 : (q23.2.1 2) = s.1 2 := by rw [hFc32 2 (by unfold M_DA_makeHints_1; omega)]; exact hg33
          refine W.widen (k := 0) (n := 0) (by omega) (by omega) ?_
          refine lv_if_eq (tgt := 155) hx hb dDA_makeSignature_142 (by decide) (fun h25 => ?_) (fun h25 => ?_)
          · replace hR := hR.trans (if_pos h25)
            refine mi_iinc (k := 0) (x := i21) (d := 1) (y := i21 + 1) (lv' := [(7, .int (nI (i21 + 1))), (0, .ref h0), (1, .ref st), (6, .ref to)]) hx hb dDA_makeSignature_155 hl rfl (by decide) rfl (by decide) rfl (fun ls hl => ?_)
            refine lv_goto (tgt := 99) hx hb dDA_makeSignature_158 (by decide) ?_
            exact ih21 (i21 + 1) q23.2 pl ls H locs (by omega) (by omega) hF hg34 hR (lv_sub hl [0, 1, 2, 3] rfl) hO hP hD hS
          · replace hR := hR.trans (if_neg h25)
            refine lv_aload_n hx hb dDA_makeSignature_145 rfl (lv_at hl 1 rfl) ?_
            refine lv_aload_n hx hb dDA_makeSignature_146 rfl (lv_at hl 2 rfl) ?_
            refine lv_aload hx hb dDA_makeSignature_147 (lv_at hl 3 rfl) ?_
            refine mp_v (cx := []) (wr := []) hP hD hS hA [] [] rfl rfl rfl (by decide) (va_runV (As := [.ref st, .ref to]) (rest := []) F (N_DA_writeSignature_1 l g _ T q23.2 pl hO hU h0 st to 2 k_h0 k_st k_to rfl) (cwV 2 hts (wg_app (wg_c kw_1248 (wg_c kw_1250 (wg_c ks_44 (wg_c kw_5 wg_n)))) kw_1251) rfl rfl rfl (by decide +kernel) ⟨by decide, by decide⟩) (pn_W "LatticeKeys$Dsa" (en_ok g) (ci := 6) (kn := 39) (fl := [(3, 16), (3, 22), (3, 37), (3, 40), (3, 97), (3, 105), (3, 114), (3, 123), (3, 131), (3, 140), (3, 141), (3, 142), (3, 143), (3, 144), (3, 145), (3, 146), (3, 147)]) hK hO k_h0 rfl hP hD hS hA hE [] rfl rfl rfl) rfl rfl hl.1 rfl (lv_room (Nat.le_of_ble_eq_true rfl)) dDA_makeSignature_149 ⟨by omega, by omega⟩) (fun  u33 H locs hu33 hP hD hS => ?_)
            obtain ⟨s32, pl⟩ := u33
            obtain ⟨⟨eq33, hFc33, -⟩, hO⟩ := hu33
            have hO : okn g T s32 pl := hO
            have hP : va_P g.1 vcl ([] ++ pl) _ := hP
            have hD : va_D _ ([] ++ pl) := hD
            have hFc33 : frm (M_DA_writeSignature_1 2) q23.2 s32 := hFc33
            replace hR := bnd_step hR eq33
            have hF := frm_tr hF hFc33 (fun k hk => by unfold M_DA_writeSignature_1 at hk; unfold M_DA_makeSignatureA_1; omega)
            refine W.widen (k := 0) (n := 0) (by omega) (by omega) ?_
            refine lv_iload hx hb dDA_makeSignature_152 (lv_at hl 0 rfl) ?_
            exact mp_iret hx hb hr hlk hP hD hS ((nI i21, s32), pl) ⟨⟨hR.symm, rfl, hF, (fun h9 => absurd ((nI_eq (by omega) (by omega)).mp h9) (by omega)), trivial⟩, hO⟩ [] rfl rfl rfl (by omega) (by omega) dDA_makeSignature_154
  exact lp21 (201 - 1) 1 s29 pl ls _ _ (by omega) (by omega) hF hg29 hR (lv_sub hl [0, 1, 2, 7] rfl) hO hP hD hS
def M_DA_makeSignatureA_2 (k : Nat) : Prop := (106 ≤ k ∧ k < 114) ∨ (115 ≤ k ∧ k < 123) ∨ (124 ≤ k ∧ k < 131) ∨ (132 ≤ k ∧ k < 140) ∨ (41 ≤ k ∧ k < 97) ∨ (98 ≤ k ∧ k < 105) ∨ k = 140 ∨ k = 141 ∨ k = 142 ∨ k = 143 ∨ k = 144 ∨ k = 146 ∨ k = 147 ∨ k = 16 ∨ k = 18 ∨ k = 2 ∨ k = 38 ∨ (0 : Nat) = 1
noncomputable def F_DA_makeSignatureA_2_L0 : Nat → Nat → Sto → Int32 × Sto
  | 0, i21, s30 => (nI 0, s30)
  | n21 + 1, i21, s30 => bnd (F_DA_commit_2 (nI (7 * (i21 - 1))) s30) fun s31 => bnd (F_DA_answerIsShort_2  s31) fun q21 => if (q21.1) = 0 then F_DA_makeSignatureA_2_L0  n21 (i21 + 1) q21.2 else bnd (F_DA_restIsShort_2  q21.2) fun q22 => if (q22.1) = 0 then F_DA_makeSignatureA_2_L0  n21 (i21 + 1) q22.2 else bnd (F_DA_makeHints_2  q22.2) fun q23 => if (q23.1) = 0 then F_DA_makeSignatureA_2_L0  n21 (i21 + 1) q23.2 else bnd (F_DA_writeSignature_2 2 q23.2) fun s32 => (nI i21, s32)
noncomputable def F_DA_makeSignatureA_2 (psk : Nat) (len : Nat) (cl_ : Int32) (s : Sto) : Int32 × Sto := bnd (F_DA_readSecret_2 psk s) fun s21 => bnd (sC s21 psk 143 64 0 64) fun s22 => bnd (F_DA_digestMessage 1 16384 32 len cl_ s22) fun s23 => bnd (F_SP_start_3 16 17 s23) fun s24 => bnd (F_SP_absorb 16 17 psk 4896 32 32 s24) fun s25 => bnd (F_SP_absorb 16 17 1 16384 0 32 s25) fun s26 => bnd (F_SP_absorb 16 17 143 64 0 64 s26) fun s27 => bnd (F_SP_finish 16 17 s27) fun s28 => bnd (F_SP_squeeze 16 17 142 128 0 64 s28) fun s29 => F_DA_makeSignatureA_2_L0 (201 - 1) 1 s29
set_option maxHeartbeats 2000000 in
set_option maxRecDepth 100000 in
theorem N_DA_makeSignatureA_2 (l : Launch) (g : Gd) (sz : Nat) (T : TyN) (s : Sto) (pl : va_W) (hO : okn g T s pl) (hU : inj T) (h0 st sk tp to : Nat) (psk : Nat) (len : Nat) (cl_ : Int32) (k_h0 : T h0 = some 39) (k_st : T st = some 11) (k_sk : T sk = some psk) (n_sk : nsp psk = (1, 4896, [])) (k_tp : T tp = some 1) (k_to : T to = some 2) (h1 : 32 ≤ len) (h3 : len ≤ 16384)  : Met l y_DA_makeSignature w_DA_makeSignature ({ frames := 6, cells := 0, slots := 0, locals := 176 } : Room) (va_Pc [.ref h0, .ref st, .ref sk, .ref tp, .int (nI len), .int cl_, .ref to] (pr (en g) g.1 vcl sz ([] ++ pl))) (va_Qi (fun (r : Int32) (u : (Int32 × Sto) × va_W) => (u.1 = F_DA_makeSignatureA_2 psk len cl_ s ∧ r = u.1.1 ∧ frm (M_DA_makeSignatureA_2) s u.1.2 ∧ (u.1.1 = nI 0 → u.1.2.1 2 = s.1 2) ∧ True) ∧ okn g T u.1.2 u.2) (po g.1 vcl (va_A ([] ++ pl) sz) (fun (u : (Int32 × Sto) × va_W) => [] ++ u.2)) (va_A ([] ++ pl) sz)) 0 0 (va_A ([] ++ pl) sz) := by
  refine mc_entry (cc := c_DA_makeSignature) (maxL := 8) (ret := (some .int)) (by decide) rfl (Nat.le_of_ble_eq_true rfl) ?_
  intro p e s0 m args below meth c ls F hr hlk hnm hsz hP hD hE hA hl
  obtain ⟨hx, hb, hml, hown, hts⟩ := id F
  have hK := hE.1
  generalize va_A ([] ++ pl) sz = A at hD hE hA ⊢
  have hS : va_S A s0.heap s0.heap [] := va_S.rf
  have hl : lv_has ls 8 [(0, .ref h0), (1, .ref st), (2, .ref sk), (3, .ref tp), (4, .int (nI len)), (5, .int cl_), (6, .ref to)] := hl
  have hR : F_DA_makeSignatureA_2 psk len cl_ s = F_DA_makeSignatureA_2 psk len cl_ s := rfl
  have hF : frm (M_DA_makeSignatureA_2) s s := frm_rf
  refine lv_aload_n hx hb dDA_makeSignature_0 rfl (lv_at hl 0 rfl) ?_
  refine lv_aload_n hx hb dDA_makeSignature_1 rfl (lv_at hl 1 rfl) ?_
  refine lv_aload_n hx hb dDA_makeSignature_2 rfl (lv_at hl 2 rfl) ?_
  refine mp_v (cx := []) (wr := []) hP hD hS hA [] [] rfl rfl rfl (by decide) (va_runV (As := [.ref st, .ref sk]) (rest := []) F (N_DA_readSecret_2 l g _ T s pl hO hU h0 st sk psk k_h0 k_st k_sk n_sk) (cwV 2 hts (wg_app (wg_c kw_1179 (wg_c kw_1181 (wg_c ks_34 (wg_c kw_5 wg_n)))) kw_1182) rfl rfl rfl (by decide +kernel) ⟨by decide, by decide⟩) (pn_W "LatticeKeys$Dsa" (en_ok g) (ci := 6) (kn := 39) (fl := [(3, 16), (3, 22), (3, 37), (3, 40), (3, 97), (3, 105), (3, 114), (3, 123), (3, 131), (3, 140), (3, 141), (3, 142), (3, 143), (3, 144), (3, 145), (3, 146), (3, 147)]) hK hO k_h0 rfl hP hD hS hA hE [] rfl rfl rfl) rfl rfl hl.1 rfl (lv_room (Nat.le_of_ble_eq_true rfl)) dDA_makeSignature_3 ⟨by omega, by omega⟩) (fun  u21 H locs hu21 hP hD hS => ?_)
  obtain ⟨s21, pl⟩ := u21
  obtain ⟨⟨eq21, hFc21, -⟩, hO⟩ := hu21
  have hO : okn g T s21 pl := hO
  have hP : va_P g.1 vcl ([] ++ pl) _ := hP
  have hD : va_D _ ([] ++ pl) := hD
  have hFc21 : frm (M_DA_readSecret_2) s s21 := hFc21
  replace hR := bnd_step hR eq21
  have hF := frm_tr hF hFc21 (fun k hk => by unfold M_DA_readSecret_2 at hk; unfold M_DA_makeSignatureA_2; omega)
  have hg21 : (s21.1 2) = s.1 2 := by rw [hFc21 2 (by unfold M_DA_readSecret_2; omega)]
  refine W.widen (k := 0) (n := 0) (by omega) (by omega) ?_
  refine lv_aload_n hx hb dDA_makeSignature_6 rfl (lv_at hl 2 rfl) ?_
  refine lv_bipush (v := nI 64) hx hb dDA_makeSignature_7 (by decide) ?_
  refine lv_aload_n hx hb dDA_makeSignature_9 rfl (lv_at hl 0 rfl) ?_
  refine nw_get (C := "LatticeKeys$Dsa") (TT := T_DA) (N := 17) hx hb hts (wg_ft i_DA) hown hK hO k_h0 (kn := 39) (ci := 6) (fl := [(3, 16), (3, 22), (3, 37), (3, 40), (3, 97), (3, 105), (3, 114), (3, 123), (3, 131), (3, 140), (3, 141), (3, 142), (3, 143), (3, 144), (3, 145), (3, 146), (3, 147)]) rfl hP rfl 12 (by decide) (hts _ (wg_t kw_177)) (fun _ h9 => h9) (cd := (3, 143)) rfl dDA_makeSignature_10 (fun v21 hv21 => ?_)
  obtain ⟨r21, rfl, kr21⟩ := (show ∃ r : Nat, v21 = .ref r ∧ T r = some 143 from hv21)
  refine lv_iconst (v := nI 0) hx hb dDA_makeSignature_13 (by decide) ?_
  refine lv_bipush (v := nI 64) hx hb dDA_makeSignature_14 (by decide) ?_
  refine nw_copyb hx hb (hml.trans hl.1.symm) hown (hts _ (wg_t kw_674)) (hts _ (wg_t kw_526)) (hts _ (wg_t kw_525)) (hts _ (wg_t kw_19)) hK hO hU k_sk (k0 := psk) n_sk kr21 (k1 := 143) rfl hP hD hS (sp := 64) (dp := 0) (n := 64) (by omega) (by omega) (by omega) (by decide) (Nat.le_of_ble_eq_true rfl) dDA_makeSignature_16 (fun s22 pl H locs es21 hO hP hD hS => ?_)
  replace hR := bnd_step hR es21
  have hF := frm_sC hF es21 (by unfold M_DA_makeSignatureA_2; omega)
  have hg22 : (s22.1 2) = s.1 2 := by rw [(ar_sC es21 (by omega))]; exact hg21
  refine lv_aload_n hx hb dDA_makeSignature_19 rfl (lv_at hl 0 rfl) ?_
  refine lv_aload_n hx hb dDA_makeSignature_20 rfl (lv_at hl 3 rfl) ?_
  refine lv_bipush (v := nI 32) hx hb dDA_makeSignature_21 (by decide) ?_
  refine lv_iload hx hb dDA_makeSignature_23 (lv_at hl 4 rfl) ?_
  refine lv_iload hx hb dDA_makeSignature_25 (lv_at hl 5 rfl) ?_
  refine mp_v (cx := []) (wr := []) hP hD hS hA [] [] rfl rfl rfl (by decide) (va_runV (As := [.ref tp, .int (nI 32), .int (nI len), .int cl_]) (rest := []) F (N_DA_digestMessage l g _ T s22 pl hO hU h0 tp 1 16384 32 len cl_ k_h0 k_tp rfl (by omega) (by omega) (by omega)) (cwV 4 hts (wg_app (wg_c kw_1188 (wg_c kw_1190 (wg_c ks_36 (wg_c kw_5 wg_n)))) kw_1191) rfl rfl rfl (by decide +kernel) ⟨by decide, by decide⟩) (pn_W "LatticeKeys$Dsa" (en_ok g) (ci := 6) (kn := 39) (fl := [(3, 16), (3, 22), (3, 37), (3, 40), (3, 97), (3, 105), (3, 114), (3, 123), (3, 131), (3, 140), (3, 141), (3, 142), (3, 143), (3, 144), (3, 145), (3, 146), (3, 147)]) hK hO k_h0 rfl hP hD hS hA hE [] rfl rfl rfl) rfl rfl hl.1 rfl (lv_room (Nat.le_of_ble_eq_true rfl)) dDA_makeSignature_27 ⟨by omega, by omega⟩) (fun  u22 H locs hu22 hP hD hS => ?_)
  obtain ⟨s23, pl⟩ := u22
  obtain ⟨⟨eq22, hFc22, -⟩, hO⟩ := hu22
  have hO : okn g T s23 pl := hO
  have hP : va_P g.1 vcl ([] ++ pl) _ := hP
  have hD : va_D _ ([] ++ pl) := hD
  have hFc22 : frm (M_DA_digestMessage) s22 s23 := hFc22
  replace hR := bnd_step hR eq22
  have hF := frm_tr hF hFc22 (fun k hk => by unfold M_DA_digestMessage at hk; unfold M_DA_makeSignatureA_2; omega)
  have hg23 : (s23.1 2) = s.1 2 := by rw [hFc22 2 (by unfold M_DA_digestMessage; omega)]; exact hg22
  refine W.widen (k := 0) (n := 0) (by omega) (by omega) ?_
  refine lv_aload_n hx hb dDA_makeSignature_30 rfl (lv_at hl 0 rfl) ?_
  refine nw_get (C := "LatticeKeys$Dsa") (TT := T_DA) (N := 17) hx hb hts (wg_ft i_DA) hown hK hO k_h0 (kn := 39) (ci := 6) (fl := [(3, 16), (3, 22), (3, 37), (3, 40), (3, 97), (3, 105), (3, 114), (3, 123), (3, 131), (3, 140), (3, 141), (3, 142), (3, 143), (3, 144), (3, 145), (3, 146), (3, 147)]) rfl hP rfl 0 (by decide) (hts _ (wg_t kw_165)) (fun _ h9 => h9) (cd := (3, 16)) rfl dDA_makeSignature_31 (fun v22 hv22 => ?_)
  obtain ⟨r22, rfl, kr22⟩ := (show ∃ r : Nat, v22 = .ref r ∧ T r = some 16 from hv22)
  refine lv_iconst (v := nI 3) hx hb dDA_makeSignature_34 (by decide) ?_
  refine mp_v (cx := []) (wr := []) hP hD hS hA [] [] rfl rfl rfl (by decide) (va_runV (As := [.int (nI 3)]) (rest := []) F (N_SP_start_3 l g _ T s23 pl hO hU r22 16 17 kr22 rfl rfl) (cwV 1 hts (wg_app (wg_c kw_669 (wg_c kw_579 (wg_c kw_580 (wg_c kw_2 wg_n)))) kw_581) rfl rfl rfl (by decide +kernel) ⟨by decide, by decide⟩) (pn_W "LatticeKeys$Sponge" (en_ok g) (ci := 3) (kn := 16) (fl := [(3, 17), (0, 0), (0, 0), (0, 0)]) hK hO kr22 rfl hP hD hS hA hE [] rfl rfl rfl) rfl rfl hl.1 rfl (lv_room (Nat.le_of_ble_eq_true rfl)) dDA_makeSignature_35 ⟨by omega, by omega⟩) (fun  u23 H locs hu23 hP hD hS => ?_)
  obtain ⟨s24, pl⟩ := u23
  obtain ⟨⟨eq23, hFc23, ⟨x23, hx_23, hb_23⟩, ⟨x24, hx_24, hb_24⟩, -⟩, hO⟩ := hu23
  have hO : okn g T s24 pl := hO
  have hP : va_P g.1 vcl ([] ++ pl) _ := hP
  have hD : va_D _ ([] ++ pl) := hD
  have hFc23 : frm (M_SP_start_3 16) s23 s24 := hFc23
  have hb_23 : x23 = 0 := hb_23
  have hb_24 : x24 = 136 := hb_24
  replace hR := bnd_step hR eq23
  have hF := frm_tr hF hFc23 (fun k hk => by unfold M_SP_start_3 at hk; unfold M_DA_makeSignatureA_2; omega)
  have hg24 : (s24.1 2) = s.1 2 := by rw [hFc23 2 (by unfold M_SP_start_3; omega)]; exact hg23
  refine W.widen (k := 0) (n := 0) (by omega) (by omega) ?_
  refine lv_aload_n hx hb dDA_makeSignature_38 rfl (lv_at hl 0 rfl) ?_
  refine nw_get (C := "LatticeKeys$Dsa") (TT := T_DA) (N := 17) hx hb hts (wg_ft i_DA) hown hK hO k_h0 (kn := 39) (ci := 6) (fl := [(3, 16), (3, 22), (3, 37), (3, 40), (3, 97), (3, 105), (3, 114), (3, 123), (3, 131), (3, 140), (3, 141), (3, 142), (3, 143), (3, 144), (3, 145), (3, 146), (3, 147)]) rfl hP rfl 0 (by decide) (hts _ (wg_t kw_165)) (fun _ h9 => h9) (cd := (3, 16)) rfl dDA_makeSignature_39 (fun v23 hv23 => ?_)
  obtain ⟨r23, rfl, kr23⟩ := (show ∃ r : Nat, v23 = .ref r ∧ T r = some 16 from hv23)
  refine lv_aload_n hx hb dDA_makeSignature_42 rfl (lv_at hl 2 rfl) ?_
  refine lv_bipush (v := nI 32) hx hb dDA_makeSignature_43 (by decide) ?_
  refine lv_bipush (v := nI 32) hx hb dDA_makeSignature_45 (by decide) ?_
  refine mp_v (cx := []) (wr := []) hP hD hS hA [] [] rfl rfl rfl (by decide) (va_runV (As := [.ref sk, .int (nI 32), .int (nI 32)]) (rest := []) F (N_SP_absorb l g _ T s24 pl hO hU r23 sk 16 17 psk 4896 32 32 x23 x24 kr23 rfl rfl k_sk n_sk hx_23 hx_24 (by omega) (by omega) (by omega) (by omega)) (cwV 3 hts (wg_app (wg_c kw_670 (wg_c kw_586 (wg_c kw_587 (wg_c kw_2 wg_n)))) kw_588) rfl rfl rfl (by decide +kernel) ⟨by decide, by decide⟩) (pn_W "LatticeKeys$Sponge" (en_ok g) (ci := 3) (kn := 16) (fl := [(3, 17), (0, 0), (0, 0), (0, 0)]) hK hO kr23 rfl hP hD hS hA hE [] rfl rfl rfl) rfl rfl hl.1 rfl (lv_room (Nat.le_of_ble_eq_true rfl)) dDA_makeSignature_47 ⟨by omega, by omega⟩) (fun  u24 H locs hu24 hP hD hS => ?_)
  obtain ⟨s25, pl⟩ := u24
  obtain ⟨⟨eq24, hFc24, ⟨x26, hx_26, hb_26⟩, ⟨x27, hx_27, hb_27⟩, -⟩, hO⟩ := hu24
  have hO : okn g T s25 pl := hO
  have hP : va_P g.1 vcl ([] ++ pl) _ := hP
  have hD : va_D _ ([] ++ pl) := hD
  have hFc24 : frm (M_SP_absorb 16) s24 s25 := hFc24
  have hb_26 : x26 < x24 := hb_26
  have hb_27 : x27 = x24 := hb_27
  replace hR := bnd_step hR eq24
  have hF := frm_tr hF hFc24 (fun k hk => by unfold M_SP_absorb at hk; unfold M_DA_makeSignatureA_2; omega)
  have hg25 : (s25.1 2) = s.1 2 := by rw [hFc24 2 (by unfold M_SP_absorb; omega)]; exact hg24
  refine W.widen (k := 0) (n := 0) (by omega) (by omega) ?_
  refine lv_aload_n hx hb dDA_makeSignature_50 rfl (lv_at hl 0 rfl) ?_
  refine nw_get (C := "LatticeKeys$Dsa") (TT := T_DA) (N := 17) hx hb hts (wg_ft i_DA) hown hK hO k_h0 (kn := 39) (ci := 6) (fl := [(3, 16), (3, 22), (3, 37), (3, 40), (3, 97), (3, 105), (3, 114), (3, 123), (3, 131), (3, 140), (3, 141), (3, 142), (3, 143), (3, 144), (3, 145), (3, 146), (3, 147)]) rfl hP rfl 0 (by decide) (hts _ (wg_t kw_165)) (fun _ h9 => h9) (cd := (3, 16)) rfl dDA_makeSignature_51 (fun v24 hv24 => ?_)
  obtain ⟨r24, rfl, kr24⟩ := (show ∃ r : Nat, v24 = .ref r ∧ T r = some 16 from hv24)
  refine lv_aload_n hx hb dDA_makeSignature_54 rfl (lv_at hl 3 rfl) ?_
  refine lv_iconst (v := nI 0) hx hb dDA_makeSignature_55 (by decide) ?_
  refine lv_bipush (v := nI 32) hx hb dDA_makeSignature_56 (by decide) ?_
  refine mp_v (cx := []) (wr := []) hP hD hS hA [] [] rfl rfl rfl (by decide) (va_runV (As := [.ref tp, .int (nI 0), .int (nI 32)]) (rest := []) F (N_SP_absorb l g _ T s25 pl hO hU r24 tp 16 17 1 16384 0 32 x26 x27 kr24 rfl rfl k_tp rfl hx_26 hx_27 (by omega) (by omega) (by omega) (by omega)) (cwV 3 hts (wg_app (wg_c kw_670 (wg_c kw_586 (wg_c kw_587 (wg_c kw_2 wg_n)))) kw_588) rfl rfl rfl (by decide +kernel) ⟨by decide, by decide⟩) (pn_W "LatticeKeys$Sponge" (en_ok g) (ci := 3) (kn := 16) (fl := [(3, 17), (0, 0), (0, 0), (0, 0)]) hK hO kr24 rfl hP hD hS hA hE [] rfl rfl rfl) rfl rfl hl.1 rfl (lv_room (Nat.le_of_ble_eq_true rfl)) dDA_makeSignature_58 ⟨by omega, by omega⟩) (fun  u25 H locs hu25 hP hD hS => ?_)
  obtain ⟨s26, pl⟩ := u25
  obtain ⟨⟨eq25, hFc25, ⟨x29, hx_29, hb_29⟩, ⟨x30, hx_30, hb_30⟩, -⟩, hO⟩ := hu25
  have hO : okn g T s26 pl := hO
  have hP : va_P g.1 vcl ([] ++ pl) _ := hP
  have hD : va_D _ ([] ++ pl) := hD
  have hFc25 : frm (M_SP_absorb 16) s25 s26 := hFc25
  have hb_29 : x29 < x27 := hb_29
  have hb_30 : x30 = x27 := hb_30
  replace hR := bnd_step hR eq25
  have hF := frm_tr hF hFc25 (fun k hk => by unfold M_SP_absorb at hk; unfold M_DA_makeSignatureA_2; omega)
  have hg26 : (s26.1 2) = s.1 2 := by rw [hFc25 2 (by unfold M_SP_absorb; omega)]; exact hg25
  refine W.widen (k := 0) (n := 0) (by omega) (by omega) ?_
  refine lv_aload_n hx hb dDA_makeSignature_61 rfl (lv_at hl 0 rfl) ?_
  refine nw_get (C := "LatticeKeys$Dsa") (TT := T_DA) (N := 17) hx hb hts (wg_ft i_DA) hown hK hO k_h0 (kn := 39) (ci := 6) (fl := [(3, 16), (3, 22), (3, 37), (3, 40), (3, 97), (3, 105), (3, 114), (3, 123), (3, 131), (3, 140), (3, 141), (3, 142), (3, 143), (3, 144), (3, 145), (3, 146), (3, 147)]) rfl hP rfl 0 (by decide) (hts _ (wg_t kw_165)) (fun _ h9 => h9) (cd := (3, 16)) rfl dDA_makeSignature_62 (fun v25 hv25 => ?_)
  obtain ⟨r25, rfl, kr25⟩ := (show ∃ r : Nat, v25 = .ref r ∧ T r = some 16 from hv25)
  refine lv_aload_n hx hb dDA_makeSignature_65 rfl (lv_at hl 0 rfl) ?_
  refine nw_get (C := "LatticeKeys$Dsa") (TT := T_DA) (N := 17) hx hb hts (wg_ft i_DA) hown hK hO k_h0 (kn := 39) (ci := 6) (fl := [(3, 16), (3, 22), (3, 37), (3, 40), (3, 97), (3, 105), (3, 114), (3, 123), (3, 131), (3, 140), (3, 141), (3, 142), (3, 143), (3, 144), (3, 145), (3, 146), (3, 147)]) rfl hP rfl 12 (by decide) (hts _ (wg_t kw_177)) (fun _ h9 => h9) (cd := (3, 143)) rfl dDA_makeSignature_66 (fun v26 hv26 => ?_)
  obtain ⟨r26, rfl, kr26⟩ := (show ∃ r : Nat, v26 = .ref r ∧ T r = some 143 from hv26)
  refine lv_iconst (v := nI 0) hx hb dDA_makeSignature_69 (by decide) ?_
  refine lv_bipush (v := nI 64) hx hb dDA_makeSignature_70 (by decide) ?_
  refine mp_v (cx := []) (wr := []) hP hD hS hA [] [] rfl rfl rfl (by decide) (va_runV (As := [.ref r26, .int (nI 0), .int (nI 64)]) (rest := []) F (N_SP_absorb l g _ T s26 pl hO hU r25 r26 16 17 143 64 0 64 x29 x30 kr25 rfl rfl kr26 rfl hx_29 hx_30 (by omega) (by omega) (by omega) (by omega)) (cwV 3 hts (wg_app (wg_c kw_670 (wg_c kw_586 (wg_c kw_587 (wg_c kw_2 wg_n)))) kw_588) rfl rfl rfl (by decide +kernel) ⟨by decide, by decide⟩) (pn_W "LatticeKeys$Sponge" (en_ok g) (ci := 3) (kn := 16) (fl := [(3, 17), (0, 0), (0, 0), (0, 0)]) hK hO kr25 rfl hP hD hS hA hE [] rfl rfl rfl) rfl rfl hl.1 rfl (lv_room (Nat.le_of_ble_eq_true rfl)) dDA_makeSignature_72 ⟨by omega, by omega⟩) (fun  u26 H locs hu26 hP hD hS => ?_)
  obtain ⟨s27, pl⟩ := u26
  obtain ⟨⟨eq26, hFc26, ⟨x32, hx_32, hb_32⟩, ⟨x33, hx_33, hb_33⟩, -⟩, hO⟩ := hu26
  have hO : okn g T s27 pl := hO
  have hP : va_P g.1 vcl ([] ++ pl) _ := hP
  have hD : va_D _ ([] ++ pl) := hD
  have hFc26 : frm (M_SP_absorb 16) s26 s27 := hFc26
  have hb_32 : x32 < x30 := hb_32
  have hb_33 : x33 = x30 := hb_33
  replace hR := bnd_step hR eq26
  have hF := frm_tr hF hFc26 (fun k hk => by unfold M_SP_absorb at hk; unfold M_DA_makeSignatureA_2; omega)
  have hg27 : (s27.1 2) = s.1 2 := by rw [hFc26 2 (by unfold M_SP_absorb; omega)]; exact hg26
  refine W.widen (k := 0) (n := 0) (by omega) (by omega) ?_
  refine lv_aload_n hx hb dDA_makeSignature_75 rfl (lv_at hl 0 rfl) ?_
  refine nw_get (C := "LatticeKeys$Dsa") (TT := T_DA) (N := 17) hx hb hts (wg_ft i_DA) hown hK hO k_h0 (kn := 39) (ci := 6) (fl := [(3, 16), (3, 22), (3, 37), (3, 40), (3, 97), (3, 105), (3, 114), (3, 123), (3, 131), (3, 140), (3, 141), (3, 142), (3, 143), (3, 144), (3, 145), (3, 146), (3, 147)]) rfl hP rfl 0 (by decide) (hts _ (wg_t kw_165)) (fun _ h9 => h9) (cd := (3, 16)) rfl dDA_makeSignature_76 (fun v27 hv27 => ?_)
  obtain ⟨r27, rfl, kr27⟩ := (show ∃ r : Nat, v27 = .ref r ∧ T r = some 16 from hv27)
  refine mp_v (cx := []) (wr := []) hP hD hS hA [] [] rfl rfl rfl (by decide) (va_runV (As := []) (rest := []) F (N_SP_finish l g _ T s27 pl hO hU r27 16 17 x32 x33 kr27 rfl rfl hx_32 hx_33 (by omega) (by omega)) (cwV 0 hts (wg_app (wg_c kw_672 (wg_c kw_611 (wg_c kw_612 (wg_c kw_2 wg_n)))) kw_613) rfl rfl rfl (by decide +kernel) ⟨by decide, by decide⟩) (pn_W "LatticeKeys$Sponge" (en_ok g) (ci := 3) (kn := 16) (fl := [(3, 17), (0, 0), (0, 0), (0, 0)]) hK hO kr27 rfl hP hD hS hA hE [] rfl rfl rfl) rfl rfl hl.1 rfl (lv_room (Nat.le_of_ble_eq_true rfl)) dDA_makeSignature_79 ⟨by omega, by omega⟩) (fun  u27 H locs hu27 hP hD hS => ?_)
  obtain ⟨s28, pl⟩ := u27
  obtain ⟨⟨eq27, hFc27, ⟨x35, hx_35, hb_35⟩, ⟨x36, hx_36, hb_36⟩, -⟩, hO⟩ := hu27
  have hO : okn g T s28 pl := hO
  have hP : va_P g.1 vcl ([] ++ pl) _ := hP
  have hD : va_D _ ([] ++ pl) := hD
  have hFc27 : frm (M_SP_finish 16) s27 s28 := hFc27
  have hb_35 : x35 = x33 := hb_35
  have hb_36 : x36 = x33 := hb_36
  replace hR := bnd_step hR eq27
  have hF := frm_tr hF hFc27 (fun k hk => by unfold M_SP_finish at hk; unfold M_DA_makeSignatureA_2; omega)
  have hg28 : (s28.1 2) = s.1 2 := by rw [hFc27 2 (by unfold M_SP_finish; omega)]; exact hg27
  refine W.widen (k := 0) (n := 0) (by omega) (by omega) ?_
  refine lv_aload_n hx hb dDA_makeSignature_82 rfl (lv_at hl 0 rfl) ?_
  refine nw_get (C := "LatticeKeys$Dsa") (TT := T_DA) (N := 17) hx hb hts (wg_ft i_DA) hown hK hO k_h0 (kn := 39) (ci := 6) (fl := [(3, 16), (3, 22), (3, 37), (3, 40), (3, 97), (3, 105), (3, 114), (3, 123), (3, 131), (3, 140), (3, 141), (3, 142), (3, 143), (3, 144), (3, 145), (3, 146), (3, 147)]) rfl hP rfl 0 (by decide) (hts _ (wg_t kw_165)) (fun _ h9 => h9) (cd := (3, 16)) rfl dDA_makeSignature_83 (fun v28 hv28 => ?_)
  obtain ⟨r28, rfl, kr28⟩ := (show ∃ r : Nat, v28 = .ref r ∧ T r = some 16 from hv28)
  refine lv_aload_n hx hb dDA_makeSignature_86 rfl (lv_at hl 0 rfl) ?_
  refine nw_get (C := "LatticeKeys$Dsa") (TT := T_DA) (N := 17) hx hb hts (wg_ft i_DA) hown hK hO k_h0 (kn := 39) (ci := 6) (fl := [(3, 16), (3, 22), (3, 37), (3, 40), (3, 97), (3, 105), (3, 114), (3, 123), (3, 131), (3, 140), (3, 141), (3, 142), (3, 143), (3, 144), (3, 145), (3, 146), (3, 147)]) rfl hP rfl 11 (by decide) (hts _ (wg_t kw_176)) (fun _ h9 => h9) (cd := (3, 142)) rfl dDA_makeSignature_87 (fun v29 hv29 => ?_)
  obtain ⟨r29, rfl, kr29⟩ := (show ∃ r : Nat, v29 = .ref r ∧ T r = some 142 from hv29)
  refine lv_iconst (v := nI 0) hx hb dDA_makeSignature_90 (by decide) ?_
  refine lv_bipush (v := nI 64) hx hb dDA_makeSignature_91 (by decide) ?_
  refine mp_v (cx := []) (wr := []) hP hD hS hA [] [] rfl rfl rfl (by decide) (va_runV (As := [.ref r29, .int (nI 0), .int (nI 64)]) (rest := []) F (N_SP_squeeze l g _ T s28 pl hO hU r28 r29 16 17 142 128 0 64 x35 x36 kr28 rfl rfl kr29 rfl hx_35 hx_36 (by omega) (by omega) (by omega) (by omega)) (cwV 3 hts (wg_app (wg_c kw_673 (wg_c kw_615 (wg_c kw_616 (wg_c kw_2 wg_n)))) kw_617) rfl rfl rfl (by decide +kernel) ⟨by decide, by decide⟩) (pn_W "LatticeKeys$Sponge" (en_ok g) (ci := 3) (kn := 16) (fl := [(3, 17), (0, 0), (0, 0), (0, 0)]) hK hO kr28 rfl hP hD hS hA hE [] rfl rfl rfl) rfl rfl hl.1 rfl (lv_room (Nat.le_of_ble_eq_true rfl)) dDA_makeSignature_93 ⟨by omega, by omega⟩) (fun  u28 H locs hu28 hP hD hS => ?_)
  obtain ⟨s29, pl⟩ := u28
  obtain ⟨⟨eq28, hFc28, ⟨x38, hx_38, hb_38⟩, ⟨x39, hx_39, hb_39⟩, -⟩, hO⟩ := hu28
  have hO : okn g T s29 pl := hO
  have hP : va_P g.1 vcl ([] ++ pl) _ := hP
  have hD : va_D _ ([] ++ pl) := hD
  have hFc28 : frm (M_SP_squeeze 16 142) s28 s29 := hFc28
  have hb_38 : x38 ≤ x36 := hb_38
  have hb_39 : x39 = x36 := hb_39
  replace hR := bnd_step hR eq28
  have hF := frm_tr hF hFc28 (fun k hk => by unfold M_SP_squeeze at hk; unfold M_DA_makeSignatureA_2; omega)
  have hg29 : (s29.1 2) = s.1 2 := by rw [hFc28 2 (by unfold M_SP_squeeze; omega)]; exact hg28
  refine W.widen (k := 0) (n := 0) (by omega) (by omega) ?_
  refine lv_iconst (v := nI 1) hx hb dDA_makeSignature_96 (by decide) ?_
  refine lv_istore (lv' := [(7, .int (nI 1)), (0, .ref h0), (1, .ref st), (2, .ref sk), (3, .ref tp), (4, .int (nI len)), (5, .int cl_), (6, .ref to)]) hx hb dDA_makeSignature_97 hl (by decide) rfl (fun ls hl => ?_)
  have lp21 : ∀ (n21 : Nat) (i21 : Nat) (s30 : Sto) (pl : va_W) (ls : Array Slot) (H : Heap) (locs : List Loc), n21 + i21 = 201 → (1 ≤ i21) → frm (M_DA_makeSignatureA_2) s s30 → ((s30.1 2) = s.1 2) → F_DA_makeSignatureA_2 psk len cl_ s = F_DA_makeSignatureA_2_L0 n21 i21 s30 → lv_has ls 8 [(7, .int (nI i21)), (0, .ref h0), (1, .ref st), (6, .ref to)] → okn g T s30 pl → va_P g.1 vcl ([] ++ pl) H → va_D A ([] ++ pl) → va_S A s0.heap H locs → W p l e ({ frames := 6, cells := 0, slots := 0, locals := 176 } : Room) s0 m args below meth c H locs 0 0 (MQ below (va_Qi (fun (r : Int32) (u : (Int32 × Sto) × va_W) => (u.1 = F_DA_makeSignatureA_2 psk len cl_ s ∧ r = u.1.1 ∧ frm (M_DA_makeSignatureA_2) s u.1.2 ∧ (u.1.1 = nI 0 → u.1.2.1 2 = s.1 2) ∧ True) ∧ okn g T u.1.2 u.2) (po g.1 vcl A (fun (u : (Int32 × Sto) × va_W) => [] ++ u.2)) A) args s0 0 0 A) (F0 m 99 ls []) := by
    intro n21
    induction n21 with
    | zero =>
      intro i21 s30 pl ls H locs hm21 hi21 hF hg30 hR hl hO hP hD hS
      refine lv_iload hx hb dDA_makeSignature_99 (lv_at hl 0 rfl) ?_
      refine lv_sipush (v := nI 200) hx hb dDA_makeSignature_101 (by decide) ?_
      refine mi_gt (tgt := 161) hx hb dDA_makeSignature_104 (by decide) (by omega) (by omega) (fun h21 => ?_) (fun h21 => absurd h21 (by omega))
      refine lv_iconst (v := nI 0) hx hb dDA_makeSignature_161 (by decide) ?_
      exact mp_iret hx hb hr hlk hP hD hS ((nI 0, s30), pl) ⟨⟨hR.symm, rfl, hF, (fun _ => hg30), trivial⟩, hO⟩ [] rfl rfl rfl (by omega) (by omega) dDA_makeSignature_162
    | succ n21 ih21 =>
      intro i21 s30 pl ls H locs hm21 hi21 hF hg30 hR hl hO hP hD hS
      refine lv_iload hx hb dDA_makeSignature_99 (lv_at hl 0 rfl) ?_
      refine lv_sipush (v := nI 200) hx hb dDA_makeSignature_101 (by decide) ?_
      refine mi_gt (tgt := 161) hx hb dDA_makeSignature_104 (by decide) (by omega) (by omega) (fun h22 => absurd h22 (by omega)) (fun h22 => ?_)
      refine lv_aload_n hx hb dDA_makeSignature_107 rfl (lv_at hl 1 rfl) ?_
      refine lv_aload_n hx hb dDA_makeSignature_108 rfl (lv_at hl 2 rfl) ?_
      refine lv_aload_n hx hb dDA_makeSignature_109 rfl (lv_at hl 2 rfl) ?_
      refine nw_get (C := "LatticeKeys$DsaSet") (TT := T_DS) (N := 17) hx hb hts (wg_ft i_DS) hown hK hO k_st (kn := 11) (ci := 2) (fl := [(1, 8), (1, 7), (1, 2), (1, 3), (1, 60), (1, 64), (1, 20), (1, 524288), (1, 16), (1, 4), (1, 261888), (1, 75), (1, 120), (1, 2592), (1, 4896), (1, 4544), (1, 4627)]) rfl hP rfl 1 (by decide) (hts _ (wg_t kw_305)) (fun _ h9 => h9) (cd := (1, 7)) rfl dDA_makeSignature_110 (fun v30 hv30 => ?_)
      obtain rfl := (show v30 = .int (nI 7) from hv30)
      refine lv_iload hx hb dDA_makeSignature_113 (lv_at hl 0 rfl) ?_
      refine lv_iconst (v := nI 1) hx hb dDA_makeSignature_115 (by decide) ?_
      refine mi_isub hx hb dDA_makeSignature_116 (by omega) ?_
      refine mi_imul hx hb dDA_makeSignature_117 ?_
      refine mp_v (cx := []) (wr := []) hP hD hS hA [] [] rfl rfl rfl (by decide) (va_runV (As := [.ref st, .int (nI (7 * (i21 - 1)))]) (rest := []) F (N_DA_commit_2 l g _ T s30 pl hO hU h0 st (nI (7 * (i21 - 1))) k_h0 k_st) (cwV 2 hts (wg_app (wg_c kw_1192 (wg_c kw_1194 (wg_c ks_37 (wg_c kw_5 wg_n)))) kw_1195) rfl rfl rfl (by decide +kernel) ⟨by decide, by decide⟩) (pn_W "LatticeKeys$Dsa" (en_ok g) (ci := 6) (kn := 39) (fl := [(3, 16), (3, 22), (3, 37), (3, 40), (3, 97), (3, 105), (3, 114), (3, 123), (3, 131), (3, 140), (3, 141), (3, 142), (3, 143), (3, 144), (3, 145), (3, 146), (3, 147)]) hK hO k_h0 rfl hP hD hS hA hE [] rfl rfl rfl) rfl rfl hl.1 rfl (lv_room (Nat.le_of_ble_eq_true rfl)) dDA_makeSignature_118 ⟨by omega, by omega⟩) (fun  u29 H locs hu29 hP hD hS => ?_)
      obtain ⟨s31, pl⟩ := u29
      obtain ⟨⟨eq29, hFc29, -⟩, hO⟩ := hu29
      have hO : okn g T s31 pl := hO
      have hP : va_P g.1 vcl ([] ++ pl) _ := hP
      have hD : va_D _ ([] ++ pl) := hD
      have hFc29 : frm (M_DA_commit_2) s30 s31 := hFc29
      replace hR := bnd_step hR eq29
      have hF := frm_tr hF hFc29 (fun k hk => by unfold M_DA_commit_2 at hk; unfold M_DA_makeSignatureA_2; omega)
      have hg31 : (s31.1 2) = s.1 2 := by rw [hFc29 2 (by unfold M_DA_commit_2; omega)]; exact hg30
      refine W.widen (k := 0) (n := 0) (by omega) (by omega) ?_
      refine lv_aload_n hx hb dDA_makeSignature_121 rfl (lv_at hl 1 rfl) ?_
      refine lv_aload_n hx hb dDA_makeSignature_122 rfl (lv_at hl 2 rfl) ?_
      refine mp_i (cx := []) (wr := []) hP hD hS hA [] [] rfl rfl rfl (by decide) (va_runV (As := [.ref st]) (rest := []) F (N_DA_answerIsShort_2 l g _ T s31 pl hO hU h0 st k_h0 k_st) (cwV 1 hts (wg_app (wg_c kw_1220 (wg_c kw_1222 (wg_c ks_40 (wg_c kw_5 wg_n)))) kw_1223) rfl rfl rfl (by decide +kernel) ⟨by decide, by decide⟩) (pn_W "LatticeKeys$Dsa" (en_ok g) (ci := 6) (kn := 39) (fl := [(3, 16), (3, 22), (3, 37), (3, 40), (3, 97), (3, 105), (3, 114), (3, 123), (3, 131), (3, 140), (3, 141), (3, 142), (3, 143), (3, 144), (3, 145), (3, 146), (3, 147)]) hK hO k_h0 rfl hP hD hS hA hE [] rfl rfl rfl) rfl rfl hl.1 rfl (lv_room (Nat.le_of_ble_eq_true rfl)) dDA_makeSignature_123 ⟨by omega, by omega⟩) (fun r30 u30 H locs hu30 hP hD hS => ?_)
      obtain ⟨q21, pl⟩ := u30
      obtain ⟨⟨eq30, rfl, hFc30, -⟩, hO⟩ := hu30
      have hO : okn g T q21.2 pl := hO
      have hP : va_P g.1 vcl ([] ++ pl) _ := hP
      have hD : va_D _ ([] ++ pl) := hD
      have hFc30 : frm (M_DA_answerIsShort_2) s31 q21.2 := hFc30
      replace hR := bnd_step hR eq30
      have hF := frm_tr hF hFc30 (fun k hk => by unfold M_DA_answerIsShort_2 at hk; unfold M_DA_makeSignatureA_2; omega)
      have hg32 : (q21.2.1 2) = s.1 2 := by rw [hFc30 2 (by unfold M_DA_answerIsShort_2; omega)]; exact hg31
      refine W.widen (k := 0) (n := 0) (by omega) (by omega) ?_
      refine lv_if_eq (tgt := 155) hx hb dDA_makeSignature_126 (by decide) (fun h23 => ?_) (fun h23 => ?_)
      · replace hR := hR.trans (if_pos h23)
        refine mi_iinc (k := 0) (x := i21) (d := 1) (y := i21 + 1) (lv' := [(7, .int (nI (i21 + 1))), (0, .ref h0), (1, .ref st), (6, .ref to)]) hx hb dDA_makeSignature_155 hl rfl (by decide) rfl (by decide) rfl (fun ls hl => ?_)
        refine lv_goto (tgt := 99) hx hb dDA_makeSignature_158 (by decide) ?_
        exact ih21 (i21 + 1) q21.2 pl ls H locs (by omega) (by omega) hF hg32 hR (lv_sub hl [0, 1, 2, 3] rfl) hO hP hD hS
      · replace hR := hR.trans (if_neg h23)
        refine lv_aload_n hx hb dDA_makeSignature_129 rfl (lv_at hl 1 rfl) ?_
        refine lv_aload_n hx hb dDA_makeSignature_130 rfl (lv_at hl 2 rfl) ?_
        refine mp_i (cx := []) (wr := []) hP hD hS hA [] [] rfl rfl rfl (by decide) (va_runV (As := [.ref st]) (rest := []) F (N_DA_restIsShort_2 l g _ T q21.2 pl hO hU h0 st k_h0 k_st) (cwV 1 hts (wg_app (wg_c kw_1232 (wg_c kw_1234 (wg_c ks_42 (wg_c kw_5 wg_n)))) kw_1235) rfl rfl rfl (by decide +kernel) ⟨by decide, by decide⟩) (pn_W "LatticeKeys$Dsa" (en_ok g) (ci := 6) (kn := 39) (fl := [(3, 16), (3, 22), (3, 37), (3, 40), (3, 97), (3, 105), (3, 114), (3, 123), (3, 131), (3, 140), (3, 141), (3, 142), (3, 143), (3, 144), (3, 145), (3, 146), (3, 147)]) hK hO k_h0 rfl hP hD hS hA hE [] rfl rfl rfl) rfl rfl hl.1 rfl (lv_room (Nat.le_of_ble_eq_true rfl)) dDA_makeSignature_131 ⟨by omega, by omega⟩) (fun r31 u31 H locs hu31 hP hD hS => ?_)
        obtain ⟨q22, pl⟩ := u31
        obtain ⟨⟨eq31, rfl, hFc31, -⟩, hO⟩ := hu31
        have hO : okn g T q22.2 pl := hO
        have hP : va_P g.1 vcl ([] ++ pl) _ := hP
        have hD : va_D _ ([] ++ pl) := hD
        have hFc31 : frm (M_DA_restIsShort_2) q21.2 q22.2 := hFc31
        replace hR := bnd_step hR eq31
        have hF := frm_tr hF hFc31 (fun k hk => by unfold M_DA_restIsShort_2 at hk; unfold M_DA_makeSignatureA_2; omega)
        have hg33 : (q22.2.1 2) = s.1 2 := by rw [hFc31 2 (by unfold M_DA_restIsShort_2; omega)]; exact hg32
        refine W.widen (k := 0) (n := 0) (by omega) (by omega) ?_
        refine lv_if_eq (tgt := 155) hx hb dDA_makeSignature_134 (by decide) (fun h24 => ?_) (fun h24 => ?_)
        · replace hR := hR.trans (if_pos h24)
          refine mi_iinc (k := 0) (x := i21) (d := 1) (y := i21 + 1) (lv' := [(7, .int (nI (i21 + 1))), (0, .ref h0), (1, .ref st), (6, .ref to)]) hx hb dDA_makeSignature_155 hl rfl (by decide) rfl (by decide) rfl (fun ls hl => ?_)
          refine lv_goto (tgt := 99) hx hb dDA_makeSignature_158 (by decide) ?_
          exact ih21 (i21 + 1) q22.2 pl ls H locs (by omega) (by omega) hF hg33 hR (lv_sub hl [0, 1, 2, 3] rfl) hO hP hD hS
        · replace hR := hR.trans (if_neg h24)
          refine lv_aload_n hx hb dDA_makeSignature_137 rfl (lv_at hl 1 rfl) ?_
          refine lv_aload_n hx hb dDA_makeSignature_138 rfl (lv_at hl 2 rfl) ?_
          refine mp_i (cx := []) (wr := []) hP hD hS hA [] [] rfl rfl rfl (by decide) (va_runV (As := [.ref st]) (rest := []) F (N_DA_makeHints_2 l g _ T q22.2 pl hO hU h0 st k_h0 k_st) (cwV 1 hts (wg_app (wg_c kw_1241 (wg_c kw_1243 (wg_c ks_43 (wg_c kw_5 wg_n)))) kw_1244) rfl rfl rfl (by decide +kernel) ⟨by decide, by decide⟩) (pn_W "LatticeKeys$Dsa" (en_ok g) (ci := 6) (kn := 39) (fl := [(3, 16), (3, 22), (3, 37), (3, 40), (3, 97), (3, 105), (3, 114), (3, 123), (3, 131), (3, 140), (3, 141), (3, 142), (3, 143), (3, 144), (3, 145), (3, 146), (3, 147)]) hK hO k_h0 rfl hP hD hS hA hE [] rfl rfl rfl) rfl rfl hl.1 rfl (lv_room (Nat.le_of_ble_eq_true rfl)) dDA_makeSignature_139 ⟨by omega, by omega⟩) (fun r32 u32 H locs hu32 hP hD hS => ?_)
          obtain ⟨q23, pl⟩ := u32
          obtain ⟨⟨eq32, rfl, hFc32, -⟩, hO⟩ := hu32
          have hO : okn g T q23.2 pl := hO
          have hP : va_P g.1 vcl ([] ++ pl) _ := hP
          have hD : va_D _ ([] ++ pl) := hD
          have hFc32 : frm (M_DA_makeHints_2) q22.2 q23.2 := hFc32
          replace hR := bnd_step hR eq32
          have hF := frm_tr hF hFc32 (fun k hk => by unfold M_DA_makeHints_2 at hk; unfold M_DA_makeSignatureA_2; omega)
          have hg34 : (q23.2.1 2) = s.1 2 := by rw [hFc32 2 (by unfold M_DA_makeHints_2; omega)]; exact hg33
          refine W.widen (k := 0) (n := 0) (by omega) (by omega) ?_
          refine lv_if_eq (tgt := 155) hx hb dDA_makeSignature_142 (by decide) (fun h25 => ?_) (fun h25 => ?_)
          · replace hR := hR.trans (if_pos h25)
            refine mi_iinc (k := 0) (x := i21) (d := 1) (y := i21 + 1) (lv' := [(7, .int (nI (i21 + 1))), (0, .ref h0), (1, .ref st), (6, .ref to)]) hx hb dDA_makeSignature_155 hl rfl (by decide) rfl (by decide) rfl (fun ls hl => ?_)
            refine lv_goto (tgt := 99) hx hb dDA_makeSignature_158 (by decide) ?_
            exact ih21 (i21 + 1) q23.2 pl ls H locs (by omega) (by omega) hF hg34 hR (lv_sub hl [0, 1, 2, 3] rfl) hO hP hD hS
          · replace hR := hR.trans (if_neg h25)
            refine lv_aload_n hx hb dDA_makeSignature_145 rfl (lv_at hl 1 rfl) ?_
            refine lv_aload_n hx hb dDA_makeSignature_146 rfl (lv_at hl 2 rfl) ?_
            refine lv_aload hx hb dDA_makeSignature_147 (lv_at hl 3 rfl) ?_
            refine mp_v (cx := []) (wr := []) hP hD hS hA [] [] rfl rfl rfl (by decide) (va_runV (As := [.ref st, .ref to]) (rest := []) F (N_DA_writeSignature_2 l g _ T q23.2 pl hO hU h0 st to 2 k_h0 k_st k_to rfl) (cwV 2 hts (wg_app (wg_c kw_1248 (wg_c kw_1250 (wg_c ks_44 (wg_c kw_5 wg_n)))) kw_1251) rfl rfl rfl (by decide +kernel) ⟨by decide, by decide⟩) (pn_W "LatticeKeys$Dsa" (en_ok g) (ci := 6) (kn := 39) (fl := [(3, 16), (3, 22), (3, 37), (3, 40), (3, 97), (3, 105), (3, 114), (3, 123), (3, 131), (3, 140), (3, 141), (3, 142), (3, 143), (3, 144), (3, 145), (3, 146), (3, 147)]) hK hO k_h0 rfl hP hD hS hA hE [] rfl rfl rfl) rfl rfl hl.1 rfl (lv_room (Nat.le_of_ble_eq_true rfl)) dDA_makeSignature_149 ⟨by omega, by omega⟩) (fun  u33 H locs hu33 hP hD hS => ?_)
            obtain ⟨s32, pl⟩ := u33
            obtain ⟨⟨eq33, hFc33, -⟩, hO⟩ := hu33
            have hO : okn g T s32 pl := hO
            have hP : va_P g.1 vcl ([] ++ pl) _ := hP
            have hD : va_D _ ([] ++ pl) := hD
            have hFc33 : frm (M_DA_writeSignature_2 2) q23.2 s32 := hFc33
            replace hR := bnd_step hR eq33
            have hF := frm_tr hF hFc33 (fun k hk => by unfold M_DA_writeSignature_2 at hk; unfold M_DA_makeSignatureA_2; omega)
            refine W.widen (k := 0) (n := 0) (by omega) (by omega) ?_
            refine lv_iload hx hb dDA_makeSignature_152 (lv_at hl 0 rfl) ?_
            exact mp_iret hx hb hr hlk hP hD hS ((nI i21, s32), pl) ⟨⟨hR.symm, rfl, hF, (fun h9 => absurd ((nI_eq (by omega) (by omega)).mp h9) (by omega)), trivial⟩, hO⟩ [] rfl rfl rfl (by omega) (by omega) dDA_makeSignature_154
  exact lp21 (201 - 1) 1 s29 pl ls _ _ (by omega) (by omega) hF hg29 hR (lv_sub hl [0, 1, 2, 7] rfl) hO hP hD hS
