set_option linter.all false
def M_SP_mixIn (k : Nat) : Prop := (0 : Nat) = 1
noncomputable def F_SP_mixIn (pv : Nat) (qv : Nat) (k : Nat) (v : Int32) (s : Sto) : Sto := bnd (sL s qv (k / 8) ((s.2 qv (k / 8)) ^^^ (((v.toInt64) &&& (255)) <<< ((((nI k) &&& (nI 7)) <<< ((nI 3) &&& 31)).toInt64 &&& 63)))) fun s21 => s21
set_option maxHeartbeats 400000 in
set_option maxRecDepth 100000 in
theorem N_SP_mixIn (l : Launch) (g : Gd) (sz : Nat) (T : TyN) (s : Sto) (pl : va_W) (hO : okn g T s pl) (hU : inj T) (h0 : Nat) (pv : Nat) (qv : Nat) (k : Nat) (v : Int32) (k_h0 : T h0 = some pv) (n_h0 : nsp pv = (5, 3, [(3, qv), (0, 0), (0, 0), (0, 0)])) (n_qv : nsp qv = (2, 25, [])) (hk : k < 200)  : Met l y_SP_mixIn w_SP_mixIn ({ frames := 0, cells := 0, slots := 0, locals := 0 } : Room) (va_Pc [.ref h0, .int (nI k), .int v] (pr (en g) g.1 vcl sz ([] ++ pl))) (va_Qv (fun (u : (Sto) × va_W) => (u.1 = F_SP_mixIn pv qv k v s ∧ frm (M_SP_mixIn) s u.1 ∧ True) ∧ okn g T u.1 u.2) (po g.1 vcl (va_A ([] ++ pl) sz) (fun (u : (Sto) × va_W) => [] ++ u.2)) (va_A ([] ++ pl) sz)) 0 0 (va_A ([] ++ pl) sz) := by
  refine mc_entry (cc := c_SP_mixIn) (maxL := 3) (ret := none) (by decide) rfl (Nat.le_of_ble_eq_true rfl) ?_
  intro p e s0 m args below meth c ls F hr hlk hnm hsz hP hD hE hA hl
  obtain ⟨hx, hb, hml, hown, hts⟩ := id F
  have hK := hE.1
  generalize va_A ([] ++ pl) sz = A at hD hE hA ⊢
  have hS : va_S A s0.heap s0.heap [] := va_S.rf
  have hl : lv_has ls 3 [(0, .ref h0), (1, .int (nI k)), (2, .int v)] := hl
  have hR : F_SP_mixIn pv qv k v s = F_SP_mixIn pv qv k v s := rfl
  have hF : frm (M_SP_mixIn) s s := frm_rf
  refine lv_aload_n hx hb dSP_mixIn_0 rfl (lv_at hl 0 rfl) ?_
  refine nw_get (C := "LatticeKeys$Sponge") (TT := T_SP) (N := 4) hx hb hts (wg_ft i_SP) hown hK hO k_h0 (kn := pv) (ci := 3) (fl := [(3, qv), (0, 0), (0, 0), (0, 0)]) n_h0 hP rfl 0 (by decide) (hts _ (wg_t kw_59)) (fun _ h9 => h9) (cd := (3, qv)) rfl dSP_mixIn_1 (fun v21 hv21 => ?_)
  obtain ⟨r21, rfl, kr21⟩ := (show ∃ r : Nat, v21 = .ref r ∧ T r = some qv from hv21)
  refine lv_iload_n hx hb dSP_mixIn_4 rfl (lv_at hl 1 rfl) ?_
  refine lv_iconst (v := nI 3) hx hb dSP_mixIn_5 (by decide) ?_
  refine mi_ishr hx hb dSP_mixIn_6 (by omega) (by decide) ?_
  refine mi_as (show nI (k / 2 ^ 3) = nI (k / 8) from rfl) ?_
  refine lv_dup2_11 hx hb dSP_mixIn_7 rfl rfl ?_
  refine nw_lald hx hb hK hO kr21 (k := qv) n_qv hP (by omega) (by omega) dSP_mixIn_8 ?_
  refine lv_iload_n hx hb dSP_mixIn_9 rfl (lv_at hl 2 rfl) ?_
  refine lv_i2l hx hb dSP_mixIn_10 rfl ?_
  refine lv_ldc2 (v := (255)) hx hb hown (hts _ (wg_t kw_597)) dSP_mixIn_11 ?_
  refine lv_land hx hb dSP_mixIn_14 ?_
  refine lv_iload_n hx hb dSP_mixIn_15 rfl (lv_at hl 1 rfl) ?_
  refine lv_bipush (v := nI 7) hx hb dSP_mixIn_16 (by decide) ?_
  refine lv_iand hx hb dSP_mixIn_18 ?_
  refine lv_iconst (v := nI 3) hx hb dSP_mixIn_19 (by decide) ?_
  refine lv_ishl hx hb dSP_mixIn_20 ?_
  refine lv_lshl hx hb dSP_mixIn_21 rfl ?_
  refine lv_lxor hx hb dSP_mixIn_22 ?_
  refine nw_last hx hb hK hO hU kr21 (k := qv) n_qv hP hD hS (by omega) (by omega) dSP_mixIn_23 (fun s21 pl H locs es21 hO hP hD hS => ?_)
  replace hR := bnd_step hR es21
  have hF := frm_sL hF es21
  exact mp_vret hx hb hr hlk hP hD hS (s21, pl) ⟨⟨hR.symm, hF, trivial⟩, hO⟩ [] rfl rfl rfl (by omega) (by omega) dSP_mixIn_24
def M_SP_start_0 (pv : Nat) (k : Nat) : Prop := k = pv ∨ (0 : Nat) = 1
noncomputable def F_SP_start_0 (pv : Nat) (qv : Nat) (s : Sto) : Sto := bnd (F_AR_fillJ qv 25 0 s) fun s21 => bnd (sI s21 pv 1 (nI 136)) fun s22 => bnd (sI s22 pv 2 (nI 6)) fun s23 => bnd (sI s23 pv 3 (nI 0)) fun s24 => s24
set_option maxHeartbeats 400000 in
set_option maxRecDepth 100000 in
theorem N_SP_start_0 (l : Launch) (g : Gd) (sz : Nat) (T : TyN) (s : Sto) (pl : va_W) (hO : okn g T s pl) (hU : inj T) (h0 : Nat) (pv : Nat) (qv : Nat) (k_h0 : T h0 = some pv) (n_h0 : nsp pv = (5, 3, [(3, qv), (0, 0), (0, 0), (0, 0)])) (n_qv : nsp qv = (2, 25, []))  : Met l y_SP_start w_SP_start ({ frames := 1, cells := 0, slots := 0, locals := 24 } : Room) (va_Pc [.ref h0, .int (nI 0)] (pr (en g) g.1 vcl sz ([] ++ pl))) (va_Qv (fun (u : (Sto) × va_W) => (u.1 = F_SP_start_0 pv qv s ∧ frm (M_SP_start_0 pv) s u.1 ∧ (∃ x : Nat, u.1.1 pv 3 = nI x ∧ x = 0) ∧ (∃ x : Nat, u.1.1 pv 1 = nI x ∧ x = 136) ∧ True) ∧ okn g T u.1 u.2) (po g.1 vcl (va_A ([] ++ pl) sz) (fun (u : (Sto) × va_W) => [] ++ u.2)) (va_A ([] ++ pl) sz)) 0 0 (va_A ([] ++ pl) sz) := by
  refine mc_entry (cc := c_SP_start) (maxL := 2) (ret := none) (by decide) rfl (Nat.le_of_ble_eq_true rfl) ?_
  intro p e s0 m args below meth c ls F hr hlk hnm hsz hP hD hE hA hl
  obtain ⟨hx, hb, hml, hown, hts⟩ := id F
  have hK := hE.1
  generalize va_A ([] ++ pl) sz = A at hD hE hA ⊢
  have hS : va_S A s0.heap s0.heap [] := va_S.rf
  have hl : lv_has ls 2 [(0, .ref h0), (1, .int (nI 0))] := hl
  have hR : F_SP_start_0 pv qv s = F_SP_start_0 pv qv s := rfl
  have hF : frm (M_SP_start_0 pv) s s := frm_rf
  refine lv_aload_n hx hb dSP_start_0 rfl (lv_at hl 0 rfl) ?_
  refine nw_get (C := "LatticeKeys$Sponge") (TT := T_SP) (N := 4) hx hb hts (wg_ft i_SP) hown hK hO k_h0 (kn := pv) (ci := 3) (fl := [(3, qv), (0, 0), (0, 0), (0, 0)]) n_h0 hP rfl 0 (by decide) (hts _ (wg_t kw_59)) (fun _ h9 => h9) (cd := (3, qv)) rfl dSP_start_1 (fun v21 hv21 => ?_)
  obtain ⟨r21, rfl, kr21⟩ := (show ∃ r : Nat, v21 = .ref r ∧ T r = some qv from hv21)
  refine lv_lconst (v := 0) hx hb dSP_start_4 (by decide) ?_
  refine mp_v (cx := []) (wr := []) hP hD hS hA [] [] rfl rfl rfl (by decide) (va_runS (As := [.ref r21, .long 0]) (rest := []) F (N_AR_fillJ l g _ T s pl hO hU r21 qv 25 0 kr21 n_qv (by omega)) (va_cwS 2 hts (wg_app (wg_c kw_582 (wg_c kw_583 (wg_c kw_21 wg_n))) kw_584) rfl rfl rfl (by decide +kernel) ⟨by decide, by decide⟩) (pp_S (en_ok g) hP hD hS hA hE [] rfl rfl) rfl rfl hl.1 rfl (lv_room (Nat.le_of_ble_eq_true rfl)) dSP_start_5 ⟨by omega, by omega⟩) (fun  u21 H locs hu21 hP hD hS => ?_)
  obtain ⟨s21, pl⟩ := u21
  obtain ⟨⟨eq21, hFc21, -⟩, hO⟩ := hu21
  have hO : okn g T s21 pl := hO
  have hP : va_P g.1 vcl ([] ++ pl) _ := hP
  have hD : va_D _ ([] ++ pl) := hD
  have hFc21 : frm (M_AR_fillJ) s s21 := hFc21
  replace hR := bnd_step hR eq21
  have hF := frm_tr hF hFc21 (fun k hk => by unfold M_AR_fillJ at hk; unfold M_SP_start_0; omega)
  refine W.widen (k := 0) (n := 0) (by omega) (by omega) ?_
  refine lv_aload_n hx hb dSP_start_8 rfl (lv_at hl 0 rfl) ?_
  refine va_gets hx hb (hE.2.1 0 _ rfl).1 hS hown (hts _ (wg_t kw_55)) (fun _ h9 => h9) dSP_start_9 ?_
  refine lv_iload_n hx hb dSP_start_12 rfl (lv_at hl 1 rfl) ?_
  refine va_ti (v := .int (nI 136)) hx hb (hE.2.1 0 _ rfl).2 hS (vp_in_nI (by decide) (by decide)) (by decide +kernel) dSP_start_13 ?_
  refine nw_put (C := "LatticeKeys$Sponge") (TT := T_SP) (N := 4) hx hb hts (wg_ft i_SP) ty_SP k_SP n_SP hown hK hO hU k_h0 (kn := pv) (ci := 3) (fl := [(3, qv), (0, 0), (0, 0), (0, 0)]) n_h0 hP hD hS rfl 1 (by decide) (hts _ (wg_t kw_60)) (fun _ h9 => h9) rfl (by decide +kernel) rfl dSP_start_14 (fun s22 pl H locs es21 hO hP hD hS => ?_)
  replace hR := bnd_step hR es21
  have hF := frm_sI hF es21 (by unfold M_SP_start_0; omega)
  have hf21 : s22.1 pv 1 = nI 136 := fc_eq es21
  refine lv_aload_n hx hb dSP_start_17 rfl (lv_at hl 0 rfl) ?_
  refine va_gets hx hb (hE.2.1 1 _ rfl).1 hS hown (hts _ (wg_t kw_57)) (fun _ h9 => h9) dSP_start_18 ?_
  refine lv_iload_n hx hb dSP_start_21 rfl (lv_at hl 1 rfl) ?_
  refine va_ti (v := .int (nI 6)) hx hb (hE.2.1 1 _ rfl).2 hS (vp_in_nI (by decide) (by decide)) (by decide +kernel) dSP_start_22 ?_
  refine nw_put (C := "LatticeKeys$Sponge") (TT := T_SP) (N := 4) hx hb hts (wg_ft i_SP) ty_SP k_SP n_SP hown hK hO hU k_h0 (kn := pv) (ci := 3) (fl := [(3, qv), (0, 0), (0, 0), (0, 0)]) n_h0 hP hD hS rfl 2 (by decide) (hts _ (wg_t kw_61)) (fun _ h9 => h9) rfl (by decide +kernel) rfl dSP_start_23 (fun s23 pl H locs es22 hO hP hD hS => ?_)
  replace hR := bnd_step hR es22
  have hF := frm_sI hF es22 (by unfold M_SP_start_0; omega)
  have hf22 : s23.1 pv 1 = nI 136 := fc_ne hf21 es22 (by omega)
  have hf23 : s23.1 pv 2 = nI 6 := fc_eq es22
  refine lv_aload_n hx hb dSP_start_26 rfl (lv_at hl 0 rfl) ?_
  refine lv_iconst (v := nI 0) hx hb dSP_start_27 (by decide) ?_
  refine nw_put (C := "LatticeKeys$Sponge") (TT := T_SP) (N := 4) hx hb hts (wg_ft i_SP) ty_SP k_SP n_SP hown hK hO hU k_h0 (kn := pv) (ci := 3) (fl := [(3, qv), (0, 0), (0, 0), (0, 0)]) n_h0 hP hD hS rfl 3 (by decide) (hts _ (wg_t kw_62)) (fun _ h9 => h9) rfl (by decide +kernel) rfl dSP_start_28 (fun s24 pl H locs es23 hO hP hD hS => ?_)
  replace hR := bnd_step hR es23
  have hF := frm_sI hF es23 (by unfold M_SP_start_0; omega)
  have hf24 : s24.1 pv 1 = nI 136 := fc_ne hf22 es23 (by omega)
  have hf25 : s24.1 pv 2 = nI 6 := fc_ne hf23 es23 (by omega)
  have hf26 : s24.1 pv 3 = nI 0 := fc_eq es23
  exact mp_vret hx hb hr hlk hP hD hS (s24, pl) ⟨⟨hR.symm, hF, ⟨0, hf26, by omega⟩, ⟨136, hf24, by omega⟩, trivial⟩, hO⟩ [] rfl rfl rfl (by omega) (by omega) dSP_start_31
def M_SP_start_1 (pv : Nat) (k : Nat) : Prop := k = pv ∨ (0 : Nat) = 1
noncomputable def F_SP_start_1 (pv : Nat) (qv : Nat) (s : Sto) : Sto := bnd (F_AR_fillJ qv 25 0 s) fun s21 => bnd (sI s21 pv 1 (nI 72)) fun s22 => bnd (sI s22 pv 2 (nI 6)) fun s23 => bnd (sI s23 pv 3 (nI 0)) fun s24 => s24
set_option maxHeartbeats 400000 in
set_option maxRecDepth 100000 in
theorem N_SP_start_1 (l : Launch) (g : Gd) (sz : Nat) (T : TyN) (s : Sto) (pl : va_W) (hO : okn g T s pl) (hU : inj T) (h0 : Nat) (pv : Nat) (qv : Nat) (k_h0 : T h0 = some pv) (n_h0 : nsp pv = (5, 3, [(3, qv), (0, 0), (0, 0), (0, 0)])) (n_qv : nsp qv = (2, 25, []))  : Met l y_SP_start w_SP_start ({ frames := 1, cells := 0, slots := 0, locals := 24 } : Room) (va_Pc [.ref h0, .int (nI 1)] (pr (en g) g.1 vcl sz ([] ++ pl))) (va_Qv (fun (u : (Sto) × va_W) => (u.1 = F_SP_start_1 pv qv s ∧ frm (M_SP_start_1 pv) s u.1 ∧ (∃ x : Nat, u.1.1 pv 3 = nI x ∧ x = 0) ∧ (∃ x : Nat, u.1.1 pv 1 = nI x ∧ x = 72) ∧ True) ∧ okn g T u.1 u.2) (po g.1 vcl (va_A ([] ++ pl) sz) (fun (u : (Sto) × va_W) => [] ++ u.2)) (va_A ([] ++ pl) sz)) 0 0 (va_A ([] ++ pl) sz) := by
  refine mc_entry (cc := c_SP_start) (maxL := 2) (ret := none) (by decide) rfl (Nat.le_of_ble_eq_true rfl) ?_
  intro p e s0 m args below meth c ls F hr hlk hnm hsz hP hD hE hA hl
  obtain ⟨hx, hb, hml, hown, hts⟩ := id F
  have hK := hE.1
  generalize va_A ([] ++ pl) sz = A at hD hE hA ⊢
  have hS : va_S A s0.heap s0.heap [] := va_S.rf
  have hl : lv_has ls 2 [(0, .ref h0), (1, .int (nI 1))] := hl
  have hR : F_SP_start_1 pv qv s = F_SP_start_1 pv qv s := rfl
  have hF : frm (M_SP_start_1 pv) s s := frm_rf
  refine lv_aload_n hx hb dSP_start_0 rfl (lv_at hl 0 rfl) ?_
  refine nw_get (C := "LatticeKeys$Sponge") (TT := T_SP) (N := 4) hx hb hts (wg_ft i_SP) hown hK hO k_h0 (kn := pv) (ci := 3) (fl := [(3, qv), (0, 0), (0, 0), (0, 0)]) n_h0 hP rfl 0 (by decide) (hts _ (wg_t kw_59)) (fun _ h9 => h9) (cd := (3, qv)) rfl dSP_start_1 (fun v21 hv21 => ?_)
  obtain ⟨r21, rfl, kr21⟩ := (show ∃ r : Nat, v21 = .ref r ∧ T r = some qv from hv21)
  refine lv_lconst (v := 0) hx hb dSP_start_4 (by decide) ?_
  refine mp_v (cx := []) (wr := []) hP hD hS hA [] [] rfl rfl rfl (by decide) (va_runS (As := [.ref r21, .long 0]) (rest := []) F (N_AR_fillJ l g _ T s pl hO hU r21 qv 25 0 kr21 n_qv (by omega)) (va_cwS 2 hts (wg_app (wg_c kw_582 (wg_c kw_583 (wg_c kw_21 wg_n))) kw_584) rfl rfl rfl (by decide +kernel) ⟨by decide, by decide⟩) (pp_S (en_ok g) hP hD hS hA hE [] rfl rfl) rfl rfl hl.1 rfl (lv_room (Nat.le_of_ble_eq_true rfl)) dSP_start_5 ⟨by omega, by omega⟩) (fun  u21 H locs hu21 hP hD hS => ?_)
  obtain ⟨s21, pl⟩ := u21
  obtain ⟨⟨eq21, hFc21, -⟩, hO⟩ := hu21
  have hO : okn g T s21 pl := hO
  have hP : va_P g.1 vcl ([] ++ pl) _ := hP
  have hD : va_D _ ([] ++ pl) := hD
  have hFc21 : frm (M_AR_fillJ) s s21 := hFc21
  replace hR := bnd_step hR eq21
  have hF := frm_tr hF hFc21 (fun k hk => by unfold M_AR_fillJ at hk; unfold M_SP_start_1; omega)
  refine W.widen (k := 0) (n := 0) (by omega) (by omega) ?_
  refine lv_aload_n hx hb dSP_start_8 rfl (lv_at hl 0 rfl) ?_
  refine va_gets hx hb (hE.2.1 0 _ rfl).1 hS hown (hts _ (wg_t kw_55)) (fun _ h9 => h9) dSP_start_9 ?_
  refine lv_iload_n hx hb dSP_start_12 rfl (lv_at hl 1 rfl) ?_
  refine va_ti (v := .int (nI 72)) hx hb (hE.2.1 0 _ rfl).2 hS (vp_in_nI (by decide) (by decide)) (by decide +kernel) dSP_start_13 ?_
  refine nw_put (C := "LatticeKeys$Sponge") (TT := T_SP) (N := 4) hx hb hts (wg_ft i_SP) ty_SP k_SP n_SP hown hK hO hU k_h0 (kn := pv) (ci := 3) (fl := [(3, qv), (0, 0), (0, 0), (0, 0)]) n_h0 hP hD hS rfl 1 (by decide) (hts _ (wg_t kw_60)) (fun _ h9 => h9) rfl (by decide +kernel) rfl dSP_start_14 (fun s22 pl H locs es21 hO hP hD hS => ?_)
  replace hR := bnd_step hR es21
  have hF := frm_sI hF es21 (by unfold M_SP_start_1; omega)
  have hf21 : s22.1 pv 1 = nI 72 := fc_eq es21
  refine lv_aload_n hx hb dSP_start_17 rfl (lv_at hl 0 rfl) ?_
  refine va_gets hx hb (hE.2.1 1 _ rfl).1 hS hown (hts _ (wg_t kw_57)) (fun _ h9 => h9) dSP_start_18 ?_
  refine lv_iload_n hx hb dSP_start_21 rfl (lv_at hl 1 rfl) ?_
  refine va_ti (v := .int (nI 6)) hx hb (hE.2.1 1 _ rfl).2 hS (vp_in_nI (by decide) (by decide)) (by decide +kernel) dSP_start_22 ?_
  refine nw_put (C := "LatticeKeys$Sponge") (TT := T_SP) (N := 4) hx hb hts (wg_ft i_SP) ty_SP k_SP n_SP hown hK hO hU k_h0 (kn := pv) (ci := 3) (fl := [(3, qv), (0, 0), (0, 0), (0, 0)]) n_h0 hP hD hS rfl 2 (by decide) (hts _ (wg_t kw_61)) (fun _ h9 => h9) rfl (by decide +kernel) rfl dSP_start_23 (fun s23 pl H locs es22 hO hP hD hS => ?_)
  replace hR := bnd_step hR es22
  have hF := frm_sI hF es22 (by unfold M_SP_start_1; omega)
  have hf22 : s23.1 pv 1 = nI 72 := fc_ne hf21 es22 (by omega)
  have hf23 : s23.1 pv 2 = nI 6 := fc_eq es22
  refine lv_aload_n hx hb dSP_start_26 rfl (lv_at hl 0 rfl) ?_
  refine lv_iconst (v := nI 0) hx hb dSP_start_27 (by decide) ?_
  refine nw_put (C := "LatticeKeys$Sponge") (TT := T_SP) (N := 4) hx hb hts (wg_ft i_SP) ty_SP k_SP n_SP hown hK hO hU k_h0 (kn := pv) (ci := 3) (fl := [(3, qv), (0, 0), (0, 0), (0, 0)]) n_h0 hP hD hS rfl 3 (by decide) (hts _ (wg_t kw_62)) (fun _ h9 => h9) rfl (by decide +kernel) rfl dSP_start_28 (fun s24 pl H locs es23 hO hP hD hS => ?_)
  replace hR := bnd_step hR es23
  have hF := frm_sI hF es23 (by unfold M_SP_start_1; omega)
  have hf24 : s24.1 pv 1 = nI 72 := fc_ne hf22 es23 (by omega)
  have hf25 : s24.1 pv 2 = nI 6 := fc_ne hf23 es23 (by omega)
  have hf26 : s24.1 pv 3 = nI 0 := fc_eq es23
  exact mp_vret hx hb hr hlk hP hD hS (s24, pl) ⟨⟨hR.symm, hF, ⟨0, hf26, by omega⟩, ⟨72, hf24, by omega⟩, trivial⟩, hO⟩ [] rfl rfl rfl (by omega) (by omega) dSP_start_31
def M_SP_start_2 (pv : Nat) (k : Nat) : Prop := k = pv ∨ (0 : Nat) = 1
noncomputable def F_SP_start_2 (pv : Nat) (qv : Nat) (s : Sto) : Sto := bnd (F_AR_fillJ qv 25 0 s) fun s21 => bnd (sI s21 pv 1 (nI 168)) fun s22 => bnd (sI s22 pv 2 (nI 31)) fun s23 => bnd (sI s23 pv 3 (nI 0)) fun s24 => s24
set_option maxHeartbeats 400000 in
set_option maxRecDepth 100000 in
theorem N_SP_start_2 (l : Launch) (g : Gd) (sz : Nat) (T : TyN) (s : Sto) (pl : va_W) (hO : okn g T s pl) (hU : inj T) (h0 : Nat) (pv : Nat) (qv : Nat) (k_h0 : T h0 = some pv) (n_h0 : nsp pv = (5, 3, [(3, qv), (0, 0), (0, 0), (0, 0)])) (n_qv : nsp qv = (2, 25, []))  : Met l y_SP_start w_SP_start ({ frames := 1, cells := 0, slots := 0, locals := 24 } : Room) (va_Pc [.ref h0, .int (nI 2)] (pr (en g) g.1 vcl sz ([] ++ pl))) (va_Qv (fun (u : (Sto) × va_W) => (u.1 = F_SP_start_2 pv qv s ∧ frm (M_SP_start_2 pv) s u.1 ∧ (∃ x : Nat, u.1.1 pv 3 = nI x ∧ x = 0) ∧ (∃ x : Nat, u.1.1 pv 1 = nI x ∧ x = 168) ∧ True) ∧ okn g T u.1 u.2) (po g.1 vcl (va_A ([] ++ pl) sz) (fun (u : (Sto) × va_W) => [] ++ u.2)) (va_A ([] ++ pl) sz)) 0 0 (va_A ([] ++ pl) sz) := by
  refine mc_entry (cc := c_SP_start) (maxL := 2) (ret := none) (by decide) rfl (Nat.le_of_ble_eq_true rfl) ?_
  intro p e s0 m args below meth c ls F hr hlk hnm hsz hP hD hE hA hl
  obtain ⟨hx, hb, hml, hown, hts⟩ := id F
  have hK := hE.1
  generalize va_A ([] ++ pl) sz = A at hD hE hA ⊢
  have hS : va_S A s0.heap s0.heap [] := va_S.rf
  have hl : lv_has ls 2 [(0, .ref h0), (1, .int (nI 2))] := hl
  have hR : F_SP_start_2 pv qv s = F_SP_start_2 pv qv s := rfl
  have hF : frm (M_SP_start_2 pv) s s := frm_rf
  refine lv_aload_n hx hb dSP_start_0 rfl (lv_at hl 0 rfl) ?_
  refine nw_get (C := "LatticeKeys$Sponge") (TT := T_SP) (N := 4) hx hb hts (wg_ft i_SP) hown hK hO k_h0 (kn := pv) (ci := 3) (fl := [(3, qv), (0, 0), (0, 0), (0, 0)]) n_h0 hP rfl 0 (by decide) (hts _ (wg_t kw_59)) (fun _ h9 => h9) (cd := (3, qv)) rfl dSP_start_1 (fun v21 hv21 => ?_)
  obtain ⟨r21, rfl, kr21⟩ := (show ∃ r : Nat, v21 = .ref r ∧ T r = some qv from hv21)
  refine lv_lconst (v := 0) hx hb dSP_start_4 (by decide) ?_
  refine mp_v (cx := []) (wr := []) hP hD hS hA [] [] rfl rfl rfl (by decide) (va_runS (As := [.ref r21, .long 0]) (rest := []) F (N_AR_fillJ l g _ T s pl hO hU r21 qv 25 0 kr21 n_qv (by omega)) (va_cwS 2 hts (wg_app (wg_c kw_582 (wg_c kw_583 (wg_c kw_21 wg_n))) kw_584) rfl rfl rfl (by decide +kernel) ⟨by decide, by decide⟩) (pp_S (en_ok g) hP hD hS hA hE [] rfl rfl) rfl rfl hl.1 rfl (lv_room (Nat.le_of_ble_eq_true rfl)) dSP_start_5 ⟨by omega, by omega⟩) (fun  u21 H locs hu21 hP hD hS => ?_)
  obtain ⟨s21, pl⟩ := u21
  obtain ⟨⟨eq21, hFc21, -⟩, hO⟩ := hu21
  have hO : okn g T s21 pl := hO
  have hP : va_P g.1 vcl ([] ++ pl) _ := hP
  have hD : va_D _ ([] ++ pl) := hD
  have hFc21 : frm (M_AR_fillJ) s s21 := hFc21
  replace hR := bnd_step hR eq21
  have hF := frm_tr hF hFc21 (fun k hk => by unfold M_AR_fillJ at hk; unfold M_SP_start_2; omega)
  refine W.widen (k := 0) (n := 0) (by omega) (by omega) ?_
  refine lv_aload_n hx hb dSP_start_8 rfl (lv_at hl 0 rfl) ?_
  refine va_gets hx hb (hE.2.1 0 _ rfl).1 hS hown (hts _ (wg_t kw_55)) (fun _ h9 => h9) dSP_start_9 ?_
  refine lv_iload_n hx hb dSP_start_12 rfl (lv_at hl 1 rfl) ?_
  refine va_ti (v := .int (nI 168)) hx hb (hE.2.1 0 _ rfl).2 hS (vp_in_nI (by decide) (by decide)) (by decide +kernel) dSP_start_13 ?_
  refine nw_put (C := "LatticeKeys$Sponge") (TT := T_SP) (N := 4) hx hb hts (wg_ft i_SP) ty_SP k_SP n_SP hown hK hO hU k_h0 (kn := pv) (ci := 3) (fl := [(3, qv), (0, 0), (0, 0), (0, 0)]) n_h0 hP hD hS rfl 1 (by decide) (hts _ (wg_t kw_60)) (fun _ h9 => h9) rfl (by decide +kernel) rfl dSP_start_14 (fun s22 pl H locs es21 hO hP hD hS => ?_)
  replace hR := bnd_step hR es21
  have hF := frm_sI hF es21 (by unfold M_SP_start_2; omega)
  have hf21 : s22.1 pv 1 = nI 168 := fc_eq es21
  refine lv_aload_n hx hb dSP_start_17 rfl (lv_at hl 0 rfl) ?_
  refine va_gets hx hb (hE.2.1 1 _ rfl).1 hS hown (hts _ (wg_t kw_57)) (fun _ h9 => h9) dSP_start_18 ?_
  refine lv_iload_n hx hb dSP_start_21 rfl (lv_at hl 1 rfl) ?_
  refine va_ti (v := .int (nI 31)) hx hb (hE.2.1 1 _ rfl).2 hS (vp_in_nI (by decide) (by decide)) (by decide +kernel) dSP_start_22 ?_
  refine nw_put (C := "LatticeKeys$Sponge") (TT := T_SP) (N := 4) hx hb hts (wg_ft i_SP) ty_SP k_SP n_SP hown hK hO hU k_h0 (kn := pv) (ci := 3) (fl := [(3, qv), (0, 0), (0, 0), (0, 0)]) n_h0 hP hD hS rfl 2 (by decide) (hts _ (wg_t kw_61)) (fun _ h9 => h9) rfl (by decide +kernel) rfl dSP_start_23 (fun s23 pl H locs es22 hO hP hD hS => ?_)
  replace hR := bnd_step hR es22
  have hF := frm_sI hF es22 (by unfold M_SP_start_2; omega)
  have hf22 : s23.1 pv 1 = nI 168 := fc_ne hf21 es22 (by omega)
  have hf23 : s23.1 pv 2 = nI 31 := fc_eq es22
  refine lv_aload_n hx hb dSP_start_26 rfl (lv_at hl 0 rfl) ?_
  refine lv_iconst (v := nI 0) hx hb dSP_start_27 (by decide) ?_
  refine nw_put (C := "LatticeKeys$Sponge") (TT := T_SP) (N := 4) hx hb hts (wg_ft i_SP) ty_SP k_SP n_SP hown hK hO hU k_h0 (kn := pv) (ci := 3) (fl := [(3, qv), (0, 0), (0, 0), (0, 0)]) n_h0 hP hD hS rfl 3 (by decide) (hts _ (wg_t kw_62)) (fun _ h9 => h9) rfl (by decide +kernel) rfl dSP_start_28 (fun s24 pl H locs es23 hO hP hD hS => ?_)
  replace hR := bnd_step hR es23
  have hF := frm_sI hF es23 (by unfold M_SP_start_2; omega)
  have hf24 : s24.1 pv 1 = nI 168 := fc_ne hf22 es23 (by omega)
  have hf25 : s24.1 pv 2 = nI 31 := fc_ne hf23 es23 (by omega)
  have hf26 : s24.1 pv 3 = nI 0 := fc_eq es23
  exact mp_vret hx hb hr hlk hP hD hS (s24, pl) ⟨⟨hR.symm, hF, ⟨0, hf26, by omega⟩, ⟨168, hf24, by omega⟩, trivial⟩, hO⟩ [] rfl rfl rfl (by omega) (by omega) dSP_start_31
def M_SP_start_3 (pv : Nat) (k : Nat) : Prop := k = pv ∨ (0 : Nat) = 1
noncomputable def F_SP_start_3 (pv : Nat) (qv : Nat) (s : Sto) : Sto := bnd (F_AR_fillJ qv 25 0 s) fun s21 => bnd (sI s21 pv 1 (nI 136)) fun s22 => bnd (sI s22 pv 2 (nI 31)) fun s23 => bnd (sI s23 pv 3 (nI 0)) fun s24 => s24
set_option maxHeartbeats 400000 in
set_option maxRecDepth 100000 in
theorem N_SP_start_3 (l : Launch) (g : Gd) (sz : Nat) (T : TyN) (s : Sto) (pl : va_W) (hO : okn g T s pl) (hU : inj T) (h0 : Nat) (pv : Nat) (qv : Nat) (k_h0 : T h0 = some pv) (n_h0 : nsp pv = (5, 3, [(3, qv), (0, 0), (0, 0), (0, 0)])) (n_qv : nsp qv = (2, 25, []))  : Met l y_SP_start w_SP_start ({ frames := 1, cells := 0, slots := 0, locals := 24 } : Room) (va_Pc [.ref h0, .int (nI 3)] (pr (en g) g.1 vcl sz ([] ++ pl))) (va_Qv (fun (u : (Sto) × va_W) => (u.1 = F_SP_start_3 pv qv s ∧ frm (M_SP_start_3 pv) s u.1 ∧ (∃ x : Nat, u.1.1 pv 3 = nI x ∧ x = 0) ∧ (∃ x : Nat, u.1.1 pv 1 = nI x ∧ x = 136) ∧ True) ∧ okn g T u.1 u.2) (po g.1 vcl (va_A ([] ++ pl) sz) (fun (u : (Sto) × va_W) => [] ++ u.2)) (va_A ([] ++ pl) sz)) 0 0 (va_A ([] ++ pl) sz) := by
  refine mc_entry (cc := c_SP_start) (maxL := 2) (ret := none) (by decide) rfl (Nat.le_of_ble_eq_true rfl) ?_
  intro p e s0 m args below meth c ls F hr hlk hnm hsz hP hD hE hA hl
  obtain ⟨hx, hb, hml, hown, hts⟩ := id F
  have hK := hE.1
  generalize va_A ([] ++ pl) sz = A at hD hE hA ⊢
  have hS : va_S A s0.heap s0.heap [] := va_S.rf
  have hl : lv_has ls 2 [(0, .ref h0), (1, .int (nI 3))] := hl
  have hR : F_SP_start_3 pv qv s = F_SP_start_3 pv qv s := rfl
  have hF : frm (M_SP_start_3 pv) s s := frm_rf
  refine lv_aload_n hx hb dSP_start_0 rfl (lv_at hl 0 rfl) ?_
  refine nw_get (C := "LatticeKeys$Sponge") (TT := T_SP) (N := 4) hx hb hts (wg_ft i_SP) hown hK hO k_h0 (kn := pv) (ci := 3) (fl := [(3, qv), (0, 0), (0, 0), (0, 0)]) n_h0 hP rfl 0 (by decide) (hts _ (wg_t kw_59)) (fun _ h9 => h9) (cd := (3, qv)) rfl dSP_start_1 (fun v21 hv21 => ?_)
  obtain ⟨r21, rfl, kr21⟩ := (show ∃ r : Nat, v21 = .ref r ∧ T r = some qv from hv21)
  refine lv_lconst (v := 0) hx hb dSP_start_4 (by decide) ?_
  refine mp_v (cx := []) (wr := []) hP hD hS hA [] [] rfl rfl rfl (by decide) (va_runS (As := [.ref r21, .long 0]) (rest := []) F (N_AR_fillJ l g _ T s pl hO hU r21 qv 25 0 kr21 n_qv (by omega)) (va_cwS 2 hts (wg_app (wg_c kw_582 (wg_c kw_583 (wg_c kw_21 wg_n))) kw_584) rfl rfl rfl (by decide +kernel) ⟨by decide, by decide⟩) (pp_S (en_ok g) hP hD hS hA hE [] rfl rfl) rfl rfl hl.1 rfl (lv_room (Nat.le_of_ble_eq_true rfl)) dSP_start_5 ⟨by omega, by omega⟩) (fun  u21 H locs hu21 hP hD hS => ?_)
  obtain ⟨s21, pl⟩ := u21
  obtain ⟨⟨eq21, hFc21, -⟩, hO⟩ := hu21
  have hO : okn g T s21 pl := hO
  have hP : va_P g.1 vcl ([] ++ pl) _ := hP
  have hD : va_D _ ([] ++ pl) := hD
  have hFc21 : frm (M_AR_fillJ) s s21 := hFc21
  replace hR := bnd_step hR eq21
  have hF := frm_tr hF hFc21 (fun k hk => by unfold M_AR_fillJ at hk; unfold M_SP_start_3; omega)
  refine W.widen (k := 0) (n := 0) (by omega) (by omega) ?_
  refine lv_aload_n hx hb dSP_start_8 rfl (lv_at hl 0 rfl) ?_
  refine va_gets hx hb (hE.2.1 0 _ rfl).1 hS hown (hts _ (wg_t kw_55)) (fun _ h9 => h9) dSP_start_9 ?_
  refine lv_iload_n hx hb dSP_start_12 rfl (lv_at hl 1 rfl) ?_
  refine va_ti (v := .int (nI 136)) hx hb (hE.2.1 0 _ rfl).2 hS (vp_in_nI (by decide) (by decide)) (by decide +kernel) dSP_start_13 ?_
  refine nw_put (C := "LatticeKeys$Sponge") (TT := T_SP) (N := 4) hx hb hts (wg_ft i_SP) ty_SP k_SP n_SP hown hK hO hU k_h0 (kn := pv) (ci := 3) (fl := [(3, qv), (0, 0), (0, 0), (0, 0)]) n_h0 hP hD hS rfl 1 (by decide) (hts _ (wg_t kw_60)) (fun _ h9 => h9) rfl (by decide +kernel) rfl dSP_start_14 (fun s22 pl H locs es21 hO hP hD hS => ?_)
  replace hR := bnd_step hR es21
  have hF := frm_sI hF es21 (by unfold M_SP_start_3; omega)
  have hf21 : s22.1 pv 1 = nI 136 := fc_eq es21
  refine lv_aload_n hx hb dSP_start_17 rfl (lv_at hl 0 rfl) ?_
  refine va_gets hx hb (hE.2.1 1 _ rfl).1 hS hown (hts _ (wg_t kw_57)) (fun _ h9 => h9) dSP_start_18 ?_
  refine lv_iload_n hx hb dSP_start_21 rfl (lv_at hl 1 rfl) ?_
  refine va_ti (v := .int (nI 31)) hx hb (hE.2.1 1 _ rfl).2 hS (vp_in_nI (by decide) (by decide)) (by decide +kernel) dSP_start_22 ?_
  refine nw_put (C := "LatticeKeys$Sponge") (TT := T_SP) (N := 4) hx hb hts (wg_ft i_SP) ty_SP k_SP n_SP hown hK hO hU k_h0 (kn := pv) (ci := 3) (fl := [(3, qv), (0, 0), (0, 0), (0, 0)]) n_h0 hP hD hS rfl 2 (by decide) (hts _ (wg_t kw_61)) (fun _ h9 => h9) rfl (by decide +kernel) rfl dSP_start_23 (fun s23 pl H locs es22 hO hP hD hS => ?_)
  replace hR := bnd_step hR es22
  have hF := frm_sI hF es22 (by unfold M_SP_start_3; omega)
  have hf22 : s23.1 pv 1 = nI 136 := fc_ne hf21 es22 (by omega)
  have hf23 : s23.1 pv 2 = nI 31 := fc_eq es22
  refine lv_aload_n hx hb dSP_start_26 rfl (lv_at hl 0 rfl) ?_
  refine lv_iconst (v := nI 0) hx hb dSP_start_27 (by decide) ?_
  refine nw_put (C := "LatticeKeys$Sponge") (TT := T_SP) (N := 4) hx hb hts (wg_ft i_SP) ty_SP k_SP n_SP hown hK hO hU k_h0 (kn := pv) (ci := 3) (fl := [(3, qv), (0, 0), (0, 0), (0, 0)]) n_h0 hP hD hS rfl 3 (by decide) (hts _ (wg_t kw_62)) (fun _ h9 => h9) rfl (by decide +kernel) rfl dSP_start_28 (fun s24 pl H locs es23 hO hP hD hS => ?_)
  replace hR := bnd_step hR es23
  have hF := frm_sI hF es23 (by unfold M_SP_start_3; omega)
  have hf24 : s24.1 pv 1 = nI 136 := fc_ne hf22 es23 (by omega)
  have hf25 : s24.1 pv 2 = nI 31 := fc_ne hf23 es23 (by omega)
  have hf26 : s24.1 pv 3 = nI 0 := fc_eq es23
  exact mp_vret hx hb hr hlk hP hD hS (s24, pl) ⟨⟨hR.symm, hF, ⟨0, hf26, by omega⟩, ⟨136, hf24, by omega⟩, trivial⟩, hO⟩ [] rfl rfl rfl (by omega) (by omega) dSP_start_31
def M_SP_absorbByte (pv : Nat) (k : Nat) : Prop := k = pv ∨ (0 : Nat) = 1
noncomputable def F_SP_absorbByte (pv : Nat) (qv : Nat) (v : Int32) (s : Sto) : Sto := bnd ((s.1 pv 3).toNatClampNeg) fun z21 => bnd (F_SP_mixIn pv qv z21 v s) fun s21 => bnd ((s21.1 pv 3).toNatClampNeg) fun z22 => bnd (sI s21 pv 3 (nI (z22 + 1))) fun s22 => bnd ((s22.1 pv 3).toNatClampNeg) fun z23 => bnd ((s22.1 pv 1).toNatClampNeg) fun z24 => if z23 = z24 then bnd (F_SP_permute pv qv s22) fun s23 => bnd (sI s23 pv 3 (nI 0)) fun s24 => s24 else s22
set_option maxHeartbeats 400000 in
set_option maxRecDepth 100000 in
theorem N_SP_absorbByte (l : Launch) (g : Gd) (sz : Nat) (T : TyN) (s : Sto) (pl : va_W) (hO : okn g T s pl) (hU : inj T) (h0 : Nat) (pv : Nat) (qv : Nat) (v : Int32) (ps : Nat) (rt : Nat) (k_h0 : T h0 = some pv) (n_h0 : nsp pv = (5, 3, [(3, qv), (0, 0), (0, 0), (0, 0)])) (n_qv : nsp qv = (2, 25, [])) (e_ps : s.1 pv 3 = nI ps) (e_rt : s.1 pv 1 = nI rt) (hrt : 0 < rt ∧ rt < 200) (hps : ps < rt)  : Met l y_SP_absorbByte w_SP_absorbByte ({ frames := 1, cells := 0, slots := 0, locals := 55 } : Room) (va_Pc [.ref h0, .int v] (pr (en g) g.1 vcl sz ([] ++ pl))) (va_Qv (fun (u : (Sto) × va_W) => (u.1 = F_SP_absorbByte pv qv v s ∧ frm (M_SP_absorbByte pv) s u.1 ∧ (∃ x : Nat, u.1.1 pv 3 = nI x ∧ x < rt) ∧ (∃ x : Nat, u.1.1 pv 1 = nI x ∧ x = rt) ∧ True) ∧ okn g T u.1 u.2) (po g.1 vcl (va_A ([] ++ pl) sz) (fun (u : (Sto) × va_W) => [] ++ u.2)) (va_A ([] ++ pl) sz)) 0 0 (va_A ([] ++ pl) sz) := by
  refine mc_entry (cc := c_SP_absorbByte) (maxL := 2) (ret := none) (by decide) rfl (Nat.le_of_ble_eq_true rfl) ?_
  intro p e s0 m args below meth c ls F hr hlk hnm hsz hP hD hE hA hl
  obtain ⟨hx, hb, hml, hown, hts⟩ := id F
  have hK := hE.1
  generalize va_A ([] ++ pl) sz = A at hD hE hA ⊢
  have hS : va_S A s0.heap s0.heap [] := va_S.rf
  have hl : lv_has ls 2 [(0, .ref h0), (1, .int v)] := hl
  have hR : F_SP_absorbByte pv qv v s = F_SP_absorbByte pv qv v s := rfl
  have hF : frm (M_SP_absorbByte pv) s s := frm_rf
  refine lv_aload_n hx hb dSP_absorbByte_0 rfl (lv_at hl 0 rfl) ?_
  refine lv_aload_n hx hb dSP_absorbByte_1 rfl (lv_at hl 0 rfl) ?_
  refine nw_get (C := "LatticeKeys$Sponge") (TT := T_SP) (N := 4) hx hb hts (wg_ft i_SP) hown hK hO k_h0 (kn := pv) (ci := 3) (fl := [(3, qv), (0, 0), (0, 0), (0, 0)]) n_h0 hP rfl 3 (by decide) (hts _ (wg_t kw_62)) (fun _ h9 => h9) (cd := (0, 0)) rfl dSP_absorbByte_2 (fun v21 hv21 => ?_)
  obtain rfl := (show v21 = .int (s.1 pv 3) from hv21)
  obtain ⟨z21, ez21, hz21, hz22⟩ := cl_of (b := 2147483648) e_ps (by omega) (by decide)
  replace hR := bnd_step hR ez21
  refine mi_as hz21 ?_
  refine lv_iload_n hx hb dSP_absorbByte_5 rfl (lv_at hl 1 rfl) ?_
  refine mp_v (cx := []) (wr := []) hP hD hS hA [] [] rfl rfl rfl (by decide) (va_runV (As := [.int (nI z21), .int v]) (rest := []) F (N_SP_mixIn l g _ T s pl hO hU h0 pv qv z21 v k_h0 n_h0 n_qv (by omega)) (cwV 2 hts (wg_app (wg_c kw_593 (wg_c kw_595 (wg_c ks_4 (wg_c kw_2 wg_n)))) kw_596) rfl rfl rfl (by decide +kernel) ⟨by decide, by decide⟩) (pn_W "LatticeKeys$Sponge" (en_ok g) (ci := 3) (kn := pv) (fl := [(3, qv), (0, 0), (0, 0), (0, 0)]) hK hO k_h0 n_h0 hP hD hS hA hE [] rfl rfl rfl) rfl rfl hl.1 rfl (lv_room (Nat.le_of_ble_eq_true rfl)) dSP_absorbByte_6 ⟨by omega, by omega⟩) (fun  u21 H locs hu21 hP hD hS => ?_)
  obtain ⟨s21, pl⟩ := u21
  obtain ⟨⟨eq21, hFc21, -⟩, hO⟩ := hu21
  have hO : okn g T s21 pl := hO
  have hP : va_P g.1 vcl ([] ++ pl) _ := hP
  have hD : va_D _ ([] ++ pl) := hD
  have hFc21 : frm (M_SP_mixIn) s s21 := hFc21
  replace hR := bnd_step hR eq21
  have hF := frm_tr hF hFc21 (fun k hk => by unfold M_SP_mixIn at hk; unfold M_SP_absorbByte; omega)
  have hf21 : s21.1 pv 3 = nI ps := fc_F e_ps hFc21 (by unfold M_SP_mixIn; omega)
  have hf22 : s21.1 pv 1 = nI rt := fc_F e_rt hFc21 (by unfold M_SP_mixIn; omega)
  refine W.widen (k := 0) (n := 0) (by omega) (by omega) ?_
  refine lv_aload_n hx hb dSP_absorbByte_9 rfl (lv_at hl 0 rfl) ?_
  refine lv_dup hx hb dSP_absorbByte_10 rfl ?_
  refine nw_get (C := "LatticeKeys$Sponge") (TT := T_SP) (N := 4) hx hb hts (wg_ft i_SP) hown hK hO k_h0 (kn := pv) (ci := 3) (fl := [(3, qv), (0, 0), (0, 0), (0, 0)]) n_h0 hP rfl 3 (by decide) (hts _ (wg_t kw_62)) (fun _ h9 => h9) (cd := (0, 0)) rfl dSP_absorbByte_11 (fun v22 hv22 => ?_)
  obtain rfl := (show v22 = .int (s21.1 pv 3) from hv22)
  obtain ⟨z22, ez22, hz23, hz24⟩ := cl_of (b := 2147483648) hf21 (by omega) (by decide)
  replace hR := bnd_step hR ez22
  refine mi_as hz23 ?_
  refine lv_iconst (v := nI 1) hx hb dSP_absorbByte_14 (by decide) ?_
  refine mi_iadd hx hb dSP_absorbByte_15 ?_
  refine nw_put (C := "LatticeKeys$Sponge") (TT := T_SP) (N := 4) hx hb hts (wg_ft i_SP) ty_SP k_SP n_SP hown hK hO hU k_h0 (kn := pv) (ci := 3) (fl := [(3, qv), (0, 0), (0, 0), (0, 0)]) n_h0 hP hD hS rfl 3 (by decide) (hts _ (wg_t kw_62)) (fun _ h9 => h9) rfl (by decide +kernel) rfl dSP_absorbByte_16 (fun s22 pl H locs es21 hO hP hD hS => ?_)
  replace hR := bnd_step hR es21
  have hF := frm_sI hF es21 (by unfold M_SP_absorbByte; omega)
  have hf24 : s22.1 pv 1 = nI rt := fc_ne hf22 es21 (by omega)
  have hf25 : s22.1 pv 3 = nI (z22 + 1) := fc_eq es21
  refine lv_aload_n hx hb dSP_absorbByte_19 rfl (lv_at hl 0 rfl) ?_
  refine nw_get (C := "LatticeKeys$Sponge") (TT := T_SP) (N := 4) hx hb hts (wg_ft i_SP) hown hK hO k_h0 (kn := pv) (ci := 3) (fl := [(3, qv), (0, 0), (0, 0), (0, 0)]) n_h0 hP rfl 3 (by decide) (hts _ (wg_t kw_62)) (fun _ h9 => h9) (cd := (0, 0)) rfl dSP_absorbByte_20 (fun v23 hv23 => ?_)
  obtain rfl := (show v23 = .int (s22.1 pv 3) from hv23)
  obtain ⟨z23, ez23, hz25, hz26⟩ := cl_of (b := 2147483648) hf25 (by omega) (by decide)
  replace hR := bnd_step hR ez23
  refine mi_as hz25 ?_
  refine lv_aload_n hx hb dSP_absorbByte_23 rfl (lv_at hl 0 rfl) ?_
  refine nw_get (C := "LatticeKeys$Sponge") (TT := T_SP) (N := 4) hx hb hts (wg_ft i_SP) hown hK hO k_h0 (kn := pv) (ci := 3) (fl := [(3, qv), (0, 0), (0, 0), (0, 0)]) n_h0 hP rfl 1 (by decide) (hts _ (wg_t kw_60)) (fun _ h9 => h9) (cd := (0, 0)) rfl dSP_absorbByte_24 (fun v24 hv24 => ?_)
  obtain rfl := (show v24 = .int (s22.1 pv 1) from hv24)
  obtain ⟨z24, ez24, hz27, hz28⟩ := cl_of (b := 2147483648) hf24 (by omega) (by decide)
  replace hR := bnd_step hR ez24
  refine mi_as hz27 ?_
  refine mi_ne (tgt := 39) hx hb dSP_absorbByte_27 (by decide) (by omega) (by omega) (fun h21 => ?_) (fun h21 => ?_)
  · replace hR := hR.trans (if_neg h21)
    exact mp_vret hx hb hr hlk hP hD hS (s22, pl) ⟨⟨hR.symm, hF, ⟨z22 + 1, hf25, by omega⟩, ⟨rt, hf24, by omega⟩, trivial⟩, hO⟩ [] rfl rfl rfl (by omega) (by omega) dSP_absorbByte_39
  · replace hR := hR.trans (if_pos h21)
    refine lv_aload_n hx hb dSP_absorbByte_30 rfl (lv_at hl 0 rfl) ?_
    refine mp_v (cx := []) (wr := []) hP hD hS hA [] [] rfl rfl rfl (by decide) (va_runV (As := []) (rest := []) F (N_SP_permute l g _ T s22 pl hO hU h0 pv qv k_h0 n_h0 n_qv) (cwV 0 hts (wg_app (wg_c kw_598 (wg_c kw_600 (wg_c ks_5 (wg_c kw_2 wg_n)))) kw_601) rfl rfl rfl (by decide +kernel) ⟨by decide, by decide⟩) (pn_W "LatticeKeys$Sponge" (en_ok g) (ci := 3) (kn := pv) (fl := [(3, qv), (0, 0), (0, 0), (0, 0)]) hK hO k_h0 n_h0 hP hD hS hA hE [] rfl rfl rfl) rfl rfl hl.1 rfl (lv_room (Nat.le_of_ble_eq_true rfl)) dSP_absorbByte_31 ⟨by omega, by omega⟩) (fun  u22 H locs hu22 hP hD hS => ?_)
    obtain ⟨s23, pl⟩ := u22
    obtain ⟨⟨eq22, hFc22, -⟩, hO⟩ := hu22
    have hO : okn g T s23 pl := hO
    have hP : va_P g.1 vcl ([] ++ pl) _ := hP
    have hD : va_D _ ([] ++ pl) := hD
    have hFc22 : frm (M_SP_permute) s22 s23 := hFc22
    replace hR := bnd_step hR eq22
    have hF := frm_tr hF hFc22 (fun k hk => by unfold M_SP_permute at hk; unfold M_SP_absorbByte; omega)
    have hf26 : s23.1 pv 1 = nI rt := fc_F hf24 hFc22 (by unfold M_SP_permute; omega)
    have hf27 : s23.1 pv 3 = nI (z22 + 1) := fc_F hf25 hFc22 (by unfold M_SP_permute; omega)
    refine W.widen (k := 0) (n := 0) (by omega) (by omega) ?_
    refine lv_aload_n hx hb dSP_absorbByte_34 rfl (lv_at hl 0 rfl) ?_
    refine lv_iconst (v := nI 0) hx hb dSP_absorbByte_35 (by decide) ?_
    refine nw_put (C := "LatticeKeys$Sponge") (TT := T_SP) (N := 4) hx hb hts (wg_ft i_SP) ty_SP k_SP n_SP hown hK hO hU k_h0 (kn := pv) (ci := 3) (fl := [(3, qv), (0, 0), (0, 0), (0, 0)]) n_h0 hP hD hS rfl 3 (by decide) (hts _ (wg_t kw_62)) (fun _ h9 => h9) rfl (by decide +kernel) rfl dSP_absorbByte_36 (fun s24 pl H locs es22 hO hP hD hS => ?_)
    replace hR := bnd_step hR es22
    have hF := frm_sI hF es22 (by unfold M_SP_absorbByte; omega)
    have hf28 : s24.1 pv 1 = nI rt := fc_ne hf26 es22 (by omega)
    have hf30 : s24.1 pv 3 = nI 0 := fc_eq es22
    exact mp_vret hx hb hr hlk hP hD hS (s24, pl) ⟨⟨hR.symm, hF, ⟨0, hf30, by omega⟩, ⟨rt, hf28, by omega⟩, trivial⟩, hO⟩ [] rfl rfl rfl (by omega) (by omega) dSP_absorbByte_39
def M_SP_absorb (pv : Nat) (k : Nat) : Prop := k = pv ∨ (0 : Nat) = 1
noncomputable def F_SP_absorb_L0 (pv : Nat) (qv : Nat) (pb : Nat) (at_ : Nat) : Nat → Nat → Sto → Sto
  | 0, i21, s21 => s21
  | n21 + 1, i21, s21 => bnd (F_SP_absorbByte pv qv (s21.1 pb (at_ + i21)) s21) fun s22 => F_SP_absorb_L0 pv qv pb at_ n21 (i21 + 1) s22
noncomputable def F_SP_absorb (pv : Nat) (qv : Nat) (pb : Nat) (n : Nat) (at_ : Nat) (len : Nat) (s : Sto) : Sto := F_SP_absorb_L0 pv qv pb at_ len 0 s
set_option maxHeartbeats 400000 in
set_option maxRecDepth 100000 in
theorem N_SP_absorb (l : Launch) (g : Gd) (sz : Nat) (T : TyN) (s : Sto) (pl : va_W) (hO : okn g T s pl) (hU : inj T) (h0 b : Nat) (pv : Nat) (qv : Nat) (pb : Nat) (n : Nat) (at_ : Nat) (len : Nat) (ps : Nat) (rt : Nat) (k_h0 : T h0 = some pv) (n_h0 : nsp pv = (5, 3, [(3, qv), (0, 0), (0, 0), (0, 0)])) (n_qv : nsp qv = (2, 25, [])) (k_b : T b = some pb) (n_b : nsp pb = (1, n, [])) (e_ps : s.1 pv 3 = nI ps) (e_rt : s.1 pv 1 = nI rt) (hrt : 0 < rt ∧ rt < 200) (hps : ps < rt) (h1 : at_ + len ≤ n) (h2 : n < 65536)  : Met l y_SP_absorb w_SP_absorb ({ frames := 2, cells := 0, slots := 0, locals := 76 } : Room) (va_Pc [.ref h0, .ref b, .int (nI at_), .int (nI len)] (pr (en g) g.1 vcl sz ([] ++ pl))) (va_Qv (fun (u : (Sto) × va_W) => (u.1 = F_SP_absorb pv qv pb n at_ len s ∧ frm (M_SP_absorb pv) s u.1 ∧ (∃ x : Nat, u.1.1 pv 3 = nI x ∧ x < rt) ∧ (∃ x : Nat, u.1.1 pv 1 = nI x ∧ x = rt) ∧ True) ∧ okn g T u.1 u.2) (po g.1 vcl (va_A ([] ++ pl) sz) (fun (u : (Sto) × va_W) => [] ++ u.2)) (va_A ([] ++ pl) sz)) 0 0 (va_A ([] ++ pl) sz) := by
  refine mc_entry (cc := c_SP_absorb) (maxL := 5) (ret := none) (by decide) rfl (Nat.le_of_ble_eq_true rfl) ?_
  intro p e s0 m args below meth c ls F hr hlk hnm hsz hP hD hE hA hl
  obtain ⟨hx, hb, hml, hown, hts⟩ := id F
  have hK := hE.1
  generalize va_A ([] ++ pl) sz = A at hD hE hA ⊢
  have hS : va_S A s0.heap s0.heap [] := va_S.rf
  have hl : lv_has ls 5 [(0, .ref h0), (1, .ref b), (2, .int (nI at_)), (3, .int (nI len))] := hl
  have hR : F_SP_absorb pv qv pb n at_ len s = F_SP_absorb pv qv pb n at_ len s := rfl
  have hF : frm (M_SP_absorb pv) s s := frm_rf
  have ne_pv_pb : pv ≠ pb := nsp_ne n_h0 n_b (show (5 : Nat) ≠ 1 by decide)
  refine lv_iconst (v := nI 0) hx hb dSP_absorb_0 (by decide) ?_
  refine lv_istore (lv' := [(4, .int (nI 0)), (0, .ref h0), (1, .ref b), (2, .int (nI at_)), (3, .int (nI len))]) hx hb dSP_absorb_1 hl (by decide) rfl (fun ls hl => ?_)
  have lp21 : ∀ (n21 : Nat) (i21 : Nat) (s21 : Sto) (ps21 : Nat) (pl : va_W) (ls : Array Slot) (H : Heap) (locs : List Loc), n21 + i21 = len → (ps21 < rt) → frm (M_SP_absorb pv) s s21 → s21.1 pv 3 = nI ps21 → s21.1 pv 1 = nI rt → F_SP_absorb pv qv pb n at_ len s = F_SP_absorb_L0 pv qv pb at_ n21 i21 s21 → lv_has ls 5 [(4, .int (nI i21)), (0, .ref h0), (1, .ref b), (2, .int (nI at_)), (3, .int (nI len))] → okn g T s21 pl → va_P g.1 vcl ([] ++ pl) H → va_D A ([] ++ pl) → va_S A s0.heap H locs → W p l e ({ frames := 2, cells := 0, slots := 0, locals := 76 } : Room) s0 m args below meth c H locs 0 0 (MQ below (va_Qv (fun (u : (Sto) × va_W) => (u.1 = F_SP_absorb pv qv pb n at_ len s ∧ frm (M_SP_absorb pv) s u.1 ∧ (∃ x : Nat, u.1.1 pv 3 = nI x ∧ x < rt) ∧ (∃ x : Nat, u.1.1 pv 1 = nI x ∧ x = rt) ∧ True) ∧ okn g T u.1 u.2) (po g.1 vcl A (fun (u : (Sto) × va_W) => [] ++ u.2)) A) args s0 0 0 A) (F0 m 3 ls []) := by
    intro n21
    induction n21 with
    | zero =>
      intro i21 s21 ps21 pl ls H locs hm21 hi21 hF hf21 hf22 hR hl hO hP hD hS
      refine lv_iload hx hb dSP_absorb_3 (lv_at hl 0 rfl) ?_
      refine lv_iload_n hx hb dSP_absorb_5 rfl (lv_at hl 4 rfl) ?_
      refine mi_ge (tgt := 25) hx hb dSP_absorb_6 (by decide) (by omega) (by omega) (fun h21 => ?_) (fun h21 => absurd h21 (by omega))
      exact mp_vret hx hb hr hlk hP hD hS (s21, pl) ⟨⟨hR.symm, hF, ⟨ps21, hf21, by omega⟩, ⟨rt, hf22, by omega⟩, trivial⟩, hO⟩ [] rfl rfl rfl (by omega) (by omega) dSP_absorb_25
    | succ n21 ih21 =>
      intro i21 s21 ps21 pl ls H locs hm21 hi21 hF hf23 hf24 hR hl hO hP hD hS
      refine lv_iload hx hb dSP_absorb_3 (lv_at hl 0 rfl) ?_
      refine lv_iload_n hx hb dSP_absorb_5 rfl (lv_at hl 4 rfl) ?_
      refine mi_ge (tgt := 25) hx hb dSP_absorb_6 (by decide) (by omega) (by omega) (fun h22 => absurd h22 (by omega)) (fun h22 => ?_)
      refine lv_aload_n hx hb dSP_absorb_9 rfl (lv_at hl 1 rfl) ?_
      refine lv_aload_n hx hb dSP_absorb_10 rfl (lv_at hl 2 rfl) ?_
      refine lv_iload_n hx hb dSP_absorb_11 rfl (lv_at hl 3 rfl) ?_
      refine lv_iload hx hb dSP_absorb_12 (lv_at hl 0 rfl) ?_
      refine mi_iadd hx hb dSP_absorb_14 ?_
      refine nw_bald hx hb hK hO k_b (k := pb) n_b hP (by omega) (by omega) dSP_absorb_15 ?_
      refine mp_v (cx := []) (wr := []) hP hD hS hA [] [] rfl rfl rfl (by decide) (va_runV (As := [.int ((s21.1 pb (at_ + i21)))]) (rest := []) F (N_SP_absorbByte l g _ T s21 pl hO hU h0 pv qv (s21.1 pb (at_ + i21)) ps21 rt k_h0 n_h0 n_qv hf23 hf24 (by omega) (by omega)) (cwV 1 hts (wg_app (wg_c kw_589 (wg_c kw_590 (wg_c kw_591 (wg_c kw_2 wg_n)))) kw_592) rfl rfl rfl (by decide +kernel) ⟨by decide, by decide⟩) (pn_W "LatticeKeys$Sponge" (en_ok g) (ci := 3) (kn := pv) (fl := [(3, qv), (0, 0), (0, 0), (0, 0)]) hK hO k_h0 n_h0 hP hD hS hA hE [] rfl rfl rfl) rfl rfl hl.1 rfl (lv_room (Nat.le_of_ble_eq_true rfl)) dSP_absorb_16 ⟨by omega, by omega⟩) (fun  u21 H locs hu21 hP hD hS => ?_)
      obtain ⟨s22, pl⟩ := u21
      obtain ⟨⟨eq21, hFc21, ⟨x21, hx_21, hb_21⟩, ⟨x22, hx_22, hb_22⟩, -⟩, hO⟩ := hu21
      have hO : okn g T s22 pl := hO
      have hP : va_P g.1 vcl ([] ++ pl) _ := hP
      have hD : va_D _ ([] ++ pl) := hD
      have hFc21 : frm (M_SP_absorbByte pv) s21 s22 := hFc21
      have hb_21 : x21 < rt := hb_21
      have hb_22 : x22 = rt := hb_22
      replace hR := bnd_step hR eq21
      have hF := frm_tr hF hFc21 (fun k hk => by unfold M_SP_absorbByte at hk; unfold M_SP_absorb; omega)
      refine W.widen (k := 0) (n := 0) (by omega) (by omega) ?_
      refine mi_iinc (k := 0) (x := i21) (d := 1) (y := i21 + 1) (lv' := [(4, .int (nI (i21 + 1))), (0, .ref h0), (1, .ref b), (2, .int (nI at_)), (3, .int (nI len))]) hx hb dSP_absorb_19 hl rfl (by decide) rfl (by decide) rfl (fun ls hl => ?_)
      refine lv_goto (tgt := 3) hx hb dSP_absorb_22 (by decide) ?_
      exact ih21 (i21 + 1) s22 x21 pl ls H locs (by omega) (by omega) hF hx_21 (by have h9 := hx_22; rw [show x22 = rt by omega] at h9; exact h9) hR (lv_sub hl [0, 1, 2, 3, 4] rfl) hO hP hD hS
  exact lp21 len 0 s ps pl ls _ _ (by omega) (by omega) hF e_ps e_rt hR (lv_sub hl [0, 1, 2, 3, 4] rfl) hO hP hD hS
def M_SP_finish (pv : Nat) (k : Nat) : Prop := k = pv ∨ (0 : Nat) = 1
noncomputable def F_SP_finish (pv : Nat) (qv : Nat) (s : Sto) : Sto := bnd ((s.1 pv 3).toNatClampNeg) fun z21 => bnd (F_SP_mixIn pv qv z21 (s.1 pv 2) s) fun s21 => bnd ((s21.1 pv 1).toNatClampNeg) fun z22 => bnd (F_SP_mixIn pv qv (z22 - 1) (nI 128) s21) fun s22 => bnd ((s22.1 pv 1).toNatClampNeg) fun z23 => bnd (sI s22 pv 3 (nI z23)) fun s23 => s23
set_option maxHeartbeats 400000 in
set_option maxRecDepth 100000 in
theorem N_SP_finish (l : Launch) (g : Gd) (sz : Nat) (T : TyN) (s : Sto) (pl : va_W) (hO : okn g T s pl) (hU : inj T) (h0 : Nat) (pv : Nat) (qv : Nat) (ps : Nat) (rt : Nat) (k_h0 : T h0 = some pv) (n_h0 : nsp pv = (5, 3, [(3, qv), (0, 0), (0, 0), (0, 0)])) (n_qv : nsp qv = (2, 25, [])) (e_ps : s.1 pv 3 = nI ps) (e_rt : s.1 pv 1 = nI rt) (hrt : 0 < rt ∧ rt < 200) (hps : ps < rt)  : Met l y_SP_finish w_SP_finish ({ frames := 1, cells := 0, slots := 0, locals := 22 } : Room) (va_Pc [.ref h0] (pr (en g) g.1 vcl sz ([] ++ pl))) (va_Qv (fun (u : (Sto) × va_W) => (u.1 = F_SP_finish pv qv s ∧ frm (M_SP_finish pv) s u.1 ∧ (∃ x : Nat, u.1.1 pv 3 = nI x ∧ x = rt) ∧ (∃ x : Nat, u.1.1 pv 1 = nI x ∧ x = rt) ∧ True) ∧ okn g T u.1 u.2) (po g.1 vcl (va_A ([] ++ pl) sz) (fun (u : (Sto) × va_W) => [] ++ u.2)) (va_A ([] ++ pl) sz)) 0 0 (va_A ([] ++ pl) sz) := by
  refine mc_entry (cc := c_SP_finish) (maxL := 1) (ret := none) (by decide) rfl (Nat.le_of_ble_eq_true rfl) ?_
  intro p e s0 m args below meth c ls F hr hlk hnm hsz hP hD hE hA hl
  obtain ⟨hx, hb, hml, hown, hts⟩ := id F
  have hK := hE.1
  generalize va_A ([] ++ pl) sz = A at hD hE hA ⊢
  have hS : va_S A s0.heap s0.heap [] := va_S.rf
  have hl : lv_has ls 1 [(0, .ref h0)] := hl
  have hR : F_SP_finish pv qv s = F_SP_finish pv qv s := rfl
  have hF : frm (M_SP_finish pv) s s := frm_rf
  refine lv_aload_n hx hb dSP_finish_0 rfl (lv_at hl 0 rfl) ?_
  refine lv_aload_n hx hb dSP_finish_1 rfl (lv_at hl 0 rfl) ?_
  refine nw_get (C := "LatticeKeys$Sponge") (TT := T_SP) (N := 4) hx hb hts (wg_ft i_SP) hown hK hO k_h0 (kn := pv) (ci := 3) (fl := [(3, qv), (0, 0), (0, 0), (0, 0)]) n_h0 hP rfl 3 (by decide) (hts _ (wg_t kw_62)) (fun _ h9 => h9) (cd := (0, 0)) rfl dSP_finish_2 (fun v21 hv21 => ?_)
  obtain rfl := (show v21 = .int (s.1 pv 3) from hv21)
  obtain ⟨z21, ez21, hz21, hz22⟩ := cl_of (b := 2147483648) e_ps (by omega) (by decide)
  replace hR := bnd_step hR ez21
  refine mi_as hz21 ?_
  refine lv_aload_n hx hb dSP_finish_5 rfl (lv_at hl 0 rfl) ?_
  refine nw_get (C := "LatticeKeys$Sponge") (TT := T_SP) (N := 4) hx hb hts (wg_ft i_SP) hown hK hO k_h0 (kn := pv) (ci := 3) (fl := [(3, qv), (0, 0), (0, 0), (0, 0)]) n_h0 hP rfl 2 (by decide) (hts _ (wg_t kw_61)) (fun _ h9 => h9) (cd := (0, 0)) rfl dSP_finish_6 (fun v22 hv22 => ?_)
  obtain rfl := (show v22 = .int (s.1 pv 2) from hv22)
  refine mp_v (cx := []) (wr := []) hP hD hS hA [] [] rfl rfl rfl (by decide) (va_runV (As := [.int (nI z21), .int ((s.1 pv 2))]) (rest := []) F (N_SP_mixIn l g _ T s pl hO hU h0 pv qv z21 (s.1 pv 2) k_h0 n_h0 n_qv (by omega)) (cwV 2 hts (wg_app (wg_c kw_593 (wg_c kw_595 (wg_c ks_4 (wg_c kw_2 wg_n)))) kw_596) rfl rfl rfl (by decide +kernel) ⟨by decide, by decide⟩) (pn_W "LatticeKeys$Sponge" (en_ok g) (ci := 3) (kn := pv) (fl := [(3, qv), (0, 0), (0, 0), (0, 0)]) hK hO k_h0 n_h0 hP hD hS hA hE [] rfl rfl rfl) rfl rfl hl.1 rfl (lv_room (Nat.le_of_ble_eq_true rfl)) dSP_finish_9 ⟨by omega, by omega⟩) (fun  u21 H locs hu21 hP hD hS => ?_)
  obtain ⟨s21, pl⟩ := u21
  obtain ⟨⟨eq21, hFc21, -⟩, hO⟩ := hu21
  have hO : okn g T s21 pl := hO
  have hP : va_P g.1 vcl ([] ++ pl) _ := hP
  have hD : va_D _ ([] ++ pl) := hD
  have hFc21 : frm (M_SP_mixIn) s s21 := hFc21
  replace hR := bnd_step hR eq21
  have hF := frm_tr hF hFc21 (fun k hk => by unfold M_SP_mixIn at hk; unfold M_SP_finish; omega)
  have hf21 : s21.1 pv 3 = nI ps := fc_F e_ps hFc21 (by unfold M_SP_mixIn; omega)
  have hf22 : s21.1 pv 1 = nI rt := fc_F e_rt hFc21 (by unfold M_SP_mixIn; omega)
  refine W.widen (k := 0) (n := 0) (by omega) (by omega) ?_
  refine lv_aload_n hx hb dSP_finish_12 rfl (lv_at hl 0 rfl) ?_
  refine lv_aload_n hx hb dSP_finish_13 rfl (lv_at hl 0 rfl) ?_
  refine nw_get (C := "LatticeKeys$Sponge") (TT := T_SP) (N := 4) hx hb hts (wg_ft i_SP) hown hK hO k_h0 (kn := pv) (ci := 3) (fl := [(3, qv), (0, 0), (0, 0), (0, 0)]) n_h0 hP rfl 1 (by decide) (hts _ (wg_t kw_60)) (fun _ h9 => h9) (cd := (0, 0)) rfl dSP_finish_14 (fun v23 hv23 => ?_)
  obtain rfl := (show v23 = .int (s21.1 pv 1) from hv23)
  obtain ⟨z22, ez22, hz23, hz24⟩ := cl_of (b := 2147483648) hf22 (by omega) (by decide)
  replace hR := bnd_step hR ez22
  refine mi_as hz23 ?_
  refine lv_iconst (v := nI 1) hx hb dSP_finish_17 (by decide) ?_
  refine mi_isub hx hb dSP_finish_18 (by omega) ?_
  refine lv_sipush (v := nI 128) hx hb dSP_finish_19 (by decide) ?_
  refine mp_v (cx := []) (wr := []) hP hD hS hA [] [] rfl rfl rfl (by decide) (va_runV (As := [.int (nI (z22 - 1)), .int (nI 128)]) (rest := []) F (N_SP_mixIn l g _ T s21 pl hO hU h0 pv qv (z22 - 1) (nI 128) k_h0 n_h0 n_qv (by omega)) (cwV 2 hts (wg_app (wg_c kw_593 (wg_c kw_595 (wg_c ks_4 (wg_c kw_2 wg_n)))) kw_596) rfl rfl rfl (by decide +kernel) ⟨by decide, by decide⟩) (pn_W "LatticeKeys$Sponge" (en_ok g) (ci := 3) (kn := pv) (fl := [(3, qv), (0, 0), (0, 0), (0, 0)]) hK hO k_h0 n_h0 hP hD hS hA hE [] rfl rfl rfl) rfl rfl hl.1 rfl (lv_room (Nat.le_of_ble_eq_true rfl)) dSP_finish_22 ⟨by omega, by omega⟩) (fun  u22 H locs hu22 hP hD hS => ?_)
  obtain ⟨s22, pl⟩ := u22
  obtain ⟨⟨eq22, hFc22, -⟩, hO⟩ := hu22
  have hO : okn g T s22 pl := hO
  have hP : va_P g.1 vcl ([] ++ pl) _ := hP
  have hD : va_D _ ([] ++ pl) := hD
  have hFc22 : frm (M_SP_mixIn) s21 s22 := hFc22
  replace hR := bnd_step hR eq22
  have hF := frm_tr hF hFc22 (fun k hk => by unfold M_SP_mixIn at hk; unfold M_SP_finish; omega)
  have hf23 : s22.1 pv 3 = nI ps := fc_F hf21 hFc22 (by unfold M_SP_mixIn; omega)
  have hf24 : s22.1 pv 1 = nI rt := fc_F hf22 hFc22 (by unfold M_SP_mixIn; omega)
  refine W.widen (k := 0) (n := 0) (by omega) (by omega) ?_
  refine lv_aload_n hx hb dSP_finish_25 rfl (lv_at hl 0 rfl) ?_
  refine lv_aload_n hx hb dSP_finish_26 rfl (lv_at hl 0 rfl) ?_
  refine nw_get (C := "LatticeKeys$Sponge") (TT := T_SP) (N := 4) hx hb hts (wg_ft i_SP) hown hK hO k_h0 (kn := pv) (ci := 3) (fl := [(3, qv), (0, 0), (0, 0), (0, 0)]) n_h0 hP rfl 1 (by decide) (hts _ (wg_t kw_60)) (fun _ h9 => h9) (cd := (0, 0)) rfl dSP_finish_27 (fun v24 hv24 => ?_)
  obtain rfl := (show v24 = .int (s22.1 pv 1) from hv24)
  obtain ⟨z23, ez23, hz25, hz26⟩ := cl_of (b := 2147483648) hf24 (by omega) (by decide)
  replace hR := bnd_step hR ez23
  refine mi_as hz25 ?_
  refine nw_put (C := "LatticeKeys$Sponge") (TT := T_SP) (N := 4) hx hb hts (wg_ft i_SP) ty_SP k_SP n_SP hown hK hO hU k_h0 (kn := pv) (ci := 3) (fl := [(3, qv), (0, 0), (0, 0), (0, 0)]) n_h0 hP hD hS rfl 3 (by decide) (hts _ (wg_t kw_62)) (fun _ h9 => h9) rfl (by decide +kernel) rfl dSP_finish_30 (fun s23 pl H locs es21 hO hP hD hS => ?_)
  replace hR := bnd_step hR es21
  have hF := frm_sI hF es21 (by unfold M_SP_finish; omega)
  have hf26 : s23.1 pv 1 = nI rt := fc_ne hf24 es21 (by omega)
  have hf27 : s23.1 pv 3 = nI z23 := fc_eq es21
  exact mp_vret hx hb hr hlk hP hD hS (s23, pl) ⟨⟨hR.symm, hF, ⟨z23, hf27, by omega⟩, ⟨rt, hf26, by omega⟩, trivial⟩, hO⟩ [] rfl rfl rfl (by omega) (by omega) dSP_finish_33
def M_SP_nextByte (pv : Nat) (k : Nat) : Prop := k = pv ∨ (0 : Nat) = 1
noncomputable def F_SP_nextByte (pv : Nat) (qv : Nat) (s : Sto) : Int32 × Sto := bnd ((s.1 pv 3).toNatClampNeg) fun z21 => bnd ((s.1 pv 1).toNatClampNeg) fun z22 => if z21 = z22 then bnd (F_SP_permute pv qv s) fun s22 => bnd (sI s22 pv 3 (nI 0)) fun s23 => bnd ((s23.1 pv 3).toNatClampNeg) fun z27 => bnd ((s23.1 pv 3).toNatClampNeg) fun z28 => bnd ((((((s23.2 qv (z27 / 8)).toUInt64 >>> ((((nI z28) &&& (nI 7)) <<< ((nI 3) &&& 31)).toInt64.toUInt64 &&& Int64.toUInt64 63)).toInt64).toInt32) &&& nI 255).toNatClampNeg) fun z29 => bnd ((s23.1 pv 3).toNatClampNeg) fun z30 => bnd (sI s23 pv 3 (nI (z30 + 1))) fun s24 => (nI z29, s24) else bnd ((s.1 pv 3).toNatClampNeg) fun z23 => bnd ((s.1 pv 3).toNatClampNeg) fun z24 => bnd ((((((s.2 qv (z23 / 8)).toUInt64 >>> ((((nI z24) &&& (nI 7)) <<< ((nI 3) &&& 31)).toInt64.toUInt64 &&& Int64.toUInt64 63)).toInt64).toInt32) &&& nI 255).toNatClampNeg) fun z25 => bnd ((s.1 pv 3).toNatClampNeg) fun z26 => bnd (sI s pv 3 (nI (z26 + 1))) fun s21 => (nI z25, s21)
set_option maxHeartbeats 400000 in
set_option maxRecDepth 100000 in
theorem N_SP_nextByte (l : Launch) (g : Gd) (sz : Nat) (T : TyN) (s : Sto) (pl : va_W) (hO : okn g T s pl) (hU : inj T) (h0 : Nat) (pv : Nat) (qv : Nat) (ps : Nat) (rt : Nat) (k_h0 : T h0 = some pv) (n_h0 : nsp pv = (5, 3, [(3, qv), (0, 0), (0, 0), (0, 0)])) (n_qv : nsp qv = (2, 25, [])) (e_ps : s.1 pv 3 = nI ps) (e_rt : s.1 pv 1 = nI rt) (hrt : 0 < rt ∧ rt < 200) (hps : ps ≤ rt)  : Met l y_SP_nextByte w_SP_nextByte ({ frames := 1, cells := 0, slots := 0, locals := 55 } : Room) (va_Pc [.ref h0] (pr (en g) g.1 vcl sz ([] ++ pl))) (va_Qi (fun (r : Int32) (u : (Int32 × Sto) × va_W) => (u.1 = F_SP_nextByte pv qv s ∧ r = u.1.1 ∧ frm (M_SP_nextByte pv) s u.1.2 ∧ (∃ x : Nat, u.1.1 = nI x ∧ x < 256) ∧ (∃ x : Nat, u.1.2.1 pv 3 = nI x ∧ x ≤ rt) ∧ (∃ x : Nat, u.1.2.1 pv 1 = nI x ∧ x = rt) ∧ True) ∧ okn g T u.1.2 u.2) (po g.1 vcl (va_A ([] ++ pl) sz) (fun (u : (Int32 × Sto) × va_W) => [] ++ u.2)) (va_A ([] ++ pl) sz)) 0 0 (va_A ([] ++ pl) sz) := by
  refine mc_entry (cc := c_SP_nextByte) (maxL := 2) (ret := (some .int)) (by decide) rfl (Nat.le_of_ble_eq_true rfl) ?_
  intro p e s0 m args below meth c ls F hr hlk hnm hsz hP hD hE hA hl
  obtain ⟨hx, hb, hml, hown, hts⟩ := id F
  have hK := hE.1
  generalize va_A ([] ++ pl) sz = A at hD hE hA ⊢
  have hS : va_S A s0.heap s0.heap [] := va_S.rf
  have hl : lv_has ls 2 [(0, .ref h0)] := hl
  have hR : F_SP_nextByte pv qv s = F_SP_nextByte pv qv s := rfl
  have hF : frm (M_SP_nextByte pv) s s := frm_rf
  refine lv_aload_n hx hb dSP_nextByte_0 rfl (lv_at hl 0 rfl) ?_
  refine nw_get (C := "LatticeKeys$Sponge") (TT := T_SP) (N := 4) hx hb hts (wg_ft i_SP) hown hK hO k_h0 (kn := pv) (ci := 3) (fl := [(3, qv), (0, 0), (0, 0), (0, 0)]) n_h0 hP rfl 3 (by decide) (hts _ (wg_t kw_62)) (fun _ h9 => h9) (cd := (0, 0)) rfl dSP_nextByte_1 (fun v21 hv21 => ?_)
  obtain rfl := (show v21 = .int (s.1 pv 3) from hv21)
  obtain ⟨z21, ez21, hz21, hz22⟩ := cl_of (b := 2147483648) e_ps (by omega) (by decide)
  replace hR := bnd_step hR ez21
  refine mi_as hz21 ?_
  refine lv_aload_n hx hb dSP_nextByte_4 rfl (lv_at hl 0 rfl) ?_
  refine nw_get (C := "LatticeKeys$Sponge") (TT := T_SP) (N := 4) hx hb hts (wg_ft i_SP) hown hK hO k_h0 (kn := pv) (ci := 3) (fl := [(3, qv), (0, 0), (0, 0), (0, 0)]) n_h0 hP rfl 1 (by decide) (hts _ (wg_t kw_60)) (fun _ h9 => h9) (cd := (0, 0)) rfl dSP_nextByte_5 (fun v22 hv22 => ?_)
  obtain rfl := (show v22 = .int (s.1 pv 1) from hv22)
  obtain ⟨z22, ez22, hz23, hz24⟩ := cl_of (b := 2147483648) e_rt (by omega) (by decide)
  replace hR := bnd_step hR ez22
  refine mi_as hz23 ?_
  refine mi_ne (tgt := 20) hx hb dSP_nextByte_8 (by decide) (by omega) (by omega) (fun h21 => ?_) (fun h21 => ?_)
  · replace hR := hR.trans (if_neg h21)
    refine lv_aload_n hx hb dSP_nextByte_20 rfl (lv_at hl 0 rfl) ?_
    refine nw_get (C := "LatticeKeys$Sponge") (TT := T_SP) (N := 4) hx hb hts (wg_ft i_SP) hown hK hO k_h0 (kn := pv) (ci := 3) (fl := [(3, qv), (0, 0), (0, 0), (0, 0)]) n_h0 hP rfl 0 (by decide) (hts _ (wg_t kw_59)) (fun _ h9 => h9) (cd := (3, qv)) rfl dSP_nextByte_21 (fun v23 hv23 => ?_)
    obtain ⟨r21, rfl, kr21⟩ := (show ∃ r : Nat, v23 = .ref r ∧ T r = some qv from hv23)
    refine lv_aload_n hx hb dSP_nextByte_24 rfl (lv_at hl 0 rfl) ?_
    refine nw_get (C := "LatticeKeys$Sponge") (TT := T_SP) (N := 4) hx hb hts (wg_ft i_SP) hown hK hO k_h0 (kn := pv) (ci := 3) (fl := [(3, qv), (0, 0), (0, 0), (0, 0)]) n_h0 hP rfl 3 (by decide) (hts _ (wg_t kw_62)) (fun _ h9 => h9) (cd := (0, 0)) rfl dSP_nextByte_25 (fun v24 hv24 => ?_)
    obtain rfl := (show v24 = .int (s.1 pv 3) from hv24)
    obtain ⟨z23, ez23, hz25, hz26⟩ := cl_of (b := 2147483648) e_ps (by omega) (by decide)
    replace hR := bnd_step hR ez23
    refine mi_as hz25 ?_
    refine lv_iconst (v := nI 3) hx hb dSP_nextByte_28 (by decide) ?_
    refine mi_ishr hx hb dSP_nextByte_29 (by omega) (by decide) ?_
    refine mi_as (show nI (z23 / 2 ^ 3) = nI (z23 / 8) from rfl) ?_
    refine nw_lald hx hb hK hO kr21 (k := qv) n_qv hP (by omega) (by omega) dSP_nextByte_30 ?_
    refine lv_aload_n hx hb dSP_nextByte_31 rfl (lv_at hl 0 rfl) ?_
    refine nw_get (C := "LatticeKeys$Sponge") (TT := T_SP) (N := 4) hx hb hts (wg_ft i_SP) hown hK hO k_h0 (kn := pv) (ci := 3) (fl := [(3, qv), (0, 0), (0, 0), (0, 0)]) n_h0 hP rfl 3 (by decide) (hts _ (wg_t kw_62)) (fun _ h9 => h9) (cd := (0, 0)) rfl dSP_nextByte_32 (fun v25 hv25 => ?_)
    obtain rfl := (show v25 = .int (s.1 pv 3) from hv25)
    obtain ⟨z24, ez24, hz27, hz28⟩ := cl_of (b := 2147483648) e_ps (by omega) (by decide)
    replace hR := bnd_step hR ez24
    refine mi_as hz27 ?_
    refine lv_bipush (v := nI 7) hx hb dSP_nextByte_35 (by decide) ?_
    refine lv_iand hx hb dSP_nextByte_37 ?_
    refine lv_iconst (v := nI 3) hx hb dSP_nextByte_38 (by decide) ?_
    refine lv_ishl hx hb dSP_nextByte_39 ?_
    refine lv_lushr hx hb dSP_nextByte_40 rfl ?_
    refine lv_l2i hx hb dSP_nextByte_41 rfl ?_
    refine lv_sipush (v := nI 255) hx hb dSP_nextByte_42 (by decide) ?_
    refine mi_iandT hx hb 8 dSP_nextByte_45 (by decide) (by decide) (fun z25 ez25 hz29 => ?_)
    have hz29 : z25 < 256 := hz29
    replace hR := bnd_step hR ez25
    refine lv_istore_n (lv' := [(1, .int (nI z25)), (0, .ref h0)]) hx hb dSP_nextByte_46 rfl hl (by decide) rfl (fun ls hl => ?_)
    refine lv_aload_n hx hb dSP_nextByte_47 rfl (lv_at hl 1 rfl) ?_
    refine lv_dup hx hb dSP_nextByte_48 rfl ?_
    refine nw_get (C := "LatticeKeys$Sponge") (TT := T_SP) (N := 4) hx hb hts (wg_ft i_SP) hown hK hO k_h0 (kn := pv) (ci := 3) (fl := [(3, qv), (0, 0), (0, 0), (0, 0)]) n_h0 hP rfl 3 (by decide) (hts _ (wg_t kw_62)) (fun _ h9 => h9) (cd := (0, 0)) rfl dSP_nextByte_49 (fun v26 hv26 => ?_)
    obtain rfl := (show v26 = .int (s.1 pv 3) from hv26)
    obtain ⟨z26, ez26, hz30, hz31⟩ := cl_of (b := 2147483648) e_ps (by omega) (by decide)
    replace hR := bnd_step hR ez26
    refine mi_as hz30 ?_
    refine lv_iconst (v := nI 1) hx hb dSP_nextByte_52 (by decide) ?_
    refine mi_iadd hx hb dSP_nextByte_53 ?_
    refine nw_put (C := "LatticeKeys$Sponge") (TT := T_SP) (N := 4) hx hb hts (wg_ft i_SP) ty_SP k_SP n_SP hown hK hO hU k_h0 (kn := pv) (ci := 3) (fl := [(3, qv), (0, 0), (0, 0), (0, 0)]) n_h0 hP hD hS rfl 3 (by decide) (hts _ (wg_t kw_62)) (fun _ h9 => h9) rfl (by decide +kernel) rfl dSP_nextByte_54 (fun s21 pl H locs es21 hO hP hD hS => ?_)
    replace hR := bnd_step hR es21
    have hF := frm_sI hF es21 (by unfold M_SP_nextByte; omega)
    have hf22 : s21.1 pv 1 = nI rt := fc_ne e_rt es21 (by omega)
    have hf23 : s21.1 pv 3 = nI (z26 + 1) := fc_eq es21
    refine lv_iload_n hx hb dSP_nextByte_57 rfl (lv_at hl 0 rfl) ?_
    exact mp_iret hx hb hr hlk hP hD hS ((nI z25, s21), pl) ⟨⟨hR.symm, rfl, hF, ⟨z25, rfl, by omega⟩, ⟨z26 + 1, hf23, by omega⟩, ⟨rt, hf22, by omega⟩, trivial⟩, hO⟩ [] rfl rfl rfl (by omega) (by omega) dSP_nextByte_58
  · replace hR := hR.trans (if_pos h21)
    refine lv_aload_n hx hb dSP_nextByte_11 rfl (lv_at hl 0 rfl) ?_
    refine mp_v (cx := []) (wr := []) hP hD hS hA [] [] rfl rfl rfl (by decide) (va_runV (As := []) (rest := []) F (N_SP_permute l g _ T s pl hO hU h0 pv qv k_h0 n_h0 n_qv) (cwV 0 hts (wg_app (wg_c kw_598 (wg_c kw_600 (wg_c ks_5 (wg_c kw_2 wg_n)))) kw_601) rfl rfl rfl (by decide +kernel) ⟨by decide, by decide⟩) (pn_W "LatticeKeys$Sponge" (en_ok g) (ci := 3) (kn := pv) (fl := [(3, qv), (0, 0), (0, 0), (0, 0)]) hK hO k_h0 n_h0 hP hD hS hA hE [] rfl rfl rfl) rfl rfl hl.1 rfl (lv_room (Nat.le_of_ble_eq_true rfl)) dSP_nextByte_12 ⟨by omega, by omega⟩) (fun  u21 H locs hu21 hP hD hS => ?_)
    obtain ⟨s22, pl⟩ := u21
    obtain ⟨⟨eq21, hFc21, -⟩, hO⟩ := hu21
    have hO : okn g T s22 pl := hO
    have hP : va_P g.1 vcl ([] ++ pl) _ := hP
    have hD : va_D _ ([] ++ pl) := hD
    have hFc21 : frm (M_SP_permute) s s22 := hFc21
    replace hR := bnd_step hR eq21
    have hF := frm_tr hF hFc21 (fun k hk => by unfold M_SP_permute at hk; unfold M_SP_nextByte; omega)
    have hf24 : s22.1 pv 3 = nI ps := fc_F e_ps hFc21 (by unfold M_SP_permute; omega)
    have hf25 : s22.1 pv 1 = nI rt := fc_F e_rt hFc21 (by unfold M_SP_permute; omega)
    refine W.widen (k := 0) (n := 0) (by omega) (by omega) ?_
    refine lv_aload_n hx hb dSP_nextByte_15 rfl (lv_at hl 0 rfl) ?_
    refine lv_iconst (v := nI 0) hx hb dSP_nextByte_16 (by decide) ?_
    refine nw_put (C := "LatticeKeys$Sponge") (TT := T_SP) (N := 4) hx hb hts (wg_ft i_SP) ty_SP k_SP n_SP hown hK hO hU k_h0 (kn := pv) (ci := 3) (fl := [(3, qv), (0, 0), (0, 0), (0, 0)]) n_h0 hP hD hS rfl 3 (by decide) (hts _ (wg_t kw_62)) (fun _ h9 => h9) rfl (by decide +kernel) rfl dSP_nextByte_17 (fun s23 pl H locs es22 hO hP hD hS => ?_)
    replace hR := bnd_step hR es22
    have hF := frm_sI hF es22 (by unfold M_SP_nextByte; omega)
    have hf27 : s23.1 pv 1 = nI rt := fc_ne hf25 es22 (by omega)
    have hf28 : s23.1 pv 3 = nI 0 := fc_eq es22
    refine lv_aload_n hx hb dSP_nextByte_20 rfl (lv_at hl 0 rfl) ?_
    refine nw_get (C := "LatticeKeys$Sponge") (TT := T_SP) (N := 4) hx hb hts (wg_ft i_SP) hown hK hO k_h0 (kn := pv) (ci := 3) (fl := [(3, qv), (0, 0), (0, 0), (0, 0)]) n_h0 hP rfl 0 (by decide) (hts _ (wg_t kw_59)) (fun _ h9 => h9) (cd := (3, qv)) rfl dSP_nextByte_21 (fun v27 hv27 => ?_)
    obtain ⟨r22, rfl, kr22⟩ := (show ∃ r : Nat, v27 = .ref r ∧ T r = some qv from hv27)
    refine lv_aload_n hx hb dSP_nextByte_24 rfl (lv_at hl 0 rfl) ?_
    refine nw_get (C := "LatticeKeys$Sponge") (TT := T_SP) (N := 4) hx hb hts (wg_ft i_SP) hown hK hO k_h0 (kn := pv) (ci := 3) (fl := [(3, qv), (0, 0), (0, 0), (0, 0)]) n_h0 hP rfl 3 (by decide) (hts _ (wg_t kw_62)) (fun _ h9 => h9) (cd := (0, 0)) rfl dSP_nextByte_25 (fun v28 hv28 => ?_)
    obtain rfl := (show v28 = .int (s23.1 pv 3) from hv28)
    obtain ⟨z27, ez27, hz32, hz33⟩ := cl_of (b := 2147483648) hf28 (by omega) (by decide)
    replace hR := bnd_step hR ez27
    refine mi_as hz32 ?_
    refine lv_iconst (v := nI 3) hx hb dSP_nextByte_28 (by decide) ?_
    refine mi_ishr hx hb dSP_nextByte_29 (by omega) (by decide) ?_
    refine mi_as (show nI (z27 / 2 ^ 3) = nI (z27 / 8) from rfl) ?_
    refine nw_lald hx hb hK hO kr22 (k := qv) n_qv hP (by omega) (by omega) dSP_nextByte_30 ?_
    refine lv_aload_n hx hb dSP_nextByte_31 rfl (lv_at hl 0 rfl) ?_
    refine nw_get (C := "LatticeKeys$Sponge") (TT := T_SP) (N := 4) hx hb hts (wg_ft i_SP) hown hK hO k_h0 (kn := pv) (ci := 3) (fl := [(3, qv), (0, 0), (0, 0), (0, 0)]) n_h0 hP rfl 3 (by decide) (hts _ (wg_t kw_62)) (fun _ h9 => h9) (cd := (0, 0)) rfl dSP_nextByte_32 (fun v29 hv29 => ?_)
    obtain rfl := (show v29 = .int (s23.1 pv 3) from hv29)
    obtain ⟨z28, ez28, hz34, hz35⟩ := cl_of (b := 2147483648) hf28 (by omega) (by decide)
    replace hR := bnd_step hR ez28
    refine mi_as hz34 ?_
    refine lv_bipush (v := nI 7) hx hb dSP_nextByte_35 (by decide) ?_
    refine lv_iand hx hb dSP_nextByte_37 ?_
    refine lv_iconst (v := nI 3) hx hb dSP_nextByte_38 (by decide) ?_
    refine lv_ishl hx hb dSP_nextByte_39 ?_
    refine lv_lushr hx hb dSP_nextByte_40 rfl ?_
    refine lv_l2i hx hb dSP_nextByte_41 rfl ?_
    refine lv_sipush (v := nI 255) hx hb dSP_nextByte_42 (by decide) ?_
    refine mi_iandT hx hb 8 dSP_nextByte_45 (by decide) (by decide) (fun z29 ez29 hz36 => ?_)
    have hz36 : z29 < 256 := hz36
    replace hR := bnd_step hR ez29
    refine lv_istore_n (lv' := [(1, .int (nI z29)), (0, .ref h0)]) hx hb dSP_nextByte_46 rfl hl (by decide) rfl (fun ls hl => ?_)
    refine lv_aload_n hx hb dSP_nextByte_47 rfl (lv_at hl 1 rfl) ?_
    refine lv_dup hx hb dSP_nextByte_48 rfl ?_
    refine nw_get (C := "LatticeKeys$Sponge") (TT := T_SP) (N := 4) hx hb hts (wg_ft i_SP) hown hK hO k_h0 (kn := pv) (ci := 3) (fl := [(3, qv), (0, 0), (0, 0), (0, 0)]) n_h0 hP rfl 3 (by decide) (hts _ (wg_t kw_62)) (fun _ h9 => h9) (cd := (0, 0)) rfl dSP_nextByte_49 (fun v30 hv30 => ?_)
    obtain rfl := (show v30 = .int (s23.1 pv 3) from hv30)
    obtain ⟨z30, ez30, hz37, hz38⟩ := cl_of (b := 2147483648) hf28 (by omega) (by decide)
    replace hR := bnd_step hR ez30
    refine mi_as hz37 ?_
    refine lv_iconst (v := nI 1) hx hb dSP_nextByte_52 (by decide) ?_
    refine mi_iadd hx hb dSP_nextByte_53 ?_
    refine nw_put (C := "LatticeKeys$Sponge") (TT := T_SP) (N := 4) hx hb hts (wg_ft i_SP) ty_SP k_SP n_SP hown hK hO hU k_h0 (kn := pv) (ci := 3) (fl := [(3, qv), (0, 0), (0, 0), (0, 0)]) n_h0 hP hD hS rfl 3 (by decide) (hts _ (wg_t kw_62)) (fun _ h9 => h9) rfl (by decide +kernel) rfl dSP_nextByte_54 (fun s24 pl H locs es23 hO hP hD hS => ?_)
    replace hR := bnd_step hR es23
    have hF := frm_sI hF es23 (by unfold M_SP_nextByte; omega)
    have hf29 : s24.1 pv 1 = nI rt := fc_ne hf27 es23 (by omega)
    have hf31 : s24.1 pv 3 = nI (z30 + 1) := fc_eq es23
    refine lv_iload_n hx hb dSP_nextByte_57 rfl (lv_at hl 0 rfl) ?_
    exact mp_iret hx hb hr hlk hP hD hS ((nI z29, s24), pl) ⟨⟨hR.symm, rfl, hF, ⟨z29, rfl, by omega⟩, ⟨z30 + 1, hf31, by omega⟩, ⟨rt, hf29, by omega⟩, trivial⟩, hO⟩ [] rfl rfl rfl (by omega) (by omega) dSP_nextByte_58
def M_SP_squeeze (pv : Nat) (pb : Nat) (k : Nat) : Prop := k = pb ∨ k = pv ∨ (0 : Nat) = 1
noncomputable def F_SP_squeeze_L0 (pv : Nat) (qv : Nat) (pb : Nat) (at_ : Nat) : Nat → Nat → Sto → Sto
  | 0, i21, s21 => s21
  | n21 + 1, i21, s21 => bnd (F_SP_nextByte pv qv s21) fun q21 => bnd (q21.1.toNatClampNeg) fun z21 => bnd (sB q21.2 pb (at_ + i21) ((nI z21).toInt8.toInt32)) fun s22 => F_SP_squeeze_L0 pv qv pb at_ n21 (i21 + 1) s22
noncomputable def F_SP_squeeze (pv : Nat) (qv : Nat) (pb : Nat) (n : Nat) (at_ : Nat) (len : Nat) (s : Sto) : Sto := F_SP_squeeze_L0 pv qv pb at_ len 0 s
set_option maxHeartbeats 400000 in
set_option maxRecDepth 100000 in
theorem N_SP_squeeze (l : Launch) (g : Gd) (sz : Nat) (T : TyN) (s : Sto) (pl : va_W) (hO : okn g T s pl) (hU : inj T) (h0 b : Nat) (pv : Nat) (qv : Nat) (pb : Nat) (n : Nat) (at_ : Nat) (len : Nat) (ps : Nat) (rt : Nat) (k_h0 : T h0 = some pv) (n_h0 : nsp pv = (5, 3, [(3, qv), (0, 0), (0, 0), (0, 0)])) (n_qv : nsp qv = (2, 25, [])) (k_b : T b = some pb) (n_b : nsp pb = (1, n, [])) (e_ps : s.1 pv 3 = nI ps) (e_rt : s.1 pv 1 = nI rt) (hrt : 0 < rt ∧ rt < 200) (hps : ps ≤ rt) (h1 : at_ + len ≤ n) (h2 : n < 65536)  : Met l y_SP_squeeze w_SP_squeeze ({ frames := 2, cells := 0, slots := 0, locals := 76 } : Room) (va_Pc [.ref h0, .ref b, .int (nI at_), .int (nI len)] (pr (en g) g.1 vcl sz ([] ++ pl))) (va_Qv (fun (u : (Sto) × va_W) => (u.1 = F_SP_squeeze pv qv pb n at_ len s ∧ frm (M_SP_squeeze pv pb) s u.1 ∧ (∃ x : Nat, u.1.1 pv 3 = nI x ∧ x ≤ rt) ∧ (∃ x : Nat, u.1.1 pv 1 = nI x ∧ x = rt) ∧ True) ∧ okn g T u.1 u.2) (po g.1 vcl (va_A ([] ++ pl) sz) (fun (u : (Sto) × va_W) => [] ++ u.2)) (va_A ([] ++ pl) sz)) 0 0 (va_A ([] ++ pl) sz) := by
  refine mc_entry (cc := c_SP_squeeze) (maxL := 5) (ret := none) (by decide) rfl (Nat.le_of_ble_eq_true rfl) ?_
  intro p e s0 m args below meth c ls F hr hlk hnm hsz hP hD hE hA hl
  obtain ⟨hx, hb, hml, hown, hts⟩ := id F
  have hK := hE.1
  generalize va_A ([] ++ pl) sz = A at hD hE hA ⊢
  have hS : va_S A s0.heap s0.heap [] := va_S.rf
  have hl : lv_has ls 5 [(0, .ref h0), (1, .ref b), (2, .int (nI at_)), (3, .int (nI len))] := hl
  have hR : F_SP_squeeze pv qv pb n at_ len s = F_SP_squeeze pv qv pb n at_ len s := rfl
  have hF : frm (M_SP_squeeze pv pb) s s := frm_rf
  have ne_pv_pb : pv ≠ pb := nsp_ne n_h0 n_b (show (5 : Nat) ≠ 1 by decide)
  refine lv_iconst (v := nI 0) hx hb dSP_squeeze_0 (by decide) ?_
  refine lv_istore (lv' := [(4, .int (nI 0)), (0, .ref h0), (1, .ref b), (2, .int (nI at_)), (3, .int (nI len))]) hx hb dSP_squeeze_1 hl (by decide) rfl (fun ls hl => ?_)
  have lp21 : ∀ (n21 : Nat) (i21 : Nat) (s21 : Sto) (ps21 : Nat) (pl : va_W) (ls : Array Slot) (H : Heap) (locs : List Loc), n21 + i21 = len → (ps21 ≤ rt) → frm (M_SP_squeeze pv pb) s s21 → s21.1 pv 3 = nI ps21 → s21.1 pv 1 = nI rt → F_SP_squeeze pv qv pb n at_ len s = F_SP_squeeze_L0 pv qv pb at_ n21 i21 s21 → lv_has ls 5 [(4, .int (nI i21)), (0, .ref h0), (1, .ref b), (2, .int (nI at_)), (3, .int (nI len))] → okn g T s21 pl → va_P g.1 vcl ([] ++ pl) H → va_D A ([] ++ pl) → va_S A s0.heap H locs → W p l e ({ frames := 2, cells := 0, slots := 0, locals := 76 } : Room) s0 m args below meth c H locs 0 0 (MQ below (va_Qv (fun (u : (Sto) × va_W) => (u.1 = F_SP_squeeze pv qv pb n at_ len s ∧ frm (M_SP_squeeze pv pb) s u.1 ∧ (∃ x : Nat, u.1.1 pv 3 = nI x ∧ x ≤ rt) ∧ (∃ x : Nat, u.1.1 pv 1 = nI x ∧ x = rt) ∧ True) ∧ okn g T u.1 u.2) (po g.1 vcl A (fun (u : (Sto) × va_W) => [] ++ u.2)) A) args s0 0 0 A) (F0 m 3 ls []) := by
    intro n21
    induction n21 with
    | zero =>
      intro i21 s21 ps21 pl ls H locs hm21 hi21 hF hf21 hf22 hR hl hO hP hD hS
      refine lv_iload hx hb dSP_squeeze_3 (lv_at hl 0 rfl) ?_
      refine lv_iload_n hx hb dSP_squeeze_5 rfl (lv_at hl 4 rfl) ?_
      refine mi_ge (tgt := 26) hx hb dSP_squeeze_6 (by decide) (by omega) (by omega) (fun h21 => ?_) (fun h21 => absurd h21 (by omega))
      exact mp_vret hx hb hr hlk hP hD hS (s21, pl) ⟨⟨hR.symm, hF, ⟨ps21, hf21, by omega⟩, ⟨rt, hf22, by omega⟩, trivial⟩, hO⟩ [] rfl rfl rfl (by omega) (by omega) dSP_squeeze_26
    | succ n21 ih21 =>
      intro i21 s21 ps21 pl ls H locs hm21 hi21 hF hf23 hf24 hR hl hO hP hD hS
      refine lv_iload hx hb dSP_squeeze_3 (lv_at hl 0 rfl) ?_
      refine lv_iload_n hx hb dSP_squeeze_5 rfl (lv_at hl 4 rfl) ?_
      refine mi_ge (tgt := 26) hx hb dSP_squeeze_6 (by decide) (by omega) (by omega) (fun h22 => absurd h22 (by omega)) (fun h22 => ?_)
      refine lv_aload_n hx hb dSP_squeeze_9 rfl (lv_at hl 2 rfl) ?_
      refine lv_iload_n hx hb dSP_squeeze_10 rfl (lv_at hl 3 rfl) ?_
      refine lv_iload hx hb dSP_squeeze_11 (lv_at hl 0 rfl) ?_
      refine mi_iadd hx hb dSP_squeeze_13 ?_
      refine lv_aload_n hx hb dSP_squeeze_14 rfl (lv_at hl 1 rfl) ?_
      refine mp_i (cx := []) (wr := []) hP hD hS hA [] [] rfl rfl rfl (by decide) (va_runV (As := []) (rest := [.int (nI (at_ + i21)), .ref b]) F (N_SP_nextByte l g _ T s21 pl hO hU h0 pv qv ps21 rt k_h0 n_h0 n_qv hf23 hf24 (by omega) (by omega)) (cwV 0 hts (wg_app (wg_c kw_618 (wg_c kw_619 (wg_c kw_620 (wg_c kw_2 wg_n)))) kw_621) rfl rfl rfl (by decide +kernel) ⟨by decide, by decide⟩) (pn_W "LatticeKeys$Sponge" (en_ok g) (ci := 3) (kn := pv) (fl := [(3, qv), (0, 0), (0, 0), (0, 0)]) hK hO k_h0 n_h0 hP hD hS hA hE [] rfl rfl rfl) rfl rfl hl.1 rfl (lv_room (Nat.le_of_ble_eq_true rfl)) dSP_squeeze_15 ⟨by omega, by omega⟩) (fun r21 u21 H locs hu21 hP hD hS => ?_)
      obtain ⟨q21, pl⟩ := u21
      obtain ⟨⟨eq21, rfl, hFc21, ⟨x23, hx_23, hb_23⟩, ⟨x21, hx_21, hb_21⟩, ⟨x22, hx_22, hb_22⟩, -⟩, hO⟩ := hu21
      have hO : okn g T q21.2 pl := hO
      have hP : va_P g.1 vcl ([] ++ pl) _ := hP
      have hD : va_D _ ([] ++ pl) := hD
      have hFc21 : frm (M_SP_nextByte pv) s21 q21.2 := hFc21
      have hb_21 : x21 ≤ rt := hb_21
      have hb_22 : x22 = rt := hb_22
      have hb_23 : x23 < 256 := hb_23
      replace hR := bnd_step hR eq21
      have hF := frm_tr hF hFc21 (fun k hk => by unfold M_SP_nextByte at hk; unfold M_SP_squeeze; omega)
      obtain ⟨z21, ez21, hz21, hz22⟩ := cl_of (b := 2147483648) hx_23 (by omega) (by decide)
      replace hR := bnd_step hR ez21
      refine mi_as hz21 ?_
      refine W.widen (k := 0) (n := 0) (by omega) (by omega) ?_
      refine lv_i2b hx hb dSP_squeeze_18 rfl ?_
      refine nw_bast hx hb hK hO hU k_b (k := pb) n_b hP hD hS (by omega) (by omega) dSP_squeeze_19 (fun s22 pl H locs es21 hO hP hD hS => ?_)
      replace hR := bnd_step hR es21
      have hF := frm_sB hF es21 (by unfold M_SP_squeeze; omega)
      have hf25 : s22.1 pv 3 = nI x21 := fc_B hx_21 es21 (by omega)
      have hf26 : s22.1 pv 1 = nI x22 := fc_B hx_22 es21 (by omega)
      refine mi_iinc (k := 0) (x := i21) (d := 1) (y := i21 + 1) (lv' := [(4, .int (nI (i21 + 1))), (0, .ref h0), (1, .ref b), (2, .int (nI at_)), (3, .int (nI len))]) hx hb dSP_squeeze_20 hl rfl (by decide) rfl (by decide) rfl (fun ls hl => ?_)
      refine lv_goto (tgt := 3) hx hb dSP_squeeze_23 (by decide) ?_
      exact ih21 (i21 + 1) s22 x21 pl ls H locs (by omega) (by omega) hF hf25 (by have h9 := hf26; rw [show x22 = rt by omega] at h9; exact h9) hR (lv_sub hl [0, 1, 2, 3, 4] rfl) hO hP hD hS
  exact lp21 len 0 s ps pl ls _ _ (by omega) (by omega) hF e_ps e_rt hR (lv_sub hl [0, 1, 2, 3, 4] rfl) hO hP hD hS
