set_option linter.all false
def M_MS_add (k : Nat) : Prop := (0 : Nat) = 1
noncomputable def F_MS_add (k : Nat) (v : Int32) (s : Sto) : Sto := bnd (sL s 173 (k / 8) ((s.2 173 (k / 8)) ^^^ (((v.toInt64) &&& (255)) <<< ((nI (8 * (k % 8))).toInt64 &&& 63)))) fun s21 => s21
set_option maxHeartbeats 400000 in
set_option maxRecDepth 100000 in
theorem N_MS_add (l : Launch) (g : Gd) (sz : Nat) (T : TyN) (s : Sto) (pl : va_W) (hO : okn g T s pl) (hU : inj T) (h0 : Nat) (k : Nat) (v : Int32) (k_h0 : T h0 = some 172) (hk : k < 200)  : Met l y_MS_add w_MS_add ({ frames := 0, cells := 0, slots := 0, locals := 0 } : Room) (va_Pc [.ref h0, .int (nI k), .int v] (pr (en g) g.1 vcl sz ([] ++ pl))) (va_Qv (fun (u : (Sto) × va_W) => (u.1 = F_MS_add k v s ∧ frm (M_MS_add) s u.1 ∧ True) ∧ okn g T u.1 u.2) (po g.1 vcl (va_A ([] ++ pl) sz) (fun (u : (Sto) × va_W) => [] ++ u.2)) (va_A ([] ++ pl) sz)) 0 0 (va_A ([] ++ pl) sz) := by
  refine mc_entry (cc := c_MS_add) (maxL := 3) (ret := none) (by decide) rfl (Nat.le_of_ble_eq_true rfl) ?_
  intro p e s0 m args below meth c ls F hr hlk hnm hsz hP hD hE hA hl
  obtain ⟨hx, hb, hml, hown, hts⟩ := id F
  have hK := hE.1
  generalize va_A ([] ++ pl) sz = A at hD hE hA ⊢
  have hS : va_S A s0.heap s0.heap [] := va_S.rf
  have hl : lv_has ls 3 [(0, .ref h0), (1, .int (nI k)), (2, .int v)] := hl
  have hR : F_MS_add k v s = F_MS_add k v s := rfl
  have hF : frm (M_MS_add) s s := frm_rf
  refine lv_aload_n hx hb dMS_add_0 rfl (lv_at hl 0 rfl) ?_
  refine nw_get (C := "LatticeKeysModel$Sponge") (TT := T_MS) (N := 8) hx hb hts (wg_ft i_MS) hown hK hO k_h0 (kn := 172) (ci := 9) (fl := [(3, 173), (3, 174), (3, 175), (3, 176), (3, 177), (0, 0), (0, 0), (0, 0)]) rfl hP rfl 0 (by decide) (hts _ (wg_t kw_1325)) (fun _ h9 => h9) (cd := (3, 173)) rfl dMS_add_1 (fun v21 hv21 => ?_)
  obtain ⟨r21, rfl, kr21⟩ := (show ∃ r : Nat, v21 = .ref r ∧ T r = some 173 from hv21)
  refine lv_iload_n hx hb dMS_add_4 rfl (lv_at hl 1 rfl) ?_
  refine lv_bipush (v := nI 8) hx hb dMS_add_5 (by decide) ?_
  refine mi_idiv hx hb dMS_add_7 (by omega) (by omega) (by omega) ?_
  refine lv_dup2_11 hx hb dMS_add_8 rfl rfl ?_
  refine nw_lald hx hb hK hO kr21 (k := 173) rfl hP (by omega) (by omega) dMS_add_9 ?_
  refine lv_iload_n hx hb dMS_add_10 rfl (lv_at hl 2 rfl) ?_
  refine lv_i2l hx hb dMS_add_11 rfl ?_
  refine lv_ldc2 (v := (255)) hx hb hown (hts _ (wg_t kw_1623)) dMS_add_12 ?_
  refine lv_land hx hb dMS_add_15 ?_
  refine lv_bipush (v := nI 8) hx hb dMS_add_16 (by decide) ?_
  refine lv_iload_n hx hb dMS_add_18 rfl (lv_at hl 1 rfl) ?_
  refine lv_bipush (v := nI 8) hx hb dMS_add_19 (by decide) ?_
  refine mi_irem hx hb dMS_add_21 (by omega) (by omega) (by omega) ?_
  refine mi_imul hx hb dMS_add_22 ?_
  refine lv_lshl hx hb dMS_add_23 rfl ?_
  refine lv_lxor hx hb dMS_add_24 ?_
  refine nw_last hx hb hK hO hU kr21 (k := 173) rfl hP hD hS (by omega) (by omega) dMS_add_25 (fun s21 pl H locs es21 hO hP hD hS => ?_)
  replace hR := bnd_step hR es21
  have hF := frm_sL hF es21
  exact mp_vret hx hb hr hlk hP hD hS (s21, pl) ⟨⟨hR.symm, hF, trivial⟩, hO⟩ [] rfl rfl rfl (by omega) (by omega) dMS_add_26
def M_MS_begin (k : Nat) : Prop := k = 172 ∨ (0 : Nat) = 1
noncomputable def F_MS_begin_L0 : Nat → Nat → Sto → Sto
  | 0, i21, s24 => s24
  | n21 + 1, i21, s24 => bnd (sL s24 173 i21 0) fun s25 => F_MS_begin_L0  n21 (i21 + 1) s25
noncomputable def F_MS_begin (nr : Nat) (sf : Int32) (s : Sto) : Sto := bnd (sI s 172 5 (nI nr)) fun s21 => bnd (sI s21 172 7 sf) fun s22 => bnd (sI s22 172 6 (nI 0)) fun s23 => F_MS_begin_L0 25 0 s23
set_option maxHeartbeats 400000 in
set_option maxRecDepth 100000 in
theorem N_MS_begin (l : Launch) (g : Gd) (sz : Nat) (T : TyN) (s : Sto) (pl : va_W) (hO : okn g T s pl) (hU : inj T) (h0 : Nat) (nr : Nat) (sf : Int32) (k_h0 : T h0 = some 172) (h1 : nr < 200)  : Met l y_MS_begin w_MS_begin ({ frames := 0, cells := 0, slots := 0, locals := 0 } : Room) (va_Pc [.ref h0, .int (nI nr), .int sf] (pr (en g) g.1 vcl sz ([] ++ pl))) (va_Qv (fun (u : (Sto) × va_W) => (u.1 = F_MS_begin nr sf s ∧ frm (M_MS_begin) s u.1 ∧ (∃ x : Nat, u.1.1 172 6 = nI x ∧ x = 0) ∧ (∃ x : Nat, u.1.1 172 5 = nI x ∧ x = nr) ∧ True) ∧ okn g T u.1 u.2) (po g.1 vcl (va_A ([] ++ pl) sz) (fun (u : (Sto) × va_W) => [] ++ u.2)) (va_A ([] ++ pl) sz)) 0 0 (va_A ([] ++ pl) sz) := by
  refine mc_entry (cc := c_MS_begin) (maxL := 4) (ret := none) (by decide) rfl (Nat.le_of_ble_eq_true rfl) ?_
  intro p e s0 m args below meth c ls F hr hlk hnm hsz hP hD hE hA hl
  obtain ⟨hx, hb, hml, hown, hts⟩ := id F
  have hK := hE.1
  generalize va_A ([] ++ pl) sz = A at hD hE hA ⊢
  have hS : va_S A s0.heap s0.heap [] := va_S.rf
  have hl : lv_has ls 4 [(0, .ref h0), (1, .int (nI nr)), (2, .int sf)] := hl
  have hR : F_MS_begin nr sf s = F_MS_begin nr sf s := rfl
  have hF : frm (M_MS_begin) s s := frm_rf
  refine lv_aload_n hx hb dMS_begin_0 rfl (lv_at hl 0 rfl) ?_
  refine lv_iload_n hx hb dMS_begin_1 rfl (lv_at hl 1 rfl) ?_
  refine nw_put (C := "LatticeKeysModel$Sponge") (TT := T_MS) (N := 8) hx hb hts (wg_ft i_MS) ty_MS k_MS n_MS hown hK hO hU k_h0 (kn := 172) (ci := 9) (fl := [(3, 173), (3, 174), (3, 175), (3, 176), (3, 177), (0, 0), (0, 0), (0, 0)]) rfl hP hD hS rfl 5 (by decide) (hts _ (wg_t kw_1330)) (fun _ h9 => h9) rfl (by decide +kernel) rfl dMS_begin_2 (fun s21 pl H locs es21 hO hP hD hS => ?_)
  replace hR := bnd_step hR es21
  have hF := frm_sI hF es21 (by unfold M_MS_begin; omega)
  have hf21 : s21.1 172 5 = nI nr := fc_eq es21
  refine lv_aload_n hx hb dMS_begin_5 rfl (lv_at hl 0 rfl) ?_
  refine lv_iload_n hx hb dMS_begin_6 rfl (lv_at hl 2 rfl) ?_
  refine nw_put (C := "LatticeKeysModel$Sponge") (TT := T_MS) (N := 8) hx hb hts (wg_ft i_MS) ty_MS k_MS n_MS hown hK hO hU k_h0 (kn := 172) (ci := 9) (fl := [(3, 173), (3, 174), (3, 175), (3, 176), (3, 177), (0, 0), (0, 0), (0, 0)]) rfl hP hD hS rfl 7 (by decide) (hts _ (wg_t kw_1332)) (fun _ h9 => h9) rfl (by decide +kernel) rfl dMS_begin_7 (fun s22 pl H locs es22 hO hP hD hS => ?_)
  replace hR := bnd_step hR es22
  have hF := frm_sI hF es22 (by unfold M_MS_begin; omega)
  have hf22 : s22.1 172 5 = nI nr := fc_ne hf21 es22 (by omega)
  refine lv_aload_n hx hb dMS_begin_10 rfl (lv_at hl 0 rfl) ?_
  refine lv_iconst (v := nI 0) hx hb dMS_begin_11 (by decide) ?_
  refine nw_put (C := "LatticeKeysModel$Sponge") (TT := T_MS) (N := 8) hx hb hts (wg_ft i_MS) ty_MS k_MS n_MS hown hK hO hU k_h0 (kn := 172) (ci := 9) (fl := [(3, 173), (3, 174), (3, 175), (3, 176), (3, 177), (0, 0), (0, 0), (0, 0)]) rfl hP hD hS rfl 6 (by decide) (hts _ (wg_t kw_1331)) (fun _ h9 => h9) rfl (by decide +kernel) rfl dMS_begin_12 (fun s23 pl H locs es23 hO hP hD hS => ?_)
  replace hR := bnd_step hR es23
  have hF := frm_sI hF es23 (by unfold M_MS_begin; omega)
  have hf23 : s23.1 172 5 = nI nr := fc_ne hf22 es23 (by omega)
  have hf24 : s23.1 172 6 = nI 0 := fc_eq es23
  refine lv_iconst (v := nI 0) hx hb dMS_begin_15 (by decide) ?_
  refine lv_istore_n (lv' := [(3, .int (nI 0)), (0, .ref h0), (1, .int (nI nr)), (2, .int sf)]) hx hb dMS_begin_16 rfl hl (by decide) rfl (fun ls hl => ?_)
  have lp21 : ∀ (n21 : Nat) (i21 : Nat) (s24 : Sto) (pl : va_W) (ls : Array Slot) (H : Heap) (locs : List Loc), n21 + i21 = 25 → frm (M_MS_begin) s s24 → s24.1 172 5 = nI nr → s24.1 172 6 = nI 0 → F_MS_begin nr sf s = F_MS_begin_L0 n21 i21 s24 → lv_has ls 4 [(3, .int (nI i21)), (0, .ref h0)] → okn g T s24 pl → va_P g.1 vcl ([] ++ pl) H → va_D A ([] ++ pl) → va_S A s0.heap H locs → W p l e ({ frames := 0, cells := 0, slots := 0, locals := 0 } : Room) s0 m args below meth c H locs 0 0 (MQ below (va_Qv (fun (u : (Sto) × va_W) => (u.1 = F_MS_begin nr sf s ∧ frm (M_MS_begin) s u.1 ∧ (∃ x : Nat, u.1.1 172 6 = nI x ∧ x = 0) ∧ (∃ x : Nat, u.1.1 172 5 = nI x ∧ x = nr) ∧ True) ∧ okn g T u.1 u.2) (po g.1 vcl A (fun (u : (Sto) × va_W) => [] ++ u.2)) A) args s0 0 0 A) (F0 m 17 ls []) := by
    intro n21
    induction n21 with
    | zero =>
      intro i21 s24 pl ls H locs hm21 hF hf25 hf26 hR hl hO hP hD hS
      refine lv_iload_n hx hb dMS_begin_17 rfl (lv_at hl 0 rfl) ?_
      refine lv_bipush (v := nI 25) hx hb dMS_begin_18 (by decide) ?_
      refine mi_ge (tgt := 36) hx hb dMS_begin_20 (by decide) (by omega) (by omega) (fun h21 => ?_) (fun h21 => absurd h21 (by omega))
      exact mp_vret hx hb hr hlk hP hD hS (s24, pl) ⟨⟨hR.symm, hF, ⟨0, hf26, by omega⟩, ⟨nr, hf25, by omega⟩, trivial⟩, hO⟩ [] rfl rfl rfl (by omega) (by omega) dMS_begin_36
    | succ n21 ih21 =>
      intro i21 s24 pl ls H locs hm21 hF hf27 hf28 hR hl hO hP hD hS
      refine lv_iload_n hx hb dMS_begin_17 rfl (lv_at hl 0 rfl) ?_
      refine lv_bipush (v := nI 25) hx hb dMS_begin_18 (by decide) ?_
      refine mi_ge (tgt := 36) hx hb dMS_begin_20 (by decide) (by omega) (by omega) (fun h22 => absurd h22 (by omega)) (fun h22 => ?_)
      refine lv_aload_n hx hb dMS_begin_23 rfl (lv_at hl 1 rfl) ?_
      refine nw_get (C := "LatticeKeysModel$Sponge") (TT := T_MS) (N := 8) hx hb hts (wg_ft i_MS) hown hK hO k_h0 (kn := 172) (ci := 9) (fl := [(3, 173), (3, 174), (3, 175), (3, 176), (3, 177), (0, 0), (0, 0), (0, 0)]) rfl hP rfl 0 (by decide) (hts _ (wg_t kw_1325)) (fun _ h9 => h9) (cd := (3, 173)) rfl dMS_begin_24 (fun v21 hv21 => ?_)
      obtain ⟨r21, rfl, kr21⟩ := (show ∃ r : Nat, v21 = .ref r ∧ T r = some 173 from hv21)
      refine lv_iload_n hx hb dMS_begin_27 rfl (lv_at hl 0 rfl) ?_
      refine lv_lconst (v := 0) hx hb dMS_begin_28 (by decide) ?_
      refine nw_last hx hb hK hO hU kr21 (k := 173) rfl hP hD hS (by omega) (by omega) dMS_begin_29 (fun s25 pl H locs es24 hO hP hD hS => ?_)
      replace hR := bnd_step hR es24
      have hF := frm_sL hF es24
      have hf29 : s25.1 172 5 = nI nr := fc_L hf27 es24
      have hf30 : s25.1 172 6 = nI 0 := fc_L hf28 es24
      refine mi_iinc (k := 0) (x := i21) (d := 1) (y := i21 + 1) (lv' := [(3, .int (nI (i21 + 1))), (0, .ref h0)]) hx hb dMS_begin_30 hl rfl (by decide) rfl (by decide) rfl (fun ls hl => ?_)
      refine lv_goto (tgt := 17) hx hb dMS_begin_33 (by decide) ?_
      exact ih21 (i21 + 1) s25 pl ls H locs (by omega) hF hf29 hf30 hR (lv_sub hl [0, 1] rfl) hO hP hD hS
  exact lp21 25 0 s23 pl ls _ _ (by omega) hF hf23 hf24 hR (lv_sub hl [0, 1] rfl) hO hP hD hS
def M_MS_shake (k : Nat) : Prop := k = 172 ∨ (0 : Nat) = 1
noncomputable def F_MS_shake (s : Sto) : Sto := bnd (F_MS_begin 136 (nI 31) s) fun s21 => s21
set_option maxHeartbeats 400000 in
set_option maxRecDepth 100000 in
theorem N_MS_shake (l : Launch) (g : Gd) (sz : Nat) (T : TyN) (s : Sto) (pl : va_W) (hO : okn g T s pl) (hU : inj T) (h0 : Nat) (k_h0 : T h0 = some 172)  : Met l y_MS_shake w_MS_shake ({ frames := 1, cells := 0, slots := 0, locals := 23 } : Room) (va_Pc [.ref h0] (pr (en g) g.1 vcl sz ([] ++ pl))) (va_Qv (fun (u : (Sto) × va_W) => (u.1 = F_MS_shake s ∧ frm (M_MS_shake) s u.1 ∧ (∃ x : Nat, u.1.1 172 6 = nI x ∧ x = 0) ∧ (∃ x : Nat, u.1.1 172 5 = nI x ∧ x = 136) ∧ True) ∧ okn g T u.1 u.2) (po g.1 vcl (va_A ([] ++ pl) sz) (fun (u : (Sto) × va_W) => [] ++ u.2)) (va_A ([] ++ pl) sz)) 0 0 (va_A ([] ++ pl) sz) := by
  refine mc_entry (cc := c_MS_shake) (maxL := 1) (ret := none) (by decide) rfl (Nat.le_of_ble_eq_true rfl) ?_
  intro p e s0 m args below meth c ls F hr hlk hnm hsz hP hD hE hA hl
  obtain ⟨hx, hb, hml, hown, hts⟩ := id F
  have hK := hE.1
  generalize va_A ([] ++ pl) sz = A at hD hE hA ⊢
  have hS : va_S A s0.heap s0.heap [] := va_S.rf
  have hl : lv_has ls 1 [(0, .ref h0)] := hl
  have hR : F_MS_shake s = F_MS_shake s := rfl
  have hF : frm (M_MS_shake) s s := frm_rf
  refine lv_aload_n hx hb dMS_shake_0 rfl (lv_at hl 0 rfl) ?_
  refine lv_sipush (v := nI 136) hx hb dMS_shake_1 (by decide) ?_
  refine lv_bipush (v := nI 31) hx hb dMS_shake_4 (by decide) ?_
  refine mp_v (cx := []) (wr := []) hP hD hS hA [] [] rfl rfl rfl (by decide) (va_runV (As := [.int (nI 136), .int (nI 31)]) (rest := []) F (N_MS_begin l g _ T s pl hO hU h0 136 (nI 31) k_h0 (by omega)) (cwV 2 hts (wg_app (wg_c kw_1664 (wg_c kw_1608 (wg_c kw_1609 (wg_c kw_10 wg_n)))) kw_1610) rfl rfl rfl (by decide +kernel) ⟨by decide, by decide⟩) (pn_W "LatticeKeysModel$Sponge" (en_ok g) (ci := 9) (kn := 172) (fl := [(3, 173), (3, 174), (3, 175), (3, 176), (3, 177), (0, 0), (0, 0), (0, 0)]) hK hO k_h0 rfl hP hD hS hA hE [] rfl rfl rfl) rfl rfl hl.1 rfl (lv_room (Nat.le_of_ble_eq_true rfl)) dMS_shake_6 ⟨by omega, by omega⟩) (fun  u21 H locs hu21 hP hD hS => ?_)
  obtain ⟨s21, pl⟩ := u21
  obtain ⟨⟨eq21, hFc21, ⟨x21, hx_21, hb_21⟩, ⟨x22, hx_22, hb_22⟩, -⟩, hO⟩ := hu21
  have hO : okn g T s21 pl := hO
  have hP : va_P g.1 vcl ([] ++ pl) _ := hP
  have hD : va_D _ ([] ++ pl) := hD
  have hFc21 : frm (M_MS_begin) s s21 := hFc21
  have hb_21 : x21 = 0 := hb_21
  have hb_22 : x22 = 136 := hb_22
  replace hR := bnd_step hR eq21
  have hF := frm_tr hF hFc21 (fun k hk => by unfold M_MS_begin at hk; unfold M_MS_shake; omega)
  refine W.widen (k := 0) (n := 0) (by omega) (by omega) ?_
  exact mp_vret hx hb hr hlk hP hD hS (s21, pl) ⟨⟨hR.symm, hF, ⟨x21, hx_21, by omega⟩, ⟨x22, hx_22, by omega⟩, trivial⟩, hO⟩ [] rfl rfl rfl (by omega) (by omega) dMS_shake_9
def M_MS_put (k : Nat) : Prop := k = 172 ∨ (0 : Nat) = 1
noncomputable def F_MS_put (v : Int32) (s : Sto) : Sto := bnd ((s.1 172 6).toNatClampNeg) fun z21 => bnd (F_MS_add z21 v s) fun s21 => bnd ((s21.1 172 6).toNatClampNeg) fun z22 => bnd (sI s21 172 6 (nI (z22 + 1))) fun s22 => bnd ((s22.1 172 6).toNatClampNeg) fun z23 => bnd ((s22.1 172 5).toNatClampNeg) fun z24 => if z24 ≤ z23 then bnd (F_MS_mix  s22) fun s23 => bnd (sI s23 172 6 (nI 0)) fun s24 => s24 else s22
set_option maxHeartbeats 400000 in
set_option maxRecDepth 100000 in
theorem N_MS_put (l : Launch) (g : Gd) (sz : Nat) (T : TyN) (s : Sto) (pl : va_W) (hO : okn g T s pl) (hU : inj T) (h0 : Nat) (v : Int32) (ps : Nat) (rt : Nat) (k_h0 : T h0 = some 172) (e_ps : s.1 172 6 = nI ps) (e_rt : s.1 172 5 = nI rt) (hrt : 0 < rt ∧ rt < 200) (hps : ps < rt)  : Met l y_MS_put w_MS_put ({ frames := 2, cells := 0, slots := 0, locals := 45 } : Room) (va_Pc [.ref h0, .int v] (pr (en g) g.1 vcl sz ([] ++ pl))) (va_Qv (fun (u : (Sto) × va_W) => (u.1 = F_MS_put v s ∧ frm (M_MS_put) s u.1 ∧ (∃ x : Nat, u.1.1 172 6 = nI x ∧ x < rt) ∧ (∃ x : Nat, u.1.1 172 5 = nI x ∧ x = rt) ∧ True) ∧ okn g T u.1 u.2) (po g.1 vcl (va_A ([] ++ pl) sz) (fun (u : (Sto) × va_W) => [] ++ u.2)) (va_A ([] ++ pl) sz)) 0 0 (va_A ([] ++ pl) sz) := by
  refine mc_entry (cc := c_MS_put) (maxL := 2) (ret := none) (by decide) rfl (Nat.le_of_ble_eq_true rfl) ?_
  intro p e s0 m args below meth c ls F hr hlk hnm hsz hP hD hE hA hl
  obtain ⟨hx, hb, hml, hown, hts⟩ := id F
  have hK := hE.1
  generalize va_A ([] ++ pl) sz = A at hD hE hA ⊢
  have hS : va_S A s0.heap s0.heap [] := va_S.rf
  have hl : lv_has ls 2 [(0, .ref h0), (1, .int v)] := hl
  have hR : F_MS_put v s = F_MS_put v s := rfl
  have hF : frm (M_MS_put) s s := frm_rf
  refine lv_aload_n hx hb dMS_put_0 rfl (lv_at hl 0 rfl) ?_
  refine lv_aload_n hx hb dMS_put_1 rfl (lv_at hl 0 rfl) ?_
  refine nw_get (C := "LatticeKeysModel$Sponge") (TT := T_MS) (N := 8) hx hb hts (wg_ft i_MS) hown hK hO k_h0 (kn := 172) (ci := 9) (fl := [(3, 173), (3, 174), (3, 175), (3, 176), (3, 177), (0, 0), (0, 0), (0, 0)]) rfl hP rfl 6 (by decide) (hts _ (wg_t kw_1331)) (fun _ h9 => h9) (cd := (0, 0)) rfl dMS_put_2 (fun v21 hv21 => ?_)
  obtain rfl := (show v21 = .int (s.1 172 6) from hv21)
  obtain ⟨z21, ez21, hz21, hz22⟩ := cl_of (b := 2147483648) e_ps (by omega) (by decide)
  replace hR := bnd_step hR ez21
  refine mi_as hz21 ?_
  refine lv_iload_n hx hb dMS_put_5 rfl (lv_at hl 1 rfl) ?_
  refine mp_v (cx := []) (wr := []) hP hD hS hA [] [] rfl rfl rfl (by decide) (va_runV (As := [.int (nI z21), .int v]) (rest := []) F (N_MS_add l g _ T s pl hO hU h0 z21 v k_h0 (by omega)) (cwV 2 hts (wg_app (wg_c kw_1619 (wg_c kw_1621 (wg_c ks_52 (wg_c kw_10 wg_n)))) kw_1622) rfl rfl rfl (by decide +kernel) ⟨by decide, by decide⟩) (pn_W "LatticeKeysModel$Sponge" (en_ok g) (ci := 9) (kn := 172) (fl := [(3, 173), (3, 174), (3, 175), (3, 176), (3, 177), (0, 0), (0, 0), (0, 0)]) hK hO k_h0 rfl hP hD hS hA hE [] rfl rfl rfl) rfl rfl hl.1 rfl (lv_room (Nat.le_of_ble_eq_true rfl)) dMS_put_6 ⟨by omega, by omega⟩) (fun  u21 H locs hu21 hP hD hS => ?_)
  obtain ⟨s21, pl⟩ := u21
  obtain ⟨⟨eq21, hFc21, -⟩, hO⟩ := hu21
  have hO : okn g T s21 pl := hO
  have hP : va_P g.1 vcl ([] ++ pl) _ := hP
  have hD : va_D _ ([] ++ pl) := hD
  have hFc21 : frm (M_MS_add) s s21 := hFc21
  replace hR := bnd_step hR eq21
  have hF := frm_tr hF hFc21 (fun k hk => by unfold M_MS_add at hk; unfold M_MS_put; omega)
  have hf21 : s21.1 172 6 = nI ps := fc_F e_ps hFc21 (by unfold M_MS_add; omega)
  have hf22 : s21.1 172 5 = nI rt := fc_F e_rt hFc21 (by unfold M_MS_add; omega)
  refine W.widen (k := 0) (n := 0) (by omega) (by omega) ?_
  refine lv_aload_n hx hb dMS_put_9 rfl (lv_at hl 0 rfl) ?_
  refine lv_dup hx hb dMS_put_10 rfl ?_
  refine nw_get (C := "LatticeKeysModel$Sponge") (TT := T_MS) (N := 8) hx hb hts (wg_ft i_MS) hown hK hO k_h0 (kn := 172) (ci := 9) (fl := [(3, 173), (3, 174), (3, 175), (3, 176), (3, 177), (0, 0), (0, 0), (0, 0)]) rfl hP rfl 6 (by decide) (hts _ (wg_t kw_1331)) (fun _ h9 => h9) (cd := (0, 0)) rfl dMS_put_11 (fun v22 hv22 => ?_)
  obtain rfl := (show v22 = .int (s21.1 172 6) from hv22)
  obtain ⟨z22, ez22, hz23, hz24⟩ := cl_of (b := 2147483648) hf21 (by omega) (by decide)
  replace hR := bnd_step hR ez22
  refine mi_as hz23 ?_
  refine lv_iconst (v := nI 1) hx hb dMS_put_14 (by decide) ?_
  refine mi_iadd hx hb dMS_put_15 ?_
  refine nw_put (C := "LatticeKeysModel$Sponge") (TT := T_MS) (N := 8) hx hb hts (wg_ft i_MS) ty_MS k_MS n_MS hown hK hO hU k_h0 (kn := 172) (ci := 9) (fl := [(3, 173), (3, 174), (3, 175), (3, 176), (3, 177), (0, 0), (0, 0), (0, 0)]) rfl hP hD hS rfl 6 (by decide) (hts _ (wg_t kw_1331)) (fun _ h9 => h9) rfl (by decide +kernel) rfl dMS_put_16 (fun s22 pl H locs es21 hO hP hD hS => ?_)
  replace hR := bnd_step hR es21
  have hF := frm_sI hF es21 (by unfold M_MS_put; omega)
  have hf24 : s22.1 172 5 = nI rt := fc_ne hf22 es21 (by omega)
  have hf25 : s22.1 172 6 = nI (z22 + 1) := fc_eq es21
  refine lv_aload_n hx hb dMS_put_19 rfl (lv_at hl 0 rfl) ?_
  refine nw_get (C := "LatticeKeysModel$Sponge") (TT := T_MS) (N := 8) hx hb hts (wg_ft i_MS) hown hK hO k_h0 (kn := 172) (ci := 9) (fl := [(3, 173), (3, 174), (3, 175), (3, 176), (3, 177), (0, 0), (0, 0), (0, 0)]) rfl hP rfl 6 (by decide) (hts _ (wg_t kw_1331)) (fun _ h9 => h9) (cd := (0, 0)) rfl dMS_put_20 (fun v23 hv23 => ?_)
  obtain rfl := (show v23 = .int (s22.1 172 6) from hv23)
  obtain ⟨z23, ez23, hz25, hz26⟩ := cl_of (b := 2147483648) hf25 (by omega) (by decide)
  replace hR := bnd_step hR ez23
  refine mi_as hz25 ?_
  refine lv_aload_n hx hb dMS_put_23 rfl (lv_at hl 0 rfl) ?_
  refine nw_get (C := "LatticeKeysModel$Sponge") (TT := T_MS) (N := 8) hx hb hts (wg_ft i_MS) hown hK hO k_h0 (kn := 172) (ci := 9) (fl := [(3, 173), (3, 174), (3, 175), (3, 176), (3, 177), (0, 0), (0, 0), (0, 0)]) rfl hP rfl 5 (by decide) (hts _ (wg_t kw_1330)) (fun _ h9 => h9) (cd := (0, 0)) rfl dMS_put_24 (fun v24 hv24 => ?_)
  obtain rfl := (show v24 = .int (s22.1 172 5) from hv24)
  obtain ⟨z24, ez24, hz27, hz28⟩ := cl_of (b := 2147483648) hf24 (by omega) (by decide)
  replace hR := bnd_step hR ez24
  refine mi_as hz27 ?_
  refine mi_ge (tgt := 31) hx hb dMS_put_27 (by decide) (by omega) (by omega) (fun h21 => ?_) (fun h21 => ?_)
  · replace hR := hR.trans (if_pos h21)
    refine lv_aload_n hx hb dMS_put_31 rfl (lv_at hl 0 rfl) ?_
    refine mp_v (cx := []) (wr := []) hP hD hS hA [] [] rfl rfl rfl (by decide) (va_runV (As := []) (rest := []) F (N_MS_mix l g _ T s22 pl hO hU h0 k_h0) (cwV 0 hts (wg_app (wg_c kw_1624 (wg_c kw_1626 (wg_c ks_53 (wg_c kw_10 wg_n)))) kw_1627) rfl rfl rfl (by decide +kernel) ⟨by decide, by decide⟩) (pn_W "LatticeKeysModel$Sponge" (en_ok g) (ci := 9) (kn := 172) (fl := [(3, 173), (3, 174), (3, 175), (3, 176), (3, 177), (0, 0), (0, 0), (0, 0)]) hK hO k_h0 rfl hP hD hS hA hE [] rfl rfl rfl) rfl rfl hl.1 rfl (lv_room (Nat.le_of_ble_eq_true rfl)) dMS_put_32 ⟨by omega, by omega⟩) (fun  u22 H locs hu22 hP hD hS => ?_)
    obtain ⟨s23, pl⟩ := u22
    obtain ⟨⟨eq22, hFc22, -⟩, hO⟩ := hu22
    have hO : okn g T s23 pl := hO
    have hP : va_P g.1 vcl ([] ++ pl) _ := hP
    have hD : va_D _ ([] ++ pl) := hD
    have hFc22 : frm (M_MS_mix) s22 s23 := hFc22
    replace hR := bnd_step hR eq22
    have hF := frm_tr hF hFc22 (fun k hk => by unfold M_MS_mix at hk; unfold M_MS_put; omega)
    have hf26 : s23.1 172 5 = nI rt := fc_F hf24 hFc22 (by unfold M_MS_mix; omega)
    have hf27 : s23.1 172 6 = nI (z22 + 1) := fc_F hf25 hFc22 (by unfold M_MS_mix; omega)
    refine W.widen (k := 0) (n := 0) (by omega) (by omega) ?_
    refine lv_aload_n hx hb dMS_put_35 rfl (lv_at hl 0 rfl) ?_
    refine lv_iconst (v := nI 0) hx hb dMS_put_36 (by decide) ?_
    refine nw_put (C := "LatticeKeysModel$Sponge") (TT := T_MS) (N := 8) hx hb hts (wg_ft i_MS) ty_MS k_MS n_MS hown hK hO hU k_h0 (kn := 172) (ci := 9) (fl := [(3, 173), (3, 174), (3, 175), (3, 176), (3, 177), (0, 0), (0, 0), (0, 0)]) rfl hP hD hS rfl 6 (by decide) (hts _ (wg_t kw_1331)) (fun _ h9 => h9) rfl (by decide +kernel) rfl dMS_put_37 (fun s24 pl H locs es22 hO hP hD hS => ?_)
    replace hR := bnd_step hR es22
    have hF := frm_sI hF es22 (by unfold M_MS_put; omega)
    have hf28 : s24.1 172 5 = nI rt := fc_ne hf26 es22 (by omega)
    have hf30 : s24.1 172 6 = nI 0 := fc_eq es22
    exact mp_vret hx hb hr hlk hP hD hS (s24, pl) ⟨⟨hR.symm, hF, ⟨0, hf30, by omega⟩, ⟨rt, hf28, by omega⟩, trivial⟩, hO⟩ [] rfl rfl rfl (by omega) (by omega) dMS_put_40
  · replace hR := hR.trans (if_neg (Nat.not_le.mpr h21))
    exact mp_vret hx hb hr hlk hP hD hS (s22, pl) ⟨⟨hR.symm, hF, ⟨z22 + 1, hf25, by omega⟩, ⟨rt, hf24, by omega⟩, trivial⟩, hO⟩ [] rfl rfl rfl (by omega) (by omega) dMS_put_30
def M_MS_puts (k : Nat) : Prop := k = 172 ∨ (0 : Nat) = 1
noncomputable def F_MS_puts_L0 (pb : Nat) (at_ : Nat) : Nat → Nat → Sto → Sto
  | 0, i21, s21 => s21
  | n21 + 1, i21, s21 => bnd (F_MS_put (s21.1 pb (at_ + i21)) s21) fun s22 => F_MS_puts_L0 pb at_ n21 (i21 + 1) s22
noncomputable def F_MS_puts (pb : Nat) (n : Nat) (at_ : Nat) (len : Nat) (s : Sto) : Sto := F_MS_puts_L0 pb at_ len 0 s
set_option maxHeartbeats 400000 in
set_option maxRecDepth 100000 in
theorem N_MS_puts (l : Launch) (g : Gd) (sz : Nat) (T : TyN) (s : Sto) (pl : va_W) (hO : okn g T s pl) (hU : inj T) (h0 b : Nat) (pb : Nat) (n : Nat) (at_ : Nat) (len : Nat) (ps : Nat) (rt : Nat) (k_h0 : T h0 = some 172) (k_b : T b = some pb) (n_b : nsp pb = (1, n, [])) (e_ps : s.1 172 6 = nI ps) (e_rt : s.1 172 5 = nI rt) (hrt : 0 < rt ∧ rt < 200) (hps : ps < rt) (h1 : at_ + len ≤ n) (h2 : n < 65536)  : Met l y_MS_puts w_MS_puts ({ frames := 3, cells := 0, slots := 0, locals := 66 } : Room) (va_Pc [.ref h0, .ref b, .int (nI at_), .int (nI len)] (pr (en g) g.1 vcl sz ([] ++ pl))) (va_Qv (fun (u : (Sto) × va_W) => (u.1 = F_MS_puts pb n at_ len s ∧ frm (M_MS_puts) s u.1 ∧ (∃ x : Nat, u.1.1 172 6 = nI x ∧ x < rt) ∧ (∃ x : Nat, u.1.1 172 5 = nI x ∧ x = rt) ∧ True) ∧ okn g T u.1 u.2) (po g.1 vcl (va_A ([] ++ pl) sz) (fun (u : (Sto) × va_W) => [] ++ u.2)) (va_A ([] ++ pl) sz)) 0 0 (va_A ([] ++ pl) sz) := by
  refine mc_entry (cc := c_MS_puts) (maxL := 5) (ret := none) (by decide) rfl (Nat.le_of_ble_eq_true rfl) ?_
  intro p e s0 m args below meth c ls F hr hlk hnm hsz hP hD hE hA hl
  obtain ⟨hx, hb, hml, hown, hts⟩ := id F
  have hK := hE.1
  generalize va_A ([] ++ pl) sz = A at hD hE hA ⊢
  have hS : va_S A s0.heap s0.heap [] := va_S.rf
  have hl : lv_has ls 5 [(0, .ref h0), (1, .ref b), (2, .int (nI at_)), (3, .int (nI len))] := hl
  have hR : F_MS_puts pb n at_ len s = F_MS_puts pb n at_ len s := rfl
  have hF : frm (M_MS_puts) s s := frm_rf
  refine lv_iconst (v := nI 0) hx hb dMS_puts_0 (by decide) ?_
  refine lv_istore (lv' := [(4, .int (nI 0)), (0, .ref h0), (1, .ref b), (2, .int (nI at_)), (3, .int (nI len))]) hx hb dMS_puts_1 hl (by decide) rfl (fun ls hl => ?_)
  have lp21 : ∀ (n21 : Nat) (i21 : Nat) (s21 : Sto) (ps21 : Nat) (pl : va_W) (ls : Array Slot) (H : Heap) (locs : List Loc), n21 + i21 = len → (ps21 < rt) → frm (M_MS_puts) s s21 → s21.1 172 6 = nI ps21 → s21.1 172 5 = nI rt → F_MS_puts pb n at_ len s = F_MS_puts_L0 pb at_ n21 i21 s21 → lv_has ls 5 [(4, .int (nI i21)), (0, .ref h0), (1, .ref b), (2, .int (nI at_)), (3, .int (nI len))] → okn g T s21 pl → va_P g.1 vcl ([] ++ pl) H → va_D A ([] ++ pl) → va_S A s0.heap H locs → W p l e ({ frames := 3, cells := 0, slots := 0, locals := 66 } : Room) s0 m args below meth c H locs 0 0 (MQ below (va_Qv (fun (u : (Sto) × va_W) => (u.1 = F_MS_puts pb n at_ len s ∧ frm (M_MS_puts) s u.1 ∧ (∃ x : Nat, u.1.1 172 6 = nI x ∧ x < rt) ∧ (∃ x : Nat, u.1.1 172 5 = nI x ∧ x = rt) ∧ True) ∧ okn g T u.1 u.2) (po g.1 vcl A (fun (u : (Sto) × va_W) => [] ++ u.2)) A) args s0 0 0 A) (F0 m 3 ls []) := by
    intro n21
    induction n21 with
    | zero =>
      intro i21 s21 ps21 pl ls H locs hm21 hi21 hF hf21 hf22 hR hl hO hP hD hS
      refine lv_iload hx hb dMS_puts_3 (lv_at hl 0 rfl) ?_
      refine lv_iload_n hx hb dMS_puts_5 rfl (lv_at hl 4 rfl) ?_
      refine mi_ge (tgt := 25) hx hb dMS_puts_6 (by decide) (by omega) (by omega) (fun h21 => ?_) (fun h21 => absurd h21 (by omega))
      exact mp_vret hx hb hr hlk hP hD hS (s21, pl) ⟨⟨hR.symm, hF, ⟨ps21, hf21, by omega⟩, ⟨rt, hf22, by omega⟩, trivial⟩, hO⟩ [] rfl rfl rfl (by omega) (by omega) dMS_puts_25
    | succ n21 ih21 =>
      intro i21 s21 ps21 pl ls H locs hm21 hi21 hF hf23 hf24 hR hl hO hP hD hS
      refine lv_iload hx hb dMS_puts_3 (lv_at hl 0 rfl) ?_
      refine lv_iload_n hx hb dMS_puts_5 rfl (lv_at hl 4 rfl) ?_
      refine mi_ge (tgt := 25) hx hb dMS_puts_6 (by decide) (by omega) (by omega) (fun h22 => absurd h22 (by omega)) (fun h22 => ?_)
      refine lv_aload_n hx hb dMS_puts_9 rfl (lv_at hl 1 rfl) ?_
      refine lv_aload_n hx hb dMS_puts_10 rfl (lv_at hl 2 rfl) ?_
      refine lv_iload_n hx hb dMS_puts_11 rfl (lv_at hl 3 rfl) ?_
      refine lv_iload hx hb dMS_puts_12 (lv_at hl 0 rfl) ?_
      refine mi_iadd hx hb dMS_puts_14 ?_
      refine nw_bald hx hb hK hO k_b (k := pb) n_b hP (by omega) (by omega) dMS_puts_15 ?_
      refine mp_v (cx := []) (wr := []) hP hD hS hA [] [] rfl rfl rfl (by decide) (va_runV (As := [.int ((s21.1 pb (at_ + i21)))]) (rest := []) F (N_MS_put l g _ T s21 pl hO hU h0 (s21.1 pb (at_ + i21)) ps21 rt k_h0 hf23 hf24 (by omega) (by omega)) (cwV 1 hts (wg_app (wg_c kw_1615 (wg_c kw_1616 (wg_c kw_1617 (wg_c kw_10 wg_n)))) kw_1618) rfl rfl rfl (by decide +kernel) ⟨by decide, by decide⟩) (pn_W "LatticeKeysModel$Sponge" (en_ok g) (ci := 9) (kn := 172) (fl := [(3, 173), (3, 174), (3, 175), (3, 176), (3, 177), (0, 0), (0, 0), (0, 0)]) hK hO k_h0 rfl hP hD hS hA hE [] rfl rfl rfl) rfl rfl hl.1 rfl (lv_room (Nat.le_of_ble_eq_true rfl)) dMS_puts_16 ⟨by omega, by omega⟩) (fun  u21 H locs hu21 hP hD hS => ?_)
      obtain ⟨s22, pl⟩ := u21
      obtain ⟨⟨eq21, hFc21, ⟨x21, hx_21, hb_21⟩, ⟨x22, hx_22, hb_22⟩, -⟩, hO⟩ := hu21
      have hO : okn g T s22 pl := hO
      have hP : va_P g.1 vcl ([] ++ pl) _ := hP
      have hD : va_D _ ([] ++ pl) := hD
      have hFc21 : frm (M_MS_put) s21 s22 := hFc21
      have hb_21 : x21 < rt := hb_21
      have hb_22 : x22 = rt := hb_22
      replace hR := bnd_step hR eq21
      have hF := frm_tr hF hFc21 (fun k hk => by unfold M_MS_put at hk; unfold M_MS_puts; omega)
      refine W.widen (k := 0) (n := 0) (by omega) (by omega) ?_
      refine mi_iinc (k := 0) (x := i21) (d := 1) (y := i21 + 1) (lv' := [(4, .int (nI (i21 + 1))), (0, .ref h0), (1, .ref b), (2, .int (nI at_)), (3, .int (nI len))]) hx hb dMS_puts_19 hl rfl (by decide) rfl (by decide) rfl (fun ls hl => ?_)
      refine lv_goto (tgt := 3) hx hb dMS_puts_22 (by decide) ?_
      exact ih21 (i21 + 1) s22 x21 pl ls H locs (by omega) (by omega) hF hx_21 (by have h9 := hx_22; rw [show x22 = rt by omega] at h9; exact h9) hR (lv_sub hl [0, 1, 2, 3, 4] rfl) hO hP hD hS
  exact lp21 len 0 s ps pl ls _ _ (by omega) (by omega) hF e_ps e_rt hR (lv_sub hl [0, 1, 2, 3, 4] rfl) hO hP hD hS
def M_MS_end (k : Nat) : Prop := k = 172 ∨ (0 : Nat) = 1
noncomputable def F_MS_end (s : Sto) : Sto := bnd ((s.1 172 6).toNatClampNeg) fun z21 => bnd (F_MS_add z21 (s.1 172 7) s) fun s21 => bnd ((s21.1 172 5).toNatClampNeg) fun z22 => bnd (F_MS_add (z22 - 1) (nI 128) s21) fun s22 => bnd (F_MS_mix  s22) fun s23 => bnd (sI s23 172 6 (nI 0)) fun s24 => s24
set_option maxHeartbeats 400000 in
set_option maxRecDepth 100000 in
theorem N_MS_end (l : Launch) (g : Gd) (sz : Nat) (T : TyN) (s : Sto) (pl : va_W) (hO : okn g T s pl) (hU : inj T) (h0 : Nat) (ps : Nat) (rt : Nat) (k_h0 : T h0 = some 172) (e_ps : s.1 172 6 = nI ps) (e_rt : s.1 172 5 = nI rt) (hrt : 0 < rt ∧ rt < 200) (hps : ps < rt)  : Met l y_MS_end w_MS_end ({ frames := 2, cells := 0, slots := 0, locals := 45 } : Room) (va_Pc [.ref h0] (pr (en g) g.1 vcl sz ([] ++ pl))) (va_Qv (fun (u : (Sto) × va_W) => (u.1 = F_MS_end s ∧ frm (M_MS_end) s u.1 ∧ (∃ x : Nat, u.1.1 172 6 = nI x ∧ x = 0) ∧ (∃ x : Nat, u.1.1 172 5 = nI x ∧ x = rt) ∧ True) ∧ okn g T u.1 u.2) (po g.1 vcl (va_A ([] ++ pl) sz) (fun (u : (Sto) × va_W) => [] ++ u.2)) (va_A ([] ++ pl) sz)) 0 0 (va_A ([] ++ pl) sz) := by
  refine mc_entry (cc := c_MS_end) (maxL := 1) (ret := none) (by decide) rfl (Nat.le_of_ble_eq_true rfl) ?_
  intro p e s0 m args below meth c ls F hr hlk hnm hsz hP hD hE hA hl
  obtain ⟨hx, hb, hml, hown, hts⟩ := id F
  have hK := hE.1
  generalize va_A ([] ++ pl) sz = A at hD hE hA ⊢
  have hS : va_S A s0.heap s0.heap [] := va_S.rf
  have hl : lv_has ls 1 [(0, .ref h0)] := hl
  have hR : F_MS_end s = F_MS_end s := rfl
  have hF : frm (M_MS_end) s s := frm_rf
  refine lv_aload_n hx hb dMS_end_0 rfl (lv_at hl 0 rfl) ?_
  refine lv_aload_n hx hb dMS_end_1 rfl (lv_at hl 0 rfl) ?_
  refine nw_get (C := "LatticeKeysModel$Sponge") (TT := T_MS) (N := 8) hx hb hts (wg_ft i_MS) hown hK hO k_h0 (kn := 172) (ci := 9) (fl := [(3, 173), (3, 174), (3, 175), (3, 176), (3, 177), (0, 0), (0, 0), (0, 0)]) rfl hP rfl 6 (by decide) (hts _ (wg_t kw_1331)) (fun _ h9 => h9) (cd := (0, 0)) rfl dMS_end_2 (fun v21 hv21 => ?_)
  obtain rfl := (show v21 = .int (s.1 172 6) from hv21)
  obtain ⟨z21, ez21, hz21, hz22⟩ := cl_of (b := 2147483648) e_ps (by omega) (by decide)
  replace hR := bnd_step hR ez21
  refine mi_as hz21 ?_
  refine lv_aload_n hx hb dMS_end_5 rfl (lv_at hl 0 rfl) ?_
  refine nw_get (C := "LatticeKeysModel$Sponge") (TT := T_MS) (N := 8) hx hb hts (wg_ft i_MS) hown hK hO k_h0 (kn := 172) (ci := 9) (fl := [(3, 173), (3, 174), (3, 175), (3, 176), (3, 177), (0, 0), (0, 0), (0, 0)]) rfl hP rfl 7 (by decide) (hts _ (wg_t kw_1332)) (fun _ h9 => h9) (cd := (0, 0)) rfl dMS_end_6 (fun v22 hv22 => ?_)
  obtain rfl := (show v22 = .int (s.1 172 7) from hv22)
  refine mp_v (cx := []) (wr := []) hP hD hS hA [] [] rfl rfl rfl (by decide) (va_runV (As := [.int (nI z21), .int ((s.1 172 7))]) (rest := []) F (N_MS_add l g _ T s pl hO hU h0 z21 (s.1 172 7) k_h0 (by omega)) (cwV 2 hts (wg_app (wg_c kw_1619 (wg_c kw_1621 (wg_c ks_52 (wg_c kw_10 wg_n)))) kw_1622) rfl rfl rfl (by decide +kernel) ⟨by decide, by decide⟩) (pn_W "LatticeKeysModel$Sponge" (en_ok g) (ci := 9) (kn := 172) (fl := [(3, 173), (3, 174), (3, 175), (3, 176), (3, 177), (0, 0), (0, 0), (0, 0)]) hK hO k_h0 rfl hP hD hS hA hE [] rfl rfl rfl) rfl rfl hl.1 rfl (lv_room (Nat.le_of_ble_eq_true rfl)) dMS_end_9 ⟨by omega, by omega⟩) (fun  u21 H locs hu21 hP hD hS => ?_)
  obtain ⟨s21, pl⟩ := u21
  obtain ⟨⟨eq21, hFc21, -⟩, hO⟩ := hu21
  have hO : okn g T s21 pl := hO
  have hP : va_P g.1 vcl ([] ++ pl) _ := hP
  have hD : va_D _ ([] ++ pl) := hD
  have hFc21 : frm (M_MS_add) s s21 := hFc21
  replace hR := bnd_step hR eq21
  have hF := frm_tr hF hFc21 (fun k hk => by unfold M_MS_add at hk; unfold M_MS_end; omega)
  have hf21 : s21.1 172 6 = nI ps := fc_F e_ps hFc21 (by unfold M_MS_add; omega)
  have hf22 : s21.1 172 5 = nI rt := fc_F e_rt hFc21 (by unfold M_MS_add; omega)
  refine W.widen (k := 0) (n := 0) (by omega) (by omega) ?_
  refine lv_aload_n hx hb dMS_end_12 rfl (lv_at hl 0 rfl) ?_
  refine lv_aload_n hx hb dMS_end_13 rfl (lv_at hl 0 rfl) ?_
  refine nw_get (C := "LatticeKeysModel$Sponge") (TT := T_MS) (N := 8) hx hb hts (wg_ft i_MS) hown hK hO k_h0 (kn := 172) (ci := 9) (fl := [(3, 173), (3, 174), (3, 175), (3, 176), (3, 177), (0, 0), (0, 0), (0, 0)]) rfl hP rfl 5 (by decide) (hts _ (wg_t kw_1330)) (fun _ h9 => h9) (cd := (0, 0)) rfl dMS_end_14 (fun v23 hv23 => ?_)
  obtain rfl := (show v23 = .int (s21.1 172 5) from hv23)
  obtain ⟨z22, ez22, hz23, hz24⟩ := cl_of (b := 2147483648) hf22 (by omega) (by decide)
  replace hR := bnd_step hR ez22
  refine mi_as hz23 ?_
  refine lv_iconst (v := nI 1) hx hb dMS_end_17 (by decide) ?_
  refine mi_isub hx hb dMS_end_18 (by omega) ?_
  refine lv_sipush (v := nI 128) hx hb dMS_end_19 (by decide) ?_
  refine mp_v (cx := []) (wr := []) hP hD hS hA [] [] rfl rfl rfl (by decide) (va_runV (As := [.int (nI (z22 - 1)), .int (nI 128)]) (rest := []) F (N_MS_add l g _ T s21 pl hO hU h0 (z22 - 1) (nI 128) k_h0 (by omega)) (cwV 2 hts (wg_app (wg_c kw_1619 (wg_c kw_1621 (wg_c ks_52 (wg_c kw_10 wg_n)))) kw_1622) rfl rfl rfl (by decide +kernel) ⟨by decide, by decide⟩) (pn_W "LatticeKeysModel$Sponge" (en_ok g) (ci := 9) (kn := 172) (fl := [(3, 173), (3, 174), (3, 175), (3, 176), (3, 177), (0, 0), (0, 0), (0, 0)]) hK hO k_h0 rfl hP hD hS hA hE [] rfl rfl rfl) rfl rfl hl.1 rfl (lv_room (Nat.le_of_ble_eq_true rfl)) dMS_end_22 ⟨by omega, by omega⟩) (fun  u22 H locs hu22 hP hD hS => ?_)
  obtain ⟨s22, pl⟩ := u22
  obtain ⟨⟨eq22, hFc22, -⟩, hO⟩ := hu22
  have hO : okn g T s22 pl := hO
  have hP : va_P g.1 vcl ([] ++ pl) _ := hP
  have hD : va_D _ ([] ++ pl) := hD
  have hFc22 : frm (M_MS_add) s21 s22 := hFc22
  replace hR := bnd_step hR eq22
  have hF := frm_tr hF hFc22 (fun k hk => by unfold M_MS_add at hk; unfold M_MS_end; omega)
  have hf23 : s22.1 172 6 = nI ps := fc_F hf21 hFc22 (by unfold M_MS_add; omega)
  have hf24 : s22.1 172 5 = nI rt := fc_F hf22 hFc22 (by unfold M_MS_add; omega)
  refine W.widen (k := 0) (n := 0) (by omega) (by omega) ?_
  refine lv_aload_n hx hb dMS_end_25 rfl (lv_at hl 0 rfl) ?_
  refine mp_v (cx := []) (wr := []) hP hD hS hA [] [] rfl rfl rfl (by decide) (va_runV (As := []) (rest := []) F (N_MS_mix l g _ T s22 pl hO hU h0 k_h0) (cwV 0 hts (wg_app (wg_c kw_1624 (wg_c kw_1626 (wg_c ks_53 (wg_c kw_10 wg_n)))) kw_1627) rfl rfl rfl (by decide +kernel) ⟨by decide, by decide⟩) (pn_W "LatticeKeysModel$Sponge" (en_ok g) (ci := 9) (kn := 172) (fl := [(3, 173), (3, 174), (3, 175), (3, 176), (3, 177), (0, 0), (0, 0), (0, 0)]) hK hO k_h0 rfl hP hD hS hA hE [] rfl rfl rfl) rfl rfl hl.1 rfl (lv_room (Nat.le_of_ble_eq_true rfl)) dMS_end_26 ⟨by omega, by omega⟩) (fun  u23 H locs hu23 hP hD hS => ?_)
  obtain ⟨s23, pl⟩ := u23
  obtain ⟨⟨eq23, hFc23, -⟩, hO⟩ := hu23
  have hO : okn g T s23 pl := hO
  have hP : va_P g.1 vcl ([] ++ pl) _ := hP
  have hD : va_D _ ([] ++ pl) := hD
  have hFc23 : frm (M_MS_mix) s22 s23 := hFc23
  replace hR := bnd_step hR eq23
  have hF := frm_tr hF hFc23 (fun k hk => by unfold M_MS_mix at hk; unfold M_MS_end; omega)
  have hf25 : s23.1 172 6 = nI ps := fc_F hf23 hFc23 (by unfold M_MS_mix; omega)
  have hf26 : s23.1 172 5 = nI rt := fc_F hf24 hFc23 (by unfold M_MS_mix; omega)
  refine W.widen (k := 0) (n := 0) (by omega) (by omega) ?_
  refine lv_aload_n hx hb dMS_end_29 rfl (lv_at hl 0 rfl) ?_
  refine lv_iconst (v := nI 0) hx hb dMS_end_30 (by decide) ?_
  refine nw_put (C := "LatticeKeysModel$Sponge") (TT := T_MS) (N := 8) hx hb hts (wg_ft i_MS) ty_MS k_MS n_MS hown hK hO hU k_h0 (kn := 172) (ci := 9) (fl := [(3, 173), (3, 174), (3, 175), (3, 176), (3, 177), (0, 0), (0, 0), (0, 0)]) rfl hP hD hS rfl 6 (by decide) (hts _ (wg_t kw_1331)) (fun _ h9 => h9) rfl (by decide +kernel) rfl dMS_end_31 (fun s24 pl H locs es21 hO hP hD hS => ?_)
  replace hR := bnd_step hR es21
  have hF := frm_sI hF es21 (by unfold M_MS_end; omega)
  have hf28 : s24.1 172 5 = nI rt := fc_ne hf26 es21 (by omega)
  have hf29 : s24.1 172 6 = nI 0 := fc_eq es21
  exact mp_vret hx hb hr hlk hP hD hS (s24, pl) ⟨⟨hR.symm, hF, ⟨0, hf29, by omega⟩, ⟨rt, hf28, by omega⟩, trivial⟩, hO⟩ [] rfl rfl rfl (by omega) (by omega) dMS_end_34
def M_MS_next (k : Nat) : Prop := k = 172 ∨ (0 : Nat) = 1
noncomputable def F_MS_next (s : Sto) : Int32 × Sto := bnd ((s.1 172 6).toNatClampNeg) fun z21 => bnd ((s.1 172 5).toNatClampNeg) fun z22 => if z21 = z22 then bnd (F_MS_mix  s) fun s22 => bnd (sI s22 172 6 (nI 0)) fun s23 => bnd ((s23.1 172 6).toNatClampNeg) fun z27 => bnd ((s23.1 172 6).toNatClampNeg) fun z28 => bnd ((((((s23.2 173 (z27 / 8)).toUInt64 >>> ((nI (8 * (z28 % 8))).toInt64.toUInt64 &&& Int64.toUInt64 63)).toInt64).toInt32) &&& nI 255).toNatClampNeg) fun z29 => bnd ((s23.1 172 6).toNatClampNeg) fun z30 => bnd (sI s23 172 6 (nI (z30 + 1))) fun s24 => (nI z29, s24) else bnd ((s.1 172 6).toNatClampNeg) fun z23 => bnd ((s.1 172 6).toNatClampNeg) fun z24 => bnd ((((((s.2 173 (z23 / 8)).toUInt64 >>> ((nI (8 * (z24 % 8))).toInt64.toUInt64 &&& Int64.toUInt64 63)).toInt64).toInt32) &&& nI 255).toNatClampNeg) fun z25 => bnd ((s.1 172 6).toNatClampNeg) fun z26 => bnd (sI s 172 6 (nI (z26 + 1))) fun s21 => (nI z25, s21)
set_option maxHeartbeats 400000 in
set_option maxRecDepth 100000 in
theorem N_MS_next (l : Launch) (g : Gd) (sz : Nat) (T : TyN) (s : Sto) (pl : va_W) (hO : okn g T s pl) (hU : inj T) (h0 : Nat) (ps : Nat) (rt : Nat) (k_h0 : T h0 = some 172) (e_ps : s.1 172 6 = nI ps) (e_rt : s.1 172 5 = nI rt) (hrt : 0 < rt ∧ rt < 200) (hps : ps ≤ rt)  : Met l y_MS_next w_MS_next ({ frames := 2, cells := 0, slots := 0, locals := 45 } : Room) (va_Pc [.ref h0] (pr (en g) g.1 vcl sz ([] ++ pl))) (va_Qi (fun (r : Int32) (u : (Int32 × Sto) × va_W) => (u.1 = F_MS_next s ∧ r = u.1.1 ∧ frm (M_MS_next) s u.1.2 ∧ (∃ x : Nat, u.1.1 = nI x ∧ x < 256) ∧ (∃ x : Nat, u.1.2.1 172 6 = nI x ∧ x ≤ rt) ∧ (∃ x : Nat, u.1.2.1 172 5 = nI x ∧ x = rt) ∧ True) ∧ okn g T u.1.2 u.2) (po g.1 vcl (va_A ([] ++ pl) sz) (fun (u : (Int32 × Sto) × va_W) => [] ++ u.2)) (va_A ([] ++ pl) sz)) 0 0 (va_A ([] ++ pl) sz) := by
  refine mc_entry (cc := c_MS_next) (maxL := 2) (ret := (some .int)) (by decide) rfl (Nat.le_of_ble_eq_true rfl) ?_
  intro p e s0 m args below meth c ls F hr hlk hnm hsz hP hD hE hA hl
  obtain ⟨hx, hb, hml, hown, hts⟩ := id F
  have hK := hE.1
  generalize va_A ([] ++ pl) sz = A at hD hE hA ⊢
  have hS : va_S A s0.heap s0.heap [] := va_S.rf
  have hl : lv_has ls 2 [(0, .ref h0)] := hl
  have hR : F_MS_next s = F_MS_next s := rfl
  have hF : frm (M_MS_next) s s := frm_rf
  refine lv_aload_n hx hb dMS_next_0 rfl (lv_at hl 0 rfl) ?_
  refine nw_get (C := "LatticeKeysModel$Sponge") (TT := T_MS) (N := 8) hx hb hts (wg_ft i_MS) hown hK hO k_h0 (kn := 172) (ci := 9) (fl := [(3, 173), (3, 174), (3, 175), (3, 176), (3, 177), (0, 0), (0, 0), (0, 0)]) rfl hP rfl 6 (by decide) (hts _ (wg_t kw_1331)) (fun _ h9 => h9) (cd := (0, 0)) rfl dMS_next_1 (fun v21 hv21 => ?_)
  obtain rfl := (show v21 = .int (s.1 172 6) from hv21)
  obtain ⟨z21, ez21, hz21, hz22⟩ := cl_of (b := 2147483648) e_ps (by omega) (by decide)
  replace hR := bnd_step hR ez21
  refine mi_as hz21 ?_
  refine lv_aload_n hx hb dMS_next_4 rfl (lv_at hl 0 rfl) ?_
  refine nw_get (C := "LatticeKeysModel$Sponge") (TT := T_MS) (N := 8) hx hb hts (wg_ft i_MS) hown hK hO k_h0 (kn := 172) (ci := 9) (fl := [(3, 173), (3, 174), (3, 175), (3, 176), (3, 177), (0, 0), (0, 0), (0, 0)]) rfl hP rfl 5 (by decide) (hts _ (wg_t kw_1330)) (fun _ h9 => h9) (cd := (0, 0)) rfl dMS_next_5 (fun v22 hv22 => ?_)
  obtain rfl := (show v22 = .int (s.1 172 5) from hv22)
  obtain ⟨z22, ez22, hz23, hz24⟩ := cl_of (b := 2147483648) e_rt (by omega) (by decide)
  replace hR := bnd_step hR ez22
  refine mi_as hz23 ?_
  refine mi_ne (tgt := 20) hx hb dMS_next_8 (by decide) (by omega) (by omega) (fun h21 => ?_) (fun h21 => ?_)
  · replace hR := hR.trans (if_neg h21)
    refine lv_aload_n hx hb dMS_next_20 rfl (lv_at hl 0 rfl) ?_
    refine nw_get (C := "LatticeKeysModel$Sponge") (TT := T_MS) (N := 8) hx hb hts (wg_ft i_MS) hown hK hO k_h0 (kn := 172) (ci := 9) (fl := [(3, 173), (3, 174), (3, 175), (3, 176), (3, 177), (0, 0), (0, 0), (0, 0)]) rfl hP rfl 0 (by decide) (hts _ (wg_t kw_1325)) (fun _ h9 => h9) (cd := (3, 173)) rfl dMS_next_21 (fun v23 hv23 => ?_)
    obtain ⟨r21, rfl, kr21⟩ := (show ∃ r : Nat, v23 = .ref r ∧ T r = some 173 from hv23)
    refine lv_aload_n hx hb dMS_next_24 rfl (lv_at hl 0 rfl) ?_
    refine nw_get (C := "LatticeKeysModel$Sponge") (TT := T_MS) (N := 8) hx hb hts (wg_ft i_MS) hown hK hO k_h0 (kn := 172) (ci := 9) (fl := [(3, 173), (3, 174), (3, 175), (3, 176), (3, 177), (0, 0), (0, 0), (0, 0)]) rfl hP rfl 6 (by decide) (hts _ (wg_t kw_1331)) (fun _ h9 => h9) (cd := (0, 0)) rfl dMS_next_25 (fun v24 hv24 => ?_)
    obtain rfl := (show v24 = .int (s.1 172 6) from hv24)
    obtain ⟨z23, ez23, hz25, hz26⟩ := cl_of (b := 2147483648) e_ps (by omega) (by decide)
    replace hR := bnd_step hR ez23
    refine mi_as hz25 ?_
    refine lv_bipush (v := nI 8) hx hb dMS_next_28 (by decide) ?_
    refine mi_idiv hx hb dMS_next_30 (by omega) (by omega) (by omega) ?_
    refine nw_lald hx hb hK hO kr21 (k := 173) rfl hP (by omega) (by omega) dMS_next_31 ?_
    refine lv_bipush (v := nI 8) hx hb dMS_next_32 (by decide) ?_
    refine lv_aload_n hx hb dMS_next_34 rfl (lv_at hl 0 rfl) ?_
    refine nw_get (C := "LatticeKeysModel$Sponge") (TT := T_MS) (N := 8) hx hb hts (wg_ft i_MS) hown hK hO k_h0 (kn := 172) (ci := 9) (fl := [(3, 173), (3, 174), (3, 175), (3, 176), (3, 177), (0, 0), (0, 0), (0, 0)]) rfl hP rfl 6 (by decide) (hts _ (wg_t kw_1331)) (fun _ h9 => h9) (cd := (0, 0)) rfl dMS_next_35 (fun v25 hv25 => ?_)
    obtain rfl := (show v25 = .int (s.1 172 6) from hv25)
    obtain ⟨z24, ez24, hz27, hz28⟩ := cl_of (b := 2147483648) e_ps (by omega) (by decide)
    replace hR := bnd_step hR ez24
    refine mi_as hz27 ?_
    refine lv_bipush (v := nI 8) hx hb dMS_next_38 (by decide) ?_
    refine mi_irem hx hb dMS_next_40 (by omega) (by omega) (by omega) ?_
    refine mi_imul hx hb dMS_next_41 ?_
    refine lv_lushr hx hb dMS_next_42 rfl ?_
    refine lv_l2i hx hb dMS_next_43 rfl ?_
    refine lv_sipush (v := nI 255) hx hb dMS_next_44 (by decide) ?_
    refine mi_iandT hx hb 8 dMS_next_47 (by decide) (by decide) (fun z25 ez25 hz29 => ?_)
    have hz29 : z25 < 256 := hz29
    replace hR := bnd_step hR ez25
    refine lv_istore_n (lv' := [(1, .int (nI z25)), (0, .ref h0)]) hx hb dMS_next_48 rfl hl (by decide) rfl (fun ls hl => ?_)
    refine lv_aload_n hx hb dMS_next_49 rfl (lv_at hl 1 rfl) ?_
    refine lv_dup hx hb dMS_next_50 rfl ?_
    refine nw_get (C := "LatticeKeysModel$Sponge") (TT := T_MS) (N := 8) hx hb hts (wg_ft i_MS) hown hK hO k_h0 (kn := 172) (ci := 9) (fl := [(3, 173), (3, 174), (3, 175), (3, 176), (3, 177), (0, 0), (0, 0), (0, 0)]) rfl hP rfl 6 (by decide) (hts _ (wg_t kw_1331)) (fun _ h9 => h9) (cd := (0, 0)) rfl dMS_next_51 (fun v26 hv26 => ?_)
    obtain rfl := (show v26 = .int (s.1 172 6) from hv26)
    obtain ⟨z26, ez26, hz30, hz31⟩ := cl_of (b := 2147483648) e_ps (by omega) (by decide)
    replace hR := bnd_step hR ez26
    refine mi_as hz30 ?_
    refine lv_iconst (v := nI 1) hx hb dMS_next_54 (by decide) ?_
    refine mi_iadd hx hb dMS_next_55 ?_
    refine nw_put (C := "LatticeKeysModel$Sponge") (TT := T_MS) (N := 8) hx hb hts (wg_ft i_MS) ty_MS k_MS n_MS hown hK hO hU k_h0 (kn := 172) (ci := 9) (fl := [(3, 173), (3, 174), (3, 175), (3, 176), (3, 177), (0, 0), (0, 0), (0, 0)]) rfl hP hD hS rfl 6 (by decide) (hts _ (wg_t kw_1331)) (fun _ h9 => h9) rfl (by decide +kernel) rfl dMS_next_56 (fun s21 pl H locs es21 hO hP hD hS => ?_)
    replace hR := bnd_step hR es21
    have hF := frm_sI hF es21 (by unfold M_MS_next; omega)
    have hf22 : s21.1 172 5 = nI rt := fc_ne e_rt es21 (by omega)
    have hf23 : s21.1 172 6 = nI (z26 + 1) := fc_eq es21
    refine lv_iload_n hx hb dMS_next_59 rfl (lv_at hl 0 rfl) ?_
    exact mp_iret hx hb hr hlk hP hD hS ((nI z25, s21), pl) ⟨⟨hR.symm, rfl, hF, ⟨z25, rfl, by omega⟩, ⟨z26 + 1, hf23, by omega⟩, ⟨rt, hf22, by omega⟩, trivial⟩, hO⟩ [] rfl rfl rfl (by omega) (by omega) dMS_next_60
  · replace hR := hR.trans (if_pos h21)
    refine lv_aload_n hx hb dMS_next_11 rfl (lv_at hl 0 rfl) ?_
    refine mp_v (cx := []) (wr := []) hP hD hS hA [] [] rfl rfl rfl (by decide) (va_runV (As := []) (rest := []) F (N_MS_mix l g _ T s pl hO hU h0 k_h0) (cwV 0 hts (wg_app (wg_c kw_1624 (wg_c kw_1626 (wg_c ks_53 (wg_c kw_10 wg_n)))) kw_1627) rfl rfl rfl (by decide +kernel) ⟨by decide, by decide⟩) (pn_W "LatticeKeysModel$Sponge" (en_ok g) (ci := 9) (kn := 172) (fl := [(3, 173), (3, 174), (3, 175), (3, 176), (3, 177), (0, 0), (0, 0), (0, 0)]) hK hO k_h0 rfl hP hD hS hA hE [] rfl rfl rfl) rfl rfl hl.1 rfl (lv_room (Nat.le_of_ble_eq_true rfl)) dMS_next_12 ⟨by omega, by omega⟩) (fun  u21 H locs hu21 hP hD hS => ?_)
    obtain ⟨s22, pl⟩ := u21
    obtain ⟨⟨eq21, hFc21, -⟩, hO⟩ := hu21
    have hO : okn g T s22 pl := hO
    have hP : va_P g.1 vcl ([] ++ pl) _ := hP
    have hD : va_D _ ([] ++ pl) := hD
    have hFc21 : frm (M_MS_mix) s s22 := hFc21
    replace hR := bnd_step hR eq21
    have hF := frm_tr hF hFc21 (fun k hk => by unfold M_MS_mix at hk; unfold M_MS_next; omega)
    have hf24 : s22.1 172 6 = nI ps := fc_F e_ps hFc21 (by unfold M_MS_mix; omega)
    have hf25 : s22.1 172 5 = nI rt := fc_F e_rt hFc21 (by unfold M_MS_mix; omega)
    refine W.widen (k := 0) (n := 0) (by omega) (by omega) ?_
    refine lv_aload_n hx hb dMS_next_15 rfl (lv_at hl 0 rfl) ?_
    refine lv_iconst (v := nI 0) hx hb dMS_next_16 (by decide) ?_
    refine nw_put (C := "LatticeKeysModel$Sponge") (TT := T_MS) (N := 8) hx hb hts (wg_ft i_MS) ty_MS k_MS n_MS hown hK hO hU k_h0 (kn := 172) (ci := 9) (fl := [(3, 173), (3, 174), (3, 175), (3, 176), (3, 177), (0, 0), (0, 0), (0, 0)]) rfl hP hD hS rfl 6 (by decide) (hts _ (wg_t kw_1331)) (fun _ h9 => h9) rfl (by decide +kernel) rfl dMS_next_17 (fun s23 pl H locs es22 hO hP hD hS => ?_)
    replace hR := bnd_step hR es22
    have hF := frm_sI hF es22 (by unfold M_MS_next; omega)
    have hf27 : s23.1 172 5 = nI rt := fc_ne hf25 es22 (by omega)
    have hf28 : s23.1 172 6 = nI 0 := fc_eq es22
    refine lv_aload_n hx hb dMS_next_20 rfl (lv_at hl 0 rfl) ?_
    refine nw_get (C := "LatticeKeysModel$Sponge") (TT := T_MS) (N := 8) hx hb hts (wg_ft i_MS) hown hK hO k_h0 (kn := 172) (ci := 9) (fl := [(3, 173), (3, 174), (3, 175), (3, 176), (3, 177), (0, 0), (0, 0), (0, 0)]) rfl hP rfl 0 (by decide) (hts _ (wg_t kw_1325)) (fun _ h9 => h9) (cd := (3, 173)) rfl dMS_next_21 (fun v27 hv27 => ?_)
    obtain ⟨r22, rfl, kr22⟩ := (show ∃ r : Nat, v27 = .ref r ∧ T r = some 173 from hv27)
    refine lv_aload_n hx hb dMS_next_24 rfl (lv_at hl 0 rfl) ?_
    refine nw_get (C := "LatticeKeysModel$Sponge") (TT := T_MS) (N := 8) hx hb hts (wg_ft i_MS) hown hK hO k_h0 (kn := 172) (ci := 9) (fl := [(3, 173), (3, 174), (3, 175), (3, 176), (3, 177), (0, 0), (0, 0), (0, 0)]) rfl hP rfl 6 (by decide) (hts _ (wg_t kw_1331)) (fun _ h9 => h9) (cd := (0, 0)) rfl dMS_next_25 (fun v28 hv28 => ?_)
    obtain rfl := (show v28 = .int (s23.1 172 6) from hv28)
    obtain ⟨z27, ez27, hz32, hz33⟩ := cl_of (b := 2147483648) hf28 (by omega) (by decide)
    replace hR := bnd_step hR ez27
    refine mi_as hz32 ?_
    refine lv_bipush (v := nI 8) hx hb dMS_next_28 (by decide) ?_
    refine mi_idiv hx hb dMS_next_30 (by omega) (by omega) (by omega) ?_
    refine nw_lald hx hb hK hO kr22 (k := 173) rfl hP (by omega) (by omega) dMS_next_31 ?_
    refine lv_bipush (v := nI 8) hx hb dMS_next_32 (by decide) ?_
    refine lv_aload_n hx hb dMS_next_34 rfl (lv_at hl 0 rfl) ?_
    refine nw_get (C := "LatticeKeysModel$Sponge") (TT := T_MS) (N := 8) hx hb hts (wg_ft i_MS) hown hK hO k_h0 (kn := 172) (ci := 9) (fl := [(3, 173), (3, 174), (3, 175), (3, 176), (3, 177), (0, 0), (0, 0), (0, 0)]) rfl hP rfl 6 (by decide) (hts _ (wg_t kw_1331)) (fun _ h9 => h9) (cd := (0, 0)) rfl dMS_next_35 (fun v29 hv29 => ?_)
    obtain rfl := (show v29 = .int (s23.1 172 6) from hv29)
    obtain ⟨z28, ez28, hz34, hz35⟩ := cl_of (b := 2147483648) hf28 (by omega) (by decide)
    replace hR := bnd_step hR ez28
    refine mi_as hz34 ?_
    refine lv_bipush (v := nI 8) hx hb dMS_next_38 (by decide) ?_
    refine mi_irem hx hb dMS_next_40 (by omega) (by omega) (by omega) ?_
    refine mi_imul hx hb dMS_next_41 ?_
    refine lv_lushr hx hb dMS_next_42 rfl ?_
    refine lv_l2i hx hb dMS_next_43 rfl ?_
    refine lv_sipush (v := nI 255) hx hb dMS_next_44 (by decide) ?_
    refine mi_iandT hx hb 8 dMS_next_47 (by decide) (by decide) (fun z29 ez29 hz36 => ?_)
    have hz36 : z29 < 256 := hz36
    replace hR := bnd_step hR ez29
    refine lv_istore_n (lv' := [(1, .int (nI z29)), (0, .ref h0)]) hx hb dMS_next_48 rfl hl (by decide) rfl (fun ls hl => ?_)
    refine lv_aload_n hx hb dMS_next_49 rfl (lv_at hl 1 rfl) ?_
    refine lv_dup hx hb dMS_next_50 rfl ?_
    refine nw_get (C := "LatticeKeysModel$Sponge") (TT := T_MS) (N := 8) hx hb hts (wg_ft i_MS) hown hK hO k_h0 (kn := 172) (ci := 9) (fl := [(3, 173), (3, 174), (3, 175), (3, 176), (3, 177), (0, 0), (0, 0), (0, 0)]) rfl hP rfl 6 (by decide) (hts _ (wg_t kw_1331)) (fun _ h9 => h9) (cd := (0, 0)) rfl dMS_next_51 (fun v30 hv30 => ?_)
    obtain rfl := (show v30 = .int (s23.1 172 6) from hv30)
    obtain ⟨z30, ez30, hz37, hz38⟩ := cl_of (b := 2147483648) hf28 (by omega) (by decide)
    replace hR := bnd_step hR ez30
    refine mi_as hz37 ?_
    refine lv_iconst (v := nI 1) hx hb dMS_next_54 (by decide) ?_
    refine mi_iadd hx hb dMS_next_55 ?_
    refine nw_put (C := "LatticeKeysModel$Sponge") (TT := T_MS) (N := 8) hx hb hts (wg_ft i_MS) ty_MS k_MS n_MS hown hK hO hU k_h0 (kn := 172) (ci := 9) (fl := [(3, 173), (3, 174), (3, 175), (3, 176), (3, 177), (0, 0), (0, 0), (0, 0)]) rfl hP hD hS rfl 6 (by decide) (hts _ (wg_t kw_1331)) (fun _ h9 => h9) rfl (by decide +kernel) rfl dMS_next_56 (fun s24 pl H locs es23 hO hP hD hS => ?_)
    replace hR := bnd_step hR es23
    have hF := frm_sI hF es23 (by unfold M_MS_next; omega)
    have hf29 : s24.1 172 5 = nI rt := fc_ne hf27 es23 (by omega)
    have hf31 : s24.1 172 6 = nI (z30 + 1) := fc_eq es23
    refine lv_iload_n hx hb dMS_next_59 rfl (lv_at hl 0 rfl) ?_
    exact mp_iret hx hb hr hlk hP hD hS ((nI z29, s24), pl) ⟨⟨hR.symm, rfl, hF, ⟨z29, rfl, by omega⟩, ⟨z30 + 1, hf31, by omega⟩, ⟨rt, hf29, by omega⟩, trivial⟩, hO⟩ [] rfl rfl rfl (by omega) (by omega) dMS_next_60
def M_MS_take (pb : Nat) (k : Nat) : Prop := k = 172 ∨ k = pb ∨ (0 : Nat) = 1
noncomputable def F_MS_take_L0 (pb : Nat) (at_ : Nat) : Nat → Nat → Sto → Sto
  | 0, i21, s21 => s21
  | n21 + 1, i21, s21 => bnd (F_MS_next  s21) fun q21 => bnd (q21.1.toNatClampNeg) fun z21 => bnd (sB q21.2 pb (at_ + i21) ((nI z21).toInt8.toInt32)) fun s22 => F_MS_take_L0 pb at_ n21 (i21 + 1) s22
noncomputable def F_MS_take (pb : Nat) (n : Nat) (at_ : Nat) (len : Nat) (s : Sto) : Sto := F_MS_take_L0 pb at_ len 0 s
set_option maxHeartbeats 400000 in
set_option maxRecDepth 100000 in
theorem N_MS_take (l : Launch) (g : Gd) (sz : Nat) (T : TyN) (s : Sto) (pl : va_W) (hO : okn g T s pl) (hU : inj T) (h0 b : Nat) (pb : Nat) (n : Nat) (at_ : Nat) (len : Nat) (ps : Nat) (rt : Nat) (k_h0 : T h0 = some 172) (k_b : T b = some pb) (n_b : nsp pb = (1, n, [])) (e_ps : s.1 172 6 = nI ps) (e_rt : s.1 172 5 = nI rt) (hrt : 0 < rt ∧ rt < 200) (hps : ps ≤ rt) (h1 : at_ + len ≤ n) (h2 : n < 65536)  : Met l y_MS_take w_MS_take ({ frames := 3, cells := 0, slots := 0, locals := 66 } : Room) (va_Pc [.ref h0, .ref b, .int (nI at_), .int (nI len)] (pr (en g) g.1 vcl sz ([] ++ pl))) (va_Qv (fun (u : (Sto) × va_W) => (u.1 = F_MS_take pb n at_ len s ∧ frm (M_MS_take pb) s u.1 ∧ (∃ x : Nat, u.1.1 172 6 = nI x ∧ x ≤ rt) ∧ (∃ x : Nat, u.1.1 172 5 = nI x ∧ x = rt) ∧ True) ∧ okn g T u.1 u.2) (po g.1 vcl (va_A ([] ++ pl) sz) (fun (u : (Sto) × va_W) => [] ++ u.2)) (va_A ([] ++ pl) sz)) 0 0 (va_A ([] ++ pl) sz) := by
  refine mc_entry (cc := c_MS_take) (maxL := 5) (ret := none) (by decide) rfl (Nat.le_of_ble_eq_true rfl) ?_
  intro p e s0 m args below meth c ls F hr hlk hnm hsz hP hD hE hA hl
  obtain ⟨hx, hb, hml, hown, hts⟩ := id F
  have hK := hE.1
  generalize va_A ([] ++ pl) sz = A at hD hE hA ⊢
  have hS : va_S A s0.heap s0.heap [] := va_S.rf
  have hl : lv_has ls 5 [(0, .ref h0), (1, .ref b), (2, .int (nI at_)), (3, .int (nI len))] := hl
  have hR : F_MS_take pb n at_ len s = F_MS_take pb n at_ len s := rfl
  have hF : frm (M_MS_take pb) s s := frm_rf
  have ne_172_pb : 172 ≠ pb := nsp_ne (p := 172) rfl n_b (show (5 : Nat) ≠ 1 by decide)
  refine lv_iconst (v := nI 0) hx hb dMS_take_0 (by decide) ?_
  refine lv_istore (lv' := [(4, .int (nI 0)), (0, .ref h0), (1, .ref b), (2, .int (nI at_)), (3, .int (nI len))]) hx hb dMS_take_1 hl (by decide) rfl (fun ls hl => ?_)
  have lp21 : ∀ (n21 : Nat) (i21 : Nat) (s21 : Sto) (ps21 : Nat) (pl : va_W) (ls : Array Slot) (H : Heap) (locs : List Loc), n21 + i21 = len → (ps21 ≤ rt) → frm (M_MS_take pb) s s21 → s21.1 172 6 = nI ps21 → s21.1 172 5 = nI rt → F_MS_take pb n at_ len s = F_MS_take_L0 pb at_ n21 i21 s21 → lv_has ls 5 [(4, .int (nI i21)), (0, .ref h0), (1, .ref b), (2, .int (nI at_)), (3, .int (nI len))] → okn g T s21 pl → va_P g.1 vcl ([] ++ pl) H → va_D A ([] ++ pl) → va_S A s0.heap H locs → W p l e ({ frames := 3, cells := 0, slots := 0, locals := 66 } : Room) s0 m args below meth c H locs 0 0 (MQ below (va_Qv (fun (u : (Sto) × va_W) => (u.1 = F_MS_take pb n at_ len s ∧ frm (M_MS_take pb) s u.1 ∧ (∃ x : Nat, u.1.1 172 6 = nI x ∧ x ≤ rt) ∧ (∃ x : Nat, u.1.1 172 5 = nI x ∧ x = rt) ∧ True) ∧ okn g T u.1 u.2) (po g.1 vcl A (fun (u : (Sto) × va_W) => [] ++ u.2)) A) args s0 0 0 A) (F0 m 3 ls []) := by
    intro n21
    induction n21 with
    | zero =>
      intro i21 s21 ps21 pl ls H locs hm21 hi21 hF hf21 hf22 hR hl hO hP hD hS
      refine lv_iload hx hb dMS_take_3 (lv_at hl 0 rfl) ?_
      refine lv_iload_n hx hb dMS_take_5 rfl (lv_at hl 4 rfl) ?_
      refine mi_ge (tgt := 26) hx hb dMS_take_6 (by decide) (by omega) (by omega) (fun h21 => ?_) (fun h21 => absurd h21 (by omega))
      exact mp_vret hx hb hr hlk hP hD hS (s21, pl) ⟨⟨hR.symm, hF, ⟨ps21, hf21, by omega⟩, ⟨rt, hf22, by omega⟩, trivial⟩, hO⟩ [] rfl rfl rfl (by omega) (by omega) dMS_take_26
    | succ n21 ih21 =>
      intro i21 s21 ps21 pl ls H locs hm21 hi21 hF hf23 hf24 hR hl hO hP hD hS
      refine lv_iload hx hb dMS_take_3 (lv_at hl 0 rfl) ?_
      refine lv_iload_n hx hb dMS_take_5 rfl (lv_at hl 4 rfl) ?_
      refine mi_ge (tgt := 26) hx hb dMS_take_6 (by decide) (by omega) (by omega) (fun h22 => absurd h22 (by omega)) (fun h22 => ?_)
      refine lv_aload_n hx hb dMS_take_9 rfl (lv_at hl 2 rfl) ?_
      refine lv_iload_n hx hb dMS_take_10 rfl (lv_at hl 3 rfl) ?_
      refine lv_iload hx hb dMS_take_11 (lv_at hl 0 rfl) ?_
      refine mi_iadd hx hb dMS_take_13 ?_
      refine lv_aload_n hx hb dMS_take_14 rfl (lv_at hl 1 rfl) ?_
      refine mp_i (cx := []) (wr := []) hP hD hS hA [] [] rfl rfl rfl (by decide) (va_runV (As := []) (rest := [.int (nI (at_ + i21)), .ref b]) F (N_MS_next l g _ T s21 pl hO hU h0 ps21 rt k_h0 hf23 hf24 (by omega) (by omega)) (cwV 0 hts (wg_app (wg_c kw_1641 (wg_c kw_1642 (wg_c kw_1643 (wg_c kw_10 wg_n)))) kw_1644) rfl rfl rfl (by decide +kernel) ⟨by decide, by decide⟩) (pn_W "LatticeKeysModel$Sponge" (en_ok g) (ci := 9) (kn := 172) (fl := [(3, 173), (3, 174), (3, 175), (3, 176), (3, 177), (0, 0), (0, 0), (0, 0)]) hK hO k_h0 rfl hP hD hS hA hE [] rfl rfl rfl) rfl rfl hl.1 rfl (lv_room (Nat.le_of_ble_eq_true rfl)) dMS_take_15 ⟨by omega, by omega⟩) (fun r21 u21 H locs hu21 hP hD hS => ?_)
      obtain ⟨q21, pl⟩ := u21
      obtain ⟨⟨eq21, rfl, hFc21, ⟨x23, hx_23, hb_23⟩, ⟨x21, hx_21, hb_21⟩, ⟨x22, hx_22, hb_22⟩, -⟩, hO⟩ := hu21
      have hO : okn g T q21.2 pl := hO
      have hP : va_P g.1 vcl ([] ++ pl) _ := hP
      have hD : va_D _ ([] ++ pl) := hD
      have hFc21 : frm (M_MS_next) s21 q21.2 := hFc21
      have hb_21 : x21 ≤ rt := hb_21
      have hb_22 : x22 = rt := hb_22
      have hb_23 : x23 < 256 := hb_23
      replace hR := bnd_step hR eq21
      have hF := frm_tr hF hFc21 (fun k hk => by unfold M_MS_next at hk; unfold M_MS_take; omega)
      obtain ⟨z21, ez21, hz21, hz22⟩ := cl_of (b := 2147483648) hx_23 (by omega) (by decide)
      replace hR := bnd_step hR ez21
      refine mi_as hz21 ?_
      refine W.widen (k := 0) (n := 0) (by omega) (by omega) ?_
      refine lv_i2b hx hb dMS_take_18 rfl ?_
      refine nw_bast hx hb hK hO hU k_b (k := pb) n_b hP hD hS (by omega) (by omega) dMS_take_19 (fun s22 pl H locs es21 hO hP hD hS => ?_)
      replace hR := bnd_step hR es21
      have hF := frm_sB hF es21 (by unfold M_MS_take; omega)
      have hf25 : s22.1 172 6 = nI x21 := fc_B hx_21 es21 (by omega)
      have hf26 : s22.1 172 5 = nI x22 := fc_B hx_22 es21 (by omega)
      refine mi_iinc (k := 0) (x := i21) (d := 1) (y := i21 + 1) (lv' := [(4, .int (nI (i21 + 1))), (0, .ref h0), (1, .ref b), (2, .int (nI at_)), (3, .int (nI len))]) hx hb dMS_take_20 hl rfl (by decide) rfl (by decide) rfl (fun ls hl => ?_)
      refine lv_goto (tgt := 3) hx hb dMS_take_23 (by decide) ?_
      exact ih21 (i21 + 1) s22 x21 pl ls H locs (by omega) (by omega) hF hf25 (by have h9 := hf26; rw [show x22 = rt by omega] at h9; exact h9) hR (lv_sub hl [0, 1, 2, 3, 4] rfl) hO hP hD hS
  exact lp21 len 0 s ps pl ls _ _ (by omega) (by omega) hF e_ps e_rt hR (lv_sub hl [0, 1, 2, 3, 4] rfl) hO hP hD hS
