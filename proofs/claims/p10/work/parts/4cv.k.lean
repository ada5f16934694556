set_option linter.all false
abbrev c_K_secretFromTape : ByteArray := prog_1_method_25_code
abbrev y_K_secretFromTape : MethodName := ⟨"LatticeKeys", "secretFromTape", "(I)LLatticeKeys$KeyPair;"⟩
abbrev w_K_secretFromTape : List Cond := Cond.code y_K_secretFromTape c_K_secretFromTape 4 (Option.some (Jvm.ClassFile.FieldType.object "LatticeKeys$KeyPair")) :: WG
theorem dK_secretFromTape_0 : decode c_K_secretFromTape 0 = .ok (.aload_n 0, 1) := by decide +kernel
theorem dK_secretFromTape_1 : decode c_K_secretFromTape 1 = .ok (.getfield 34, 3) := by decide +kernel
theorem dK_secretFromTape_4 : decode c_K_secretFromTape 4 = .ok (.iload_n 1, 1) := by decide +kernel
theorem dK_secretFromTape_5 : decode c_K_secretFromTape 5 = .ok (.aaload, 1) := by decide +kernel
theorem dK_secretFromTape_6 : decode c_K_secretFromTape 6 = .ok (.getfield 256, 3) := by decide +kernel
theorem dK_secretFromTape_9 : decode c_K_secretFromTape 9 = .ok (.istore_n 2, 1) := by decide +kernel
theorem dK_secretFromTape_10 : decode c_K_secretFromTape 10 = .ok (.aload_n 0, 1) := by decide +kernel
theorem dK_secretFromTape_11 : decode c_K_secretFromTape 11 = .ok (.getfield 9, 3) := by decide +kernel
theorem dK_secretFromTape_14 : decode c_K_secretFromTape 14 = .ok (.iload_n 2, 1) := by decide +kernel
theorem dK_secretFromTape_15 : decode c_K_secretFromTape 15 = .ok (.iload_n 2, 1) := by decide +kernel
theorem dK_secretFromTape_16 : decode c_K_secretFromTape 16 = .ok (.aload_n 0, 1) := by decide +kernel
theorem dK_secretFromTape_17 : decode c_K_secretFromTape 17 = .ok (.iload_n 1, 1) := by decide +kernel
theorem dK_secretFromTape_18 : decode c_K_secretFromTape 18 = .ok (.invokevirtual 107, 3) := by decide +kernel
theorem dK_secretFromTape_21 : decode c_K_secretFromTape 21 = .ok (.iadd, 1) := by decide +kernel
theorem dK_secretFromTape_22 : decode c_K_secretFromTape 22 = .ok (.invokestatic 259, 3) := by decide +kernel
theorem dK_secretFromTape_25 : decode c_K_secretFromTape 25 = .ok (.astore_n 3, 1) := by decide +kernel
theorem dK_secretFromTape_26 : decode c_K_secretFromTape 26 = .ok (.new 23, 3) := by decide +kernel
theorem dK_secretFromTape_29 : decode c_K_secretFromTape 29 = .ok (.dup, 1) := by decide +kernel
theorem dK_secretFromTape_30 : decode c_K_secretFromTape 30 = .ok (.iload_n 1, 1) := by decide +kernel
theorem dK_secretFromTape_31 : decode c_K_secretFromTape 31 = .ok (.aload_n 3, 1) := by decide +kernel
theorem dK_secretFromTape_32 : decode c_K_secretFromTape 32 = .ok (.aload_n 0, 1) := by decide +kernel
theorem dK_secretFromTape_33 : decode c_K_secretFromTape 33 = .ok (.getfield 9, 3) := by decide +kernel
theorem dK_secretFromTape_36 : decode c_K_secretFromTape 36 = .ok (.aload_n 0, 1) := by decide +kernel
theorem dK_secretFromTape_37 : decode c_K_secretFromTape 37 = .ok (.getfield 13, 3) := by decide +kernel
theorem dK_secretFromTape_40 : decode c_K_secretFromTape 40 = .ok (.invokestatic 146, 3) := by decide +kernel
theorem dK_secretFromTape_43 : decode c_K_secretFromTape 43 = .ok (.invokespecial 120, 3) := by decide +kernel
theorem dK_secretFromTape_46 : decode c_K_secretFromTape 46 = .ok (.areturn, 1) := by decide +kernel
def M_K_secretFromTape_0 (k : Nat) : Prop := (379 ≤ k ∧ k < 667) ∨ (0 : Nat) = 1
noncomputable def F_K_secretFromTape_0 (pn : Nat) (s : Sto) : Sto := bnd (F_K_publicLength_0  s) fun q21 => bnd (q21.1.toNatClampNeg) fun z21 => bnd (F_AR_copyOfRange 768 1568 (379 + 36 * pn + 1) q21.2) fun s21 => bnd ((s21.1 0 1).toNatClampNeg) fun z22 => bnd (F_AR_copyOf z22 (379 + 36 * pn + 2) s21) fun s22 => s22
set_option maxHeartbeats 2000000 in
set_option maxRecDepth 100000 in
theorem N_K_secretFromTape_0 (l : Launch) (g : Gd) (sz : Nat) (T : TyN) (s : Sto) (pl : va_W) (hO : okn g T s pl) (hU : inj T) (h0 : Nat) (tl : Nat) (al : Nat) (pn : Nat) (k_h0 : T h0 = some 0) (e_tl : s.1 0 1 = nI tl) (e_al : s.1 0 3 = nI al) (e_pn : s.1 0 5 = nI pn) (h1 : tl ≤ 16384) (h2 : al ≤ 8192) (h3 : pn < 8) (h4 : tl = 1632) (hlow : lowT T (379 + 36 * pn))  : Met l y_K_secretFromTape w_K_secretFromTape ({ frames := 3, cells := 3, slots := 7491, locals := 106 } : Room) (va_Pc [.ref h0, .int (nI 0)] (pr (en g) g.1 vcl sz ([] ++ pl))) (va_Qq (fun (r : Option Nat) (u : (Sto × TyN) × va_W) => (u.1.1 = F_K_secretFromTape_0 pn s ∧ (∃ q, r = some q ∧ u.1.2 q = some (379 + 36 * pn + 0)) ∧ frm (M_K_secretFromTape_0) s u.1.1 ∧ extN T u.1.2 ∧ inj u.1.2 ∧ lowT u.1.2 (379 + 36 * (pn + 1))) ∧ okn g u.1.2 u.1.1 u.2) (po g.1 vcl (va_A ([] ++ pl) sz) (fun (u : (Sto × TyN) × va_W) => [] ++ u.2)) (va_A ([] ++ pl) sz)) 3 7491 (va_A ([] ++ pl) sz) := by
  refine mc_entry (cc := c_K_secretFromTape) (maxL := 4) (ret := (Option.some (Jvm.ClassFile.FieldType.object "LatticeKeys$KeyPair"))) (by decide) rfl (Nat.le_of_ble_eq_true rfl) ?_
  intro p e s0 m args below meth c ls F hr hlk hnm hsz hP hD hE hA hl
  obtain ⟨hx, hb, hml, hown, hts⟩ := id F
  have hK := hE.1
  generalize va_A ([] ++ pl) sz = A at hD hE hA ⊢
  have hS : va_S A s0.heap s0.heap [] := va_S.rf
  have hl : lv_has ls 4 [(0, .ref h0), (1, .int (nI 0))] := hl
  have hR : F_K_secretFromTape_0 pn s = F_K_secretFromTape_0 pn s := rfl
  have hF : frm (M_K_secretFromTape_0) s s := frm_rf
  have hXT : extN T T := extN_rf
  refine lv_aload_n hx hb dK_secretFromTape_0 rfl (lv_at hl 0 rfl) ?_
  refine nw_get (C := "LatticeKeys") (TT := T_K) (N := 11) hx hb hts (wg_ft i_K) hown hK hO k_h0 (kn := 0) (ci := 0) (fl := [(3, 1), (0, 0), (3, 2), (0, 0), (3, 3), (0, 0), (3, 4), (3, 8), (3, 12), (3, 24), (3, 39)]) rfl hP rfl 6 (by decide) (hts _ (wg_t kw_380)) (fun _ h9 => h9) (cd := (3, 4)) rfl dK_secretFromTape_1 (fun v21 hv21 => ?_)
  obtain ⟨r21, rfl, kr21⟩ := (show ∃ r : Nat, v21 = .ref r ∧ T r = some 4 from hv21)
  refine lv_iload_n hx hb dK_secretFromTape_4 rfl (lv_at hl 1 rfl) ?_
  refine nw_aald6 hx hb hK hO kr21 (k := 4) (b := 5) rfl hP (by omega) (by omega) dK_secretFromTape_5 (fun r22 kr22 => ?_)
  refine nw_get (C := "LatticeKeys$KemSet") (TT := T_KS) (N := 10) hx hb hts (wg_ft i_KS) hown hK hO kr22 (kn := 5) (ci := 1) (fl := [(1, 2), (1, 3), (1, 10), (1, 4), (1, 800), (1, 1632), (1, 768), (1, 768), (1, 1568), (1, 1600)]) rfl hP rfl 7 (by decide) (hts _ (wg_t kw_248)) (fun _ h9 => h9) (cd := (1, 768)) rfl dK_secretFromTape_6 (fun v22 hv22 => ?_)
  obtain rfl := (show v22 = .int (nI 768) from hv22)
  refine lv_istore_n (lv' := [(2, .int (nI 768)), (0, .ref h0), (1, .int (nI 0))]) hx hb dK_secretFromTape_9 rfl hl (by decide) rfl (fun ls hl => ?_)
  refine lv_aload_n hx hb dK_secretFromTape_10 rfl (lv_at hl 1 rfl) ?_
  refine nw_get (C := "LatticeKeys") (TT := T_K) (N := 11) hx hb hts (wg_ft i_K) hown hK hO k_h0 (kn := 0) (ci := 0) (fl := [(3, 1), (0, 0), (3, 2), (0, 0), (3, 3), (0, 0), (3, 4), (3, 8), (3, 12), (3, 24), (3, 39)]) rfl hP rfl 0 (by decide) (hts _ (wg_t kw_374)) (fun _ h9 => h9) (cd := (3, 1)) rfl dK_secretFromTape_11 (fun v23 hv23 => ?_)
  obtain ⟨r23, rfl, kr23⟩ := (show ∃ r : Nat, v23 = .ref r ∧ T r = some 1 from hv23)
  refine lv_iload_n hx hb dK_secretFromTape_14 rfl (lv_at hl 0 rfl) ?_
  refine lv_iload_n hx hb dK_secretFromTape_15 rfl (lv_at hl 0 rfl) ?_
  refine lv_aload_n hx hb dK_secretFromTape_16 rfl (lv_at hl 1 rfl) ?_
  refine lv_iload_n hx hb dK_secretFromTape_17 rfl (lv_at hl 2 rfl) ?_
  refine mp_i (cx := []) (wr := []) hP hD hS hA [] [] rfl rfl rfl (by decide) (va_runV (As := [.int (nI 0)]) (rest := [.int (nI 768), .int (nI 768), .ref r23]) F (N_K_publicLength_0 l g _ T s pl hO hU h0 k_h0) (cwV 1 hts (wg_app (wg_c kw_566 (wg_c kw_568 (wg_c ks_2 (wg_c kw_1 wg_n)))) kw_569) rfl rfl rfl (by decide +kernel) ⟨by decide, by decide⟩) (pn_W "LatticeKeys" (en_ok g) (ci := 0) (kn := 0) (fl := [(3, 1), (0, 0), (3, 2), (0, 0), (3, 3), (0, 0), (3, 4), (3, 8), (3, 12), (3, 24), (3, 39)]) hK hO k_h0 rfl hP hD hS hA hE [] rfl rfl rfl) rfl rfl hl.1 rfl (lv_room (Nat.le_of_ble_eq_true rfl)) dK_secretFromTape_18 ⟨Nat.le_of_ble_eq_true rfl, Nat.le_of_ble_eq_true rfl⟩) (fun r24 u21 H locs hu21 hP hD hS => ?_)
  obtain ⟨q21, pl⟩ := u21
  obtain ⟨⟨eq21, rfl, hFc21, ⟨x21, hx_21, hb_21⟩, hxp21, -⟩, hO⟩ := hu21
  have hO : okn g T q21.2 pl := hO
  have hP : va_P g.1 vcl ([] ++ pl) _ := hP
  have hD : va_D _ ([] ++ pl) := hD
  have hFc21 : frm (M_K_publicLength_0) s q21.2 := hFc21
  have hb_21 : x21 < 801 := hb_21
  replace hR := bnd_step hR eq21
  have hF := frm_tr hF hFc21 (fun k hk => by unfold M_K_publicLength_0 at hk; unfold M_K_secretFromTape_0; omega)
  have hf21 : q21.2.1 0 1 = nI tl := fc_F e_tl hFc21 (by unfold M_K_publicLength_0; omega)
  have hf22 : q21.2.1 0 3 = nI al := fc_F e_al hFc21 (by unfold M_K_publicLength_0; omega)
  have hf23 : q21.2.1 0 5 = nI pn := fc_F e_pn hFc21 (by unfold M_K_publicLength_0; omega)
  obtain ⟨z21, ez21, hz21, hz22⟩ := cl_of (b := 2147483648) hx_21 (by omega) (by decide)
  replace hR := bnd_step hR ez21
  refine mi_as hz21 ?_
  have hsz21 : z21 = 800 := (nI_eq (by omega) (by omega)).mp (hz21.symm.trans hxp21)
  subst hsz21
  refine W.widen (k := 0) (n := 0) (by omega) (by omega) ?_
  refine mi_iadd hx hb dK_secretFromTape_21 ?_
  refine mi_as (show nI (768 + 800) = nI 1568 from rfl) ?_
  have hfr21 : frT T (379 + 36 * pn + 0) := frT_low hlow (by omega)
  have hfr22 : frT T (379 + 36 * pn + 1) := frT_low hlow (by omega)
  have hfr23 : frT T (379 + 36 * pn + 2) := frT_low hlow (by omega)
  have hlw21 : lowT T (379 + 36 * (pn + 1)) := lowT_up hlow (by omega)
  refine mp_q (cx := []) (wr := []) hP hD hS hA [] [] rfl rfl rfl (by decide) (va_runS (As := [.ref r23, .int (nI 768), .int (nI 1568)]) (rest := []) F (N_AR_copyOfRange l g _ T q21.2 pl hO hU (379 + 36 * pn + 1) r23 768 1568 kr23 (by omega) (by omega) (by omega) (by omega) (show nsp (379 + 36 * pn + 1) = (1, 1568 - 768, []) from (pr_p0 (z := pn) (by omega))) hfr22 (by omega)) (va_cwS 3 hts (wg_app (wg_c kw_809 (wg_c kw_810 (wg_c kw_21 wg_n))) kw_811) rfl rfl rfl (by decide +kernel) ⟨by decide, by decide⟩) (pp_S (en_ok g) hP hD hS hA hE [] rfl rfl) rfl rfl hl.1 rfl (lv_room (Nat.le_of_ble_eq_true rfl)) dK_secretFromTape_22 ⟨Nat.le_of_ble_eq_true rfl, Nat.le_of_ble_eq_true rfl⟩) (fun r25 u22 H locs hu22 hP hD hS => ?_)
  obtain ⟨⟨s21, T⟩, pl⟩ := u22
  obtain ⟨⟨eq22, ⟨q22, rfl, kr24⟩, hFc22, hxt21, hU, hnf21, hnl21⟩, hO⟩ := hu22
  have hO : okn g T s21 pl := hO
  have hP : va_P g.1 vcl ([] ++ pl) _ := hP
  have hD : va_D _ ([] ++ pl) := hD
  have hU : inj T := hU
  have eq22 : s21 = F_AR_copyOfRange 768 1568 (379 + 36 * pn + 1) q21.2 := eq22
  have hFc22 : frm (M_AR_copyOfRange (379 + 36 * pn + 1)) q21.2 s21 := hFc22
  replace hR := bnd_step hR eq22
  have hF := frm_tr hF hFc22 (fun k hk => by unfold M_AR_copyOfRange at hk; unfold M_K_secretFromTape_0; omega)
  have hf24 : s21.1 0 1 = nI tl := fc_F hf21 hFc22 (by unfold M_AR_copyOfRange; omega)
  have hf25 : s21.1 0 3 = nI al := fc_F hf22 hFc22 (by unfold M_AR_copyOfRange; omega)
  have hf26 : s21.1 0 5 = nI pn := fc_F hf23 hFc22 (by unfold M_AR_copyOfRange; omega)
  have hnf21 : ∀ k' : Nat, k' ≠ (379 + 36 * pn + 1) → frT _ k' → frT T k' := hnf21
  have hnl21 : ∀ b : Nat, (379 + 36 * pn + 1) < b → lowT _ b → lowT T b := hnl21
  have kr25 := hxt21 _ _ k_h0
  have kr26 := hxt21 _ _ kr21
  have kr27 := hxt21 _ _ kr22
  have kr28 := hxt21 _ _ kr23
  have hXT := extN_tr hXT hxt21
  have hfr24 := hnf21 _ (by omega) hfr21
  have hfr25 := hnf21 _ (by omega) hfr23
  have hlw22 := hnl21 _ (by omega) hlw21
  refine W.widen (k := 1) (n := 2592) (by omega) (by omega) ?_
  refine lv_astore_n (lv' := [(3, .ref q22), (2, .int (nI 768)), (0, .ref h0), (1, .int (nI 0))]) hx hb dK_secretFromTape_25 rfl hl (by decide) rfl (fun ls hl => ?_)
  refine va_new (ws := [] ++ pl) (ci := 13) (fs := [.int 0, .null, .null]) (C := "LatticeKeys$KeyPair") (T := T_KP) (N := 3) hx hb hts (wg_ft i_KP) ty_KP k_KP hown (hts _ (wg_t kw_43)) (hts _ (wg_t kw_740)) (hts _ (wg_t kw_24)) hK hP hD hS hA rfl z_KP (Nat.le_of_ble_eq_true rfl) (Nat.le_of_ble_eq_true rfl) dK_secretFromTape_26 (fun q23 H hP hD hS => ?_)
  obtain ⟨hP, hD⟩ := mv_first hP hD
  have hP : va_P g.1 vcl ([(q23, .inr (13, [.int 0, .null, .null]))] ++ pl) _ := hP
  have hD : va_D _ ([(q23, .inr (13, [.int 0, .null, .null]))] ++ pl) := hD
  refine W.widen (k := 2) (n := 2595) (by omega) (by omega) ?_
  refine lv_dup hx hb dK_secretFromTape_29 rfl ?_
  refine lv_iload_n hx hb dK_secretFromTape_30 rfl (lv_at hl 3 rfl) ?_
  refine lv_aload_n hx hb dK_secretFromTape_31 rfl (lv_at hl 0 rfl) ?_
  refine lv_aload_n hx hb dK_secretFromTape_32 rfl (lv_at hl 2 rfl) ?_
  refine nw_get (C := "LatticeKeys") (TT := T_K) (N := 11) hx hb hts (wg_ft i_K) hown hK hO kr25 (kn := 0) (ci := 0) (fl := [(3, 1), (0, 0), (3, 2), (0, 0), (3, 3), (0, 0), (3, 4), (3, 8), (3, 12), (3, 24), (3, 39)]) rfl hP rfl 0 (by decide) (hts _ (wg_t kw_374)) (fun _ h9 => h9) (cd := (3, 1)) rfl dK_secretFromTape_33 (fun v24 hv24 => ?_)
  obtain ⟨r26, rfl, kr29⟩ := (show ∃ r : Nat, v24 = .ref r ∧ T r = some 1 from hv24)
  refine lv_aload_n hx hb dK_secretFromTape_36 rfl (lv_at hl 2 rfl) ?_
  refine nw_get (C := "LatticeKeys") (TT := T_K) (N := 11) hx hb hts (wg_ft i_K) hown hK hO kr25 (kn := 0) (ci := 0) (fl := [(3, 1), (0, 0), (3, 2), (0, 0), (3, 3), (0, 0), (3, 4), (3, 8), (3, 12), (3, 24), (3, 39)]) rfl hP rfl 1 (by decide) (hts _ (wg_t kw_375)) (fun _ h9 => h9) (cd := (0, 0)) rfl dK_secretFromTape_37 (fun v25 hv25 => ?_)
  obtain rfl := (show v25 = .int (s21.1 0 1) from hv25)
  obtain ⟨z22, ez22, hz23, hz24⟩ := cl_of (b := 2147483648) hf24 (by omega) (by decide)
  replace hR := bnd_step hR ez22
  refine mi_as hz23 ?_
  refine mp_q (cx := []) (wr := [(q23, .inr (13, [.int 0, .null, .null]))]) hP hD hS hA [] [0] rfl rfl rfl (by decide) (va_runS (As := [.ref r26, .int (nI z22)]) (rest := [.ref q22, .int (nI 0), .ref q23, .ref q23]) F (N_AR_copyOf l g _ T s21 pl hO hU (379 + 36 * pn + 2) r26 z22 kr29 (by omega) (by omega) (by rw [show z22 = 1632 by omega]; exact (pr_s0 (z := pn) (by omega))) hfr25 (by omega)) (va_cwS 2 hts (wg_app (wg_c kw_1047 (wg_c kw_880 (wg_c kw_21 wg_n))) kw_881) rfl rfl rfl (by decide +kernel) ⟨by decide, by decide⟩) (pp_S (en_ok g) hP hD hS hA hE [] rfl rfl) rfl rfl hl.1 rfl (lv_room (Nat.le_of_ble_eq_true rfl)) dK_secretFromTape_40 ⟨Nat.le_of_ble_eq_true rfl, Nat.le_of_ble_eq_true rfl⟩) (fun r27 u23 H locs hu23 hP hD hS => ?_)
  obtain ⟨⟨s22, T⟩, pl⟩ := u23
  obtain ⟨⟨eq23, ⟨q24, rfl, kr30⟩, hFc23, hxt22, hU, hnf22, hnl22⟩, hO⟩ := hu23
  have hO : okn g T s22 pl := hO
  have hP : va_P g.1 vcl ([(q23, .inr (13, [.int 0, .null, .null]))] ++ pl) _ := hP
  have hD : va_D _ ([(q23, .inr (13, [.int 0, .null, .null]))] ++ pl) := hD
  have hU : inj T := hU
  have eq23 : s22 = F_AR_copyOf z22 (379 + 36 * pn + 2) s21 := eq23
  have hFc23 : frm (M_AR_copyOf (379 + 36 * pn + 2)) s21 s22 := hFc23
  replace hR := bnd_step hR eq23
  have hF := frm_tr hF hFc23 (fun k hk => by unfold M_AR_copyOf at hk; unfold M_K_secretFromTape_0; omega)
  have hf27 : s22.1 0 1 = nI tl := fc_F hf24 hFc23 (by unfold M_AR_copyOf; omega)
  have hf28 : s22.1 0 3 = nI al := fc_F hf25 hFc23 (by unfold M_AR_copyOf; omega)
  have hf29 : s22.1 0 5 = nI pn := fc_F hf26 hFc23 (by unfold M_AR_copyOf; omega)
  have hnf22 : ∀ k' : Nat, k' ≠ (379 + 36 * pn + 2) → frT _ k' → frT T k' := hnf22
  have hnl22 : ∀ b : Nat, (379 + 36 * pn + 2) < b → lowT _ b → lowT T b := hnl22
  have kr31 := hxt22 _ _ kr25
  have kr32 := hxt22 _ _ kr26
  have kr33 := hxt22 _ _ kr27
  have kr34 := hxt22 _ _ kr28
  have kr35 := hxt22 _ _ kr24
  have kr36 := hxt22 _ _ kr29
  have hXT := extN_tr hXT hxt22
  have hfr26 := hnf22 _ (by omega) hfr24
  have hlw23 := hnl22 _ (by omega) hlw22
  refine W.widen (k := 3) (n := 7491) (by omega) (by omega) ?_
  refine mq_v (cx := [(q23, .inr (13, [.int 0, .null, .null]))]) (wr := []) hP hD hS hA [0] [] rfl rfl rfl (by decide) (va_runI (As := [.int (nI 0), .ref q22, .ref q24]) (rest := [.ref q23]) F (m_KP_init_s l g _ q23 q22 q24 (nI 0)) (cwI 3 hts (wg_in kw_743) rfl rfl rfl (hts _ (wg_t kw_24)) (hts _ (wg_t kw_741)) (hts _ (wg_t kw_742)) rfl (by decide +kernel) ⟨by decide, by decide⟩) (pr_S (en_ok g) hP hD hS hA hE [0] rfl rfl) rfl rfl hl.1 rfl (lv_room (Nat.le_of_ble_eq_true rfl)) dK_secretFromTape_43 ⟨Nat.le_of_ble_eq_true rfl, Nat.le_of_ble_eq_true rfl⟩) (fun _ H locs _ hP hD hS => ?_)
  obtain ⟨hP, hD⟩ := mv_last (X := []) (c := (q23, .inr (13, [.int (nI 0), .ref q22, .ref q24]))) hP hD
  refine W.widen (k := 3) (n := 7491) (by omega) (by omega) ?_
  obtain ⟨T, pl, hxt23, hU, kr37, hO, hP, hD, hnf23, hnl23⟩ := absorbN (s22) (379 + 36 * pn + 0) hP hD hO hU hfr26 (fun _ _ => rfl) (fun _ _ => rfl) (fun _ h9 _ => fitP (pr_o0 (z := pn) (by omega)) (h9 _ _ kr35) (h9 _ _ kr30))
  have kr38 := hxt23 _ _ kr31
  have kr39 := hxt23 _ _ kr32
  have kr40 := hxt23 _ _ kr33
  have kr41 := hxt23 _ _ kr34
  have kr42 := hxt23 _ _ kr35
  have kr43 := hxt23 _ _ kr36
  have kr44 := hxt23 _ _ kr30
  have hXT := extN_tr hXT hxt23
  have hlw24 := hnl23 _ (by omega) hlw23
  exact mp_qret (v := some q23) hx hb hr (Or.inl ⟨_, rfl⟩) hlk hP hD hS ((s22, T), pl) ⟨⟨hR.symm, ⟨_, rfl, kr37⟩, hF, hXT, hU, hlw24⟩, hO⟩ [] rfl rfl rfl (by omega) (by omega) dK_secretFromTape_46
def M_K_secretFromTape_1 (k : Nat) : Prop := (379 ≤ k ∧ k < 667) ∨ (0 : Nat) = 1
noncomputable def F_K_secretFromTape_1 (pn : Nat) (s : Sto) : Sto := bnd (F_K_publicLength_1  s) fun q21 => bnd (q21.1.toNatClampNeg) fun z21 => bnd (F_AR_copyOfRange 1152 2336 (379 + 36 * pn + 4) q21.2) fun s21 => bnd ((s21.1 0 1).toNatClampNeg) fun z22 => bnd (F_AR_copyOf z22 (379 + 36 * pn + 5) s21) fun s22 => s22
set_option maxHeartbeats 2000000 in
set_option maxRecDepth 100000 in
theorem N_K_secretFromTape_1 (l : Launch) (g : Gd) (sz : Nat) (T : TyN) (s : Sto) (pl : va_W) (hO : okn g T s pl) (hU : inj T) (h0 : Nat) (tl : Nat) (al : Nat) (pn : Nat) (k_h0 : T h0 = some 0) (e_tl : s.1 0 1 = nI tl) (e_al : s.1 0 3 = nI al) (e_pn : s.1 0 5 = nI pn) (h1 : tl ≤ 16384) (h2 : al ≤ 8192) (h3 : pn < 8) (h4 : tl = 2400) (hlow : lowT T (379 + 36 * pn))  : Met l y_K_secretFromTape w_K_secretFromTape ({ frames := 3, cells := 3, slots := 7491, locals := 106 } : Room) (va_Pc [.ref h0, .int (nI 1)] (pr (en g) g.1 vcl sz ([] ++ pl))) (va_Qq (fun (r : Option Nat) (u : (Sto × TyN) × va_W) => (u.1.1 = F_K_secretFromTape_1 pn s ∧ (∃ q, r = some q ∧ u.1.2 q = some (379 + 36 * pn + 3)) ∧ frm (M_K_secretFromTape_1) s u.1.1 ∧ extN T u.1.2 ∧ inj u.1.2 ∧ lowT u.1.2 (379 + 36 * (pn + 1))) ∧ okn g u.1.2 u.1.1 u.2) (po g.1 vcl (va_A ([] ++ pl) sz) (fun (u : (Sto × TyN) × va_W) => [] ++ u.2)) (va_A ([] ++ pl) sz)) 3 7491 (va_A ([] ++ pl) sz) := by
  refine mc_entry (cc := c_K_secretFromTape) (maxL := 4) (ret := (Option.some (Jvm.ClassFile.FieldType.object "LatticeKeys$KeyPair"))) (by decide) rfl (Nat.le_of_ble_eq_true rfl) ?_
  intro p e s0 m args below meth c ls F hr hlk hnm hsz hP hD hE hA hl
  obtain ⟨hx, hb, hml, hown, hts⟩ := id F
  have hK := hE.1
  generalize va_A ([] ++ pl) sz = A at hD hE hA ⊢
  have hS : va_S A s0.heap s0.heap [] := va_S.rf
  have hl : lv_has ls 4 [(0, .ref h0), (1, .int (nI 1))] := hl
  have hR : F_K_secretFromTape_1 pn s = F_K_secretFromTape_1 pn s := rfl
  have hF : frm (M_K_secretFromTape_1) s s := frm_rf
  have hXT : extN T T := extN_rf
  refine lv_aload_n hx hb dK_secretFromTape_0 rfl (lv_at hl 0 rfl) ?_
  refine nw_get (C := "LatticeKeys") (TT := T_K) (N := 11) hx hb hts (wg_ft i_K) hown hK hO k_h0 (kn := 0) (ci := 0) (fl := [(3, 1), (0, 0), (3, 2), (0, 0), (3, 3), (0, 0), (3, 4), (3, 8), (3, 12), (3, 24), (3, 39)]) rfl hP rfl 6 (by decide) (hts _ (wg_t kw_380)) (fun _ h9 => h9) (cd := (3, 4)) rfl dK_secretFromTape_1 (fun v21 hv21 => ?_)
  obtain ⟨r21, rfl, kr21⟩ := (show ∃ r : Nat, v21 = .ref r ∧ T r = some 4 from hv21)
  refine lv_iload_n hx hb dK_secretFromTape_4 rfl (lv_at hl 1 rfl) ?_
  refine nw_aald6 hx hb hK hO kr21 (k := 4) (b := 5) rfl hP (by omega) (by omega) dK_secretFromTape_5 (fun r22 kr22 => ?_)
  refine nw_get (C := "LatticeKeys$KemSet") (TT := T_KS) (N := 10) hx hb hts (wg_ft i_KS) hown hK hO kr22 (kn := 6) (ci := 1) (fl := [(1, 3), (1, 2), (1, 10), (1, 4), (1, 1184), (1, 2400), (1, 1088), (1, 1152), (1, 2336), (1, 2368)]) rfl hP rfl 7 (by decide) (hts _ (wg_t kw_248)) (fun _ h9 => h9) (cd := (1, 1152)) rfl dK_secretFromTape_6 (fun v22 hv22 => ?_)
  obtain rfl := (show v22 = .int (nI 1152) from hv22)
  refine lv_istore_n (lv' := [(2, .int (nI 1152)), (0, .ref h0), (1, .int (nI 1))]) hx hb dK_secretFromTape_9 rfl hl (by decide) rfl (fun ls hl => ?_)
  refine lv_aload_n hx hb dK_secretFromTape_10 rfl (lv_at hl 1 rfl) ?_
  refine nw_get (C := "LatticeKeys") (TT := T_K) (N := 11) hx hb hts (wg_ft i_K) hown hK hO k_h0 (kn := 0) (ci := 0) (fl := [(3, 1), (0, 0), (3, 2), (0, 0), (3, 3), (0, 0), (3, 4), (3, 8), (3, 12), (3, 24), (3, 39)]) rfl hP rfl 0 (by decide) (hts _ (wg_t kw_374)) (fun _ h9 => h9) (cd := (3, 1)) rfl dK_secretFromTape_11 (fun v23 hv23 => ?_)
  obtain ⟨r23, rfl, kr23⟩ := (show ∃ r : Nat, v23 = .ref r ∧ T r = some 1 from hv23)
  refine lv_iload_n hx hb dK_secretFromTape_14 rfl (lv_at hl 0 rfl) ?_
  refine lv_iload_n hx hb dK_secretFromTape_15 rfl (lv_at hl 0 rfl) ?_
  refine lv_aload_n hx hb dK_secretFromTape_16 rfl (lv_at hl 1 rfl) ?_
  refine lv_iload_n hx hb dK_secretFromTape_17 rfl (lv_at hl 2 rfl) ?_
  refine mp_i (cx := []) (wr := []) hP hD hS hA [] [] rfl rfl rfl (by decide) (va_runV (As := [.int (nI 1)]) (rest := [.int (nI 1152), .int (nI 1152), .ref r23]) F (N_K_publicLength_1 l g _ T s pl hO hU h0 k_h0) (cwV 1 hts (wg_app (wg_c kw_566 (wg_c kw_568 (wg_c ks_2 (wg_c kw_1 wg_n)))) kw_569) rfl rfl rfl (by decide +kernel) ⟨by decide, by decide⟩) (pn_W "LatticeKeys" (en_ok g) (ci := 0) (kn := 0) (fl := [(3, 1), (0, 0), (3, 2), (0, 0), (3, 3), (0, 0), (3, 4), (3, 8), (3, 12), (3, 24), (3, 39)]) hK hO k_h0 rfl hP hD hS hA hE [] rfl rfl rfl) rfl rfl hl.1 rfl (lv_room (Nat.le_of_ble_eq_true rfl)) dK_secretFromTape_18 ⟨Nat.le_of_ble_eq_true rfl, Nat.le_of_ble_eq_true rfl⟩) (fun r24 u21 H locs hu21 hP hD hS => ?_)
  obtain ⟨q21, pl⟩ := u21
  obtain ⟨⟨eq21, rfl, hFc21, ⟨x21, hx_21, hb_21⟩, hxp21, -⟩, hO⟩ := hu21
  have hO : okn g T q21.2 pl := hO
  have hP : va_P g.1 vcl ([] ++ pl) _ := hP
  have hD : va_D _ ([] ++ pl) := hD
  have hFc21 : frm (M_K_publicLength_1) s q21.2 := hFc21
  have hb_21 : x21 < 1185 := hb_21
  replace hR := bnd_step hR eq21
  have hF := frm_tr hF hFc21 (fun k hk => by unfold M_K_publicLength_1 at hk; unfold M_K_secretFromTape_1; omega)
  have hf21 : q21.2.1 0 1 = nI tl := fc_F e_tl hFc21 (by unfold M_K_publicLength_1; omega)
  have hf22 : q21.2.1 0 3 = nI al := fc_F e_al hFc21 (by unfold M_K_publicLength_1; omega)
  have hf23 : q21.2.1 0 5 = nI pn := fc_F e_pn hFc21 (by unfold M_K_publicLength_1; omega)
  obtain ⟨z21, ez21, hz21, hz22⟩ := cl_of (b := 2147483648) hx_21 (by omega) (by decide)
  replace hR := bnd_step hR ez21
  refine mi_as hz21 ?_
  have hsz21 : z21 = 1184 := (nI_eq (by omega) (by omega)).mp (hz21.symm.trans hxp21)
  subst hsz21
  refine W.widen (k := 0) (n := 0) (by omega) (by omega) ?_
  refine mi_iadd hx hb dK_secretFromTape_21 ?_
  refine mi_as (show nI (1152 + 1184) = nI 2336 from rfl) ?_
  have hfr21 : frT T (379 + 36 * pn + 3) := frT_low hlow (by omega)
  have hfr22 : frT T (379 + 36 * pn + 4) := frT_low hlow (by omega)
  have hfr23 : frT T (379 + 36 * pn + 5) := frT_low hlow (by omega)
  have hlw21 : lowT T (379 + 36 * (pn + 1)) := lowT_up hlow (by omega)
  refine mp_q (cx := []) (wr := []) hP hD hS hA [] [] rfl rfl rfl (by decide) (va_runS (As := [.ref r23, .int (nI 1152), .int (nI 2336)]) (rest := []) F (N_AR_copyOfRange l g _ T q21.2 pl hO hU (379 + 36 * pn + 4) r23 1152 2336 kr23 (by omega) (by omega) (by omega) (by omega) (show nsp (379 + 36 * pn + 4) = (1, 2336 - 1152, []) from (pr_p1 (z := pn) (by omega))) hfr22 (by omega)) (va_cwS 3 hts (wg_app (wg_c kw_809 (wg_c kw_810 (wg_c kw_21 wg_n))) kw_811) rfl rfl rfl (by decide +kernel) ⟨by decide, by decide⟩) (pp_S (en_ok g) hP hD hS hA hE [] rfl rfl) rfl rfl hl.1 rfl (lv_room (Nat.le_of_ble_eq_true rfl)) dK_secretFromTape_22 ⟨Nat.le_of_ble_eq_true rfl, Nat.le_of_ble_eq_true rfl⟩) (fun r25 u22 H locs hu22 hP hD hS => ?_)
  obtain ⟨⟨s21, T⟩, pl⟩ := u22
  obtain ⟨⟨eq22, ⟨q22, rfl, kr24⟩, hFc22, hxt21, hU, hnf21, hnl21⟩, hO⟩ := hu22
  have hO : okn g T s21 pl := hO
  have hP : va_P g.1 vcl ([] ++ pl) _ := hP
  have hD : va_D _ ([] ++ pl) := hD
  have hU : inj T := hU
  have eq22 : s21 = F_AR_copyOfRange 1152 2336 (379 + 36 * pn + 4) q21.2 := eq22
  have hFc22 : frm (M_AR_copyOfRange (379 + 36 * pn + 4)) q21.2 s21 := hFc22
  replace hR := bnd_step hR eq22
  have hF := frm_tr hF hFc22 (fun k hk => by unfold M_AR_copyOfRange at hk; unfold M_K_secretFromTape_1; omega)
  have hf24 : s21.1 0 1 = nI tl := fc_F hf21 hFc22 (by unfold M_AR_copyOfRange; omega)
  have hf25 : s21.1 0 3 = nI al := fc_F hf22 hFc22 (by unfold M_AR_copyOfRange; omega)
  have hf26 : s21.1 0 5 = nI pn := fc_F hf23 hFc22 (by unfold M_AR_copyOfRange; omega)
  have hnf21 : ∀ k' : Nat, k' ≠ (379 + 36 * pn + 4) → frT _ k' → frT T k' := hnf21
  have hnl21 : ∀ b : Nat, (379 + 36 * pn + 4) < b → lowT _ b → lowT T b := hnl21
  have kr25 := hxt21 _ _ k_h0
  have kr26 := hxt21 _ _ kr21
  have kr27 := hxt21 _ _ kr22
  have kr28 := hxt21 _ _ kr23
  have hXT := extN_tr hXT hxt21
  have hfr24 := hnf21 _ (by omega) hfr21
  have hfr25 := hnf21 _ (by omega) hfr23
  have hlw22 := hnl21 _ (by omega) hlw21
  refine W.widen (k := 1) (n := 2592) (by omega) (by omega) ?_
  refine lv_astore_n (lv' := [(3, .ref q22), (2, .int (nI 1152)), (0, .ref h0), (1, .int (nI 1))]) hx hb dK_secretFromTape_25 rfl hl (by decide) rfl (fun ls hl => ?_)
  refine va_new (ws := [] ++ pl) (ci := 13) (fs := [.int 0, .null, .null]) (C := "LatticeKeys$KeyPair") (T := T_KP) (N := 3) hx hb hts (wg_ft i_KP) ty_KP k_KP hown (hts _ (wg_t kw_43)) (hts _ (wg_t kw_740)) (hts _ (wg_t kw_24)) hK hP hD hS hA rfl z_KP (Nat.le_of_ble_eq_true rfl) (Nat.le_of_ble_eq_true rfl) dK_secretFromTape_26 (fun q23 H hP hD hS => ?_)
  obtain ⟨hP, hD⟩ := mv_first hP hD
  have hP : va_P g.1 vcl ([(q23, .inr (13, [.int 0, .null, .null]))] ++ pl) _ := hP
  have hD : va_D _ ([(q23, .inr (13, [.int 0, .null, .null]))] ++ pl) := hD
  refine W.widen (k := 2) (n := 2595) (by omega) (by omega) ?_
  refine lv_dup hx hb dK_secretFromTape_29 rfl ?_
  refine lv_iload_n hx hb dK_secretFromTape_30 rfl (lv_at hl 3 rfl) ?_
  refine lv_aload_n hx hb dK_secretFromTape_31 rfl (lv_at hl 0 rfl) ?_
  refine lv_aload_n hx hb dK_secretFromTape_32 rfl (lv_at hl 2 rfl) ?_
  refine nw_get (C := "LatticeKeys") (TT := T_K) (N := 11) hx hb hts (wg_ft i_K) hown hK hO kr25 (kn := 0) (ci := 0) (fl := [(3, 1), (0, 0), (3, 2), (0, 0), (3, 3), (0, 0), (3, 4), (3, 8), (3, 12), (3, 24), (3, 39)]) rfl hP rfl 0 (by decide) (hts _ (wg_t kw_374)) (fun _ h9 => h9) (cd := (3, 1)) rfl dK_secretFromTape_33 (fun v24 hv24 => ?_)
  obtain ⟨r26, rfl, kr29⟩ := (show ∃ r : Nat, v24 = .ref r ∧ T r = some 1 from hv24)
  refine lv_aload_n hx hb dK_secretFromTape_36 rfl (lv_at hl 2 rfl) ?_
  refine nw_get (C := "LatticeKeys") (TT := T_K) (N := 11) hx hb hts (wg_ft i_K) hown hK hO kr25 (kn := 0) (ci := 0) (fl := [(3, 1), (0, 0), (3, 2), (0, 0), (3, 3), (0, 0), (3, 4), (3, 8), (3, 12), (3, 24), (3, 39)]) rfl hP rfl 1 (by decide) (hts _ (wg_t kw_375)) (fun _ h9 => h9) (cd := (0, 0)) rfl dK_secretFromTape_37 (fun v25 hv25 => ?_)
  obtain rfl := (show v25 = .int (s21.1 0 1) from hv25)
  obtain ⟨z22, ez22, hz23, hz24⟩ := cl_of (b := 2147483648) hf24 (by omega) (by decide)
  replace hR := bnd_step hR ez22
  refine mi_as hz23 ?_
  refine mp_q (cx := []) (wr := [(q23, .inr (13, [.int 0, .null, .null]))]) hP hD hS hA [] [0] rfl rfl rfl (by decide) (va_runS (As := [.ref r26, .int (nI z22)]) (rest := [.ref q22, .int (nI 1), .ref q23, .ref q23]) F (N_AR_copyOf l g _ T s21 pl hO hU (379 + 36 * pn + 5) r26 z22 kr29 (by omega) (by omega) (by rw [show z22 = 2400 by omega]; exact (pr_s1 (z := pn) (by omega))) hfr25 (by omega)) (va_cwS 2 hts (wg_app (wg_c kw_1047 (wg_c kw_880 (wg_c kw_21 wg_n))) kw_881) rfl rfl rfl (by decide +kernel) ⟨by decide, by decide⟩) (pp_S (en_ok g) hP hD hS hA hE [] rfl rfl) rfl rfl hl.1 rfl (lv_room (Nat.le_of_ble_eq_true rfl)) dK_secretFromTape_40 ⟨Nat.le_of_ble_eq_true rfl, Nat.le_of_ble_eq_true rfl⟩) (fun r27 u23 H locs hu23 hP hD hS => ?_)
  obtain ⟨⟨s22, T⟩, pl⟩ := u23
  obtain ⟨⟨eq23, ⟨q24, rfl, kr30⟩, hFc23, hxt22, hU, hnf22, hnl22⟩, hO⟩ := hu23
  have hO : okn g T s22 pl := hO
  have hP : va_P g.1 vcl ([(q23, .inr (13, [.int 0, .null, .null]))] ++ pl) _ := hP
  have hD : va_D _ ([(q23, .inr (13, [.int 0, .null, .null]))] ++ pl) := hD
  have hU : inj T := hU
  have eq23 : s22 = F_AR_copyOf z22 (379 + 36 * pn + 5) s21 := eq23
  have hFc23 : frm (M_AR_copyOf (379 + 36 * pn + 5)) s21 s22 := hFc23
  replace hR := bnd_step hR eq23
  have hF := frm_tr hF hFc23 (fun k hk => by unfold M_AR_copyOf at hk; unfold M_K_secretFromTape_1; omega)
  have hf27 : s22.1 0 1 = nI tl := fc_F hf24 hFc23 (by unfold M_AR_copyOf; omega)
  have hf28 : s22.1 0 3 = nI al := fc_F hf25 hFc23 (by unfold M_AR_copyOf; omega)
  have hf29 : s22.1 0 5 = nI pn := fc_F hf26 hFc23 (by unfold M_AR_copyOf; omega)
  have hnf22 : ∀ k' : Nat, k' ≠ (379 + 36 * pn + 5) → frT _ k' → frT T k' := hnf22
  have hnl22 : ∀ b : Nat, (379 + 36 * pn + 5) < b → lowT _ b → lowT T b := hnl22
  have kr31 := hxt22 _ _ kr25
  have kr32 := hxt22 _ _ kr26
  have kr33 := hxt22 _ _ kr27
  have kr34 := hxt22 _ _ kr28
  have kr35 := hxt22 _ _ kr24
  have kr36 := hxt22 _ _ kr29
  have hXT := extN_tr hXT hxt22
  have hfr26 := hnf22 _ (by omega) hfr24
  have hlw23 := hnl22 _ (by omega) hlw22
  refine W.widen (k := 3) (n := 7491) (by omega) (by omega) ?_
  refine mq_v (cx := [(q23, .inr (13, [.int 0, .null, .null]))]) (wr := []) hP hD hS hA [0] [] rfl rfl rfl (by decide) (va_runI (As := [.int (nI 1), .ref q22, .ref q24]) (rest := [.ref q23]) F (m_KP_init_s l g _ q23 q22 q24 (nI 1)) (cwI 3 hts (wg_in kw_743) rfl rfl rfl (hts _ (wg_t kw_24)) (hts _ (wg_t kw_741)) (hts _ (wg_t kw_742)) rfl (by decide +kernel) ⟨by decide, by decide⟩) (pr_S (en_ok g) hP hD hS hA hE [0] rfl rfl) rfl rfl hl.1 rfl (lv_room (Nat.le_of_ble_eq_true rfl)) dK_secretFromTape_43 ⟨Nat.le_of_ble_eq_true rfl, Nat.le_of_ble_eq_true rfl⟩) (fun _ H locs _ hP hD hS => ?_)
  obtain ⟨hP, hD⟩ := mv_last (X := []) (c := (q23, .inr (13, [.int (nI 1), .ref q22, .ref q24]))) hP hD
  refine W.widen (k := 3) (n := 7491) (by omega) (by omega) ?_
  obtain ⟨T, pl, hxt23, hU, kr37, hO, hP, hD, hnf23, hnl23⟩ := absorbN (s22) (379 + 36 * pn + 3) hP hD hO hU hfr26 (fun _ _ => rfl) (fun _ _ => rfl) (fun _ h9 _ => fitP (pr_o1 (z := pn) (by omega)) (h9 _ _ kr35) (h9 _ _ kr30))
  have kr38 := hxt23 _ _ kr31
  have kr39 := hxt23 _ _ kr32
  have kr40 := hxt23 _ _ kr33
  have kr41 := hxt23 _ _ kr34
  have kr42 := hxt23 _ _ kr35
  have kr43 := hxt23 _ _ kr36
  have kr44 := hxt23 _ _ kr30
  have hXT := extN_tr hXT hxt23
  have hlw24 := hnl23 _ (by omega) hlw23
  exact mp_qret (v := some q23) hx hb hr (Or.inl ⟨_, rfl⟩) hlk hP hD hS ((s22, T), pl) ⟨⟨hR.symm, ⟨_, rfl, kr37⟩, hF, hXT, hU, hlw24⟩, hO⟩ [] rfl rfl rfl (by omega) (by omega) dK_secretFromTape_46
def M_K_secretFromTape_2 (k : Nat) : Prop := (379 ≤ k ∧ k < 667) ∨ (0 : Nat) = 1
noncomputable def F_K_secretFromTape_2 (pn : Nat) (s : Sto) : Sto := bnd (F_K_publicLength_2  s) fun q21 => bnd (q21.1.toNatClampNeg) fun z21 => bnd (F_AR_copyOfRange 1536 3104 (379 + 36 * pn + 7) q21.2) fun s21 => bnd ((s21.1 0 1).toNatClampNeg) fun z22 => bnd (F_AR_copyOf z22 (379 + 36 * pn + 8) s21) fun s22 => s22
set_option maxHeartbeats 2000000 in
set_option maxRecDepth 100000 in
theorem N_K_secretFromTape_2 (l : Launch) (g : Gd) (sz : Nat) (T : TyN) (s : Sto) (pl : va_W) (hO : okn g T s pl) (hU : inj T) (h0 : Nat) (tl : Nat) (al : Nat) (pn : Nat) (k_h0 : T h0 = some 0) (e_tl : s.1 0 1 = nI tl) (e_al : s.1 0 3 = nI al) (e_pn : s.1 0 5 = nI pn) (h1 : tl ≤ 16384) (h2 : al ≤ 8192) (h3 : pn < 8) (h4 : tl = 3168) (hlow : lowT T (379 + 36 * pn))  : Met l y_K_secretFromTape w_K_secretFromTape ({ frames := 3, cells := 3, slots := 7491, locals := 106 } : Room) (va_Pc [.ref h0, .int (nI 2)] (pr (en g) g.1 vcl sz ([] ++ pl))) (va_Qq (fun (r : Option Nat) (u : (Sto × TyN) × va_W) => (u.1.1 = F_K_secretFromTape_2 pn s ∧ (∃ q, r = some q ∧ u.1.2 q = some (379 + 36 * pn + 6)) ∧ frm (M_K_secretFromTape_2) s u.1.1 ∧ extN T u.1.2 ∧ inj u.1.2 ∧ lowT u.1.2 (379 + 36 * (pn + 1))) ∧ okn g u.1.2 u.1.1 u.2) (po g.1 vcl (va_A ([] ++ pl) sz) (fun (u : (Sto × TyN) × va_W) => [] ++ u.2)) (va_A ([] ++ pl) sz)) 3 7491 (va_A ([] ++ pl) sz) := by
  refine mc_entry (cc := c_K_secretFromTape) (maxL := 4) (ret := (Option.some (Jvm.ClassFile.FieldType.object "LatticeKeys$KeyPair"))) (by decide) rfl (Nat.le_of_ble_eq_true rfl) ?_
  intro p e s0 m args below meth c ls F hr hlk hnm hsz hP hD hE hA hl
  obtain ⟨hx, hb, hml, hown, hts⟩ := id F
  have hK := hE.1
  generalize va_A ([] ++ pl) sz = A at hD hE hA ⊢
  have hS : va_S A s0.heap s0.heap [] := va_S.rf
  have hl : lv_has ls 4 [(0, .ref h0), (1, .int (nI 2))] := hl
  have hR : F_K_secretFromTape_2 pn s = F_K_secretFromTape_2 pn s := rfl
  have hF : frm (M_K_secretFromTape_2) s s := frm_rf
  have hXT : extN T T := extN_rf
  refine lv_aload_n hx hb dK_secretFromTape_0 rfl (lv_at hl 0 rfl) ?_
  refine nw_get (C := "LatticeKeys") (TT := T_K) (N := 11) hx hb hts (wg_ft i_K) hown hK hO k_h0 (kn := 0) (ci := 0) (fl := [(3, 1), (0, 0), (3, 2), (0, 0), (3, 3), (0, 0), (3, 4), (3, 8), (3, 12), (3, 24), (3, 39)]) rfl hP rfl 6 (by decide) (hts _ (wg_t kw_380)) (fun _ h9 => h9) (cd := (3, 4)) rfl dK_secretFromTape_1 (fun v21 hv21 => ?_)
  obtain ⟨r21, rfl, kr21⟩ := (show ∃ r : Nat, v21 = .ref r ∧ T r = some 4 from hv21)
  refine lv_iload_n hx hb dK_secretFromTape_4 rfl (lv_at hl 1 rfl) ?_
  refine nw_aald6 hx hb hK hO kr21 (k := 4) (b := 5) rfl hP (by omega) (by omega) dK_secretFromTape_5 (fun r22 kr22 => ?_)
  refine nw_get (C := "LatticeKeys$KemSet") (TT := T_KS) (N := 10) hx hb hts (wg_ft i_KS) hown hK hO kr22 (kn := 7) (ci := 1) (fl := [(1, 4), (1, 2), (1, 11), (1, 5), (1, 1568), (1, 3168), (1, 1568), (1, 1536), (1, 3104), (1, 3136)]) rfl hP rfl 7 (by decide) (hts _ (wg_t kw_248)) (fun _ h9 => h9) (cd := (1, 1536)) rfl dK_secretFromTape_6 (fun v22 hv22 => ?_)
  obtain rfl := (show v22 = .int (nI 1536) from hv22)
  refine lv_istore_n (lv' := [(2, .int (nI 1536)), (0, .ref h0), (1, .int (nI 2))]) hx hb dK_secretFromTape_9 rfl hl (by decide) rfl (fun ls hl => ?_)
  refine lv_aload_n hx hb dK_secretFromTape_10 rfl (lv_at hl 1 rfl) ?_
  refine nw_get (C := "LatticeKeys") (TT := T_K) (N := 11) hx hb hts (wg_ft i_K) hown hK hO k_h0 (kn := 0) (ci := 0) (fl := [(3, 1), (0, 0), (3, 2), (0, 0), (3, 3), (0, 0), (3, 4), (3, 8), (3, 12), (3, 24), (3, 39)]) rfl hP rfl 0 (by decide) (hts _ (wg_t kw_374)) (fun _ h9 => h9) (cd := (3, 1)) rfl dK_secretFromTape_11 (fun v23 hv23 => ?_)
  obtain ⟨r23, rfl, kr23⟩ := (show ∃ r : Nat, v23 = .ref r ∧ T r = some 1 from hv23)
  refine lv_iload_n hx hb dK_secretFromTape_14 rfl (lv_at hl 0 rfl) ?_
  refine lv_iload_n hx hb dK_secretFromTape_15 rfl (lv_at hl 0 rfl) ?_
  refine lv_aload_n hx hb dK_secretFromTape_16 rfl (lv_at hl 1 rfl) ?_
  refine lv_iload_n hx hb dK_secretFromTape_17 rfl (lv_at hl 2 rfl) ?_
  refine mp_i (cx := []) (wr := []) hP hD hS hA [] [] rfl rfl rfl (by decide) (va_runV (As := [.int (nI 2)]) (rest := [.int (nI 1536), .int (nI 1536), .ref r23]) F (N_K_publicLength_2 l g _ T s pl hO hU h0 k_h0) (cwV 1 hts (wg_app (wg_c kw_566 (wg_c kw_568 (wg_c ks_2 (wg_c kw_1 wg_n)))) kw_569) rfl rfl rfl (by decide +kernel) ⟨by decide, by decide⟩) (pn_W "LatticeKeys" (en_ok g) (ci := 0) (kn := 0) (fl := [(3, 1), (0, 0), (3, 2), (0, 0), (3, 3), (0, 0), (3, 4), (3, 8), (3, 12), (3, 24), (3, 39)]) hK hO k_h0 rfl hP hD hS hA hE [] rfl rfl rfl) rfl rfl hl.1 rfl (lv_room (Nat.le_of_ble_eq_true rfl)) dK_secretFromTape_18 ⟨Nat.le_of_ble_eq_true rfl, Nat.le_of_ble_eq_true rfl⟩) (fun r24 u21 H locs hu21 hP hD hS => ?_)
  obtain ⟨q21, pl⟩ := u21
  obtain ⟨⟨eq21, rfl, hFc21, ⟨x21, hx_21, hb_21⟩, hxp21, -⟩, hO⟩ := hu21
  have hO : okn g T q21.2 pl := hO
  have hP : va_P g.1 vcl ([] ++ pl) _ := hP
  have hD : va_D _ ([] ++ pl) := hD
  have hFc21 : frm (M_K_publicLength_2) s q21.2 := hFc21
  have hb_21 : x21 < 1569 := hb_21
  replace hR := bnd_step hR eq21
  have hF := frm_tr hF hFc21 (fun k hk => by unfold M_K_publicLength_2 at hk; unfold M_K_secretFromTape_2; omega)
  have hf21 : q21.2.1 0 1 = nI tl := fc_F e_tl hFc21 (by unfold M_K_publicLength_2; omega)
  have hf22 : q21.2.1 0 3 = nI al := fc_F e_al hFc21 (by unfold M_K_publicLength_2; omega)
  have hf23 : q21.2.1 0 5 = nI pn := fc_F e_pn hFc21 (by unfold M_K_publicLength_2; omega)
  obtain ⟨z21, ez21, hz21, hz22⟩ := cl_of (b := 2147483648) hx_21 (by omega) (by decide)
  replace hR := bnd_step hR ez21
  refine mi_as hz21 ?_
  have hsz21 : z21 = 1568 := (nI_eq (by omega) (by omega)).mp (hz21.symm.trans hxp21)
  subst hsz21
  refine W.widen (k := 0) (n := 0) (by omega) (by omega) ?_
  refine mi_iadd hx hb dK_secretFromTape_21 ?_
  refine mi_as (show nI (1536 + 1568) = nI 3104 from rfl) ?_
  have hfr21 : frT T (379 + 36 * pn + 6) := frT_low hlow (by omega)
  have hfr22 : frT T (379 + 36 * pn + 7) := frT_low hlow (by omega)
  have hfr23 : frT T (379 + 36 * pn + 8) := frT_low hlow (by omega)
  have hlw21 : lowT T (379 + 36 * (pn + 1)) := lowT_up hlow (by omega)
  refine mp_q (cx := []) (wr := []) hP hD hS hA [] [] rfl rfl rfl (by decide) (va_runS (As := [.ref r23, .int (nI 1536), .int (nI 3104)]) (rest := []) F (N_AR_copyOfRange l g _ T q21.2 pl hO hU (379 + 36 * pn + 7) r23 1536 3104 kr23 (by omega) (by omega) (by omega) (by omega) (show nsp (379 + 36 * pn + 7) = (1, 3104 - 1536, []) from (pr_p2 (z := pn) (by omega))) hfr22 (by omega)) (va_cwS 3 hts (wg_app (wg_c kw_809 (wg_c kw_810 (wg_c kw_21 wg_n))) kw_811) rfl rfl rfl (by decide +kernel) ⟨by decide, by decide⟩) (pp_S (en_ok g) hP hD hS hA hE [] rfl rfl) rfl rfl hl.1 rfl (lv_room (Nat.le_of_ble_eq_true rfl)) dK_secretFromTape_22 ⟨Nat.le_of_ble_eq_true rfl, Nat.le_of_ble_eq_true rfl⟩) (fun r25 u22 H locs hu22 hP hD hS => ?_)
  obtain ⟨⟨s21, T⟩, pl⟩ := u22
  obtain ⟨⟨eq22, ⟨q22, rfl, kr24⟩, hFc22, hxt21, hU, hnf21, hnl21⟩, hO⟩ := hu22
  have hO : okn g T s21 pl := hO
  have hP : va_P g.1 vcl ([] ++ pl) _ := hP
  have hD : va_D _ ([] ++ pl) := hD
  have hU : inj T := hU
  have eq22 : s21 = F_AR_copyOfRange 1536 3104 (379 + 36 * pn + 7) q21.2 := eq22
  have hFc22 : frm (M_AR_copyOfRange (379 + 36 * pn + 7)) q21.2 s21 := hFc22
  replace hR := bnd_step hR eq22
  have hF := frm_tr hF hFc22 (fun k hk => by unfold M_AR_copyOfRange at hk; unfold M_K_secretFromTape_2; omega)
  have hf24 : s21.1 0 1 = nI tl := fc_F hf21 hFc22 (by unfold M_AR_copyOfRange; omega)
  have hf25 : s21.1 0 3 = nI al := fc_F hf22 hFc22 (by unfold M_AR_copyOfRange; omega)
  have hf26 : s21.1 0 5 = nI pn := fc_F hf23 hFc22 (by unfold M_AR_copyOfRange; omega)
  have hnf21 : ∀ k' : Nat, k' ≠ (379 + 36 * pn + 7) → frT _ k' → frT T k' := hnf21
  have hnl21 : ∀ b : Nat, (379 + 36 * pn + 7) < b → lowT _ b → lowT T b := hnl21
  have kr25 := hxt21 _ _ k_h0
  have kr26 := hxt21 _ _ kr21
  have kr27 := hxt21 _ _ kr22
  have kr28 := hxt21 _ _ kr23
  have hXT := extN_tr hXT hxt21
  have hfr24 := hnf21 _ (by omega) hfr21
  have hfr25 := hnf21 _ (by omega) hfr23
  have hlw22 := hnl21 _ (by omega) hlw21
  refine W.widen (k := 1) (n := 2592) (by omega) (by omega) ?_
  refine lv_astore_n (lv' := [(3, .ref q22), (2, .int (nI 1536)), (0, .ref h0), (1, .int (nI 2))]) hx hb dK_secretFromTape_25 rfl hl (by decide) rfl (fun ls hl => ?_)
  refine va_new (ws := [] ++ pl) (ci := 13) (fs := [.int 0, .null, .null]) (C := "LatticeKeys$KeyPair") (T := T_KP) (N := 3) hx hb hts (wg_ft i_KP) ty_KP k_KP hown (hts _ (wg_t kw_43)) (hts _ (wg_t kw_740)) (hts _ (wg_t kw_24)) hK hP hD hS hA rfl z_KP (Nat.le_of_ble_eq_true rfl) (Nat.le_of_ble_eq_true rfl) dK_secretFromTape_26 (fun q23 H hP hD hS => ?_)
  obtain ⟨hP, hD⟩ := mv_first hP hD
  have hP : va_P g.1 vcl ([(q23, .inr (13, [.int 0, .null, .null]))] ++ pl) _ := hP
  have hD : va_D _ ([(q23, .inr (13, [.int 0, .null, .null]))] ++ pl) := hD
  refine W.widen (k := 2) (n := 2595) (by omega) (by omega) ?_
  refine lv_dup hx hb dK_secretFromTape_29 rfl ?_
  refine lv_iload_n hx hb dK_secretFromTape_30 rfl (lv_at hl 3 rfl) ?_
  refine lv_aload_n hx hb dK_secretFromTape_31 rfl (lv_at hl 0 rfl) ?_
  refine lv_aload_n hx hb dK_secretFromTape_32 rfl (lv_at hl 2 rfl) ?_
  refine nw_get (C := "LatticeKeys") (TT := T_K) (N := 11) hx hb hts (wg_ft i_K) hown hK hO kr25 (kn := 0) (ci := 0) (fl := [(3, 1), (0, 0), (3, 2), (0, 0), (3, 3), (0, 0), (3, 4), (3, 8), (3, 12), (3, 24), (3, 39)]) rfl hP rfl 0 (by decide) (hts _ (wg_t kw_374)) (fun _ h9 => h9) (cd := (3, 1)) rfl dK_secretFromTape_33 (fun v24 hv24 => ?_)
  obtain ⟨r26, rfl, kr29⟩ := (show ∃ r : Nat, v24 = .ref r ∧ T r = some 1 from hv24)
  refine lv_aload_n hx hb dK_secretFromTape_36 rfl (lv_at hl 2 rfl) ?_
  refine nw_get (C := "LatticeKeys") (TT := T_K) (N := 11) hx hb hts (wg_ft i_K) hown hK hO kr25 (kn := 0) (ci := 0) (fl := [(3, 1), (0, 0), (3, 2), (0, 0), (3, 3), (0, 0), (3, 4), (3, 8), (3, 12), (3, 24), (3, 39)]) rfl hP rfl 1 (by decide) (hts _ (wg_t kw_375)) (fun _ h9 => h9) (cd := (0, 0)) rfl dK_secretFromTape_37 (fun v25 hv25 => ?_)
  obtain rfl := (show v25 = .int (s21.1 0 1) from hv25)
  obtain ⟨z22, ez22, hz23, hz24⟩ := cl_of (b := 2147483648) hf24 (by omega) (by decide)
  replace hR := bnd_step hR ez22
  refine mi_as hz23 ?_
  refine mp_q (cx := []) (wr := [(q23, .inr (13, [.int 0, .null, .null]))]) hP hD hS hA [] [0] rfl rfl rfl (by decide) (va_runS (As := [.ref r26, .int (nI z22)]) (rest := [.ref q22, .int (nI 2), .ref q23, .ref q23]) F (N_AR_copyOf l g _ T s21 pl hO hU (379 + 36 * pn + 8) r26 z22 kr29 (by omega) (by omega) (by rw [show z22 = 3168 by omega]; exact (pr_s2 (z := pn) (by omega))) hfr25 (by omega)) (va_cwS 2 hts (wg_app (wg_c kw_1047 (wg_c kw_880 (wg_c kw_21 wg_n))) kw_881) rfl rfl rfl (by decide +kernel) ⟨by decide, by decide⟩) (pp_S (en_ok g) hP hD hS hA hE [] rfl rfl) rfl rfl hl.1 rfl (lv_room (Nat.le_of_ble_eq_true rfl)) dK_secretFromTape_40 ⟨Nat.le_of_ble_eq_true rfl, Nat.le_of_ble_eq_true rfl⟩) (fun r27 u23 H locs hu23 hP hD hS => ?_)
  obtain ⟨⟨s22, T⟩, pl⟩ := u23
  obtain ⟨⟨eq23, ⟨q24, rfl, kr30⟩, hFc23, hxt22, hU, hnf22, hnl22⟩, hO⟩ := hu23
  have hO : okn g T s22 pl := hO
  have hP : va_P g.1 vcl ([(q23, .inr (13, [.int 0, .null, .null]))] ++ pl) _ := hP
  have hD : va_D _ ([(q23, .inr (13, [.int 0, .null, .null]))] ++ pl) := hD
  have hU : inj T := hU
  have eq23 : s22 = F_AR_copyOf z22 (379 + 36 * pn + 8) s21 := eq23
  have hFc23 : frm (M_AR_copyOf (379 + 36 * pn + 8)) s21 s22 := hFc23
  replace hR := bnd_step hR eq23
  have hF := frm_tr hF hFc23 (fun k hk => by unfold M_AR_copyOf at hk; unfold M_K_secretFromTape_2; omega)
  have hf27 : s22.1 0 1 = nI tl := fc_F hf24 hFc23 (by unfold M_AR_copyOf; omega)
  have hf28 : s22.1 0 3 = nI al := fc_F hf25 hFc23 (by unfold M_AR_copyOf; omega)
  have hf29 : s22.1 0 5 = nI pn := fc_F hf26 hFc23 (by unfold M_AR_copyOf; omega)
  have hnf22 : ∀ k' : Nat, k' ≠ (379 + 36 * pn + 8) → frT _ k' → frT T k' := hnf22
  have hnl22 : ∀ b : Nat, (379 + 36 * pn + 8) < b → lowT _ b → lowT T b := hnl22
  have kr31 := hxt22 _ _ kr25
  have kr32 := hxt22 _ _ kr26
  have kr33 := hxt22 _ _ kr27
  have kr34 := hxt22 _ _ kr28
  have kr35 := hxt22 _ _ kr24
  have kr36 := hxt22 _ _ kr29
  have hXT := extN_tr hXT hxt22
  have hfr26 := hnf22 _ (by omega) hfr24
  have hlw23 := hnl22 _ (by omega) hlw22
  refine W.widen (k := 3) (n := 7491) (by omega) (by omega) ?_
  refine mq_v (cx := [(q23, .inr (13, [.int 0, .null, .null]))]) (wr := []) hP hD hS hA [0] [] rfl rfl rfl (by decide) (va_runI (As := [.int (nI 2), .ref q22, .ref q24]) (rest := [.ref q23]) F (m_KP_init_s l g _ q23 q22 q24 (nI 2)) (cwI 3 hts (wg_in kw_743) rfl rfl rfl (hts _ (wg_t kw_24)) (hts _ (wg_t kw_741)) (hts _ (wg_t kw_742)) rfl (by decide +kernel) ⟨by decide, by decide⟩) (pr_S (en_ok g) hP hD hS hA hE [0] rfl rfl) rfl rfl hl.1 rfl (lv_room (Nat.le_of_ble_eq_true rfl)) dK_secretFromTape_43 ⟨Nat.le_of_ble_eq_true rfl, Nat.le_of_ble_eq_true rfl⟩) (fun _ H locs _ hP hD hS => ?_)
  obtain ⟨hP, hD⟩ := mv_last (X := []) (c := (q23, .inr (13, [.int (nI 2), .ref q22, .ref q24]))) hP hD
  refine W.widen (k := 3) (n := 7491) (by omega) (by omega) ?_
  obtain ⟨T, pl, hxt23, hU, kr37, hO, hP, hD, hnf23, hnl23⟩ := absorbN (s22) (379 + 36 * pn + 6) hP hD hO hU hfr26 (fun _ _ => rfl) (fun _ _ => rfl) (fun _ h9 _ => fitP (pr_o2 (z := pn) (by omega)) (h9 _ _ kr35) (h9 _ _ kr30))
  have kr38 := hxt23 _ _ kr31
  have kr39 := hxt23 _ _ kr32
  have kr40 := hxt23 _ _ kr33
  have kr41 := hxt23 _ _ kr34
  have kr42 := hxt23 _ _ kr35
  have kr43 := hxt23 _ _ kr36
  have kr44 := hxt23 _ _ kr30
  have hXT := extN_tr hXT hxt23
  have hlw24 := hnl23 _ (by omega) hlw23
  exact mp_qret (v := some q23) hx hb hr (Or.inl ⟨_, rfl⟩) hlk hP hD hS ((s22, T), pl) ⟨⟨hR.symm, ⟨_, rfl, kr37⟩, hF, hXT, hU, hlw24⟩, hO⟩ [] rfl rfl rfl (by omega) (by omega) dK_secretFromTape_46
