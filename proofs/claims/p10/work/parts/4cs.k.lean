set_option linter.all false
abbrev c_K_isSound : ByteArray := prog_1_method_24_code
abbrev y_K_isSound : MethodName := ⟨"LatticeKeys", "isSound", "(LLatticeKeys$KemSet;Z)Z"⟩
abbrev w_K_isSound : List Cond := Cond.code y_K_isSound c_K_isSound 3 (some .boolean) :: WG
theorem dK_isSound_0 : decode c_K_isSound 0 = .ok (.iload_n 2, 1) := by decide +kernel
theorem dK_isSound_1 : decode c_K_isSound 1 = .ok (.ifCond .eq 18, 3) := by decide +kernel
theorem dK_isSound_4 : decode c_K_isSound 4 = .ok (.aload_n 0, 1) := by decide +kernel
theorem dK_isSound_5 : decode c_K_isSound 5 = .ok (.getfield 54, 3) := by decide +kernel
theorem dK_isSound_8 : decode c_K_isSound 8 = .ok (.aload_n 1, 1) := by decide +kernel
theorem dK_isSound_9 : decode c_K_isSound 9 = .ok (.aload_n 0, 1) := by decide +kernel
theorem dK_isSound_10 : decode c_K_isSound 10 = .ok (.getfield 9, 3) := by decide +kernel
theorem dK_isSound_13 : decode c_K_isSound 13 = .ok (.invokevirtual 249, 3) := by decide +kernel
theorem dK_isSound_16 : decode c_K_isSound 16 = .ok (.goto 15, 3) := by decide +kernel
theorem dK_isSound_19 : decode c_K_isSound 19 = .ok (.aload_n 0, 1) := by decide +kernel
theorem dK_isSound_20 : decode c_K_isSound 20 = .ok (.getfield 54, 3) := by decide +kernel
theorem dK_isSound_23 : decode c_K_isSound 23 = .ok (.aload_n 1, 1) := by decide +kernel
theorem dK_isSound_24 : decode c_K_isSound 24 = .ok (.aload_n 0, 1) := by decide +kernel
theorem dK_isSound_25 : decode c_K_isSound 25 = .ok (.getfield 9, 3) := by decide +kernel
theorem dK_isSound_28 : decode c_K_isSound 28 = .ok (.invokevirtual 253, 3) := by decide +kernel
theorem dK_isSound_31 : decode c_K_isSound 31 = .ok (.ireturn, 1) := by decide +kernel
abbrev c_K_isLoadable : ByteArray := prog_1_method_23_code
abbrev y_K_isLoadable : MethodName := ⟨"LatticeKeys", "isLoadable", "(IZ)Z"⟩
abbrev w_K_isLoadable : List Cond := Cond.code y_K_isLoadable c_K_isLoadable 3 (some .boolean) :: WG
theorem dK_isLoadable_0 : decode c_K_isLoadable 0 = .ok (.iload_n 1, 1) := by decide +kernel
theorem dK_isLoadable_1 : decode c_K_isLoadable 1 = .ok (.invokestatic 95, 3) := by decide +kernel
theorem dK_isLoadable_4 : decode c_K_isLoadable 4 = .ok (.ifCond .eq 12, 3) := by decide +kernel
theorem dK_isLoadable_7 : decode c_K_isLoadable 7 = .ok (.iload_n 2, 1) := by decide +kernel
theorem dK_isLoadable_8 : decode c_K_isLoadable 8 = .ok (.ifCond .eq 10, 3) := by decide +kernel
theorem dK_isLoadable_11 : decode c_K_isLoadable 11 = .ok (.iload_n 1, 1) := by decide +kernel
theorem dK_isLoadable_12 : decode c_K_isLoadable 12 = .ok (.iconst 3, 1) := by decide +kernel
theorem dK_isLoadable_13 : decode c_K_isLoadable 13 = .ok (.if_icmp .lt 5, 3) := by decide +kernel
theorem dK_isLoadable_16 : decode c_K_isLoadable 16 = .ok (.iconst 0, 1) := by decide +kernel
theorem dK_isLoadable_17 : decode c_K_isLoadable 17 = .ok (.ireturn, 1) := by decide +kernel
theorem dK_isLoadable_18 : decode c_K_isLoadable 18 = .ok (.aload_n 0, 1) := by decide +kernel
theorem dK_isLoadable_19 : decode c_K_isLoadable 19 = .ok (.getfield 13, 3) := by decide +kernel
theorem dK_isLoadable_22 : decode c_K_isLoadable 22 = .ok (.iload_n 2, 1) := by decide +kernel
theorem dK_isLoadable_23 : decode c_K_isLoadable 23 = .ok (.ifCond .eq 11, 3) := by decide +kernel
theorem dK_isLoadable_26 : decode c_K_isLoadable 26 = .ok (.aload_n 0, 1) := by decide +kernel
theorem dK_isLoadable_27 : decode c_K_isLoadable 27 = .ok (.iload_n 1, 1) := by decide +kernel
theorem dK_isLoadable_28 : decode c_K_isLoadable 28 = .ok (.invokevirtual 110, 3) := by decide +kernel
theorem dK_isLoadable_31 : decode c_K_isLoadable 31 = .ok (.goto 8, 3) := by decide +kernel
theorem dK_isLoadable_34 : decode c_K_isLoadable 34 = .ok (.aload_n 0, 1) := by decide +kernel
theorem dK_isLoadable_35 : decode c_K_isLoadable 35 = .ok (.iload_n 1, 1) := by decide +kernel
theorem dK_isLoadable_36 : decode c_K_isLoadable 36 = .ok (.invokevirtual 107, 3) := by decide +kernel
theorem dK_isLoadable_39 : decode c_K_isLoadable 39 = .ok (.if_icmp .ne 7, 3) := by decide +kernel
theorem dK_isLoadable_42 : decode c_K_isLoadable 42 = .ok (.iconst 1, 1) := by decide +kernel
theorem dK_isLoadable_43 : decode c_K_isLoadable 43 = .ok (.goto 4, 3) := by decide +kernel
theorem dK_isLoadable_46 : decode c_K_isLoadable 46 = .ok (.iconst 0, 1) := by decide +kernel
theorem dK_isLoadable_47 : decode c_K_isLoadable 47 = .ok (.ireturn, 1) := by decide +kernel
def M_K_isSound_0 (k : Nat) : Prop := k = 14 ∨ k = 31 ∨ k = 33 ∨ (0 : Nat) = 1
noncomputable def F_K_isSound_0 (sc : Int32) (s : Sto) : Int32 × Sto := if sc = 0 then bnd (F_KM_numbersFit_0 1 16384 s) fun q21 => (q21.1, q21.2) else bnd (F_KM_hashFits_0 1 16384 s) fun q22 => (q22.1, q22.2)
set_option maxHeartbeats 2000000 in
set_option maxRecDepth 100000 in
theorem N_K_isSound_0 (l : Launch) (g : Gd) (sz : Nat) (T : TyN) (s : Sto) (pl : va_W) (hO : okn g T s pl) (hU : inj T) (h0 st : Nat) (sc : Int32) (k_h0 : T h0 = some 0) (k_st : T st = some 5)  : Met l y_K_isSound w_K_isSound ({ frames := 5, cells := 0, slots := 0, locals := 146 } : Room) (va_Pc [.ref h0, .ref st, .int sc] (pr (en g) g.1 vcl sz ([] ++ pl))) (va_Qi (fun (r : Int32) (u : (Int32 × Sto) × va_W) => (u.1 = F_K_isSound_0 sc s ∧ r = u.1.1 ∧ frm (M_K_isSound_0) s u.1.2 ∧ (zo u.1.1) ∧ True) ∧ okn g T u.1.2 u.2) (po g.1 vcl (va_A ([] ++ pl) sz) (fun (u : (Int32 × Sto) × va_W) => [] ++ u.2)) (va_A ([] ++ pl) sz)) 0 0 (va_A ([] ++ pl) sz) := by
  refine mc_entry (cc := c_K_isSound) (maxL := 3) (ret := (some .boolean)) (by decide) rfl (Nat.le_of_ble_eq_true rfl) ?_
  intro p e s0 m args below meth c ls F hr hlk hnm hsz hP hD hE hA hl
  obtain ⟨hx, hb, hml, hown, hts⟩ := id F
  have hK := hE.1
  generalize va_A ([] ++ pl) sz = A at hD hE hA ⊢
  have hS : va_S A s0.heap s0.heap [] := va_S.rf
  have hl : lv_has ls 3 [(0, .ref h0), (1, .ref st), (2, .int sc)] := hl
  have hR : F_K_isSound_0 sc s = F_K_isSound_0 sc s := rfl
  have hF : frm (M_K_isSound_0) s s := frm_rf
  refine lv_iload_n hx hb dK_isSound_0 rfl (lv_at hl 2 rfl) ?_
  refine lv_if_eq (tgt := 19) hx hb dK_isSound_1 (by decide) (fun h21 => ?_) (fun h21 => ?_)
  · replace hR := hR.trans (if_pos h21)
    refine lv_aload_n hx hb dK_isSound_19 rfl (lv_at hl 0 rfl) ?_
    refine nw_get (C := "LatticeKeys") (TT := T_K) (N := 11) hx hb hts (wg_ft i_K) hown hK hO k_h0 (kn := 0) (ci := 0) (fl := [(3, 1), (0, 0), (3, 2), (0, 0), (3, 3), (0, 0), (3, 4), (3, 8), (3, 12), (3, 24), (3, 39)]) rfl hP rfl 9 (by decide) (hts _ (wg_t kw_383)) (fun _ h9 => h9) (cd := (3, 24)) rfl dK_isSound_20 (fun v21 hv21 => ?_)
    obtain ⟨r21, rfl, kr21⟩ := (show ∃ r : Nat, v21 = .ref r ∧ T r = some 24 from hv21)
    refine lv_aload_n hx hb dK_isSound_23 rfl (lv_at hl 1 rfl) ?_
    refine lv_aload_n hx hb dK_isSound_24 rfl (lv_at hl 0 rfl) ?_
    refine nw_get (C := "LatticeKeys") (TT := T_K) (N := 11) hx hb hts (wg_ft i_K) hown hK hO k_h0 (kn := 0) (ci := 0) (fl := [(3, 1), (0, 0), (3, 2), (0, 0), (3, 3), (0, 0), (3, 4), (3, 8), (3, 12), (3, 24), (3, 39)]) rfl hP rfl 0 (by decide) (hts _ (wg_t kw_374)) (fun _ h9 => h9) (cd := (3, 1)) rfl dK_isSound_25 (fun v22 hv22 => ?_)
    obtain ⟨r22, rfl, kr22⟩ := (show ∃ r : Nat, v22 = .ref r ∧ T r = some 1 from hv22)
    refine mp_i (cx := []) (wr := []) hP hD hS hA [] [] rfl rfl rfl (by decide) (va_runV (As := [.ref st, .ref r22]) (rest := []) F (N_KM_numbersFit_0 l g _ T s pl hO hU r21 st r22 1 16384 kr21 k_st kr22 rfl (by omega) (by omega)) (cwV 2 hts (wg_app (wg_c kw_785 (wg_c kw_786 (wg_c kw_787 (wg_c kw_3 wg_n)))) kw_788) rfl rfl rfl (by decide +kernel) ⟨by decide, by decide⟩) (pn_W "LatticeKeys$Kem" (en_ok g) (ci := 5) (kn := 24) (fl := [(3, 14), (3, 20), (3, 25), (3, 30), (3, 31), (3, 32), (3, 33), (3, 34), (3, 35), (3, 36)]) hK hO kr21 rfl hP hD hS hA hE [] rfl rfl rfl) rfl rfl hl.1 rfl (lv_room (Nat.le_of_ble_eq_true rfl)) dK_isSound_28 ⟨by omega, by omega⟩) (fun r23 u21 H locs hu21 hP hD hS => ?_)
    obtain ⟨q21, pl⟩ := u21
    obtain ⟨⟨eq21, rfl, hFc21, -⟩, hO⟩ := hu21
    have hO : okn g T q21.2 pl := hO
    have hP : va_P g.1 vcl ([] ++ pl) _ := hP
    have hD : va_D _ ([] ++ pl) := hD
    have hFc21 : frm (M_KM_numbersFit_0) s q21.2 := hFc21
    replace hR := bnd_step hR eq21
    have hF := frm_tr hF hFc21 (fun k hk => by unfold M_KM_numbersFit_0 at hk; unfold M_K_isSound_0; omega)
    have hbl21 : zo q21.1 := by rw [show q21 = _ from eq21]; exact (nf0_bl (by decide))
    refine W.widen (k := 0) (n := 0) (by omega) (by omega) ?_
    exact mp_zret hx hb hr hlk (nar_zo hbl21) hP hD hS ((q21.1, q21.2), pl) ⟨⟨hR.symm, rfl, hF, hbl21, trivial⟩, hO⟩ [] rfl rfl rfl (by omega) (by omega) dK_isSound_31
  · replace hR := hR.trans (if_neg h21)
    refine lv_aload_n hx hb dK_isSound_4 rfl (lv_at hl 0 rfl) ?_
    refine nw_get (C := "LatticeKeys") (TT := T_K) (N := 11) hx hb hts (wg_ft i_K) hown hK hO k_h0 (kn := 0) (ci := 0) (fl := [(3, 1), (0, 0), (3, 2), (0, 0), (3, 3), (0, 0), (3, 4), (3, 8), (3, 12), (3, 24), (3, 39)]) rfl hP rfl 9 (by decide) (hts _ (wg_t kw_383)) (fun _ h9 => h9) (cd := (3, 24)) rfl dK_isSound_5 (fun v23 hv23 => ?_)
    obtain ⟨r24, rfl, kr23⟩ := (show ∃ r : Nat, v23 = .ref r ∧ T r = some 24 from hv23)
    refine lv_aload_n hx hb dK_isSound_8 rfl (lv_at hl 1 rfl) ?_
    refine lv_aload_n hx hb dK_isSound_9 rfl (lv_at hl 0 rfl) ?_
    refine nw_get (C := "LatticeKeys") (TT := T_K) (N := 11) hx hb hts (wg_ft i_K) hown hK hO k_h0 (kn := 0) (ci := 0) (fl := [(3, 1), (0, 0), (3, 2), (0, 0), (3, 3), (0, 0), (3, 4), (3, 8), (3, 12), (3, 24), (3, 39)]) rfl hP rfl 0 (by decide) (hts _ (wg_t kw_374)) (fun _ h9 => h9) (cd := (3, 1)) rfl dK_isSound_10 (fun v24 hv24 => ?_)
    obtain ⟨r25, rfl, kr24⟩ := (show ∃ r : Nat, v24 = .ref r ∧ T r = some 1 from hv24)
    refine mp_i (cx := []) (wr := []) hP hD hS hA [] [] rfl rfl rfl (by decide) (va_runV (As := [.ref st, .ref r25]) (rest := []) F (N_KM_hashFits_0 l g _ T s pl hO hU r24 st r25 1 16384 kr23 k_st kr24 rfl (by omega) (by omega)) (cwV 2 hts (wg_app (wg_c kw_781 (wg_c kw_782 (wg_c kw_783 (wg_c kw_3 wg_n)))) kw_784) rfl rfl rfl (by decide +kernel) ⟨by decide, by decide⟩) (pn_W "LatticeKeys$Kem" (en_ok g) (ci := 5) (kn := 24) (fl := [(3, 14), (3, 20), (3, 25), (3, 30), (3, 31), (3, 32), (3, 33), (3, 34), (3, 35), (3, 36)]) hK hO kr23 rfl hP hD hS hA hE [] rfl rfl rfl) rfl rfl hl.1 rfl (lv_room (Nat.le_of_ble_eq_true rfl)) dK_isSound_13 ⟨by omega, by omega⟩) (fun r26 u22 H locs hu22 hP hD hS => ?_)
    obtain ⟨q22, pl⟩ := u22
    obtain ⟨⟨eq22, rfl, hFc22, -⟩, hO⟩ := hu22
    have hO : okn g T q22.2 pl := hO
    have hP : va_P g.1 vcl ([] ++ pl) _ := hP
    have hD : va_D _ ([] ++ pl) := hD
    have hFc22 : frm (M_KM_hashFits_0) s q22.2 := hFc22
    replace hR := bnd_step hR eq22
    have hF := frm_tr hF hFc22 (fun k hk => by unfold M_KM_hashFits_0 at hk; unfold M_K_isSound_0; omega)
    have hbl22 : zo q22.1 := by rw [show q22 = _ from eq22]; exact hf0_bl
    refine W.widen (k := 0) (n := 0) (by omega) (by omega) ?_
    refine lv_goto (tgt := 31) hx hb dK_isSound_16 (by decide) ?_
    exact mp_zret hx hb hr hlk (nar_zo hbl22) hP hD hS ((q22.1, q22.2), pl) ⟨⟨hR.symm, rfl, hF, hbl22, trivial⟩, hO⟩ [] rfl rfl rfl (by omega) (by omega) dK_isSound_31
def M_K_isSound_1 (k : Nat) : Prop := k = 14 ∨ k = 31 ∨ k = 33 ∨ (0 : Nat) = 1
noncomputable def F_K_isSound_1 (sc : Int32) (s : Sto) : Int32 × Sto := if sc = 0 then bnd (F_KM_numbersFit_1 1 16384 s) fun q21 => (q21.1, q21.2) else bnd (F_KM_hashFits_1 1 16384 s) fun q22 => (q22.1, q22.2)
set_option maxHeartbeats 2000000 in
set_option maxRecDepth 100000 in
theorem N_K_isSound_1 (l : Launch) (g : Gd) (sz : Nat) (T : TyN) (s : Sto) (pl : va_W) (hO : okn g T s pl) (hU : inj T) (h0 st : Nat) (sc : Int32) (k_h0 : T h0 = some 0) (k_st : T st = some 6)  : Met l y_K_isSound w_K_isSound ({ frames := 5, cells := 0, slots := 0, locals := 146 } : Room) (va_Pc [.ref h0, .ref st, .int sc] (pr (en g) g.1 vcl sz ([] ++ pl))) (va_Qi (fun (r : Int32) (u : (Int32 × Sto) × va_W) => (u.1 = F_K_isSound_1 sc s ∧ r = u.1.1 ∧ frm (M_K_isSound_1) s u.1.2 ∧ (zo u.1.1) ∧ True) ∧ okn g T u.1.2 u.2) (po g.1 vcl (va_A ([] ++ pl) sz) (fun (u : (Int32 × Sto) × va_W) => [] ++ u.2)) (va_A ([] ++ pl) sz)) 0 0 (va_A ([] ++ pl) sz) := by
  refine mc_entry (cc := c_K_isSound) (maxL := 3) (ret := (some .boolean)) (by decide) rfl (Nat.le_of_ble_eq_true rfl) ?_
  intro p e s0 m args below meth c ls F hr hlk hnm hsz hP hD hE hA hl
  obtain ⟨hx, hb, hml, hown, hts⟩ := id F
  have hK := hE.1
  generalize va_A ([] ++ pl) sz = A at hD hE hA ⊢
  have hS : va_S A s0.heap s0.heap [] := va_S.rf
  have hl : lv_has ls 3 [(0, .ref h0), (1, .ref st), (2, .int sc)] := hl
  have hR : F_K_isSound_1 sc s = F_K_isSound_1 sc s := rfl
  have hF : frm (M_K_isSound_1) s s := frm_rf
  refine lv_iload_n hx hb dK_isSound_0 rfl (lv_at hl 2 rfl) ?_
  refine lv_if_eq (tgt := 19) hx hb dK_isSound_1 (by decide) (fun h21 => ?_) (fun h21 => ?_)
  · replace hR := hR.trans (if_pos h21)
    refine lv_aload_n hx hb dK_isSound_19 rfl (lv_at hl 0 rfl) ?_
    refine nw_get (C := "LatticeKeys") (TT := T_K) (N := 11) hx hb hts (wg_ft i_K) hown hK hO k_h0 (kn := 0) (ci := 0) (fl := [(3, 1), (0, 0), (3, 2), (0, 0), (3, 3), (0, 0), (3, 4), (3, 8), (3, 12), (3, 24), (3, 39)]) rfl hP rfl 9 (by decide) (hts _ (wg_t kw_383)) (fun _ h9 => h9) (cd := (3, 24)) rfl dK_isSound_20 (fun v21 hv21 => ?_)
    obtain ⟨r21, rfl, kr21⟩ := (show ∃ r : Nat, v21 = .ref r ∧ T r = some 24 from hv21)
    refine lv_aload_n hx hb dK_isSound_23 rfl (lv_at hl 1 rfl) ?_
    refine lv_aload_n hx hb dK_isSound_24 rfl (lv_at hl 0 rfl) ?_
    refine nw_get (C := "LatticeKeys") (TT := T_K) (N := 11) hx hb hts (wg_ft i_K) hown hK hO k_h0 (kn := 0) (ci := 0) (fl := [(3, 1), (0, 0), (3, 2), (0, 0), (3, 3), (0, 0), (3, 4), (3, 8), (3, 12), (3, 24), (3, 39)]) rfl hP rfl 0 (by decide) (hts _ (wg_t kw_374)) (fun _ h9 => h9) (cd := (3, 1)) rfl dK_isSound_25 (fun v22 hv22 => ?_)
    obtain ⟨r22, rfl, kr22⟩ := (show ∃ r : Nat, v22 = .ref r ∧ T r = some 1 from hv22)
    refine mp_i (cx := []) (wr := []) hP hD hS hA [] [] rfl rfl rfl (by decide) (va_runV (As := [.ref st, .ref r22]) (rest := []) F (N_KM_numbersFit_1 l g _ T s pl hO hU r21 st r22 1 16384 kr21 k_st kr22 rfl (by omega) (by omega)) (cwV 2 hts (wg_app (wg_c kw_785 (wg_c kw_786 (wg_c kw_787 (wg_c kw_3 wg_n)))) kw_788) rfl rfl rfl (by decide +kernel) ⟨by decide, by decide⟩) (pn_W "LatticeKeys$Kem" (en_ok g) (ci := 5) (kn := 24) (fl := [(3, 14), (3, 20), (3, 25), (3, 30), (3, 31), (3, 32), (3, 33), (3, 34), (3, 35), (3, 36)]) hK hO kr21 rfl hP hD hS hA hE [] rfl rfl rfl) rfl rfl hl.1 rfl (lv_room (Nat.le_of_ble_eq_true rfl)) dK_isSound_28 ⟨by omega, by omega⟩) (fun r23 u21 H locs hu21 hP hD hS => ?_)
    obtain ⟨q21, pl⟩ := u21
    obtain ⟨⟨eq21, rfl, hFc21, -⟩, hO⟩ := hu21
    have hO : okn g T q21.2 pl := hO
    have hP : va_P g.1 vcl ([] ++ pl) _ := hP
    have hD : va_D _ ([] ++ pl) := hD
    have hFc21 : frm (M_KM_numbersFit_1) s q21.2 := hFc21
    replace hR := bnd_step hR eq21
    have hF := frm_tr hF hFc21 (fun k hk => by unfold M_KM_numbersFit_1 at hk; unfold M_K_isSound_1; omega)
    have hbl21 : zo q21.1 := by rw [show q21 = _ from eq21]; exact (nf1_bl (by decide))
    refine W.widen (k := 0) (n := 0) (by omega) (by omega) ?_
    exact mp_zret hx hb hr hlk (nar_zo hbl21) hP hD hS ((q21.1, q21.2), pl) ⟨⟨hR.symm, rfl, hF, hbl21, trivial⟩, hO⟩ [] rfl rfl rfl (by omega) (by omega) dK_isSound_31
  · replace hR := hR.trans (if_neg h21)
    refine lv_aload_n hx hb dK_isSound_4 rfl (lv_at hl 0 rfl) ?_
    refine nw_get (C := "LatticeKeys") (TT := T_K) (N := 11) hx hb hts (wg_ft i_K) hown hK hO k_h0 (kn := 0) (ci := 0) (fl := [(3, 1), (0, 0), (3, 2), (0, 0), (3, 3), (0, 0), (3, 4), (3, 8), (3, 12), (3, 24), (3, 39)]) rfl hP rfl 9 (by decide) (hts _ (wg_t kw_383)) (fun _ h9 => h9) (cd := (3, 24)) rfl dK_isSound_5 (fun v23 hv23 => ?_)
    obtain ⟨r24, rfl, kr23⟩ := (show ∃ r : Nat, v23 = .ref r ∧ T r = some 24 from hv23)
    refine lv_aload_n hx hb dK_isSound_8 rfl (lv_at hl 1 rfl) ?_
    refine lv_aload_n hx hb dK_isSound_9 rfl (lv_at hl 0 rfl) ?_
    refine nw_get (C := "LatticeKeys") (TT := T_K) (N := 11) hx hb hts (wg_ft i_K) hown hK hO k_h0 (kn := 0) (ci := 0) (fl := [(3, 1), (0, 0), (3, 2), (0, 0), (3, 3), (0, 0), (3, 4), (3, 8), (3, 12), (3, 24), (3, 39)]) rfl hP rfl 0 (by decide) (hts _ (wg_t kw_374)) (fun _ h9 => h9) (cd := (3, 1)) rfl dK_isSound_10 (fun v24 hv24 => ?_)
    obtain ⟨r25, rfl, kr24⟩ := (show ∃ r : Nat, v24 = .ref r ∧ T r = some 1 from hv24)
    refine mp_i (cx := []) (wr := []) hP hD hS hA [] [] rfl rfl rfl (by decide) (va_runV (As := [.ref st, .ref r25]) (rest := []) F (N_KM_hashFits_1 l g _ T s pl hO hU r24 st r25 1 16384 kr23 k_st kr24 rfl (by omega) (by omega)) (cwV 2 hts (wg_app (wg_c kw_781 (wg_c kw_782 (wg_c kw_783 (wg_c kw_3 wg_n)))) kw_784) rfl rfl rfl (by decide +kernel) ⟨by decide, by decide⟩) (pn_W "LatticeKeys$Kem" (en_ok g) (ci := 5) (kn := 24) (fl := [(3, 14), (3, 20), (3, 25), (3, 30), (3, 31), (3, 32), (3, 33), (3, 34), (3, 35), (3, 36)]) hK hO kr23 rfl hP hD hS hA hE [] rfl rfl rfl) rfl rfl hl.1 rfl (lv_room (Nat.le_of_ble_eq_true rfl)) dK_isSound_13 ⟨by omega, by omega⟩) (fun r26 u22 H locs hu22 hP hD hS => ?_)
    obtain ⟨q22, pl⟩ := u22
    obtain ⟨⟨eq22, rfl, hFc22, -⟩, hO⟩ := hu22
    have hO : okn g T q22.2 pl := hO
    have hP : va_P g.1 vcl ([] ++ pl) _ := hP
    have hD : va_D _ ([] ++ pl) := hD
    have hFc22 : frm (M_KM_hashFits_1) s q22.2 := hFc22
    replace hR := bnd_step hR eq22
    have hF := frm_tr hF hFc22 (fun k hk => by unfold M_KM_hashFits_1 at hk; unfold M_K_isSound_1; omega)
    have hbl22 : zo q22.1 := by rw [show q22 = _ from eq22]; exact hf1_bl
    refine W.widen (k := 0) (n := 0) (by omega) (by omega) ?_
    refine lv_goto (tgt := 31) hx hb dK_isSound_16 (by decide) ?_
    exact mp_zret hx hb hr hlk (nar_zo hbl22) hP hD hS ((q22.1, q22.2), pl) ⟨⟨hR.symm, rfl, hF, hbl22, trivial⟩, hO⟩ [] rfl rfl rfl (by omega) (by omega) dK_isSound_31
def M_K_isSound_2 (k : Nat) : Prop := k = 14 ∨ k = 31 ∨ k = 33 ∨ (0 : Nat) = 1
noncomputable def F_K_isSound_2 (sc : Int32) (s : Sto) : Int32 × Sto := if sc = 0 then bnd (F_KM_numbersFit_2 1 16384 s) fun q21 => (q21.1, q21.2) else bnd (F_KM_hashFits_2 1 16384 s) fun q22 => (q22.1, q22.2)
set_option maxHeartbeats 2000000 in
set_option maxRecDepth 100000 in
theorem N_K_isSound_2 (l : Launch) (g : Gd) (sz : Nat) (T : TyN) (s : Sto) (pl : va_W) (hO : okn g T s pl) (hU : inj T) (h0 st : Nat) (sc : Int32) (k_h0 : T h0 = some 0) (k_st : T st = some 7)  : Met l y_K_isSound w_K_isSound ({ frames := 5, cells := 0, slots := 0, locals := 146 } : Room) (va_Pc [.ref h0, .ref st, .int sc] (pr (en g) g.1 vcl sz ([] ++ pl))) (va_Qi (fun (r : Int32) (u : (Int32 × Sto) × va_W) => (u.1 = F_K_isSound_2 sc s ∧ r = u.1.1 ∧ frm (M_K_isSound_2) s u.1.2 ∧ (zo u.1.1) ∧ True) ∧ okn g T u.1.2 u.2) (po g.1 vcl (va_A ([] ++ pl) sz) (fun (u : (Int32 × Sto) × va_W) => [] ++ u.2)) (va_A ([] ++ pl) sz)) 0 0 (va_A ([] ++ pl) sz) := by
  refine mc_entry (cc := c_K_isSound) (maxL := 3) (ret := (some .boolean)) (by decide) rfl (Nat.le_of_ble_eq_true rfl) ?_
  intro p e s0 m args below meth c ls F hr hlk hnm hsz hP hD hE hA hl
  obtain ⟨hx, hb, hml, hown, hts⟩ := id F
  have hK := hE.1
  generalize va_A ([] ++ pl) sz = A at hD hE hA ⊢
  have hS : va_S A s0.heap s0.heap [] := va_S.rf
  have hl : lv_has ls 3 [(0, .ref h0), (1, .ref st), (2, .int sc)] := hl
  have hR : F_K_isSound_2 sc s = F_K_isSound_2 sc s := rfl
  have hF : frm (M_K_isSound_2) s s := frm_rf
  refine lv_iload_n hx hb dK_isSound_0 rfl (lv_at hl 2 rfl) ?_
  refine lv_if_eq (tgt := 19) hx hb dK_isSound_1 (by decide) (fun h21 => ?_) (fun h21 => ?_)
  · replace hR := hR.trans (if_pos h21)
    refine lv_aload_n hx hb dK_isSound_19 rfl (lv_at hl 0 rfl) ?_
    refine nw_get (C := "LatticeKeys") (TT := T_K) (N := 11) hx hb hts (wg_ft i_K) hown hK hO k_h0 (kn := 0) (ci := 0) (fl := [(3, 1), (0, 0), (3, 2), (0, 0), (3, 3), (0, 0), (3, 4), (3, 8), (3, 12), (3, 24), (3, 39)]) rfl hP rfl 9 (by decide) (hts _ (wg_t kw_383)) (fun _ h9 => h9) (cd := (3, 24)) rfl dK_isSound_20 (fun v21 hv21 => ?_)
    obtain ⟨r21, rfl, kr21⟩ := (show ∃ r : Nat, v21 = .ref r ∧ T r = some 24 from hv21)
    refine lv_aload_n hx hb dK_isSound_23 rfl (lv_at hl 1 rfl) ?_
    refine lv_aload_n hx hb dK_isSound_24 rfl (lv_at hl 0 rfl) ?_
    refine nw_get (C := "LatticeKeys") (TT := T_K) (N := 11) hx hb hts (wg_ft i_K) hown hK hO k_h0 (kn := 0) (ci := 0) (fl := [(3, 1), (0, 0), (3, 2), (0, 0), (3, 3), (0, 0), (3, 4), (3, 8), (3, 12), (3, 24), (3, 39)]) rfl hP rfl 0 (by decide) (hts _ (wg_t kw_374)) (fun _ h9 => h9) (cd := (3, 1)) rfl dK_isSound_25 (fun v22 hv22 => ?_)
    obtain ⟨r22, rfl, kr22⟩ := (show ∃ r : Nat, v22 = .ref r ∧ T r = some 1 from hv22)
    refine mp_i (cx := []) (wr := []) hP hD hS hA [] [] rfl rfl rfl (by decide) (va_runV (As := [.ref st, .ref r22]) (rest := []) F (N_KM_numbersFit_2 l g _ T s pl hO hU r21 st r22 1 16384 kr21 k_st kr22 rfl (by omega) (by omega)) (cwV 2 hts (wg_app (wg_c kw_785 (wg_c kw_786 (wg_c kw_787 (wg_c kw_3 wg_n)))) kw_788) rfl rfl rfl (by decide +kernel) ⟨by decide, by decide⟩) (pn_W "LatticeKeys$Kem" (en_ok g) (ci := 5) (kn := 24) (fl := [(3, 14), (3, 20), (3, 25), (3, 30), (3, 31), (3, 32), (3, 33), (3, 34), (3, 35), (3, 36)]) hK hO kr21 rfl hP hD hS hA hE [] rfl rfl rfl) rfl rfl hl.1 rfl (lv_room (Nat.le_of_ble_eq_true rfl)) dK_isSound_28 ⟨by omega, by omega⟩) (fun r23 u21 H locs hu21 hP hD hS => ?_)
    obtain ⟨q21, pl⟩ := u21
    obtain ⟨⟨eq21, rfl, hFc21, -⟩, hO⟩ := hu21
    have hO : okn g T q21.2 pl := hO
    have hP : va_P g.1 vcl ([] ++ pl) _ := hP
    have hD : va_D _ ([] ++ pl) := hD
    have hFc21 : frm (M_KM_numbersFit_2) s q21.2 := hFc21
    replace hR := bnd_step hR eq21
    have hF := frm_tr hF hFc21 (fun k hk => by unfold M_KM_numbersFit_2 at hk; unfold M_K_isSound_2; omega)
    have hbl21 : zo q21.1 := by rw [show q21 = _ from eq21]; exact (nf2_bl (by decide))
    refine W.widen (k := 0) (n := 0) (by omega) (by omega) ?_
    exact mp_zret hx hb hr hlk (nar_zo hbl21) hP hD hS ((q21.1, q21.2), pl) ⟨⟨hR.symm, rfl, hF, hbl21, trivial⟩, hO⟩ [] rfl rfl rfl (by omega) (by omega) dK_isSound_31
  · replace hR := hR.trans (if_neg h21)
    refine lv_aload_n hx hb dK_isSound_4 rfl (lv_at hl 0 rfl) ?_
    refine nw_get (C := "LatticeKeys") (TT := T_K) (N := 11) hx hb hts (wg_ft i_K) hown hK hO k_h0 (kn := 0) (ci := 0) (fl := [(3, 1), (0, 0), (3, 2), (0, 0), (3, 3), (0, 0), (3, 4), (3, 8), (3, 12), (3, 24), (3, 39)]) rfl hP rfl 9 (by decide) (hts _ (wg_t kw_383)) (fun _ h9 => h9) (cd := (3, 24)) rfl dK_isSound_5 (fun v23 hv23 => ?_)
    obtain ⟨r24, rfl, kr23⟩ := (show ∃ r : Nat, v23 = .ref r ∧ T r = some 24 from hv23)
    refine lv_aload_n hx hb dK_isSound_8 rfl (lv_at hl 1 rfl) ?_
    refine lv_aload_n hx hb dK_isSound_9 rfl (lv_at hl 0 rfl) ?_
    refine nw_get (C := "LatticeKeys") (TT := T_K) (N := 11) hx hb hts (wg_ft i_K) hown hK hO k_h0 (kn := 0) (ci := 0) (fl := [(3, 1), (0, 0), (3, 2), (0, 0), (3, 3), (0, 0), (3, 4), (3, 8), (3, 12), (3, 24), (3, 39)]) rfl hP rfl 0 (by decide) (hts _ (wg_t kw_374)) (fun _ h9 => h9) (cd := (3, 1)) rfl dK_isSound_10 (fun v24 hv24 => ?_)
    obtain ⟨r25, rfl, kr24⟩ := (show ∃ r : Nat, v24 = .ref r ∧ T r = some 1 from hv24)
    refine mp_i (cx := []) (wr := []) hP hD hS hA [] [] rfl rfl rfl (by decide) (va_runV (As := [.ref st, .ref r25]) (rest := []) F (N_KM_hashFits_2 l g _ T s pl hO hU r24 st r25 1 16384 kr23 k_st kr24 rfl (by omega) (by omega)) (cwV 2 hts (wg_app (wg_c kw_781 (wg_c kw_782 (wg_c kw_783 (wg_c kw_3 wg_n)))) kw_784) rfl rfl rfl (by decide +kernel) ⟨by decide, by decide⟩) (pn_W "LatticeKeys$Kem" (en_ok g) (ci := 5) (kn := 24) (fl := [(3, 14), (3, 20), (3, 25), (3, 30), (3, 31), (3, 32), (3, 33), (3, 34), (3, 35), (3, 36)]) hK hO kr23 rfl hP hD hS hA hE [] rfl rfl rfl) rfl rfl hl.1 rfl (lv_room (Nat.le_of_ble_eq_true rfl)) dK_isSound_13 ⟨by omega, by omega⟩) (fun r26 u22 H locs hu22 hP hD hS => ?_)
    obtain ⟨q22, pl⟩ := u22
    obtain ⟨⟨eq22, rfl, hFc22, -⟩, hO⟩ := hu22
    have hO : okn g T q22.2 pl := hO
    have hP : va_P g.1 vcl ([] ++ pl) _ := hP
    have hD : va_D _ ([] ++ pl) := hD
    have hFc22 : frm (M_KM_hashFits_2) s q22.2 := hFc22
    replace hR := bnd_step hR eq22
    have hF := frm_tr hF hFc22 (fun k hk => by unfold M_KM_hashFits_2 at hk; unfold M_K_isSound_2; omega)
    have hbl22 : zo q22.1 := by rw [show q22 = _ from eq22]; exact hf2_bl
    refine W.widen (k := 0) (n := 0) (by omega) (by omega) ?_
    refine lv_goto (tgt := 31) hx hb dK_isSound_16 (by decide) ?_
    exact mp_zret hx hb hr hlk (nar_zo hbl22) hP hD hS ((q22.1, q22.2), pl) ⟨⟨hR.symm, rfl, hF, hbl22, trivial⟩, hO⟩ [] rfl rfl rfl (by omega) (by omega) dK_isSound_31
def M_K_isLoadable (k : Nat) : Prop := (0 : Nat) = 1
noncomputable def F_K_isLoadable (v : Int32) (sc : Int32) (s : Sto) : Int32 × Sto := bnd (F_K_isSet v s) fun q21 => if (q21.1) = 0 then (nI 0, q21.2) else bnd (v.toNatClampNeg) fun z21 => if z21 = 0 then if sc = 0 then bnd ((q21.2.1 0 1).toNatClampNeg) fun z22 => bnd (F_K_publicLength_0  q21.2) fun q22 => bnd (q22.1.toNatClampNeg) fun z23 => if z22 = 800 then (nI 1, q22.2) else (nI 0, q22.2) else bnd ((q21.2.1 0 1).toNatClampNeg) fun z24 => bnd (F_K_secretLength_0  q21.2) fun q23 => bnd (q23.1.toNatClampNeg) fun z25 => if z24 = 1632 then (nI 1, q23.2) else (nI 0, q23.2) else if z21 = 1 then if sc = 0 then bnd ((q21.2.1 0 1).toNatClampNeg) fun z26 => bnd (F_K_publicLength_1  q21.2) fun q24 => bnd (q24.1.toNatClampNeg) fun z27 => if z26 = 1184 then (nI 1, q24.2) else (nI 0, q24.2) else bnd ((q21.2.1 0 1).toNatClampNeg) fun z28 => bnd (F_K_secretLength_1  q21.2) fun q25 => bnd (q25.1.toNatClampNeg) fun z29 => if z28 = 2400 then (nI 1, q25.2) else (nI 0, q25.2) else if z21 = 2 then if sc = 0 then bnd ((q21.2.1 0 1).toNatClampNeg) fun z30 => bnd (F_K_publicLength_2  q21.2) fun q26 => bnd (q26.1.toNatClampNeg) fun z31 => if z30 = 1568 then (nI 1, q26.2) else (nI 0, q26.2) else bnd ((q21.2.1 0 1).toNatClampNeg) fun z32 => bnd (F_K_secretLength_2  q21.2) fun q27 => bnd (q27.1.toNatClampNeg) fun z33 => if z32 = 3168 then (nI 1, q27.2) else (nI 0, q27.2) else if z21 = 3 then if sc = 0 then bnd ((q21.2.1 0 1).toNatClampNeg) fun z34 => bnd (F_K_publicLength_3  q21.2) fun q28 => bnd (q28.1.toNatClampNeg) fun z35 => if z34 = 1312 then (nI 1, q28.2) else (nI 0, q28.2) else (nI 0, q21.2) else if z21 = 4 then if sc = 0 then bnd ((q21.2.1 0 1).toNatClampNeg) fun z36 => bnd (F_K_publicLength_4  q21.2) fun q29 => bnd (q29.1.toNatClampNeg) fun z37 => if z36 = 1952 then (nI 1, q29.2) else (nI 0, q29.2) else (nI 0, q21.2) else if sc = 0 then bnd ((q21.2.1 0 1).toNatClampNeg) fun z38 => bnd (F_K_publicLength_5  q21.2) fun q30 => bnd (q30.1.toNatClampNeg) fun z39 => if z38 = 2592 then (nI 1, q30.2) else (nI 0, q30.2) else (nI 0, q21.2)
set_option maxHeartbeats 2000000 in
set_option maxRecDepth 100000 in
theorem N_K_isLoadable (l : Launch) (g : Gd) (sz : Nat) (T : TyN) (s : Sto) (pl : va_W) (hO : okn g T s pl) (hU : inj T) (h0 : Nat) (v : Int32) (sc : Int32) (tl : Nat) (al : Nat) (pn : Nat) (k_h0 : T h0 = some 0) (e_tl : s.1 0 1 = nI tl) (e_al : s.1 0 3 = nI al) (e_pn : s.1 0 5 = nI pn) (h1 : tl ≤ 16384) (h2 : al ≤ 8192) (h3 : pn ≤ 8)  : Met l y_K_isLoadable w_K_isLoadable ({ frames := 1, cells := 0, slots := 0, locals := 21 } : Room) (va_Pc [.ref h0, .int v, .int sc] (pr (en g) g.1 vcl sz ([] ++ pl))) (va_Qi (fun (r : Int32) (u : (Int32 × Sto) × va_W) => (u.1 = F_K_isLoadable v sc s ∧ r = u.1.1 ∧ frm (M_K_isLoadable) s u.1.2 ∧ (u.1.1 = nI 0 ∨ (u.1.1 = nI 1 ∧ ∃ z : Nat, z < 6 ∧ v = nI z ∧ (sc = 0 → tl = kpub z) ∧ (¬ sc = 0 → z < 3 ∧ tl = ksec z))) ∧ True) ∧ okn g T u.1.2 u.2) (po g.1 vcl (va_A ([] ++ pl) sz) (fun (u : (Int32 × Sto) × va_W) => [] ++ u.2)) (va_A ([] ++ pl) sz)) 0 0 (va_A ([] ++ pl) sz) := by
  refine mc_entry (cc := c_K_isLoadable) (maxL := 3) (ret := (some .boolean)) (by decide) rfl (Nat.le_of_ble_eq_true rfl) ?_
  intro p e s0 m args below meth c ls F hr hlk hnm hsz hP hD hE hA hl
  obtain ⟨hx, hb, hml, hown, hts⟩ := id F
  have hK := hE.1
  generalize va_A ([] ++ pl) sz = A at hD hE hA ⊢
  have hS : va_S A s0.heap s0.heap [] := va_S.rf
  have hl : lv_has ls 3 [(0, .ref h0), (1, .int v), (2, .int sc)] := hl
  have hR : F_K_isLoadable v sc s = F_K_isLoadable v sc s := rfl
  have hF : frm (M_K_isLoadable) s s := frm_rf
  refine lv_iload_n hx hb dK_isLoadable_0 rfl (lv_at hl 1 rfl) ?_
  refine mp_i (cx := []) (wr := []) hP hD hS hA [] [] rfl rfl rfl (by decide) (va_runS (As := [.int v]) (rest := []) F (N_K_isSet l g _ T s pl hO hU v) (va_cwS 1 hts (wg_app (wg_c kw_558 (wg_c kw_559 (wg_c kw_1 wg_n))) kw_560) rfl rfl rfl (by decide +kernel) ⟨by decide, by decide⟩) (pp_S (en_ok g) hP hD hS hA hE [] rfl rfl) rfl rfl hl.1 rfl (lv_room (Nat.le_of_ble_eq_true rfl)) dK_isLoadable_1 ⟨by omega, by omega⟩) (fun r21 u21 H locs hu21 hP hD hS => ?_)
  obtain ⟨q21, pl⟩ := u21
  obtain ⟨⟨eq21, rfl, hFc21, hxp21, -⟩, hO⟩ := hu21
  have hO : okn g T q21.2 pl := hO
  have hP : va_P g.1 vcl ([] ++ pl) _ := hP
  have hD : va_D _ ([] ++ pl) := hD
  have hFc21 : frm (M_K_isSet) s q21.2 := hFc21
  replace hR := bnd_step hR eq21
  have hF := frm_tr hF hFc21 (fun k hk => by unfold M_K_isSet at hk; unfold M_K_isLoadable; omega)
  have hf21 : q21.2.1 0 1 = nI tl := fc_F e_tl hFc21 (by unfold M_K_isSet; omega)
  have hf22 : q21.2.1 0 3 = nI al := fc_F e_al hFc21 (by unfold M_K_isSet; omega)
  have hf23 : q21.2.1 0 5 = nI pn := fc_F e_pn hFc21 (by unfold M_K_isSet; omega)
  refine W.widen (k := 0) (n := 0) (by omega) (by omega) ?_
  refine lv_if_eq (tgt := 16) hx hb dK_isLoadable_4 (by decide) (fun h21 => ?_) (fun h21 => ?_)
  · replace hR := hR.trans (if_pos h21)
    refine lv_iconst (v := nI 0) hx hb dK_isLoadable_16 (by decide) ?_
    exact mp_zret hx hb hr hlk rfl hP hD hS ((nI 0, q21.2), pl) ⟨⟨hR.symm, rfl, hF, (Or.inl rfl), trivial⟩, hO⟩ [] rfl rfl rfl (by omega) (by omega) dK_isLoadable_17
  · replace hR := hR.trans (if_neg h21)
    obtain ⟨z21, hz21, hv21⟩ := (hxp21.resolve_left (fun h9 => h21 (h9.trans (by decide)))).2
    have ez21 : z21 = v.toNatClampNeg := by rw [hv21]; exact (nI_clamp (by omega)).symm
    replace hR := bnd_step hR ez21
    rw [hv21] at hl
    by_cases hs21 : z21 = 0
    · replace hR := hR.trans (if_pos hs21)
      subst hs21
      refine lv_iload_n hx hb dK_isLoadable_7 rfl (lv_at hl 2 rfl) ?_
      refine lv_if_eq (tgt := 18) hx hb dK_isLoadable_8 (by decide) (fun h22 => ?_) (fun h22 => ?_)
      · replace hR := hR.trans (if_pos h22)
        refine lv_aload_n hx hb dK_isLoadable_18 rfl (lv_at hl 0 rfl) ?_
        refine nw_get (C := "LatticeKeys") (TT := T_K) (N := 11) hx hb hts (wg_ft i_K) hown hK hO k_h0 (kn := 0) (ci := 0) (fl := [(3, 1), (0, 0), (3, 2), (0, 0), (3, 3), (0, 0), (3, 4), (3, 8), (3, 12), (3, 24), (3, 39)]) rfl hP rfl 1 (by decide) (hts _ (wg_t kw_375)) (fun _ h9 => h9) (cd := (0, 0)) rfl dK_isLoadable_19 (fun v21 hv22 => ?_)
        obtain rfl := (show v21 = .int (q21.2.1 0 1) from hv22)
        obtain ⟨z22, ez22, hz22, hz23⟩ := cl_of (b := 2147483648) hf21 (by omega) (by decide)
        replace hR := bnd_step hR ez22
        refine mi_as hz22 ?_
        refine lv_iload_n hx hb dK_isLoadable_22 rfl (lv_at hl 2 rfl) ?_
        refine lv_if_eq (tgt := 34) hx hb dK_isLoadable_23 (by decide) (fun h9 => ?_) (fun h9 => absurd h22 h9)
        refine lv_aload_n hx hb dK_isLoadable_34 rfl (lv_at hl 0 rfl) ?_
        refine lv_iload_n hx hb dK_isLoadable_35 rfl (lv_at hl 1 rfl) ?_
        refine mp_i (cx := []) (wr := []) hP hD hS hA [] [] rfl rfl rfl (by decide) (va_runV (As := [.int (nI 0)]) (rest := [.int (nI z22)]) F (N_K_publicLength_0 l g _ T q21.2 pl hO hU h0 k_h0) (cwV 1 hts (wg_app (wg_c kw_566 (wg_c kw_568 (wg_c ks_2 (wg_c kw_1 wg_n)))) kw_569) rfl rfl rfl (by decide +kernel) ⟨by decide, by decide⟩) (pn_W "LatticeKeys" (en_ok g) (ci := 0) (kn := 0) (fl := [(3, 1), (0, 0), (3, 2), (0, 0), (3, 3), (0, 0), (3, 4), (3, 8), (3, 12), (3, 24), (3, 39)]) hK hO k_h0 rfl hP hD hS hA hE [] rfl rfl rfl) rfl rfl hl.1 rfl (lv_room (Nat.le_of_ble_eq_true rfl)) dK_isLoadable_36 ⟨by omega, by omega⟩) (fun r22 u22 H locs hu22 hP hD hS => ?_)
        obtain ⟨q22, pl⟩ := u22
        obtain ⟨⟨eq22, rfl, hFc22, ⟨x22, hx_22, hb_22⟩, hxp22, -⟩, hO⟩ := hu22
        have hO : okn g T q22.2 pl := hO
        have hP : va_P g.1 vcl ([] ++ pl) _ := hP
        have hD : va_D _ ([] ++ pl) := hD
        have hFc22 : frm (M_K_publicLength_0) q21.2 q22.2 := hFc22
        have hb_22 : x22 < 801 := hb_22
        replace hR := bnd_step hR eq22
        have hF := frm_tr hF hFc22 (fun k hk => by unfold M_K_publicLength_0 at hk; unfold M_K_isLoadable; omega)
        have hf24 : q22.2.1 0 1 = nI tl := fc_F hf21 hFc22 (by unfold M_K_publicLength_0; omega)
        have hf25 : q22.2.1 0 3 = nI al := fc_F hf22 hFc22 (by unfold M_K_publicLength_0; omega)
        have hf26 : q22.2.1 0 5 = nI pn := fc_F hf23 hFc22 (by unfold M_K_publicLength_0; omega)
        obtain ⟨z23, ez23, hz24, hz25⟩ := cl_of (b := 2147483648) hx_22 (by omega) (by decide)
        replace hR := bnd_step hR ez23
        refine mi_as hz24 ?_
        have hsz21 : z23 = 800 := (nI_eq (by omega) (by omega)).mp (hz24.symm.trans hxp22)
        subst hsz21
        refine W.widen (k := 0) (n := 0) (by omega) (by omega) ?_
        refine mi_ne (tgt := 46) hx hb dK_isLoadable_39 (by decide) (by omega) (by omega) (fun h23 => ?_) (fun h23 => ?_)
        · replace hR := hR.trans (if_neg h23)
          refine lv_iconst (v := nI 0) hx hb dK_isLoadable_46 (by decide) ?_
          exact mp_zret hx hb hr hlk rfl hP hD hS ((nI 0, q22.2), pl) ⟨⟨hR.symm, rfl, hF, (Or.inl rfl), trivial⟩, hO⟩ [] rfl rfl rfl (by omega) (by omega) dK_isLoadable_47
        · replace hR := hR.trans (if_pos h23)
          refine lv_iconst (v := nI 1) hx hb dK_isLoadable_42 (by decide) ?_
          refine lv_goto (tgt := 47) hx hb dK_isLoadable_43 (by decide) ?_
          exact mp_zret hx hb hr hlk rfl hP hD hS ((nI 1, q22.2), pl) ⟨⟨hR.symm, rfl, hF, (Or.inr ⟨rfl, 0, by decide, hv21, fun _ => (by show tl = 800; omega), fun h9 => absurd h22 h9⟩), trivial⟩, hO⟩ [] rfl rfl rfl (by omega) (by omega) dK_isLoadable_47
      · replace hR := hR.trans (if_neg h22)
        refine lv_iload_n hx hb dK_isLoadable_11 rfl (lv_at hl 1 rfl) ?_
        refine lv_iconst (v := nI 3) hx hb dK_isLoadable_12 (by decide) ?_
        refine mi_lt (tgt := 18) hx hb dK_isLoadable_13 (by decide) (by omega) (by omega) (fun h24 => ?_) (fun h24 => absurd h24 (by omega))
        refine lv_aload_n hx hb dK_isLoadable_18 rfl (lv_at hl 0 rfl) ?_
        refine nw_get (C := "LatticeKeys") (TT := T_K) (N := 11) hx hb hts (wg_ft i_K) hown hK hO k_h0 (kn := 0) (ci := 0) (fl := [(3, 1), (0, 0), (3, 2), (0, 0), (3, 3), (0, 0), (3, 4), (3, 8), (3, 12), (3, 24), (3, 39)]) rfl hP rfl 1 (by decide) (hts _ (wg_t kw_375)) (fun _ h9 => h9) (cd := (0, 0)) rfl dK_isLoadable_19 (fun v22 hv23 => ?_)
        obtain rfl := (show v22 = .int (q21.2.1 0 1) from hv23)
        obtain ⟨z24, ez24, hz26, hz27⟩ := cl_of (b := 2147483648) hf21 (by omega) (by decide)
        replace hR := bnd_step hR ez24
        refine mi_as hz26 ?_
        refine lv_iload_n hx hb dK_isLoadable_22 rfl (lv_at hl 2 rfl) ?_
        refine lv_if_eq (tgt := 34) hx hb dK_isLoadable_23 (by decide) (fun h9 => absurd h9 h22) (fun h9 => ?_)
        refine lv_aload_n hx hb dK_isLoadable_26 rfl (lv_at hl 0 rfl) ?_
        refine lv_iload_n hx hb dK_isLoadable_27 rfl (lv_at hl 1 rfl) ?_
        refine mp_i (cx := []) (wr := []) hP hD hS hA [] [] rfl rfl rfl (by decide) (va_runV (As := [.int (nI 0)]) (rest := [.int (nI z24)]) F (N_K_secretLength_0 l g _ T q21.2 pl hO hU h0 k_h0) (cwV 1 hts (wg_app (wg_c kw_570 (wg_c kw_572 (wg_c ks_3 (wg_c kw_1 wg_n)))) kw_573) rfl rfl rfl (by decide +kernel) ⟨by decide, by decide⟩) (pn_W "LatticeKeys" (en_ok g) (ci := 0) (kn := 0) (fl := [(3, 1), (0, 0), (3, 2), (0, 0), (3, 3), (0, 0), (3, 4), (3, 8), (3, 12), (3, 24), (3, 39)]) hK hO k_h0 rfl hP hD hS hA hE [] rfl rfl rfl) rfl rfl hl.1 rfl (lv_room (Nat.le_of_ble_eq_true rfl)) dK_isLoadable_28 ⟨by omega, by omega⟩) (fun r23 u23 H locs hu23 hP hD hS => ?_)
        obtain ⟨q23, pl⟩ := u23
        obtain ⟨⟨eq23, rfl, hFc23, ⟨x23, hx_23, hb_23⟩, hxp23, -⟩, hO⟩ := hu23
        have hO : okn g T q23.2 pl := hO
        have hP : va_P g.1 vcl ([] ++ pl) _ := hP
        have hD : va_D _ ([] ++ pl) := hD
        have hFc23 : frm (M_K_secretLength_0) q21.2 q23.2 := hFc23
        have hb_23 : x23 < 1633 := hb_23
        replace hR := bnd_step hR eq23
        have hF := frm_tr hF hFc23 (fun k hk => by unfold M_K_secretLength_0 at hk; unfold M_K_isLoadable; omega)
        have hf27 : q23.2.1 0 1 = nI tl := fc_F hf21 hFc23 (by unfold M_K_secretLength_0; omega)
        have hf28 : q23.2.1 0 3 = nI al := fc_F hf22 hFc23 (by unfold M_K_secretLength_0; omega)
        have hf29 : q23.2.1 0 5 = nI pn := fc_F hf23 hFc23 (by unfold M_K_secretLength_0; omega)
        obtain ⟨z25, ez25, hz28, hz29⟩ := cl_of (b := 2147483648) hx_23 (by omega) (by decide)
        replace hR := bnd_step hR ez25
        refine mi_as hz28 ?_
        have hsz22 : z25 = 1632 := (nI_eq (by omega) (by omega)).mp (hz28.symm.trans hxp23)
        subst hsz22
        refine W.widen (k := 0) (n := 0) (by omega) (by omega) ?_
        refine lv_goto (tgt := 39) hx hb dK_isLoadable_31 (by decide) ?_
        refine mi_ne (tgt := 46) hx hb dK_isLoadable_39 (by decide) (by omega) (by omega) (fun h25 => ?_) (fun h25 => ?_)
        · replace hR := hR.trans (if_neg h25)
          refine lv_iconst (v := nI 0) hx hb dK_isLoadable_46 (by decide) ?_
          exact mp_zret hx hb hr hlk rfl hP hD hS ((nI 0, q23.2), pl) ⟨⟨hR.symm, rfl, hF, (Or.inl rfl), trivial⟩, hO⟩ [] rfl rfl rfl (by omega) (by omega) dK_isLoadable_47
        · replace hR := hR.trans (if_pos h25)
          refine lv_iconst (v := nI 1) hx hb dK_isLoadable_42 (by decide) ?_
          refine lv_goto (tgt := 47) hx hb dK_isLoadable_43 (by decide) ?_
          exact mp_zret hx hb hr hlk rfl hP hD hS ((nI 1, q23.2), pl) ⟨⟨hR.symm, rfl, hF, (Or.inr ⟨rfl, 0, by decide, hv21, fun h9 => absurd h9 h22, fun _ => ⟨by decide, (by show tl = 1632; omega)⟩⟩), trivial⟩, hO⟩ [] rfl rfl rfl (by omega) (by omega) dK_isLoadable_47
    replace hR := hR.trans (if_neg hs21)
    by_cases hs22 : z21 = 1
    · replace hR := hR.trans (if_pos hs22)
      subst hs22
      refine lv_iload_n hx hb dK_isLoadable_7 rfl (lv_at hl 2 rfl) ?_
      refine lv_if_eq (tgt := 18) hx hb dK_isLoadable_8 (by decide) (fun h26 => ?_) (fun h26 => ?_)
      · replace hR := hR.trans (if_pos h26)
        refine lv_aload_n hx hb dK_isLoadable_18 rfl (lv_at hl 0 rfl) ?_
        refine nw_get (C := "LatticeKeys") (TT := T_K) (N := 11) hx hb hts (wg_ft i_K) hown hK hO k_h0 (kn := 0) (ci := 0) (fl := [(3, 1), (0, 0), (3, 2), (0, 0), (3, 3), (0, 0), (3, 4), (3, 8), (3, 12), (3, 24), (3, 39)]) rfl hP rfl 1 (by decide) (hts _ (wg_t kw_375)) (fun _ h9 => h9) (cd := (0, 0)) rfl dK_isLoadable_19 (fun v23 hv24 => ?_)
        obtain rfl := (show v23 = .int (q21.2.1 0 1) from hv24)
        obtain ⟨z26, ez26, hz30, hz31⟩ := cl_of (b := 2147483648) hf21 (by omega) (by decide)
        replace hR := bnd_step hR ez26
        refine mi_as hz30 ?_
        refine lv_iload_n hx hb dK_isLoadable_22 rfl (lv_at hl 2 rfl) ?_
        refine lv_if_eq (tgt := 34) hx hb dK_isLoadable_23 (by decide) (fun h9 => ?_) (fun h9 => absurd h26 h9)
        refine lv_aload_n hx hb dK_isLoadable_34 rfl (lv_at hl 0 rfl) ?_
        refine lv_iload_n hx hb dK_isLoadable_35 rfl (lv_at hl 1 rfl) ?_
        refine mp_i (cx := []) (wr := []) hP hD hS hA [] [] rfl rfl rfl (by decide) (va_runV (As := [.int (nI 1)]) (rest := [.int (nI z26)]) F (N_K_publicLength_1 l g _ T q21.2 pl hO hU h0 k_h0) (cwV 1 hts (wg_app (wg_c kw_566 (wg_c kw_568 (wg_c ks_2 (wg_c kw_1 wg_n)))) kw_569) rfl rfl rfl (by decide +kernel) ⟨by decide, by decide⟩) (pn_W "LatticeKeys" (en_ok g) (ci := 0) (kn := 0) (fl := [(3, 1), (0, 0), (3, 2), (0, 0), (3, 3), (0, 0), (3, 4), (3, 8), (3, 12), (3, 24), (3, 39)]) hK hO k_h0 rfl hP hD hS hA hE [] rfl rfl rfl) rfl rfl hl.1 rfl (lv_room (Nat.le_of_ble_eq_true rfl)) dK_isLoadable_36 ⟨by omega, by omega⟩) (fun r24 u24 H locs hu24 hP hD hS => ?_)
        obtain ⟨q24, pl⟩ := u24
        obtain ⟨⟨eq24, rfl, hFc24, ⟨x24, hx_24, hb_24⟩, hxp24, -⟩, hO⟩ := hu24
        have hO : okn g T q24.2 pl := hO
        have hP : va_P g.1 vcl ([] ++ pl) _ := hP
        have hD : va_D _ ([] ++ pl) := hD
        have hFc24 : frm (M_K_publicLength_1) q21.2 q24.2 := hFc24
        have hb_24 : x24 < 1185 := hb_24
        replace hR := bnd_step hR eq24
        have hF := frm_tr hF hFc24 (fun k hk => by unfold M_K_publicLength_1 at hk; unfold M_K_isLoadable; omega)
        have hf30 : q24.2.1 0 1 = nI tl := fc_F hf21 hFc24 (by unfold M_K_publicLength_1; omega)
        have hf31 : q24.2.1 0 3 = nI al := fc_F hf22 hFc24 (by unfold M_K_publicLength_1; omega)
        have hf32 : q24.2.1 0 5 = nI pn := fc_F hf23 hFc24 (by unfold M_K_publicLength_1; omega)
        obtain ⟨z27, ez27, hz32, hz33⟩ := cl_of (b := 2147483648) hx_24 (by omega) (by decide)
        replace hR := bnd_step hR ez27
        refine mi_as hz32 ?_
        have hsz23 : z27 = 1184 := (nI_eq (by omega) (by omega)).mp (hz32.symm.trans hxp24)
        subst hsz23
        refine W.widen (k := 0) (n := 0) (by omega) (by omega) ?_
        refine mi_ne (tgt := 46) hx hb dK_isLoadable_39 (by decide) (by omega) (by omega) (fun h27 => ?_) (fun h27 => ?_)
        · replace hR := hR.trans (if_neg h27)
          refine lv_iconst (v := nI 0) hx hb dK_isLoadable_46 (by decide) ?_
          exact mp_zret hx hb hr hlk rfl hP hD hS ((nI 0, q24.2), pl) ⟨⟨hR.symm, rfl, hF, (Or.inl rfl), trivial⟩, hO⟩ [] rfl rfl rfl (by omega) (by omega) dK_isLoadable_47
        · replace hR := hR.trans (if_pos h27)
          refine lv_iconst (v := nI 1) hx hb dK_isLoadable_42 (by decide) ?_
          refine lv_goto (tgt := 47) hx hb dK_isLoadable_43 (by decide) ?_
          exact mp_zret hx hb hr hlk rfl hP hD hS ((nI 1, q24.2), pl) ⟨⟨hR.symm, rfl, hF, (Or.inr ⟨rfl, 1, by decide, hv21, fun _ => (by show tl = 1184; omega), fun h9 => absurd h26 h9⟩), trivial⟩, hO⟩ [] rfl rfl rfl (by omega) (by omega) dK_isLoadable_47
      · replace hR := hR.trans (if_neg h26)
        refine lv_iload_n hx hb dK_isLoadable_11 rfl (lv_at hl 1 rfl) ?_
        refine lv_iconst (v := nI 3) hx hb dK_isLoadable_12 (by decide) ?_
        refine mi_lt (tgt := 18) hx hb dK_isLoadable_13 (by decide) (by omega) (by omega) (fun h28 => ?_) (fun h28 => absurd h28 (by omega))
        refine lv_aload_n hx hb dK_isLoadable_18 rfl (lv_at hl 0 rfl) ?_
        refine nw_get (C := "LatticeKeys") (TT := T_K) (N := 11) hx hb hts (wg_ft i_K) hown hK hO k_h0 (kn := 0) (ci := 0) (fl := [(3, 1), (0, 0), (3, 2), (0, 0), (3, 3), (0, 0), (3, 4), (3, 8), (3, 12), (3, 24), (3, 39)]) rfl hP rfl 1 (by decide) (hts _ (wg_t kw_375)) (fun _ h9 => h9) (cd := (0, 0)) rfl dK_isLoadable_19 (fun v24 hv25 => ?_)
        obtain rfl := (show v24 = .int (q21.2.1 0 1) from hv25)
        obtain ⟨z28, ez28, hz34, hz35⟩ := cl_of (b := 2147483648) hf21 (by omega) (by decide)
        replace hR := bnd_step hR ez28
        refine mi_as hz34 ?_
        refine lv_iload_n hx hb dK_isLoadable_22 rfl (lv_at hl 2 rfl) ?_
        refine lv_if_eq (tgt := 34) hx hb dK_isLoadable_23 (by decide) (fun h9 => absurd h9 h26) (fun h9 => ?_)
        refine lv_aload_n hx hb dK_isLoadable_26 rfl (lv_at hl 0 rfl) ?_
        refine lv_iload_n hx hb dK_isLoadable_27 rfl (lv_at hl 1 rfl) ?_
        refine mp_i (cx := []) (wr := []) hP hD hS hA [] [] rfl rfl rfl (by decide) (va_runV (As := [.int (nI 1)]) (rest := [.int (nI z28)]) F (N_K_secretLength_1 l g _ T q21.2 pl hO hU h0 k_h0) (cwV 1 hts (wg_app (wg_c kw_570 (wg_c kw_572 (wg_c ks_3 (wg_c kw_1 wg_n)))) kw_573) rfl rfl rfl (by decide +kernel) ⟨by decide, by decide⟩) (pn_W "LatticeKeys" (en_ok g) (ci := 0) (kn := 0) (fl := [(3, 1), (0, 0), (3, 2), (0, 0), (3, 3), (0, 0), (3, 4), (3, 8), (3, 12), (3, 24), (3, 39)]) hK hO k_h0 rfl hP hD hS hA hE [] rfl rfl rfl) rfl rfl hl.1 rfl (lv_room (Nat.le_of_ble_eq_true rfl)) dK_isLoadable_28 ⟨by omega, by omega⟩) (fun r25 u25 H locs hu25 hP hD hS => ?_)
        obtain ⟨q25, pl⟩ := u25
        obtain ⟨⟨eq25, rfl, hFc25, ⟨x25, hx_25, hb_25⟩, hxp25, -⟩, hO⟩ := hu25
        have hO : okn g T q25.2 pl := hO
        have hP : va_P g.1 vcl ([] ++ pl) _ := hP
        have hD : va_D _ ([] ++ pl) := hD
        have hFc25 : frm (M_K_secretLength_1) q21.2 q25.2 := hFc25
        have hb_25 : x25 < 2401 := hb_25
        replace hR := bnd_step hR eq25
        have hF := frm_tr hF hFc25 (fun k hk => by unfold M_K_secretLength_1 at hk; unfold M_K_isLoadable; omega)
        have hf33 : q25.2.1 0 1 = nI tl := fc_F hf21 hFc25 (by unfold M_K_secretLength_1; omega)
        have hf34 : q25.2.1 0 3 = nI al := fc_F hf22 hFc25 (by unfold M_K_secretLength_1; omega)
        have hf35 : q25.2.1 0 5 = nI pn := fc_F hf23 hFc25 (by unfold M_K_secretLength_1; omega)
        obtain ⟨z29, ez29, hz36, hz37⟩ := cl_of (b := 2147483648) hx_25 (by omega) (by decide)
        replace hR := bnd_step hR ez29
        refine mi_as hz36 ?_
        have hsz24 : z29 = 2400 := (nI_eq (by omega) (by omega)).mp (hz36.symm.trans hxp25)
        subst hsz24
        refine W.widen (k := 0) (n := 0) (by omega) (by omega) ?_
        refine lv_goto (tgt := 39) hx hb dK_isLoadable_31 (by decide) ?_
        refine mi_ne (tgt := 46) hx hb dK_isLoadable_39 (by decide) (by omega) (by omega) (fun h29 => ?_) (fun h29 => ?_)
        · replace hR := hR.trans (if_neg h29)
          refine lv_iconst (v := nI 0) hx hb dK_isLoadable_46 (by decide) ?_
          exact mp_zret hx hb hr hlk rfl hP hD hS ((nI 0, q25.2), pl) ⟨⟨hR.symm, rfl, hF, (Or.inl rfl), trivial⟩, hO⟩ [] rfl rfl rfl (by omega) (by omega) dK_isLoadable_47
        · replace hR := hR.trans (if_pos h29)
          refine lv_iconst (v := nI 1) hx hb dK_isLoadable_42 (by decide) ?_
          refine lv_goto (tgt := 47) hx hb dK_isLoadable_43 (by decide) ?_
          exact mp_zret hx hb hr hlk rfl hP hD hS ((nI 1, q25.2), pl) ⟨⟨hR.symm, rfl, hF, (Or.inr ⟨rfl, 1, by decide, hv21, fun h9 => absurd h9 h26, fun _ => ⟨by decide, (by show tl = 2400; omega)⟩⟩), trivial⟩, hO⟩ [] rfl rfl rfl (by omega) (by omega) dK_isLoadable_47
    replace hR := hR.trans (if_neg hs22)
    by_cases hs23 : z21 = 2
    · replace hR := hR.trans (if_pos hs23)
      subst hs23
      refine lv_iload_n hx hb dK_isLoadable_7 rfl (lv_at hl 2 rfl) ?_
      refine lv_if_eq (tgt := 18) hx hb dK_isLoadable_8 (by decide) (fun h30 => ?_) (fun h30 => ?_)
      · replace hR := hR.trans (if_pos h30)
        refine lv_aload_n hx hb dK_isLoadable_18 rfl (lv_at hl 0 rfl) ?_
        refine nw_get (C := "LatticeKeys") (TT := T_K) (N := 11) hx hb hts (wg_ft i_K) hown hK hO k_h0 (kn := 0) (ci := 0) (fl := [(3, 1), (0, 0), (3, 2), (0, 0), (3, 3), (0, 0), (3, 4), (3, 8), (3, 12), (3, 24), (3, 39)]) rfl hP rfl 1 (by decide) (hts _ (wg_t kw_375)) (fun _ h9 => h9) (cd := (0, 0)) rfl dK_isLoadable_19 (fun v25 hv26 => ?_)
        obtain rfl := (show v25 = .int (q21.2.1 0 1) from hv26)
        obtain ⟨z30, ez30, hz38, hz39⟩ := cl_of (b := 2147483648) hf21 (by omega) (by decide)
        replace hR := bnd_step hR ez30
        refine mi_as hz38 ?_
        refine lv_iload_n hx hb dK_isLoadable_22 rfl (lv_at hl 2 rfl) ?_
        refine lv_if_eq (tgt := 34) hx hb dK_isLoadable_23 (by decide) (fun h9 => ?_) (fun h9 => absurd h30 h9)
        refine lv_aload_n hx hb dK_isLoadable_34 rfl (lv_at hl 0 rfl) ?_
        refine lv_iload_n hx hb dK_isLoadable_35 rfl (lv_at hl 1 rfl) ?_
        refine mp_i (cx := []) (wr := []) hP hD hS hA [] [] rfl rfl rfl (by decide) (va_runV (As := [.int (nI 2)]) (rest := [.int (nI z30)]) F (N_K_publicLength_2 l g _ T q21.2 pl hO hU h0 k_h0) (cwV 1 hts (wg_app (wg_c kw_566 (wg_c kw_568 (wg_c ks_2 (wg_c kw_1 wg_n)))) kw_569) rfl rfl rfl (by decide +kernel) ⟨by decide, by decide⟩) (pn_W "LatticeKeys" (en_ok g) (ci := 0) (kn := 0) (fl := [(3, 1), (0, 0), (3, 2), (0, 0), (3, 3), (0, 0), (3, 4), (3, 8), (3, 12), (3, 24), (3, 39)]) hK hO k_h0 rfl hP hD hS hA hE [] rfl rfl rfl) rfl rfl hl.1 rfl (lv_room (Nat.le_of_ble_eq_true rfl)) dK_isLoadable_36 ⟨by omega, by omega⟩) (fun r26 u26 H locs hu26 hP hD hS => ?_)
        obtain ⟨q26, pl⟩ := u26
        obtain ⟨⟨eq26, rfl, hFc26, ⟨x26, hx_26, hb_26⟩, hxp26, -⟩, hO⟩ := hu26
        have hO : okn g T q26.2 pl := hO
        have hP : va_P g.1 vcl ([] ++ pl) _ := hP
        have hD : va_D _ ([] ++ pl) := hD
        have hFc26 : frm (M_K_publicLength_2) q21.2 q26.2 := hFc26
        have hb_26 : x26 < 1569 := hb_26
        replace hR := bnd_step hR eq26
        have hF := frm_tr hF hFc26 (fun k hk => by unfold M_K_publicLength_2 at hk; unfold M_K_isLoadable; omega)
        have hf36 : q26.2.1 0 1 = nI tl := fc_F hf21 hFc26 (by unfold M_K_publicLength_2; omega)
        have hf37 : q26.2.1 0 3 = nI al := fc_F hf22 hFc26 (by unfold M_K_publicLength_2; omega)
        have hf38 : q26.2.1 0 5 = nI pn := fc_F hf23 hFc26 (by unfold M_K_publicLength_2; omega)
        obtain ⟨z31, ez31, hz40, hz41⟩ := cl_of (b := 2147483648) hx_26 (by omega) (by decide)
        replace hR := bnd_step hR ez31
        refine mi_as hz40 ?_
        have hsz25 : z31 = 1568 := (nI_eq (by omega) (by omega)).mp (hz40.symm.trans hxp26)
        subst hsz25
        refine W.widen (k := 0) (n := 0) (by omega) (by omega) ?_
        refine mi_ne (tgt := 46) hx hb dK_isLoadable_39 (by decide) (by omega) (by omega) (fun h31 => ?_) (fun h31 => ?_)
        · replace hR := hR.trans (if_neg h31)
          refine lv_iconst (v := nI 0) hx hb dK_isLoadable_46 (by decide) ?_
          exact mp_zret hx hb hr hlk rfl hP hD hS ((nI 0, q26.2), pl) ⟨⟨hR.symm, rfl, hF, (Or.inl rfl), trivial⟩, hO⟩ [] rfl rfl rfl (by omega) (by omega) dK_isLoadable_47
        · replace hR := hR.trans (if_pos h31)
          refine lv_iconst (v := nI 1) hx hb dK_isLoadable_42 (by decide) ?_
          refine lv_goto (tgt := 47) hx hb dK_isLoadable_43 (by decide) ?_
          exact mp_zret hx hb hr hlk rfl hP hD hS ((nI 1, q26.2), pl) ⟨⟨hR.symm, rfl, hF, (Or.inr ⟨rfl, 2, by decide, hv21, fun _ => (by show tl = 1568; omega), fun h9 => absurd h30 h9⟩), trivial⟩, hO⟩ [] rfl rfl rfl (by omega) (by omega) dK_isLoadable_47
      · replace hR := hR.trans (if_neg h30)
        refine lv_iload_n hx hb dK_isLoadable_11 rfl (lv_at hl 1 rfl) ?_
        refine lv_iconst (v := nI 3) hx hb dK_isLoadable_12 (by decide) ?_
        refine mi_lt (tgt := 18) hx hb dK_isLoadable_13 (by decide) (by omega) (by omega) (fun h32 => ?_) (fun h32 => absurd h32 (by omega))
        refine lv_aload_n hx hb dK_isLoadable_18 rfl (lv_at hl 0 rfl) ?_
        refine nw_get (C := "LatticeKeys") (TT := T_K) (N := 11) hx hb hts (wg_ft i_K) hown hK hO k_h0 (kn := 0) (ci := 0) (fl := [(3, 1), (0, 0), (3, 2), (0, 0), (3, 3), (0, 0), (3, 4), (3, 8), (3, 12), (3, 24), (3, 39)]) rfl hP rfl 1 (by decide) (hts _ (wg_t kw_375)) (fun _ h9 => h9) (cd := (0, 0)) rfl dK_isLoadable_19 (fun v26 hv27 => ?_)
        obtain rfl := (show v26 = .int (q21.2.1 0 1) from hv27)
        obtain ⟨z32, ez32, hz42, hz43⟩ := cl_of (b := 2147483648) hf21 (by omega) (by decide)
        replace hR := bnd_step hR ez32
        refine mi_as hz42 ?_
        refine lv_iload_n hx hb dK_isLoadable_22 rfl (lv_at hl 2 rfl) ?_
        refine lv_if_eq (tgt := 34) hx hb dK_isLoadable_23 (by decide) (fun h9 => absurd h9 h30) (fun h9 => ?_)
        refine lv_aload_n hx hb dK_isLoadable_26 rfl (lv_at hl 0 rfl) ?_
        refine lv_iload_n hx hb dK_isLoadable_27 rfl (lv_at hl 1 rfl) ?_
        refine mp_i (cx := []) (wr := []) hP hD hS hA [] [] rfl rfl rfl (by decide) (va_runV (As := [.int (nI 2)]) (rest := [.int (nI z32)]) F (N_K_secretLength_2 l g _ T q21.2 pl hO hU h0 k_h0) (cwV 1 hts (wg_app (wg_c kw_570 (wg_c kw_572 (wg_c ks_3 (wg_c kw_1 wg_n)))) kw_573) rfl rfl rfl (by decide +kernel) ⟨by decide, by decide⟩) (pn_W "LatticeKeys" (en_ok g) (ci := 0) (kn := 0) (fl := [(3, 1), (0, 0), (3, 2), (0, 0), (3, 3), (0, 0), (3, 4), (3, 8), (3, 12), (3, 24), (3, 39)]) hK hO k_h0 rfl hP hD hS hA hE [] rfl rfl rfl) rfl rfl hl.1 rfl (lv_room (Nat.le_of_ble_eq_true rfl)) dK_isLoadable_28 ⟨by omega, by omega⟩) (fun r27 u27 H locs hu27 hP hD hS => ?_)
        obtain ⟨q27, pl⟩ := u27
        obtain ⟨⟨eq27, rfl, hFc27, ⟨x27, hx_27, hb_27⟩, hxp27, -⟩, hO⟩ := hu27
        have hO : okn g T q27.2 pl := hO
        have hP : va_P g.1 vcl ([] ++ pl) _ := hP
        have hD : va_D _ ([] ++ pl) := hD
        have hFc27 : frm (M_K_secretLength_2) q21.2 q27.2 := hFc27
        have hb_27 : x27 < 3169 := hb_27
        replace hR := bnd_step hR eq27
        have hF := frm_tr hF hFc27 (fun k hk => by unfold M_K_secretLength_2 at hk; unfold M_K_isLoadable; omega)
        have hf39 : q27.2.1 0 1 = nI tl := fc_F hf21 hFc27 (by unfold M_K_secretLength_2; omega)
        have hf40 : q27.2.1 0 3 = nI al := fc_F hf22 hFc27 (by unfold M_K_secretLength_2; omega)
        have hf41 : q27.2.1 0 5 = nI pn := fc_F hf23 hFc27 (by unfold M_K_secretLength_2; omega)
        obtain ⟨z33, ez33, hz44, hz45⟩ := cl_of (b := 2147483648) hx_27 (by omega) (by decide)
        replace hR := bnd_step hR ez33
        refine mi_as hz44 ?_
        have hsz26 : z33 = 3168 := (nI_eq (by omega) (by omega)).mp (hz44.symm.trans hxp27)
        subst hsz26
        refine W.widen (k := 0) (n := 0) (by omega) (by omega) ?_
        refine lv_goto (tgt := 39) hx hb dK_isLoadable_31 (by decide) ?_
        refine mi_ne (tgt := 46) hx hb dK_isLoadable_39 (by decide) (by omega) (by omega) (fun h33 => ?_) (fun h33 => ?_)
        · replace hR := hR.trans (if_neg h33)
          refine lv_iconst (v := nI 0) hx hb dK_isLoadable_46 (by decide) ?_
          exact mp_zret hx hb hr hlk rfl hP hD hS ((nI 0, q27.2), pl) ⟨⟨hR.symm, rfl, hF, (Or.inl rfl), trivial⟩, hO⟩ [] rfl rfl rfl (by omega) (by omega) dK_isLoadable_47
        · replace hR := hR.trans (if_pos h33)
          refine lv_iconst (v := nI 1) hx hb dK_isLoadable_42 (by decide) ?_
          refine lv_goto (tgt := 47) hx hb dK_isLoadable_43 (by decide) ?_
          exact mp_zret hx hb hr hlk rfl hP hD hS ((nI 1, q27.2), pl) ⟨⟨hR.symm, rfl, hF, (Or.inr ⟨rfl, 2, by decide, hv21, fun h9 => absurd h9 h30, fun _ => ⟨by decide, (by show tl = 3168; omega)⟩⟩), trivial⟩, hO⟩ [] rfl rfl rfl (by omega) (by omega) dK_isLoadable_47
    replace hR := hR.trans (if_neg hs23)
    by_cases hs24 : z21 = 3
    · replace hR := hR.trans (if_pos hs24)
      subst hs24
      refine lv_iload_n hx hb dK_isLoadable_7 rfl (lv_at hl 2 rfl) ?_
      refine lv_if_eq (tgt := 18) hx hb dK_isLoadable_8 (by decide) (fun h34 => ?_) (fun h34 => ?_)
      · replace hR := hR.trans (if_pos h34)
        refine lv_aload_n hx hb dK_isLoadable_18 rfl (lv_at hl 0 rfl) ?_
        refine nw_get (C := "LatticeKeys") (TT := T_K) (N := 11) hx hb hts (wg_ft i_K) hown hK hO k_h0 (kn := 0) (ci := 0) (fl := [(3, 1), (0, 0), (3, 2), (0, 0), (3, 3), (0, 0), (3, 4), (3, 8), (3, 12), (3, 24), (3, 39)]) rfl hP rfl 1 (by decide) (hts _ (wg_t kw_375)) (fun _ h9 => h9) (cd := (0, 0)) rfl dK_isLoadable_19 (fun v27 hv28 => ?_)
        obtain rfl := (show v27 = .int (q21.2.1 0 1) from hv28)
        obtain ⟨z34, ez34, hz46, hz47⟩ := cl_of (b := 2147483648) hf21 (by omega) (by decide)
        replace hR := bnd_step hR ez34
        refine mi_as hz46 ?_
        refine lv_iload_n hx hb dK_isLoadable_22 rfl (lv_at hl 2 rfl) ?_
        refine lv_if_eq (tgt := 34) hx hb dK_isLoadable_23 (by decide) (fun h9 => ?_) (fun h9 => absurd h34 h9)
        refine lv_aload_n hx hb dK_isLoadable_34 rfl (lv_at hl 0 rfl) ?_
        refine lv_iload_n hx hb dK_isLoadable_35 rfl (lv_at hl 1 rfl) ?_
        refine mp_i (cx := []) (wr := []) hP hD hS hA [] [] rfl rfl rfl (by decide) (va_runV (As := [.int (nI 3)]) (rest := [.int (nI z34)]) F (N_K_publicLength_3 l g _ T q21.2 pl hO hU h0 k_h0) (cwV 1 hts (wg_app (wg_c kw_566 (wg_c kw_568 (wg_c ks_2 (wg_c kw_1 wg_n)))) kw_569) rfl rfl rfl (by decide +kernel) ⟨by decide, by decide⟩) (pn_W "LatticeKeys" (en_ok g) (ci := 0) (kn := 0) (fl := [(3, 1), (0, 0), (3, 2), (0, 0), (3, 3), (0, 0), (3, 4), (3, 8), (3, 12), (3, 24), (3, 39)]) hK hO k_h0 rfl hP hD hS hA hE [] rfl rfl rfl) rfl rfl hl.1 rfl (lv_room (Nat.le_of_ble_eq_true rfl)) dK_isLoadable_36 ⟨by omega, by omega⟩) (fun r28 u28 H locs hu28 hP hD hS => ?_)
        obtain ⟨q28, pl⟩ := u28
        obtain ⟨⟨eq28, rfl, hFc28, ⟨x28, hx_28, hb_28⟩, hxp28, -⟩, hO⟩ := hu28
        have hO : okn g T q28.2 pl := hO
        have hP : va_P g.1 vcl ([] ++ pl) _ := hP
        have hD : va_D _ ([] ++ pl) := hD
        have hFc28 : frm (M_K_publicLength_3) q21.2 q28.2 := hFc28
        have hb_28 : x28 < 1313 := hb_28
        replace hR := bnd_step hR eq28
        have hF := frm_tr hF hFc28 (fun k hk => by unfold M_K_publicLength_3 at hk; unfold M_K_isLoadable; omega)
        have hf42 : q28.2.1 0 1 = nI tl := fc_F hf21 hFc28 (by unfold M_K_publicLength_3; omega)
        have hf43 : q28.2.1 0 3 = nI al := fc_F hf22 hFc28 (by unfold M_K_publicLength_3; omega)
        have hf44 : q28.2.1 0 5 = nI pn := fc_F hf23 hFc28 (by unfold M_K_publicLength_3; omega)
        obtain ⟨z35, ez35, hz48, hz49⟩ := cl_of (b := 2147483648) hx_28 (by omega) (by decide)
        replace hR := bnd_step hR ez35
        refine mi_as hz48 ?_
        have hsz27 : z35 = 1312 := (nI_eq (by omega) (by omega)).mp (hz48.symm.trans hxp28)
        subst hsz27
        refine W.widen (k := 0) (n := 0) (by omega) (by omega) ?_
        refine mi_ne (tgt := 46) hx hb dK_isLoadable_39 (by decide) (by omega) (by omega) (fun h35 => ?_) (fun h35 => ?_)
        · replace hR := hR.trans (if_neg h35)
          refine lv_iconst (v := nI 0) hx hb dK_isLoadable_46 (by decide) ?_
          exact mp_zret hx hb hr hlk rfl hP hD hS ((nI 0, q28.2), pl) ⟨⟨hR.symm, rfl, hF, (Or.inl rfl), trivial⟩, hO⟩ [] rfl rfl rfl (by omega) (by omega) dK_isLoadable_47
        · replace hR := hR.trans (if_pos h35)
          refine lv_iconst (v := nI 1) hx hb dK_isLoadable_42 (by decide) ?_
          refine lv_goto (tgt := 47) hx hb dK_isLoadable_43 (by decide) ?_
          exact mp_zret hx hb hr hlk rfl hP hD hS ((nI 1, q28.2), pl) ⟨⟨hR.symm, rfl, hF, (Or.inr ⟨rfl, 3, by decide, hv21, fun _ => (by show tl = 1312; omega), fun h9 => absurd h34 h9⟩), trivial⟩, hO⟩ [] rfl rfl rfl (by omega) (by omega) dK_isLoadable_47
      · replace hR := hR.trans (if_neg h34)
        refine lv_iload_n hx hb dK_isLoadable_11 rfl (lv_at hl 1 rfl) ?_
        refine lv_iconst (v := nI 3) hx hb dK_isLoadable_12 (by decide) ?_
        refine mi_lt (tgt := 18) hx hb dK_isLoadable_13 (by decide) (by omega) (by omega) (fun h36 => absurd h36 (by omega)) (fun h36 => ?_)
        refine lv_iconst (v := nI 0) hx hb dK_isLoadable_16 (by decide) ?_
        exact mp_zret hx hb hr hlk rfl hP hD hS ((nI 0, q21.2), pl) ⟨⟨hR.symm, rfl, hF, (Or.inl rfl), trivial⟩, hO⟩ [] rfl rfl rfl (by omega) (by omega) dK_isLoadable_17
    replace hR := hR.trans (if_neg hs24)
    by_cases hs25 : z21 = 4
    · replace hR := hR.trans (if_pos hs25)
      subst hs25
      refine lv_iload_n hx hb dK_isLoadable_7 rfl (lv_at hl 2 rfl) ?_
      refine lv_if_eq (tgt := 18) hx hb dK_isLoadable_8 (by decide) (fun h37 => ?_) (fun h37 => ?_)
      · replace hR := hR.trans (if_pos h37)
        refine lv_aload_n hx hb dK_isLoadable_18 rfl (lv_at hl 0 rfl) ?_
        refine nw_get (C := "LatticeKeys") (TT := T_K) (N := 11) hx hb hts (wg_ft i_K) hown hK hO k_h0 (kn := 0) (ci := 0) (fl := [(3, 1), (0, 0), (3, 2), (0, 0), (3, 3), (0, 0), (3, 4), (3, 8), (3, 12), (3, 24), (3, 39)]) rfl hP rfl 1 (by decide) (hts _ (wg_t kw_375)) (fun _ h9 => h9) (cd := (0, 0)) rfl dK_isLoadable_19 (fun v28 hv29 => ?_)
        obtain rfl := (show v28 = .int (q21.2.1 0 1) from hv29)
        obtain ⟨z36, ez36, hz50, hz51⟩ := cl_of (b := 2147483648) hf21 (by omega) (by decide)
        replace hR := bnd_step hR ez36
        refine mi_as hz50 ?_
        refine lv_iload_n hx hb dK_isLoadable_22 rfl (lv_at hl 2 rfl) ?_
        refine lv_if_eq (tgt := 34) hx hb dK_isLoadable_23 (by decide) (fun h9 => ?_) (fun h9 => absurd h37 h9)
        refine lv_aload_n hx hb dK_isLoadable_34 rfl (lv_at hl 0 rfl) ?_
        refine lv_iload_n hx hb dK_isLoadable_35 rfl (lv_at hl 1 rfl) ?_
        refine mp_i (cx := []) (wr := []) hP hD hS hA [] [] rfl rfl rfl (by decide) (va_runV (As := [.int (nI 4)]) (rest := [.int (nI z36)]) F (N_K_publicLength_4 l g _ T q21.2 pl hO hU h0 k_h0) (cwV 1 hts (wg_app (wg_c kw_566 (wg_c kw_568 (wg_c ks_2 (wg_c kw_1 wg_n)))) kw_569) rfl rfl rfl (by decide +kernel) ⟨by decide, by decide⟩) (pn_W "LatticeKeys" (en_ok g) (ci := 0) (kn := 0) (fl := [(3, 1), (0, 0), (3, 2), (0, 0), (3, 3), (0, 0), (3, 4), (3, 8), (3, 12), (3, 24), (3, 39)]) hK hO k_h0 rfl hP hD hS hA hE [] rfl rfl rfl) rfl rfl hl.1 rfl (lv_room (Nat.le_of_ble_eq_true rfl)) dK_isLoadable_36 ⟨by omega, by omega⟩) (fun r29 u29 H locs hu29 hP hD hS => ?_)
        obtain ⟨q29, pl⟩ := u29
        obtain ⟨⟨eq29, rfl, hFc29, ⟨x29, hx_29, hb_29⟩, hxp29, -⟩, hO⟩ := hu29
        have hO : okn g T q29.2 pl := hO
        have hP : va_P g.1 vcl ([] ++ pl) _ := hP
        have hD : va_D _ ([] ++ pl) := hD
        have hFc29 : frm (M_K_publicLength_4) q21.2 q29.2 := hFc29
        have hb_29 : x29 < 1953 := hb_29
        replace hR := bnd_step hR eq29
        have hF := frm_tr hF hFc29 (fun k hk => by unfold M_K_publicLength_4 at hk; unfold M_K_isLoadable; omega)
        have hf45 : q29.2.1 0 1 = nI tl := fc_F hf21 hFc29 (by unfold M_K_publicLength_4; omega)
        have hf46 : q29.2.1 0 3 = nI al := fc_F hf22 hFc29 (by unfold M_K_publicLength_4; omega)
        have hf47 : q29.2.1 0 5 = nI pn := fc_F hf23 hFc29 (by unfold M_K_publicLength_4; omega)
        obtain ⟨z37, ez37, hz52, hz53⟩ := cl_of (b := 2147483648) hx_29 (by omega) (by decide)
        replace hR := bnd_step hR ez37
        refine mi_as hz52 ?_
        have hsz28 : z37 = 1952 := (nI_eq (by omega) (by omega)).mp (hz52.symm.trans hxp29)
        subst hsz28
        refine W.widen (k := 0) (n := 0) (by omega) (by omega) ?_
        refine mi_ne (tgt := 46) hx hb dK_isLoadable_39 (by decide) (by omega) (by omega) (fun h38 => ?_) (fun h38 => ?_)
        · replace hR := hR.trans (if_neg h38)
          refine lv_iconst (v := nI 0) hx hb dK_isLoadable_46 (by decide) ?_
          exact mp_zret hx hb hr hlk rfl hP hD hS ((nI 0, q29.2), pl) ⟨⟨hR.symm, rfl, hF, (Or.inl rfl), trivial⟩, hO⟩ [] rfl rfl rfl (by omega) (by omega) dK_isLoadable_47
        · replace hR := hR.trans (if_pos h38)
          refine lv_iconst (v := nI 1) hx hb dK_isLoadable_42 (by decide) ?_
          refine lv_goto (tgt := 47) hx hb dK_isLoadable_43 (by decide) ?_
          exact mp_zret hx hb hr hlk rfl hP hD hS ((nI 1, q29.2), pl) ⟨⟨hR.symm, rfl, hF, (Or.inr ⟨rfl, 4, by decide, hv21, fun _ => (by show tl = 1952; omega), fun h9 => absurd h37 h9⟩), trivial⟩, hO⟩ [] rfl rfl rfl (by omega) (by omega) dK_isLoadable_47
      · replace hR := hR.trans (if_neg h37)
        refine lv_iload_n hx hb dK_isLoadable_11 rfl (lv_at hl 1 rfl) ?_
        refine lv_iconst (v := nI 3) hx hb dK_isLoadable_12 (by decide) ?_
        refine mi_lt (tgt := 18) hx hb dK_isLoadable_13 (by decide) (by omega) (by omega) (fun h39 => absurd h39 (by omega)) (fun h39 => ?_)
        refine lv_iconst (v := nI 0) hx hb dK_isLoadable_16 (by decide) ?_
        exact mp_zret hx hb hr hlk rfl hP hD hS ((nI 0, q21.2), pl) ⟨⟨hR.symm, rfl, hF, (Or.inl rfl), trivial⟩, hO⟩ [] rfl rfl rfl (by omega) (by omega) dK_isLoadable_17
    replace hR := hR.trans (if_neg hs25)
    have hs26 : z21 = 5 := by omega
    subst hs26
    refine lv_iload_n hx hb dK_isLoadable_7 rfl (lv_at hl 2 rfl) ?_
    refine lv_if_eq (tgt := 18) hx hb dK_isLoadable_8 (by decide) (fun h40 => ?_) (fun h40 => ?_)
    · replace hR := hR.trans (if_pos h40)
      refine lv_aload_n hx hb dK_isLoadable_18 rfl (lv_at hl 0 rfl) ?_
      refine nw_get (C := "LatticeKeys") (TT := T_K) (N := 11) hx hb hts (wg_ft i_K) hown hK hO k_h0 (kn := 0) (ci := 0) (fl := [(3, 1), (0, 0), (3, 2), (0, 0), (3, 3), (0, 0), (3, 4), (3, 8), (3, 12), (3, 24), (3, 39)]) rfl hP rfl 1 (by decide) (hts _ (wg_t kw_375)) (fun _ h9 => h9) (cd := (0, 0)) rfl dK_isLoadable_19 (fun v29 hv30 => ?_)
      obtain rfl := (show v29 = .int (q21.2.1 0 1) from hv30)
      obtain ⟨z38, ez38, hz54, hz55⟩ := cl_of (b := 2147483648) hf21 (by omega) (by decide)
      replace hR := bnd_step hR ez38
      refine mi_as hz54 ?_
      refine lv_iload_n hx hb dK_isLoadable_22 rfl (lv_at hl 2 rfl) ?_
      refine lv_if_eq (tgt := 34) hx hb dK_isLoadable_23 (by decide) (fun h9 => ?_) (fun h9 => absurd h40 h9)
      refine lv_aload_n hx hb dK_isLoadable_34 rfl (lv_at hl 0 rfl) ?_
      refine lv_iload_n hx hb dK_isLoadable_35 rfl (lv_at hl 1 rfl) ?_
      refine mp_i (cx := []) (wr := []) hP hD hS hA [] [] rfl rfl rfl (by decide) (va_runV (As := [.int (nI 5)]) (rest := [.int (nI z38)]) F (N_K_publicLength_5 l g _ T q21.2 pl hO hU h0 k_h0) (cwV 1 hts (wg_app (wg_c kw_566 (wg_c kw_568 (wg_c ks_2 (wg_c kw_1 wg_n)))) kw_569) rfl rfl rfl (by decide +kernel) ⟨by decide, by decide⟩) (pn_W "LatticeKeys" (en_ok g) (ci := 0) (kn := 0) (fl := [(3, 1), (0, 0), (3, 2), (0, 0), (3, 3), (0, 0), (3, 4), (3, 8), (3, 12), (3, 24), (3, 39)]) hK hO k_h0 rfl hP hD hS hA hE [] rfl rfl rfl) rfl rfl hl.1 rfl (lv_room (Nat.le_of_ble_eq_true rfl)) dK_isLoadable_36 ⟨by omega, by omega⟩) (fun r30 u30 H locs hu30 hP hD hS => ?_)
      obtain ⟨q30, pl⟩ := u30
      obtain ⟨⟨eq30, rfl, hFc30, ⟨x30, hx_30, hb_30⟩, hxp30, -⟩, hO⟩ := hu30
      have hO : okn g T q30.2 pl := hO
      have hP : va_P g.1 vcl ([] ++ pl) _ := hP
      have hD : va_D _ ([] ++ pl) := hD
      have hFc30 : frm (M_K_publicLength_5) q21.2 q30.2 := hFc30
      have hb_30 : x30 < 2593 := hb_30
      replace hR := bnd_step hR eq30
      have hF := frm_tr hF hFc30 (fun k hk => by unfold M_K_publicLength_5 at hk; unfold M_K_isLoadable; omega)
      have hf48 : q30.2.1 0 1 = nI tl := fc_F hf21 hFc30 (by unfold M_K_publicLength_5; omega)
      have hf49 : q30.2.1 0 3 = nI al := fc_F hf22 hFc30 (by unfold M_K_publicLength_5; omega)
      have hf50 : q30.2.1 0 5 = nI pn := fc_F hf23 hFc30 (by unfold M_K_publicLength_5; omega)
      obtain ⟨z39, ez39, hz56, hz57⟩ := cl_of (b := 2147483648) hx_30 (by omega) (by decide)
      replace hR := bnd_step hR ez39
      refine mi_as hz56 ?_
      have hsz29 : z39 = 2592 := (nI_eq (by omega) (by omega)).mp (hz56.symm.trans hxp30)
      subst hsz29
      refine W.widen (k := 0) (n := 0) (by omega) (by omega) ?_
      refine mi_ne (tgt := 46) hx hb dK_isLoadable_39 (by decide) (by omega) (by omega) (fun h41 => ?_) (fun h41 => ?_)
      · replace hR := hR.trans (if_neg h41)
        refine lv_iconst (v := nI 0) hx hb dK_isLoadable_46 (by decide) ?_
        exact mp_zret hx hb hr hlk rfl hP hD hS ((nI 0, q30.2), pl) ⟨⟨hR.symm, rfl, hF, (Or.inl rfl), trivial⟩, hO⟩ [] rfl rfl rfl (by omega) (by omega) dK_isLoadable_47
      · replace hR := hR.trans (if_pos h41)
        refine lv_iconst (v := nI 1) hx hb dK_isLoadable_42 (by decide) ?_
        refine lv_goto (tgt := 47) hx hb dK_isLoadable_43 (by decide) ?_
        exact mp_zret hx hb hr hlk rfl hP hD hS ((nI 1, q30.2), pl) ⟨⟨hR.symm, rfl, hF, (Or.inr ⟨rfl, 5, by decide, hv21, fun _ => (by show tl = 2592; omega), fun h9 => absurd h40 h9⟩), trivial⟩, hO⟩ [] rfl rfl rfl (by omega) (by omega) dK_isLoadable_47
    · replace hR := hR.trans (if_neg h40)
      refine lv_iload_n hx hb dK_isLoadable_11 rfl (lv_at hl 1 rfl) ?_
      refine lv_iconst (v := nI 3) hx hb dK_isLoadable_12 (by decide) ?_
      refine mi_lt (tgt := 18) hx hb dK_isLoadable_13 (by decide) (by omega) (by omega) (fun h42 => absurd h42 (by omega)) (fun h42 => ?_)
      refine lv_iconst (v := nI 0) hx hb dK_isLoadable_16 (by decide) ?_
      exact mp_zret hx hb hr hlk rfl hP hD hS ((nI 0, q21.2), pl) ⟨⟨hR.symm, rfl, hF, (Or.inl rfl), trivial⟩, hO⟩ [] rfl rfl rfl (by omega) (by omega) dK_isLoadable_17
