set_option linter.all false
abbrev c_M_told : ByteArray := prog_12_method_20_code
abbrev y_M_told : MethodName := ⟨"LatticeKeysModel", "told", "(II)I"⟩
abbrev w_M_told : List Cond := Cond.code y_M_told c_M_told 3 (some .int) :: WG
theorem dM_told_0 : decode c_M_told 0 = .ok (.aload_n 0, 1) := by decide +kernel
theorem dM_told_1 : decode c_M_told 1 = .ok (.iconst 0, 1) := by decide +kernel
theorem dM_told_2 : decode c_M_told 2 = .ok (.putfield 57, 3) := by decide +kernel
theorem dM_told_5 : decode c_M_told 5 = .ok (.aload_n 0, 1) := by decide +kernel
theorem dM_told_6 : decode c_M_told 6 = .ok (.iload_n 1, 1) := by decide +kernel
theorem dM_told_7 : decode c_M_told 7 = .ok (.invokevirtual 103, 3) := by decide +kernel
theorem dM_told_10 : decode c_M_told 10 = .ok (.ifCond .eq 9, 3) := by decide +kernel
theorem dM_told_13 : decode c_M_told 13 = .ok (.aload_n 0, 1) := by decide +kernel
theorem dM_told_14 : decode c_M_told 14 = .ok (.iconst 1, 1) := by decide +kernel
theorem dM_told_15 : decode c_M_told 15 = .ok (.invokevirtual 73, 3) := by decide +kernel
theorem dM_told_18 : decode c_M_told 18 = .ok (.ireturn, 1) := by decide +kernel
theorem dM_told_19 : decode c_M_told 19 = .ok (.iload_n 2, 1) := by decide +kernel
theorem dM_told_20 : decode c_M_told 20 = .ok (.tableswitch 49 0 2 #[28, 35, 42], 28) := by decide +kernel
theorem dM_told_48 : decode c_M_told 48 = .ok (.aload_n 0, 1) := by decide +kernel
theorem dM_told_49 : decode c_M_told 49 = .ok (.getfield 27, 3) := by decide +kernel
theorem dM_told_52 : decode c_M_told 52 = .ok (.iload_n 1, 1) := by decide +kernel
theorem dM_told_53 : decode c_M_told 53 = .ok (.iaload, 1) := by decide +kernel
theorem dM_told_54 : decode c_M_told 54 = .ok (.ireturn, 1) := by decide +kernel
theorem dM_told_55 : decode c_M_told 55 = .ok (.aload_n 0, 1) := by decide +kernel
theorem dM_told_56 : decode c_M_told 56 = .ok (.iload_n 1, 1) := by decide +kernel
theorem dM_told_57 : decode c_M_told 57 = .ok (.iconst 0, 1) := by decide +kernel
theorem dM_told_58 : decode c_M_told 58 = .ok (.invokevirtual 107, 3) := by decide +kernel
theorem dM_told_61 : decode c_M_told 61 = .ok (.ireturn, 1) := by decide +kernel
theorem dM_told_62 : decode c_M_told 62 = .ok (.aload_n 0, 1) := by decide +kernel
theorem dM_told_63 : decode c_M_told 63 = .ok (.iload_n 1, 1) := by decide +kernel
theorem dM_told_64 : decode c_M_told 64 = .ok (.iconst 1, 1) := by decide +kernel
theorem dM_told_65 : decode c_M_told 65 = .ok (.invokevirtual 107, 3) := by decide +kernel
theorem dM_told_68 : decode c_M_told 68 = .ok (.ireturn, 1) := by decide +kernel
theorem dM_told_69 : decode c_M_told 69 = .ok (.aload_n 0, 1) := by decide +kernel
theorem dM_told_70 : decode c_M_told 70 = .ok (.iconst 2, 1) := by decide +kernel
theorem dM_told_71 : decode c_M_told 71 = .ok (.invokevirtual 73, 3) := by decide +kernel
theorem dM_told_74 : decode c_M_told 74 = .ok (.ireturn, 1) := by decide +kernel
theorem rng {v : Int32} (n : Nat) (hn : n < 2 ^ 31) : (∃ j, j ≤ n ∧ v = nI j) ∨ (v < 0 ∨ nI n < v) := by
  by_cases h : v < 0
  · exact Or.inr (Or.inl h)
  · by_cases h2 : nI n < v
    · exact Or.inr (Or.inr h2)
    · exact Or.inl (i32_lex h hn h2)
theorem tout {v : Int32} {n : Nat} (hn : n < 2 ^ 31) (h : v < 0 ∨ nI n < v) : v.toInt < 0 ∨ (n : Int) < v.toInt := by
  rcases h with h | h
  · exact Or.inl (by simpa using Int32.lt_iff_toInt_lt.mp h)
  · have := Int32.lt_iff_toInt_lt.mp h
    rw [nI_toInt hn] at this
    exact Or.inr this
def M_M_told (k : Nat) : Prop := k = 148 ∨ (0 : Nat) = 1
noncomputable def F_M_told (v : Int32) (v2 : Int32) (s : Sto) : Int32 × Sto := bnd (sI s 148 0 (nI 0)) fun s21 => bnd (F_M_none v s21) fun q21 => if (q21.1) = 0 then bnd (v.toNatClampNeg) fun z21 => if v2 = nI 0 then if (q21.2.1 170 z21) = nI 0 then (nI 0, q21.2) else if (q21.2.1 170 z21) = nI 1 then (nI 1, q21.2) else if (q21.2.1 170 z21) = nI 2 then (nI 2, q21.2) else if (q21.2.1 170 z21) = nI 3 then (nI 3, q21.2) else if (q21.2.1 170 z21) = nI 4 then (nI 4, q21.2) else (nI 5, q21.2) else if v2 = nI 1 then bnd (F_M_size z21 (nI 0) q21.2) fun q22 => bnd (q22.1.toNatClampNeg) fun z22 => (nI z22, q22.2) else if v2 = nI 2 then bnd (F_M_size z21 (nI 1) q21.2) fun q23 => bnd (q23.1.toNatClampNeg) fun z23 => (nI z23, q23.2) else bnd (F_M_fail (nI 2) q21.2) fun q24 => (q24.1, q24.2) else bnd (F_M_fail (nI 1) q21.2) fun q25 => (q25.1, q25.2)
set_option maxHeartbeats 2000000 in
set_option maxRecDepth 100000 in
theorem N_M_told (l : Launch) (g : Gd) (sz : Nat) (T : TyN) (s : Sto) (pl : va_W) (hO : okn g T s pl) (hU : inj T) (h0 : Nat) (v : Int32) (v2 : Int32) (tp : Nat) (rs : Nat) (ks : Nat) (k_h0 : T h0 = some 148) (e_tp : s.1 148 1 = nI tp) (e_rs : s.1 148 2 = nI rs) (e_ks : s.1 148 3 = nI ks) (h1 : tp ≤ 16384) (h2 : rs ≤ 8192) (h3 : ks ≤ 8) (qst : SETS ks (s.1 170)) (qhd : HIDS ks (s.1 171))  : Met l y_M_told w_M_told ({ frames := 3, cells := 0, slots := 0, locals := 62 } : Room) (va_Pc [.ref h0, .int v, .int v2] (pr (en g) g.1 vcl sz ([] ++ pl))) (va_Qi (fun (r : Int32) (u : (Int32 × Sto) × va_W) => (u.1 = F_M_told v v2 s ∧ r = u.1.1 ∧ frm (M_M_told) s u.1.2 ∧ (∃ x : Nat, u.1.2.1 148 1 = nI x ∧ x ≤ 16384) ∧ (∃ x : Nat, u.1.2.1 148 2 = nI x ∧ x ≤ 8192) ∧ (∃ x : Nat, u.1.2.1 148 3 = nI x ∧ x ≤ 8) ∧ True) ∧ okn g T u.1.2 u.2) (po g.1 vcl (va_A ([] ++ pl) sz) (fun (u : (Int32 × Sto) × va_W) => [] ++ u.2)) (va_A ([] ++ pl) sz)) 0 0 (va_A ([] ++ pl) sz) := by
  refine mc_entry (cc := c_M_told) (maxL := 3) (ret := (some .int)) (by decide) rfl (Nat.le_of_ble_eq_true rfl) ?_
  intro p e s0 m args below meth c ls F hr hlk hnm hsz hP hD hE hA hl
  obtain ⟨hx, hb, hml, hown, hts⟩ := id F
  have hK := hE.1
  generalize va_A ([] ++ pl) sz = A at hD hE hA ⊢
  have hS : va_S A s0.heap s0.heap [] := va_S.rf
  have hl : lv_has ls 3 [(0, .ref h0), (1, .int v), (2, .int v2)] := hl
  have hR : F_M_told v v2 s = F_M_told v v2 s := rfl
  have hF : frm (M_M_told) s s := frm_rf
  refine lv_aload_n hx hb dM_told_0 rfl (lv_at hl 0 rfl) ?_
  refine lv_iconst (v := nI 0) hx hb dM_told_1 (by decide) ?_
  refine nw_put (C := "LatticeKeysModel") (TT := T_M) (N := 14) hx hb hts (wg_ft i_M) ty_M k_M n_M hown hK hO hU k_h0 (kn := 148) (ci := 8) (fl := [(0, 0), (0, 0), (0, 0), (0, 0), (3, 149), (3, 150), (3, 151), (3, 152), (3, 161), (3, 170), (3, 171), (3, 172), (3, 184), (3, 225)]) rfl hP hD hS rfl 0 (by decide) (hts _ (wg_t kw_1526)) (fun _ h9 => h9) rfl (by decide +kernel) rfl dM_told_2 (fun s21 pl H locs es21 hO hP hD hS => ?_)
  replace hR := bnd_step hR es21
  have hF := frm_sI hF es21 (by unfold M_M_told; omega)
  have hf21 : s21.1 148 1 = nI tp := fc_ne e_tp es21 (by omega)
  have hf22 : s21.1 148 2 = nI rs := fc_ne e_rs es21 (by omega)
  have hf23 : s21.1 148 3 = nI ks := fc_ne e_ks es21 (by omega)
  have hf24 : s21.1 148 0 = nI 0 := fc_eq es21
  have hg21 : SETS ks (s21.1 170) := by rw [(ar_sI es21 (by omega))]; exact qst
  have hg22 : HIDS ks (s21.1 171) := by rw [(ar_sI es21 (by omega))]; exact qhd
  refine lv_aload_n hx hb dM_told_5 rfl (lv_at hl 0 rfl) ?_
  refine lv_iload_n hx hb dM_told_6 rfl (lv_at hl 1 rfl) ?_
  refine mp_i (cx := []) (wr := []) hP hD hS hA [] [] rfl rfl rfl (by decide) (va_runV (As := [.int v]) (rest := []) F (N_M_none l g _ T s21 pl hO hU h0 v tp rs ks k_h0 hf21 hf22 hf23 (by omega)) (cwV 1 hts (wg_app (wg_c kw_1781 (wg_c kw_1783 (wg_c ks_65 (wg_c kw_9 wg_n)))) kw_1784) rfl rfl rfl (by decide +kernel) ⟨by decide, by decide⟩) (pn_W "LatticeKeysModel" (en_ok g) (ci := 8) (kn := 148) (fl := [(0, 0), (0, 0), (0, 0), (0, 0), (3, 149), (3, 150), (3, 151), (3, 152), (3, 161), (3, 170), (3, 171), (3, 172), (3, 184), (3, 225)]) hK hO k_h0 rfl hP hD hS hA hE [] rfl rfl rfl) rfl rfl hl.1 rfl (lv_room (Nat.le_of_ble_eq_true rfl)) dM_told_7 ⟨by omega, by omega⟩) (fun r21 u21 H locs hu21 hP hD hS => ?_)
  obtain ⟨q21, pl⟩ := u21
  obtain ⟨⟨eq21, rfl, hFc21, hxp21, -⟩, hO⟩ := hu21
  have hO : okn g T q21.2 pl := hO
  have hP : va_P g.1 vcl ([] ++ pl) _ := hP
  have hD : va_D _ ([] ++ pl) := hD
  have hFc21 : frm (M_M_none) s21 q21.2 := hFc21
  replace hR := bnd_step hR eq21
  have hF := frm_tr hF hFc21 (fun k hk => by unfold M_M_none at hk; unfold M_M_told; omega)
  have hf25 : q21.2.1 148 1 = nI tp := fc_F hf21 hFc21 (by unfold M_M_none; omega)
  have hf26 : q21.2.1 148 2 = nI rs := fc_F hf22 hFc21 (by unfold M_M_none; omega)
  have hf27 : q21.2.1 148 3 = nI ks := fc_F hf23 hFc21 (by unfold M_M_none; omega)
  have hf28 : q21.2.1 148 0 = nI 0 := fc_F hf24 hFc21 (by unfold M_M_none; omega)
  have hg23 : SETS ks (q21.2.1 170) := by rw [hFc21 170 (by unfold M_M_none; omega)]; exact hg21
  have hg24 : HIDS ks (q21.2.1 171) := by rw [hFc21 171 (by unfold M_M_none; omega)]; exact hg22
  refine W.widen (k := 0) (n := 0) (by omega) (by omega) ?_
  refine lv_if_eq (tgt := 19) hx hb dM_told_10 (by decide) (fun h21 => ?_) (fun h21 => ?_)
  · replace hR := hR.trans (if_pos h21)
    obtain ⟨z21, hz21, hv21⟩ := (hxp21.resolve_left (fun h9 => absurd (h9.symm.trans h21) (by decide))).2
    have ez21 : z21 = v.toNatClampNeg := by rw [hv21]; exact (nI_clamp (by omega)).symm
    replace hR := bnd_step hR ez21
    rw [hv21] at hl
    refine lv_iload_n hx hb dM_told_19 rfl (lv_at hl 2 rfl) ?_
    by_cases hs21 : v2 = nI 0
    · replace hR := hR.trans (if_pos hs21)
      refine mi_as hs21 ?_
      refine lv_tableIn (off := 28) (tgt := 48) hx hb dM_told_20 (by decide) (by decide) (by decide) (by decide) ?_
      refine lv_aload_n hx hb dM_told_48 rfl (lv_at hl 0 rfl) ?_
      refine nw_get (C := "LatticeKeysModel") (TT := T_M) (N := 14) hx hb hts (wg_ft i_M) hown hK hO k_h0 (kn := 148) (ci := 8) (fl := [(0, 0), (0, 0), (0, 0), (0, 0), (3, 149), (3, 150), (3, 151), (3, 152), (3, 161), (3, 170), (3, 171), (3, 172), (3, 184), (3, 225)]) rfl hP rfl 9 (by decide) (hts _ (wg_t kw_1535)) (fun _ h9 => h9) (cd := (3, 170)) rfl dM_told_49 (fun v21 hv22 => ?_)
      obtain ⟨r22, rfl, kr21⟩ := (show ∃ r : Nat, v21 = .ref r ∧ T r = some 170 from hv22)
      refine lv_iload_n hx hb dM_told_52 rfl (lv_at hl 1 rfl) ?_
      refine nw_iald hx hb hK hO kr21 (k := 170) rfl hP (by omega) (by omega) dM_told_53 ?_
      by_cases hs24 : (q21.2.1 170 z21) = nI 0
      · replace hR := hR.trans (if_pos hs24)
        refine mi_as hs24 ?_
        exact mp_iret hx hb hr hlk hP hD hS ((nI 0, q21.2), pl) ⟨⟨hR.symm, rfl, hF, ⟨tp, hf25, by omega⟩, ⟨rs, hf26, by omega⟩, ⟨ks, hf27, by omega⟩, trivial⟩, hO⟩ [] rfl rfl rfl (by omega) (by omega) dM_told_54
      replace hR := hR.trans (if_neg hs24)
      by_cases hs25 : (q21.2.1 170 z21) = nI 1
      · replace hR := hR.trans (if_pos hs25)
        refine mi_as hs25 ?_
        exact mp_iret hx hb hr hlk hP hD hS ((nI 1, q21.2), pl) ⟨⟨hR.symm, rfl, hF, ⟨tp, hf25, by omega⟩, ⟨rs, hf26, by omega⟩, ⟨ks, hf27, by omega⟩, trivial⟩, hO⟩ [] rfl rfl rfl (by omega) (by omega) dM_told_54
      replace hR := hR.trans (if_neg hs25)
      by_cases hs26 : (q21.2.1 170 z21) = nI 2
      · replace hR := hR.trans (if_pos hs26)
        refine mi_as hs26 ?_
        exact mp_iret hx hb hr hlk hP hD hS ((nI 2, q21.2), pl) ⟨⟨hR.symm, rfl, hF, ⟨tp, hf25, by omega⟩, ⟨rs, hf26, by omega⟩, ⟨ks, hf27, by omega⟩, trivial⟩, hO⟩ [] rfl rfl rfl (by omega) (by omega) dM_told_54
      replace hR := hR.trans (if_neg hs26)
      by_cases hs27 : (q21.2.1 170 z21) = nI 3
      · replace hR := hR.trans (if_pos hs27)
        refine mi_as hs27 ?_
        exact mp_iret hx hb hr hlk hP hD hS ((nI 3, q21.2), pl) ⟨⟨hR.symm, rfl, hF, ⟨tp, hf25, by omega⟩, ⟨rs, hf26, by omega⟩, ⟨ks, hf27, by omega⟩, trivial⟩, hO⟩ [] rfl rfl rfl (by omega) (by omega) dM_told_54
      replace hR := hR.trans (if_neg hs27)
      by_cases hs28 : (q21.2.1 170 z21) = nI 4
      · replace hR := hR.trans (if_pos hs28)
        refine mi_as hs28 ?_
        exact mp_iret hx hb hr hlk hP hD hS ((nI 4, q21.2), pl) ⟨⟨hR.symm, rfl, hF, ⟨tp, hf25, by omega⟩, ⟨rs, hf26, by omega⟩, ⟨ks, hf27, by omega⟩, trivial⟩, hO⟩ [] rfl rfl rfl (by omega) (by omega) dM_told_54
      replace hR := hR.trans (if_neg hs28)
      have hs29 : (q21.2.1 170 z21) = nI 5 := set5 hg23 (by omega) hs24 hs25 hs26 hs27 hs28
      refine mi_as hs29 ?_
      exact mp_iret hx hb hr hlk hP hD hS ((nI 5, q21.2), pl) ⟨⟨hR.symm, rfl, hF, ⟨tp, hf25, by omega⟩, ⟨rs, hf26, by omega⟩, ⟨ks, hf27, by omega⟩, trivial⟩, hO⟩ [] rfl rfl rfl (by omega) (by omega) dM_told_54
    replace hR := hR.trans (if_neg hs21)
    by_cases hs22 : v2 = nI 1
    · replace hR := hR.trans (if_pos hs22)
      refine mi_as hs22 ?_
      refine lv_tableIn (off := 35) (tgt := 55) hx hb dM_told_20 (by decide) (by decide) (by decide) (by decide) ?_
      refine lv_aload_n hx hb dM_told_55 rfl (lv_at hl 0 rfl) ?_
      refine lv_iload_n hx hb dM_told_56 rfl (lv_at hl 1 rfl) ?_
      refine lv_iconst (v := nI 0) hx hb dM_told_57 (by decide) ?_
      refine mp_i (cx := []) (wr := []) hP hD hS hA [] [] rfl rfl rfl (by decide) (va_runV (As := [.int (nI z21), .int (nI 0)]) (rest := []) F (N_M_size l g _ T q21.2 pl hO hU h0 z21 (nI 0) tp rs ks k_h0 hf25 hf26 hf27 (by omega) (by omega) hg23 hg24) (cwV 2 hts (wg_app (wg_c kw_1785 (wg_c kw_1787 (wg_c ks_66 (wg_c kw_9 wg_n)))) kw_1788) rfl rfl rfl (by decide +kernel) ⟨by decide, by decide⟩) (pn_W "LatticeKeysModel" (en_ok g) (ci := 8) (kn := 148) (fl := [(0, 0), (0, 0), (0, 0), (0, 0), (3, 149), (3, 150), (3, 151), (3, 152), (3, 161), (3, 170), (3, 171), (3, 172), (3, 184), (3, 225)]) hK hO k_h0 rfl hP hD hS hA hE [] rfl rfl rfl) rfl rfl hl.1 rfl (lv_room (Nat.le_of_ble_eq_true rfl)) dM_told_58 ⟨by omega, by omega⟩) (fun r23 u22 H locs hu22 hP hD hS => ?_)
      obtain ⟨q22, pl⟩ := u22
      obtain ⟨⟨eq22, rfl, hFc22, ⟨x22, hx_22, hb_22⟩, hxp22, -⟩, hO⟩ := hu22
      have hO : okn g T q22.2 pl := hO
      have hP : va_P g.1 vcl ([] ++ pl) _ := hP
      have hD : va_D _ ([] ++ pl) := hD
      have hFc22 : frm (M_M_size) q21.2 q22.2 := hFc22
      have hb_22 : x22 < 4897 := hb_22
      replace hR := bnd_step hR eq22
      have hF := frm_tr hF hFc22 (fun k hk => by unfold M_M_size at hk; unfold M_M_told; omega)
      have hf29 : q22.2.1 148 1 = nI tp := fc_F hf25 hFc22 (by unfold M_M_size; omega)
      have hf30 : q22.2.1 148 2 = nI rs := fc_F hf26 hFc22 (by unfold M_M_size; omega)
      have hf31 : q22.2.1 148 3 = nI ks := fc_F hf27 hFc22 (by unfold M_M_size; omega)
      have hf32 : q22.2.1 148 0 = nI 0 := fc_F hf28 hFc22 (by unfold M_M_size; omega)
      have hg25 : SETS ks (q22.2.1 170) := by rw [hFc22 170 (by unfold M_M_size; omega)]; exact hg23
      have hg26 : HIDS ks (q22.2.1 171) := by rw [hFc22 171 (by unfold M_M_size; omega)]; exact hg24
      obtain ⟨z22, ez22, hz22, hz23⟩ := cl_of (b := 2147483648) hx_22 (by omega) (by decide)
      replace hR := bnd_step hR ez22
      refine mi_as hz22 ?_
      refine W.widen (k := 0) (n := 0) (by omega) (by omega) ?_
      exact mp_iret hx hb hr hlk hP hD hS ((nI z22, q22.2), pl) ⟨⟨hR.symm, rfl, hF, ⟨tp, hf29, by omega⟩, ⟨rs, hf30, by omega⟩, ⟨ks, hf31, by omega⟩, trivial⟩, hO⟩ [] rfl rfl rfl (by omega) (by omega) dM_told_61
    replace hR := hR.trans (if_neg hs22)
    by_cases hs23 : v2 = nI 2
    · replace hR := hR.trans (if_pos hs23)
      refine mi_as hs23 ?_
      refine lv_tableIn (off := 42) (tgt := 62) hx hb dM_told_20 (by decide) (by decide) (by decide) (by decide) ?_
      refine lv_aload_n hx hb dM_told_62 rfl (lv_at hl 0 rfl) ?_
      refine lv_iload_n hx hb dM_told_63 rfl (lv_at hl 1 rfl) ?_
      refine lv_iconst (v := nI 1) hx hb dM_told_64 (by decide) ?_
      refine mp_i (cx := []) (wr := []) hP hD hS hA [] [] rfl rfl rfl (by decide) (va_runV (As := [.int (nI z21), .int (nI 1)]) (rest := []) F (N_M_size l g _ T q21.2 pl hO hU h0 z21 (nI 1) tp rs ks k_h0 hf25 hf26 hf27 (by omega) (by omega) hg23 hg24) (cwV 2 hts (wg_app (wg_c kw_1785 (wg_c kw_1787 (wg_c ks_66 (wg_c kw_9 wg_n)))) kw_1788) rfl rfl rfl (by decide +kernel) ⟨by decide, by decide⟩) (pn_W "LatticeKeysModel" (en_ok g) (ci := 8) (kn := 148) (fl := [(0, 0), (0, 0), (0, 0), (0, 0), (3, 149), (3, 150), (3, 151), (3, 152), (3, 161), (3, 170), (3, 171), (3, 172), (3, 184), (3, 225)]) hK hO k_h0 rfl hP hD hS hA hE [] rfl rfl rfl) rfl rfl hl.1 rfl (lv_room (Nat.le_of_ble_eq_true rfl)) dM_told_65 ⟨by omega, by omega⟩) (fun r24 u23 H locs hu23 hP hD hS => ?_)
      obtain ⟨q23, pl⟩ := u23
      obtain ⟨⟨eq23, rfl, hFc23, ⟨x23, hx_23, hb_23⟩, hxp23, -⟩, hO⟩ := hu23
      have hO : okn g T q23.2 pl := hO
      have hP : va_P g.1 vcl ([] ++ pl) _ := hP
      have hD : va_D _ ([] ++ pl) := hD
      have hFc23 : frm (M_M_size) q21.2 q23.2 := hFc23
      have hb_23 : x23 < 4897 := hb_23
      replace hR := bnd_step hR eq23
      have hF := frm_tr hF hFc23 (fun k hk => by unfold M_M_size at hk; unfold M_M_told; omega)
      have hf33 : q23.2.1 148 1 = nI tp := fc_F hf25 hFc23 (by unfold M_M_size; omega)
      have hf34 : q23.2.1 148 2 = nI rs := fc_F hf26 hFc23 (by unfold M_M_size; omega)
      have hf35 : q23.2.1 148 3 = nI ks := fc_F hf27 hFc23 (by unfold M_M_size; omega)
      have hf36 : q23.2.1 148 0 = nI 0 := fc_F hf28 hFc23 (by unfold M_M_size; omega)
      have hg27 : SETS ks (q23.2.1 170) := by rw [hFc23 170 (by unfold M_M_size; omega)]; exact hg23
      have hg28 : HIDS ks (q23.2.1 171) := by rw [hFc23 171 (by unfold M_M_size; omega)]; exact hg24
      obtain ⟨z23, ez23, hz24, hz25⟩ := cl_of (b := 2147483648) hx_23 (by omega) (by decide)
      replace hR := bnd_step hR ez23
      refine mi_as hz24 ?_
      refine W.widen (k := 0) (n := 0) (by omega) (by omega) ?_
      exact mp_iret hx hb hr hlk hP hD hS ((nI z23, q23.2), pl) ⟨⟨hR.symm, rfl, hF, ⟨tp, hf33, by omega⟩, ⟨rs, hf34, by omega⟩, ⟨ks, hf35, by omega⟩, trivial⟩, hO⟩ [] rfl rfl rfl (by omega) (by omega) dM_told_68
    replace hR := hR.trans (if_neg hs23)
    have hb9 := (rng (v := v2) 2 (by decide)).resolve_left (fun ⟨j9, hj9, e9⟩ => by
      have h9 : j9 = 0 ∨ j9 = 1 ∨ j9 = 2 := by omega
      rcases h9 with rfl | rfl | rfl
      · exact hs21 e9
      · exact hs22 e9
      · exact hs23 e9)
    refine lv_tableOut (tgt := 69) hx hb dM_told_20 (tout (by decide) hb9) (by decide) ?_
    refine lv_aload_n hx hb dM_told_69 rfl (lv_at hl 0 rfl) ?_
    refine lv_iconst (v := nI 2) hx hb dM_told_70 (by decide) ?_
    refine mp_i (cx := []) (wr := []) hP hD hS hA [] [] rfl rfl rfl (by decide) (va_runV (As := [.int (nI 2)]) (rest := []) F (N_M_fail l g _ T q21.2 pl hO hU h0 (nI 2) tp rs ks k_h0 hf25 hf26 hf27) (cwV 1 hts (wg_app (wg_c kw_1577 (wg_c kw_1579 (wg_c ks_50 (wg_c kw_9 wg_n)))) kw_1580) rfl rfl rfl (by decide +kernel) ⟨by decide, by decide⟩) (pn_W "LatticeKeysModel" (en_ok g) (ci := 8) (kn := 148) (fl := [(0, 0), (0, 0), (0, 0), (0, 0), (3, 149), (3, 150), (3, 151), (3, 152), (3, 161), (3, 170), (3, 171), (3, 172), (3, 184), (3, 225)]) hK hO k_h0 rfl hP hD hS hA hE [] rfl rfl rfl) rfl rfl hl.1 rfl (lv_room (Nat.le_of_ble_eq_true rfl)) dM_told_71 ⟨by omega, by omega⟩) (fun r25 u24 H locs hu24 hP hD hS => ?_)
    obtain ⟨q24, pl⟩ := u24
    obtain ⟨⟨eq24, rfl, hFc24, ⟨x24, hx_24, hb_24⟩, ⟨x25, hx_25, hb_25⟩, ⟨x26, hx_26, hb_26⟩, -⟩, hO⟩ := hu24
    have hO : okn g T q24.2 pl := hO
    have hP : va_P g.1 vcl ([] ++ pl) _ := hP
    have hD : va_D _ ([] ++ pl) := hD
    have hFc24 : frm (M_M_fail) q21.2 q24.2 := hFc24
    have hb_24 : x24 = tp := hb_24
    have hb_25 : x25 = rs := hb_25
    have hb_26 : x26 = ks := hb_26
    replace hR := bnd_step hR eq24
    have hF := frm_tr hF hFc24 (fun k hk => by unfold M_M_fail at hk; unfold M_M_told; omega)
    have hg29 : SETS ks (q24.2.1 170) := by rw [hFc24 170 (by unfold M_M_fail; omega)]; exact hg23
    have hg30 : HIDS ks (q24.2.1 171) := by rw [hFc24 171 (by unfold M_M_fail; omega)]; exact hg24
    refine W.widen (k := 0) (n := 0) (by omega) (by omega) ?_
    exact mp_iret hx hb hr hlk hP hD hS ((q24.1, q24.2), pl) ⟨⟨hR.symm, rfl, hF, ⟨x24, hx_24, by omega⟩, ⟨x25, hx_25, by omega⟩, ⟨x26, hx_26, by omega⟩, trivial⟩, hO⟩ [] rfl rfl rfl (by omega) (by omega) dM_told_74
  · replace hR := hR.trans (if_neg h21)
    refine lv_aload_n hx hb dM_told_13 rfl (lv_at hl 0 rfl) ?_
    refine lv_iconst (v := nI 1) hx hb dM_told_14 (by decide) ?_
    refine mp_i (cx := []) (wr := []) hP hD hS hA [] [] rfl rfl rfl (by decide) (va_runV (As := [.int (nI 1)]) (rest := []) F (N_M_fail l g _ T q21.2 pl hO hU h0 (nI 1) tp rs ks k_h0 hf25 hf26 hf27) (cwV 1 hts (wg_app (wg_c kw_1577 (wg_c kw_1579 (wg_c ks_50 (wg_c kw_9 wg_n)))) kw_1580) rfl rfl rfl (by decide +kernel) ⟨by decide, by decide⟩) (pn_W "LatticeKeysModel" (en_ok g) (ci := 8) (kn := 148) (fl := [(0, 0), (0, 0), (0, 0), (0, 0), (3, 149), (3, 150), (3, 151), (3, 152), (3, 161), (3, 170), (3, 171), (3, 172), (3, 184), (3, 225)]) hK hO k_h0 rfl hP hD hS hA hE [] rfl rfl rfl) rfl rfl hl.1 rfl (lv_room (Nat.le_of_ble_eq_true rfl)) dM_told_15 ⟨by omega, by omega⟩) (fun r26 u25 H locs hu25 hP hD hS => ?_)
    obtain ⟨q25, pl⟩ := u25
    obtain ⟨⟨eq25, rfl, hFc25, ⟨x28, hx_28, hb_28⟩, ⟨x29, hx_29, hb_29⟩, ⟨x30, hx_30, hb_30⟩, -⟩, hO⟩ := hu25
    have hO : okn g T q25.2 pl := hO
    have hP : va_P g.1 vcl ([] ++ pl) _ := hP
    have hD : va_D _ ([] ++ pl) := hD
    have hFc25 : frm (M_M_fail) q21.2 q25.2 := hFc25
    have hb_28 : x28 = tp := hb_28
    have hb_29 : x29 = rs := hb_29
    have hb_30 : x30 = ks := hb_30
    replace hR := bnd_step hR eq25
    have hF := frm_tr hF hFc25 (fun k hk => by unfold M_M_fail at hk; unfold M_M_told; omega)
    have hg31 : SETS ks (q25.2.1 170) := by rw [hFc25 170 (by unfold M_M_fail; omega)]; exact hg23
    have hg32 : HIDS ks (q25.2.1 171) := by rw [hFc25 171 (by unfold M_M_fail; omega)]; exact hg24
    refine W.widen (k := 0) (n := 0) (by omega) (by omega) ?_
    exact mp_iret hx hb hr hlk hP hD hS ((q25.1, q25.2), pl) ⟨⟨hR.symm, rfl, hF, ⟨x28, hx_28, by omega⟩, ⟨x29, hx_29, by omega⟩, ⟨x30, hx_30, by omega⟩, trivial⟩, hO⟩ [] rfl rfl rfl (by omega) (by omega) dM_told_18
