set_option linter.all false
abbrev c_M_part : ByteArray := prog_12_method_18_code
abbrev y_M_part : MethodName := ⟨"LatticeKeysModel", "part", "(IZI)I"⟩
abbrev w_M_part : List Cond := Cond.code y_M_part c_M_part 4 (some .int) :: WG
theorem dM_part_0 : decode c_M_part 0 = .ok (.aload_n 0, 1) := by decide +kernel
theorem dM_part_1 : decode c_M_part 1 = .ok (.iconst 0, 1) := by decide +kernel
theorem dM_part_2 : decode c_M_part 2 = .ok (.putfield 57, 3) := by decide +kernel
theorem dM_part_5 : decode c_M_part 5 = .ok (.aload_n 0, 1) := by decide +kernel
theorem dM_part_6 : decode c_M_part 6 = .ok (.iload_n 1, 1) := by decide +kernel
theorem dM_part_7 : decode c_M_part 7 = .ok (.invokevirtual 103, 3) := by decide +kernel
theorem dM_part_10 : decode c_M_part 10 = .ok (.ifCond .ne 12, 3) := by decide +kernel
theorem dM_part_13 : decode c_M_part 13 = .ok (.aload_n 0, 1) := by decide +kernel
theorem dM_part_14 : decode c_M_part 14 = .ok (.iload_n 1, 1) := by decide +kernel
theorem dM_part_15 : decode c_M_part 15 = .ok (.iload_n 2, 1) := by decide +kernel
theorem dM_part_16 : decode c_M_part 16 = .ok (.invokevirtual 107, 3) := by decide +kernel
theorem dM_part_19 : decode c_M_part 19 = .ok (.ifCond .ne 9, 3) := by decide +kernel
theorem dM_part_22 : decode c_M_part 22 = .ok (.aload_n 0, 1) := by decide +kernel
theorem dM_part_23 : decode c_M_part 23 = .ok (.iconst 1, 1) := by decide +kernel
theorem dM_part_24 : decode c_M_part 24 = .ok (.invokevirtual 73, 3) := by decide +kernel
theorem dM_part_27 : decode c_M_part 27 = .ok (.ireturn, 1) := by decide +kernel
theorem dM_part_28 : decode c_M_part 28 = .ok (.iload_n 3, 1) := by decide +kernel
theorem dM_part_29 : decode c_M_part 29 = .ok (.ifCond .lt 13, 3) := by decide +kernel
theorem dM_part_32 : decode c_M_part 32 = .ok (.iload_n 3, 1) := by decide +kernel
theorem dM_part_33 : decode c_M_part 33 = .ok (.aload_n 0, 1) := by decide +kernel
theorem dM_part_34 : decode c_M_part 34 = .ok (.iload_n 1, 1) := by decide +kernel
theorem dM_part_35 : decode c_M_part 35 = .ok (.iload_n 2, 1) := by decide +kernel
theorem dM_part_36 : decode c_M_part 36 = .ok (.invokevirtual 107, 3) := by decide +kernel
theorem dM_part_39 : decode c_M_part 39 = .ok (.if_icmp .lt 9, 3) := by decide +kernel
theorem dM_part_42 : decode c_M_part 42 = .ok (.aload_n 0, 1) := by decide +kernel
theorem dM_part_43 : decode c_M_part 43 = .ok (.iconst 2, 1) := by decide +kernel
theorem dM_part_44 : decode c_M_part 44 = .ok (.invokevirtual 73, 3) := by decide +kernel
theorem dM_part_47 : decode c_M_part 47 = .ok (.ireturn, 1) := by decide +kernel
theorem dM_part_48 : decode c_M_part 48 = .ok (.iload_n 2, 1) := by decide +kernel
theorem dM_part_49 : decode c_M_part 49 = .ok (.ifCond .eq 14, 3) := by decide +kernel
theorem dM_part_52 : decode c_M_part 52 = .ok (.aload_n 0, 1) := by decide +kernel
theorem dM_part_53 : decode c_M_part 53 = .ok (.getfield 24, 3) := by decide +kernel
theorem dM_part_56 : decode c_M_part 56 = .ok (.iload_n 1, 1) := by decide +kernel
theorem dM_part_57 : decode c_M_part 57 = .ok (.aaload, 1) := by decide +kernel
theorem dM_part_58 : decode c_M_part 58 = .ok (.iload_n 3, 1) := by decide +kernel
theorem dM_part_59 : decode c_M_part 59 = .ok (.baload, 1) := by decide +kernel
theorem dM_part_60 : decode c_M_part 60 = .ok (.goto 11, 3) := by decide +kernel
theorem dM_part_63 : decode c_M_part 63 = .ok (.aload_n 0, 1) := by decide +kernel
theorem dM_part_64 : decode c_M_part 64 = .ok (.getfield 21, 3) := by decide +kernel
theorem dM_part_67 : decode c_M_part 67 = .ok (.iload_n 1, 1) := by decide +kernel
theorem dM_part_68 : decode c_M_part 68 = .ok (.aaload, 1) := by decide +kernel
theorem dM_part_69 : decode c_M_part 69 = .ok (.iload_n 3, 1) := by decide +kernel
theorem dM_part_70 : decode c_M_part 70 = .ok (.baload, 1) := by decide +kernel
theorem dM_part_71 : decode c_M_part 71 = .ok (.sipush 255, 3) := by decide +kernel
theorem dM_part_74 : decode c_M_part 74 = .ok (.iand, 1) := by decide +kernel
theorem dM_part_75 : decode c_M_part 75 = .ok (.ireturn, 1) := by decide +kernel
abbrev c_M_show : ByteArray := prog_12_method_19_code
abbrev y_M_show : MethodName := ⟨"LatticeKeysModel", "show", "(IZ)I"⟩
abbrev w_M_show : List Cond := Cond.code y_M_show c_M_show 4 (some .int) :: WG
theorem dM_show_0 : decode c_M_show 0 = .ok (.aload_n 0, 1) := by decide +kernel
theorem dM_show_1 : decode c_M_show 1 = .ok (.iconst 0, 1) := by decide +kernel
theorem dM_show_2 : decode c_M_show 2 = .ok (.putfield 57, 3) := by decide +kernel
theorem dM_show_5 : decode c_M_show 5 = .ok (.aload_n 0, 1) := by decide +kernel
theorem dM_show_6 : decode c_M_show 6 = .ok (.iload_n 1, 1) := by decide +kernel
theorem dM_show_7 : decode c_M_show 7 = .ok (.invokevirtual 103, 3) := by decide +kernel
theorem dM_show_10 : decode c_M_show 10 = .ok (.ifCond .ne 12, 3) := by decide +kernel
theorem dM_show_13 : decode c_M_show 13 = .ok (.aload_n 0, 1) := by decide +kernel
theorem dM_show_14 : decode c_M_show 14 = .ok (.iload_n 1, 1) := by decide +kernel
theorem dM_show_15 : decode c_M_show 15 = .ok (.iload_n 2, 1) := by decide +kernel
theorem dM_show_16 : decode c_M_show 16 = .ok (.invokevirtual 107, 3) := by decide +kernel
theorem dM_show_19 : decode c_M_show 19 = .ok (.ifCond .ne 9, 3) := by decide +kernel
theorem dM_show_22 : decode c_M_show 22 = .ok (.aload_n 0, 1) := by decide +kernel
theorem dM_show_23 : decode c_M_show 23 = .ok (.iconst 1, 1) := by decide +kernel
theorem dM_show_24 : decode c_M_show 24 = .ok (.invokevirtual 73, 3) := by decide +kernel
theorem dM_show_27 : decode c_M_show 27 = .ok (.ireturn, 1) := by decide +kernel
theorem dM_show_28 : decode c_M_show 28 = .ok (.aload_n 0, 1) := by decide +kernel
theorem dM_show_29 : decode c_M_show 29 = .ok (.aload_n 0, 1) := by decide +kernel
theorem dM_show_30 : decode c_M_show 30 = .ok (.iload_n 1, 1) := by decide +kernel
theorem dM_show_31 : decode c_M_show 31 = .ok (.iload_n 2, 1) := by decide +kernel
theorem dM_show_32 : decode c_M_show 32 = .ok (.invokevirtual 107, 3) := by decide +kernel
theorem dM_show_35 : decode c_M_show 35 = .ok (.putfield 80, 3) := by decide +kernel
theorem dM_show_38 : decode c_M_show 38 = .ok (.iconst 0, 1) := by decide +kernel
theorem dM_show_39 : decode c_M_show 39 = .ok (.istore_n 3, 1) := by decide +kernel
theorem dM_show_40 : decode c_M_show 40 = .ok (.iload_n 3, 1) := by decide +kernel
theorem dM_show_41 : decode c_M_show 41 = .ok (.aload_n 0, 1) := by decide +kernel
theorem dM_show_42 : decode c_M_show 42 = .ok (.getfield 80, 3) := by decide +kernel
theorem dM_show_45 : decode c_M_show 45 = .ok (.if_icmp .ge 38, 3) := by decide +kernel
theorem dM_show_48 : decode c_M_show 48 = .ok (.aload_n 0, 1) := by decide +kernel
theorem dM_show_49 : decode c_M_show 49 = .ok (.getfield 13, 3) := by decide +kernel
theorem dM_show_52 : decode c_M_show 52 = .ok (.iload_n 3, 1) := by decide +kernel
theorem dM_show_53 : decode c_M_show 53 = .ok (.iload_n 2, 1) := by decide +kernel
theorem dM_show_54 : decode c_M_show 54 = .ok (.ifCond .eq 14, 3) := by decide +kernel
theorem dM_show_57 : decode c_M_show 57 = .ok (.aload_n 0, 1) := by decide +kernel
theorem dM_show_58 : decode c_M_show 58 = .ok (.getfield 24, 3) := by decide +kernel
theorem dM_show_61 : decode c_M_show 61 = .ok (.iload_n 1, 1) := by decide +kernel
theorem dM_show_62 : decode c_M_show 62 = .ok (.aaload, 1) := by decide +kernel
theorem dM_show_63 : decode c_M_show 63 = .ok (.iload_n 3, 1) := by decide +kernel
theorem dM_show_64 : decode c_M_show 64 = .ok (.baload, 1) := by decide +kernel
theorem dM_show_65 : decode c_M_show 65 = .ok (.goto 11, 3) := by decide +kernel
theorem dM_show_68 : decode c_M_show 68 = .ok (.aload_n 0, 1) := by decide +kernel
theorem dM_show_69 : decode c_M_show 69 = .ok (.getfield 21, 3) := by decide +kernel
theorem dM_show_72 : decode c_M_show 72 = .ok (.iload_n 1, 1) := by decide +kernel
theorem dM_show_73 : decode c_M_show 73 = .ok (.aaload, 1) := by decide +kernel
theorem dM_show_74 : decode c_M_show 74 = .ok (.iload_n 3, 1) := by decide +kernel
theorem dM_show_75 : decode c_M_show 75 = .ok (.baload, 1) := by decide +kernel
theorem dM_show_76 : decode c_M_show 76 = .ok (.bastore, 1) := by decide +kernel
theorem dM_show_77 : decode c_M_show 77 = .ok (.iinc 3 1, 3) := by decide +kernel
theorem dM_show_80 : decode c_M_show 80 = .ok (.goto (-40), 3) := by decide +kernel
theorem dM_show_83 : decode c_M_show 83 = .ok (.aload_n 0, 1) := by decide +kernel
theorem dM_show_84 : decode c_M_show 84 = .ok (.getfield 80, 3) := by decide +kernel
theorem dM_show_87 : decode c_M_show 87 = .ok (.ireturn, 1) := by decide +kernel
def M_M_part (k : Nat) : Prop := k = 148 ∨ (0 : Nat) = 1
noncomputable def F_M_part (v : Int32) (sc : Int32) (v3 : Int32) (s : Sto) : Int32 × Sto := bnd (sI s 148 0 (nI 0)) fun s21 => bnd (F_M_none v s21) fun q21 => if (q21.1) = 0 then bnd (v.toNatClampNeg) fun z21 => bnd (F_M_size z21 sc q21.2) fun q23 => bnd (q23.1.toNatClampNeg) fun z22 => if (nI z22) = 0 then bnd (F_M_fail (nI 1) q23.2) fun q27 => (q27.1, q27.2) else if v3 < 0 then bnd (F_M_fail (nI 2) q23.2) fun q24 => (q24.1, q24.2) else bnd (F_M_size z21 sc q23.2) fun q25 => bnd (q25.1.toNatClampNeg) fun z23 => if v3 < (nI z23) then bnd (v3.toNatClampNeg) fun z24 => if sc = 0 then (((q25.2.1 ((153 + z21)) z24) &&& (nI 255)), q25.2) else (((q25.2.1 ((162 + z21)) z24) &&& (nI 255)), q25.2) else bnd (F_M_fail (nI 2) q25.2) fun q26 => (q26.1, q26.2) else bnd (F_M_fail (nI 1) q21.2) fun q22 => (q22.1, q22.2)
set_option maxHeartbeats 8000000 in
set_option maxRecDepth 100000 in
theorem N_M_part (l : Launch) (g : Gd) (sz : Nat) (T : TyN) (s : Sto) (pl : va_W) (hO : okn g T s pl) (hU : inj T) (h0 : Nat) (v : Int32) (sc : Int32) (v3 : Int32) (tp : Nat) (rs : Nat) (ks : Nat) (k_h0 : T h0 = some 148) (e_tp : s.1 148 1 = nI tp) (e_rs : s.1 148 2 = nI rs) (e_ks : s.1 148 3 = nI ks) (h1 : tp ≤ 16384) (h2 : rs ≤ 8192) (h3 : ks ≤ 8) (qst : SETS ks (s.1 170)) (qhd : HIDS ks (s.1 171))  : Met l y_M_part w_M_part ({ frames := 3, cells := 0, slots := 0, locals := 62 } : Room) (va_Pc [.ref h0, .int v, .int sc, .int v3] (pr (en g) g.1 vcl sz ([] ++ pl))) (va_Qi (fun (r : Int32) (u : (Int32 × Sto) × va_W) => (u.1 = F_M_part v sc v3 s ∧ r = u.1.1 ∧ frm (M_M_part) s u.1.2 ∧ (∃ x : Nat, u.1.2.1 148 1 = nI x ∧ x ≤ 16384) ∧ (∃ x : Nat, u.1.2.1 148 2 = nI x ∧ x ≤ 8192) ∧ (∃ x : Nat, u.1.2.1 148 3 = nI x ∧ x ≤ 8) ∧ True) ∧ okn g T u.1.2 u.2) (po g.1 vcl (va_A ([] ++ pl) sz) (fun (u : (Int32 × Sto) × va_W) => [] ++ u.2)) (va_A ([] ++ pl) sz)) 0 0 (va_A ([] ++ pl) sz) := by
  refine mc_entry (cc := c_M_part) (maxL := 4) (ret := (some .int)) (by decide) rfl (Nat.le_of_ble_eq_true rfl) ?_
  intro p e s0 m args below meth c ls F hr hlk hnm hsz hP hD hE hA hl
  obtain ⟨hx, hb, hml, hown, hts⟩ := id F
  have hK := hE.1
  generalize va_A ([] ++ pl) sz = A at hD hE hA ⊢
  have hS : va_S A s0.heap s0.heap [] := va_S.rf
  have hl : lv_has ls 4 [(0, .ref h0), (1, .int v), (2, .int sc), (3, .int v3)] := hl
  have hR : F_M_part v sc v3 s = F_M_part v sc v3 s := rfl
  have hF : frm (M_M_part) s s := frm_rf
  refine lv_aload_n hx hb dM_part_0 rfl (lv_at hl 0 rfl) ?_
  refine lv_iconst (v := nI 0) hx hb dM_part_1 (by decide) ?_
  refine nw_put (C := "LatticeKeysModel") (TT := T_M) (N := 14) hx hb hts (wg_ft i_M) ty_M k_M n_M hown hK hO hU k_h0 (kn := 148) (ci := 8) (fl := [(0, 0), (0, 0), (0, 0), (0, 0), (3, 149), (3, 150), (3, 151), (3, 152), (3, 161), (3, 170), (3, 171), (3, 172), (3, 184), (3, 225)]) rfl hP hD hS rfl 0 (by decide) (hts _ (wg_t kw_1526)) (fun _ h9 => h9) rfl (by decide +kernel) rfl dM_part_2 (fun s21 pl H locs es21 hO hP hD hS => ?_)
  replace hR := bnd_step hR es21
  have hF := frm_sI hF es21 (by unfold M_M_part; omega)
  have hf21 : s21.1 148 1 = nI tp := fc_ne e_tp es21 (by omega)
  have hf22 : s21.1 148 2 = nI rs := fc_ne e_rs es21 (by omega)
  have hf23 : s21.1 148 3 = nI ks := fc_ne e_ks es21 (by omega)
  have hf24 : s21.1 148 0 = nI 0 := fc_eq es21
  have hg21 : SETS ks (s21.1 170) := by rw [(ar_sI es21 (by omega))]; exact qst
  have hg22 : HIDS ks (s21.1 171) := by rw [(ar_sI es21 (by omega))]; exact qhd
  refine lv_aload_n hx hb dM_part_5 rfl (lv_at hl 0 rfl) ?_
  refine lv_iload_n hx hb dM_part_6 rfl (lv_at hl 1 rfl) ?_
  refine mp_i (cx := []) (wr := []) hP hD hS hA [] [] rfl rfl rfl (by decide) (va_runV (As := [.int v]) (rest := []) F (N_M_none l g _ T s21 pl hO hU h0 v tp rs ks k_h0 hf21 hf22 hf23 (by omega)) (cwV 1 hts (wg_app (wg_c kw_1781 (wg_c kw_1783 (wg_c ks_65 (wg_c kw_9 wg_n)))) kw_1784) rfl rfl rfl (by decide +kernel) ⟨by decide, by decide⟩) (pn_W "LatticeKeysModel" (en_ok g) (ci := 8) (kn := 148) (fl := [(0, 0), (0, 0), (0, 0), (0, 0), (3, 149), (3, 150), (3, 151), (3, 152), (3, 161), (3, 170), (3, 171), (3, 172), (3, 184), (3, 225)]) hK hO k_h0 rfl hP hD hS hA hE [] rfl rfl rfl) rfl rfl hl.1 rfl (lv_room (Nat.le_of_ble_eq_true rfl)) dM_part_7 ⟨by omega, by omega⟩) (fun r21 u21 H locs hu21 hP hD hS => ?_)
  obtain ⟨q21, pl⟩ := u21
  obtain ⟨⟨eq21, rfl, hFc21, hxp21, -⟩, hO⟩ := hu21
  have hO : okn g T q21.2 pl := hO
  have hP : va_P g.1 vcl ([] ++ pl) _ := hP
  have hD : va_D _ ([] ++ pl) := hD
  have hFc21 : frm (M_M_none) s21 q21.2 := hFc21
  replace hR := bnd_step hR eq21
  have hF := frm_tr hF hFc21 (fun k hk => by unfold M_M_none at hk; unfold M_M_part; omega)
  have hf25 : q21.2.1 148 1 = nI tp := fc_F hf21 hFc21 (by unfold M_M_none; omega)
  have hf26 : q21.2.1 148 2 = nI rs := fc_F hf22 hFc21 (by unfold M_M_none; omega)
  have hf27 : q21.2.1 148 3 = nI ks := fc_F hf23 hFc21 (by unfold M_M_none; omega)
  have hf28 : q21.2.1 148 0 = nI 0 := fc_F hf24 hFc21 (by unfold M_M_none; omega)
  have hg23 : SETS ks (q21.2.1 170) := by rw [hFc21 170 (by unfold M_M_none; omega)]; exact hg21
  have hg24 : HIDS ks (q21.2.1 171) := by rw [hFc21 171 (by unfold M_M_none; omega)]; exact hg22
  refine W.widen (k := 0) (n := 0) (by omega) (by omega) ?_
  refine lv_if_ne (tgt := 22) hx hb dM_part_10 (by decide) (fun h21 => ?_) (fun h21 => ?_)
  · replace hR := hR.trans (if_neg h21)
    refine lv_aload_n hx hb dM_part_22 rfl (lv_at hl 0 rfl) ?_
    refine lv_iconst (v := nI 1) hx hb dM_part_23 (by decide) ?_
    refine mp_i (cx := []) (wr := []) hP hD hS hA [] [] rfl rfl rfl (by decide) (va_runV (As := [.int (nI 1)]) (rest := []) F (N_M_fail l g _ T q21.2 pl hO hU h0 (nI 1) tp rs ks k_h0 hf25 hf26 hf27) (cwV 1 hts (wg_app (wg_c kw_1577 (wg_c kw_1579 (wg_c ks_50 (wg_c kw_9 wg_n)))) kw_1580) rfl rfl rfl (by decide +kernel) ⟨by decide, by decide⟩) (pn_W "LatticeKeysModel" (en_ok g) (ci := 8) (kn := 148) (fl := [(0, 0), (0, 0), (0, 0), (0, 0), (3, 149), (3, 150), (3, 151), (3, 152), (3, 161), (3, 170), (3, 171), (3, 172), (3, 184), (3, 225)]) hK hO k_h0 rfl hP hD hS hA hE [] rfl rfl rfl) rfl rfl hl.1 rfl (lv_room (Nat.le_of_ble_eq_true rfl)) dM_part_24 ⟨by omega, by omega⟩) (fun r22 u22 H locs hu22 hP hD hS => ?_)
    obtain ⟨q22, pl⟩ := u22
    obtain ⟨⟨eq22, rfl, hFc22, ⟨x22, hx_22, hb_22⟩, ⟨x23, hx_23, hb_23⟩, ⟨x24, hx_24, hb_24⟩, -⟩, hO⟩ := hu22
    have hO : okn g T q22.2 pl := hO
    have hP : va_P g.1 vcl ([] ++ pl) _ := hP
    have hD : va_D _ ([] ++ pl) := hD
    have hFc22 : frm (M_M_fail) q21.2 q22.2 := hFc22
    have hb_22 : x22 = tp := hb_22
    have hb_23 : x23 = rs := hb_23
    have hb_24 : x24 = ks := hb_24
    replace hR := bnd_step hR eq22
    have hF := frm_tr hF hFc22 (fun k hk => by unfold M_M_fail at hk; unfold M_M_part; omega)
    have hg25 : SETS ks (q22.2.1 170) := by rw [hFc22 170 (by unfold M_M_fail; omega)]; exact hg23
    have hg26 : HIDS ks (q22.2.1 171) := by rw [hFc22 171 (by unfold M_M_fail; omega)]; exact hg24
    refine W.widen (k := 0) (n := 0) (by omega) (by omega) ?_
    exact mp_iret hx hb hr hlk hP hD hS ((q22.1, q22.2), pl) ⟨⟨hR.symm, rfl, hF, ⟨x22, hx_22, by omega⟩, ⟨x23, hx_23, by omega⟩, ⟨x24, hx_24, by omega⟩, trivial⟩, hO⟩ [] rfl rfl rfl (by omega) (by omega) dM_part_27
  · replace hR := hR.trans (if_pos h21)
    obtain ⟨z21, hz21, hv21⟩ := (hxp21.resolve_left (fun h9 => absurd (h9.symm.trans h21) (by decide))).2
    have ez21 : z21 = v.toNatClampNeg := by rw [hv21]; exact (nI_clamp (by omega)).symm
    replace hR := bnd_step hR ez21
    rw [hv21] at hl
    refine lv_aload_n hx hb dM_part_13 rfl (lv_at hl 0 rfl) ?_
    refine lv_iload_n hx hb dM_part_14 rfl (lv_at hl 1 rfl) ?_
    refine lv_iload_n hx hb dM_part_15 rfl (lv_at hl 2 rfl) ?_
    refine mp_i (cx := []) (wr := []) hP hD hS hA [] [] rfl rfl rfl (by decide) (va_runV (As := [.int (nI z21), .int sc]) (rest := []) F (N_M_size l g _ T q21.2 pl hO hU h0 z21 sc tp rs ks k_h0 hf25 hf26 hf27 (by omega) (by omega) hg23 hg24) (cwV 2 hts (wg_app (wg_c kw_1785 (wg_c kw_1787 (wg_c ks_66 (wg_c kw_9 wg_n)))) kw_1788) rfl rfl rfl (by decide +kernel) ⟨by decide, by decide⟩) (pn_W "LatticeKeysModel" (en_ok g) (ci := 8) (kn := 148) (fl := [(0, 0), (0, 0), (0, 0), (0, 0), (3, 149), (3, 150), (3, 151), (3, 152), (3, 161), (3, 170), (3, 171), (3, 172), (3, 184), (3, 225)]) hK hO k_h0 rfl hP hD hS hA hE [] rfl rfl rfl) rfl rfl hl.1 rfl (lv_room (Nat.le_of_ble_eq_true rfl)) dM_part_16 ⟨by omega, by omega⟩) (fun r23 u23 H locs hu23 hP hD hS => ?_)
    obtain ⟨q23, pl⟩ := u23
    obtain ⟨⟨eq23, rfl, hFc23, ⟨x26, hx_26, hb_26⟩, hxp23, -⟩, hO⟩ := hu23
    have hO : okn g T q23.2 pl := hO
    have hP : va_P g.1 vcl ([] ++ pl) _ := hP
    have hD : va_D _ ([] ++ pl) := hD
    have hFc23 : frm (M_M_size) q21.2 q23.2 := hFc23
    have hb_26 : x26 < 4897 := hb_26
    replace hR := bnd_step hR eq23
    have hF := frm_tr hF hFc23 (fun k hk => by unfold M_M_size at hk; unfold M_M_part; omega)
    have hf29 : q23.2.1 148 1 = nI tp := fc_F hf25 hFc23 (by unfold M_M_size; omega)
    have hf30 : q23.2.1 148 2 = nI rs := fc_F hf26 hFc23 (by unfold M_M_size; omega)
    have hf31 : q23.2.1 148 3 = nI ks := fc_F hf27 hFc23 (by unfold M_M_size; omega)
    have hf32 : q23.2.1 148 0 = nI 0 := fc_F hf28 hFc23 (by unfold M_M_size; omega)
    have hg27 : SETS ks (q23.2.1 170) := by rw [hFc23 170 (by unfold M_M_size; omega)]; exact hg23
    have hg28 : HIDS ks (q23.2.1 171) := by rw [hFc23 171 (by unfold M_M_size; omega)]; exact hg24
    obtain ⟨z22, ez22, hz22, hz23⟩ := cl_of (b := 2147483648) hx_26 (by omega) (by decide)
    replace hR := bnd_step hR ez22
    refine mi_as hz22 ?_
    refine W.widen (k := 0) (n := 0) (by omega) (by omega) ?_
    refine lv_if_ne (tgt := 28) hx hb dM_part_19 (by decide) (fun h22 => ?_) (fun h22 => ?_)
    · replace hR := hR.trans (if_neg h22)
      refine lv_iload_n hx hb dM_part_28 rfl (lv_at hl 3 rfl) ?_
      refine lv_if_lt (tgt := 42) hx hb dM_part_29 (by decide) (fun h23 => ?_) (fun h23 => ?_)
      · replace hR := hR.trans (if_pos h23)
        refine lv_aload_n hx hb dM_part_42 rfl (lv_at hl 0 rfl) ?_
        refine lv_iconst (v := nI 2) hx hb dM_part_43 (by decide) ?_
        refine mp_i (cx := []) (wr := []) hP hD hS hA [] [] rfl rfl rfl (by decide) (va_runV (As := [.int (nI 2)]) (rest := []) F (N_M_fail l g _ T q23.2 pl hO hU h0 (nI 2) tp rs ks k_h0 hf29 hf30 hf31) (cwV 1 hts (wg_app (wg_c kw_1577 (wg_c kw_1579 (wg_c ks_50 (wg_c kw_9 wg_n)))) kw_1580) rfl rfl rfl (by decide +kernel) ⟨by decide, by decide⟩) (pn_W "LatticeKeysModel" (en_ok g) (ci := 8) (kn := 148) (fl := [(0, 0), (0, 0), (0, 0), (0, 0), (3, 149), (3, 150), (3, 151), (3, 152), (3, 161), (3, 170), (3, 171), (3, 172), (3, 184), (3, 225)]) hK hO k_h0 rfl hP hD hS hA hE [] rfl rfl rfl) rfl rfl hl.1 rfl (lv_room (Nat.le_of_ble_eq_true rfl)) dM_part_44 ⟨by omega, by omega⟩) (fun r24 u24 H locs hu24 hP hD hS => ?_)
        obtain ⟨q24, pl⟩ := u24
        obtain ⟨⟨eq24, rfl, hFc24, ⟨x27, hx_27, hb_27⟩, ⟨x28, hx_28, hb_28⟩, ⟨x29, hx_29, hb_29⟩, -⟩, hO⟩ := hu24
        have hO : okn g T q24.2 pl := hO
        have hP : va_P g.1 vcl ([] ++ pl) _ := hP
        have hD : va_D _ ([] ++ pl) := hD
        have hFc24 : frm (M_M_fail) q23.2 q24.2 := hFc24
        have hb_27 : x27 = tp := hb_27
        have hb_28 : x28 = rs := hb_28
        have hb_29 : x29 = ks := hb_29
        replace hR := bnd_step hR eq24
        have hF := frm_tr hF hFc24 (fun k hk => by unfold M_M_fail at hk; unfold M_M_part; omega)
        have hg29 : SETS ks (q24.2.1 170) := by rw [hFc24 170 (by unfold M_M_fail; omega)]; exact hg27
        have hg30 : HIDS ks (q24.2.1 171) := by rw [hFc24 171 (by unfold M_M_fail; omega)]; exact hg28
        refine W.widen (k := 0) (n := 0) (by omega) (by omega) ?_
        exact mp_iret hx hb hr hlk hP hD hS ((q24.1, q24.2), pl) ⟨⟨hR.symm, rfl, hF, ⟨x27, hx_27, by omega⟩, ⟨x28, hx_28, by omega⟩, ⟨x29, hx_29, by omega⟩, trivial⟩, hO⟩ [] rfl rfl rfl (by omega) (by omega) dM_part_47
      · replace hR := hR.trans (if_neg h23)
        refine lv_iload_n hx hb dM_part_32 rfl (lv_at hl 3 rfl) ?_
        refine lv_aload_n hx hb dM_part_33 rfl (lv_at hl 0 rfl) ?_
        refine lv_iload_n hx hb dM_part_34 rfl (lv_at hl 1 rfl) ?_
        refine lv_iload_n hx hb dM_part_35 rfl (lv_at hl 2 rfl) ?_
        refine mp_i (cx := []) (wr := []) hP hD hS hA [] [] rfl rfl rfl (by decide) (va_runV (As := [.int (nI z21), .int sc]) (rest := [.int v3]) F (N_M_size l g _ T q23.2 pl hO hU h0 z21 sc tp rs ks k_h0 hf29 hf30 hf31 (by omega) (by omega) hg27 hg28) (cwV 2 hts (wg_app (wg_c kw_1785 (wg_c kw_1787 (wg_c ks_66 (wg_c kw_9 wg_n)))) kw_1788) rfl rfl rfl (by decide +kernel) ⟨by decide, by decide⟩) (pn_W "LatticeKeysModel" (en_ok g) (ci := 8) (kn := 148) (fl := [(0, 0), (0, 0), (0, 0), (0, 0), (3, 149), (3, 150), (3, 151), (3, 152), (3, 161), (3, 170), (3, 171), (3, 172), (3, 184), (3, 225)]) hK hO k_h0 rfl hP hD hS hA hE [] rfl rfl rfl) rfl rfl hl.1 rfl (lv_room (Nat.le_of_ble_eq_true rfl)) dM_part_36 ⟨by omega, by omega⟩) (fun r25 u25 H locs hu25 hP hD hS => ?_)
        obtain ⟨q25, pl⟩ := u25
        obtain ⟨⟨eq25, rfl, hFc25, ⟨x31, hx_31, hb_31⟩, hxp25, -⟩, hO⟩ := hu25
        have hO : okn g T q25.2 pl := hO
        have hP : va_P g.1 vcl ([] ++ pl) _ := hP
        have hD : va_D _ ([] ++ pl) := hD
        have hFc25 : frm (M_M_size) q23.2 q25.2 := hFc25
        have hb_31 : x31 < 4897 := hb_31
        replace hR := bnd_step hR eq25
        have hF := frm_tr hF hFc25 (fun k hk => by unfold M_M_size at hk; unfold M_M_part; omega)
        have hf33 : q25.2.1 148 1 = nI tp := fc_F hf29 hFc25 (by unfold M_M_size; omega)
        have hf34 : q25.2.1 148 2 = nI rs := fc_F hf30 hFc25 (by unfold M_M_size; omega)
        have hf35 : q25.2.1 148 3 = nI ks := fc_F hf31 hFc25 (by unfold M_M_size; omega)
        have hf36 : q25.2.1 148 0 = nI 0 := fc_F hf32 hFc25 (by unfold M_M_size; omega)
        have hg31 : SETS ks (q25.2.1 170) := by rw [hFc25 170 (by unfold M_M_size; omega)]; exact hg27
        have hg32 : HIDS ks (q25.2.1 171) := by rw [hFc25 171 (by unfold M_M_size; omega)]; exact hg28
        obtain ⟨z23, ez23, hz24, hz25⟩ := cl_of (b := 2147483648) hx_31 (by omega) (by decide)
        replace hR := bnd_step hR ez23
        refine mi_as hz24 ?_
        refine W.widen (k := 0) (n := 0) (by omega) (by omega) ?_
        refine lv_icmp_lt (tgt := 48) hx hb dM_part_39 (by decide) (fun h24 => ?_) (fun h24 => ?_)
        · replace hR := hR.trans (if_pos h24)
          obtain ⟨z24, hz26, hv22⟩ := i32_ltc h23 (by omega) h24
          have ez24 : z24 = v3.toNatClampNeg := by rw [hv22]; exact (nI_clamp (by omega)).symm
          replace hR := bnd_step hR ez24
          rw [hv22] at hl
          refine lv_iload_n hx hb dM_part_48 rfl (lv_at hl 2 rfl) ?_
          refine lv_if_eq (tgt := 63) hx hb dM_part_49 (by decide) (fun h25 => ?_) (fun h25 => ?_)
          · replace hR := hR.trans (if_pos h25)
            obtain ⟨x9, hx9, hy9⟩ := hxp25 h25
            have hz9 : z23 ≤ 2592 := by have h9 := (nI_eq (by omega) (by omega)).mp (hz24.symm.trans hx9); omega
            refine lv_aload_n hx hb dM_part_63 rfl (lv_at hl 0 rfl) ?_
            refine nw_get (C := "LatticeKeysModel") (TT := T_M) (N := 14) hx hb hts (wg_ft i_M) hown hK hO k_h0 (kn := 148) (ci := 8) (fl := [(0, 0), (0, 0), (0, 0), (0, 0), (3, 149), (3, 150), (3, 151), (3, 152), (3, 161), (3, 170), (3, 171), (3, 172), (3, 184), (3, 225)]) rfl hP rfl 7 (by decide) (hts _ (wg_t kw_1533)) (fun _ h9 => h9) (cd := (3, 152)) rfl dM_part_64 (fun v21 hv23 => ?_)
            obtain ⟨r26, rfl, kr21⟩ := (show ∃ r : Nat, v21 = .ref r ∧ T r = some 152 from hv23)
            refine lv_iload_n hx hb dM_part_67 rfl (lv_at hl 1 rfl) ?_
            refine nw_aald4 hx hb hK hO kr21 (k := 152) (b := 153) rfl hP (by omega) (by omega) dM_part_68 (fun r27 kr22 => ?_)
            have hn21 : nsp (153 + z21) = (1, 2592, []) := rows_okb 153 8 2592 (by decide) _ (by omega)
            refine lv_iload_n hx hb dM_part_69 rfl (lv_at hl 3 rfl) ?_
            refine nw_bald hx hb hK hO kr22 (k := (153 + z21)) hn21 hP (by omega) (by omega) dM_part_70 ?_
            refine lv_sipush (v := nI 255) hx hb dM_part_71 (by decide) ?_
            refine lv_iand hx hb dM_part_74 ?_
            exact mp_iret hx hb hr hlk hP hD hS ((((q25.2.1 ((153 + z21)) z24) &&& (nI 255)), q25.2), pl) ⟨⟨hR.symm, rfl, hF, ⟨tp, hf33, by omega⟩, ⟨rs, hf34, by omega⟩, ⟨ks, hf35, by omega⟩, trivial⟩, hO⟩ [] rfl rfl rfl (by omega) (by omega) dM_part_75
          · replace hR := hR.trans (if_neg h25)
            refine lv_aload_n hx hb dM_part_52 rfl (lv_at hl 0 rfl) ?_
            refine nw_get (C := "LatticeKeysModel") (TT := T_M) (N := 14) hx hb hts (wg_ft i_M) hown hK hO k_h0 (kn := 148) (ci := 8) (fl := [(0, 0), (0, 0), (0, 0), (0, 0), (3, 149), (3, 150), (3, 151), (3, 152), (3, 161), (3, 170), (3, 171), (3, 172), (3, 184), (3, 225)]) rfl hP rfl 8 (by decide) (hts _ (wg_t kw_1534)) (fun _ h9 => h9) (cd := (3, 161)) rfl dM_part_53 (fun v22 hv24 => ?_)
            obtain ⟨r28, rfl, kr23⟩ := (show ∃ r : Nat, v22 = .ref r ∧ T r = some 161 from hv24)
            refine lv_iload_n hx hb dM_part_56 rfl (lv_at hl 1 rfl) ?_
            refine nw_aald4 hx hb hK hO kr23 (k := 161) (b := 162) rfl hP (by omega) (by omega) dM_part_57 (fun r29 kr24 => ?_)
            have hn22 : nsp (162 + z21) = (1, 4896, []) := rows_okb 162 8 4896 (by decide) _ (by omega)
            refine lv_iload_n hx hb dM_part_58 rfl (lv_at hl 3 rfl) ?_
            refine nw_bald hx hb hK hO kr24 (k := (162 + z21)) hn22 hP (by omega) (by omega) dM_part_59 ?_
            refine lv_goto (tgt := 71) hx hb dM_part_60 (by decide) ?_
            refine lv_sipush (v := nI 255) hx hb dM_part_71 (by decide) ?_
            refine lv_iand hx hb dM_part_74 ?_
            exact mp_iret hx hb hr hlk hP hD hS ((((q25.2.1 ((162 + z21)) z24) &&& (nI 255)), q25.2), pl) ⟨⟨hR.symm, rfl, hF, ⟨tp, hf33, by omega⟩, ⟨rs, hf34, by omega⟩, ⟨ks, hf35, by omega⟩, trivial⟩, hO⟩ [] rfl rfl rfl (by omega) (by omega) dM_part_75
        · replace hR := hR.trans (if_neg h24)
          refine lv_aload_n hx hb dM_part_42 rfl (lv_at hl 0 rfl) ?_
          refine lv_iconst (v := nI 2) hx hb dM_part_43 (by decide) ?_
          refine mp_i (cx := []) (wr := []) hP hD hS hA [] [] rfl rfl rfl (by decide) (va_runV (As := [.int (nI 2)]) (rest := []) F (N_M_fail l g _ T q25.2 pl hO hU h0 (nI 2) tp rs ks k_h0 hf33 hf34 hf35) (cwV 1 hts (wg_app (wg_c kw_1577 (wg_c kw_1579 (wg_c ks_50 (wg_c kw_9 wg_n)))) kw_1580) rfl rfl rfl (by decide +kernel) ⟨by decide, by decide⟩) (pn_W "LatticeKeysModel" (en_ok g) (ci := 8) (kn := 148) (fl := [(0, 0), (0, 0), (0, 0), (0, 0), (3, 149), (3, 150), (3, 151), (3, 152), (3, 161), (3, 170), (3, 171), (3, 172), (3, 184), (3, 225)]) hK hO k_h0 rfl hP hD hS hA hE [] rfl rfl rfl) rfl rfl hl.1 rfl (lv_room (Nat.le_of_ble_eq_true rfl)) dM_part_44 ⟨by omega, by omega⟩) (fun r30 u26 H locs hu26 hP hD hS => ?_)
          obtain ⟨q26, pl⟩ := u26
          obtain ⟨⟨eq26, rfl, hFc26, ⟨x32, hx_32, hb_32⟩, ⟨x33, hx_33, hb_33⟩, ⟨x34, hx_34, hb_34⟩, -⟩, hO⟩ := hu26
          have hO : okn g T q26.2 pl := hO
          have hP : va_P g.1 vcl ([] ++ pl) _ := hP
          have hD : va_D _ ([] ++ pl) := hD
          have hFc26 : frm (M_M_fail) q25.2 q26.2 := hFc26
          have hb_32 : x32 = tp := hb_32
          have hb_33 : x33 = rs := hb_33
          have hb_34 : x34 = ks := hb_34
          replace hR := bnd_step hR eq26
          have hF := frm_tr hF hFc26 (fun k hk => by unfold M_M_fail at hk; unfold M_M_part; omega)
          have hg33 : SETS ks (q26.2.1 170) := by rw [hFc26 170 (by unfold M_M_fail; omega)]; exact hg31
          have hg34 : HIDS ks (q26.2.1 171) := by rw [hFc26 171 (by unfold M_M_fail; omega)]; exact hg32
          refine W.widen (k := 0) (n := 0) (by omega) (by omega) ?_
          exact mp_iret hx hb hr hlk hP hD hS ((q26.1, q26.2), pl) ⟨⟨hR.symm, rfl, hF, ⟨x32, hx_32, by omega⟩, ⟨x33, hx_33, by omega⟩, ⟨x34, hx_34, by omega⟩, trivial⟩, hO⟩ [] rfl rfl rfl (by omega) (by omega) dM_part_47
    · replace hR := hR.trans (if_pos h22)
      refine lv_aload_n hx hb dM_part_22 rfl (lv_at hl 0 rfl) ?_
      refine lv_iconst (v := nI 1) hx hb dM_part_23 (by decide) ?_
      refine mp_i (cx := []) (wr := []) hP hD hS hA [] [] rfl rfl rfl (by decide) (va_runV (As := [.int (nI 1)]) (rest := []) F (N_M_fail l g _ T q23.2 pl hO hU h0 (nI 1) tp rs ks k_h0 hf29 hf30 hf31) (cwV 1 hts (wg_app (wg_c kw_1577 (wg_c kw_1579 (wg_c ks_50 (wg_c kw_9 wg_n)))) kw_1580) rfl rfl rfl (by decide +kernel) ⟨by decide, by decide⟩) (pn_W "LatticeKeysModel" (en_ok g) (ci := 8) (kn := 148) (fl := [(0, 0), (0, 0), (0, 0), (0, 0), (3, 149), (3, 150), (3, 151), (3, 152), (3, 161), (3, 170), (3, 171), (3, 172), (3, 184), (3, 225)]) hK hO k_h0 rfl hP hD hS hA hE [] rfl rfl rfl) rfl rfl hl.1 rfl (lv_room (Nat.le_of_ble_eq_true rfl)) dM_part_24 ⟨by omega, by omega⟩) (fun r31 u27 H locs hu27 hP hD hS => ?_)
      obtain ⟨q27, pl⟩ := u27
      obtain ⟨⟨eq27, rfl, hFc27, ⟨x36, hx_36, hb_36⟩, ⟨x37, hx_37, hb_37⟩, ⟨x38, hx_38, hb_38⟩, -⟩, hO⟩ := hu27
      have hO : okn g T q27.2 pl := hO
      have hP : va_P g.1 vcl ([] ++ pl) _ := hP
      have hD : va_D _ ([] ++ pl) := hD
      have hFc27 : frm (M_M_fail) q23.2 q27.2 := hFc27
      have hb_36 : x36 = tp := hb_36
      have hb_37 : x37 = rs := hb_37
      have hb_38 : x38 = ks := hb_38
      replace hR := bnd_step hR eq27
      have hF := frm_tr hF hFc27 (fun k hk => by unfold M_M_fail at hk; unfold M_M_part; omega)
      have hg35 : SETS ks (q27.2.1 170) := by rw [hFc27 170 (by unfold M_M_fail; omega)]; exact hg27
      have hg36 : HIDS ks (q27.2.1 171) := by rw [hFc27 171 (by unfold M_M_fail; omega)]; exact hg28
      refine W.widen (k := 0) (n := 0) (by omega) (by omega) ?_
      exact mp_iret hx hb hr hlk hP hD hS ((q27.1, q27.2), pl) ⟨⟨hR.symm, rfl, hF, ⟨x36, hx_36, by omega⟩, ⟨x37, hx_37, by omega⟩, ⟨x38, hx_38, by omega⟩, trivial⟩, hO⟩ [] rfl rfl rfl (by omega) (by omega) dM_part_27
def M_M_show (k : Nat) : Prop := k = 148 ∨ k = 150 ∨ (0 : Nat) = 1
noncomputable def F_M_show_L0 (sc : Int32) (z21 : Nat) : Nat → Nat → Sto → Int32 × Sto
  | 0, i21, s23 => bnd ((s23.1 148 2).toNatClampNeg) fun z24 => bnd ((s23.1 148 2).toNatClampNeg) fun z25 => (nI z25, s23)
  | n21 + 1, i21, s23 => bnd ((s23.1 148 2).toNatClampNeg) fun z26 => if sc = 0 then bnd (sB s23 150 i21 (s23.1 ((153 + z21)) i21)) fun s24 => F_M_show_L0 sc z21 n21 (i21 + 1) s24 else bnd (sB s23 150 i21 (s23.1 ((162 + z21)) i21)) fun s25 => F_M_show_L0 sc z21 n21 (i21 + 1) s25
noncomputable def F_M_show (v : Int32) (sc : Int32) (s : Sto) : Int32 × Sto := bnd (sI s 148 0 (nI 0)) fun s21 => bnd (F_M_none v s21) fun q21 => if (q21.1) = 0 then bnd (v.toNatClampNeg) fun z21 => bnd (F_M_size z21 sc q21.2) fun q23 => bnd (q23.1.toNatClampNeg) fun z22 => if (nI z22) = 0 then bnd (F_M_fail (nI 1) q23.2) fun q25 => (q25.1, q25.2) else bnd (F_M_size z21 sc q23.2) fun q24 => bnd (q24.1.toNatClampNeg) fun z23 => bnd (sI q24.2 148 2 (nI z23)) fun s22 => F_M_show_L0 sc z21 z23 0 s22 else bnd (F_M_fail (nI 1) q21.2) fun q22 => (q22.1, q22.2)
set_option maxHeartbeats 8000000 in
set_option maxRecDepth 100000 in
theorem N_M_show (l : Launch) (g : Gd) (sz : Nat) (T : TyN) (s : Sto) (pl : va_W) (hO : okn g T s pl) (hU : inj T) (h0 : Nat) (v : Int32) (sc : Int32) (tp : Nat) (rs : Nat) (ks : Nat) (k_h0 : T h0 = some 148) (e_tp : s.1 148 1 = nI tp) (e_rs : s.1 148 2 = nI rs) (e_ks : s.1 148 3 = nI ks) (h1 : tp ≤ 16384) (h2 : rs ≤ 8192) (h3 : ks ≤ 8) (qst : SETS ks (s.1 170)) (qhd : HIDS ks (s.1 171))  : Met l y_M_show w_M_show ({ frames := 3, cells := 0, slots := 0, locals := 62 } : Room) (va_Pc [.ref h0, .int v, .int sc] (pr (en g) g.1 vcl sz ([] ++ pl))) (va_Qi (fun (r : Int32) (u : (Int32 × Sto) × va_W) => (u.1 = F_M_show v sc s ∧ r = u.1.1 ∧ frm (M_M_show) s u.1.2 ∧ (∃ x : Nat, u.1.2.1 148 1 = nI x ∧ x ≤ 16384) ∧ (∃ x : Nat, u.1.2.1 148 2 = nI x ∧ x ≤ 8192) ∧ (∃ x : Nat, u.1.2.1 148 3 = nI x ∧ x ≤ 8) ∧ True) ∧ okn g T u.1.2 u.2) (po g.1 vcl (va_A ([] ++ pl) sz) (fun (u : (Int32 × Sto) × va_W) => [] ++ u.2)) (va_A ([] ++ pl) sz)) 0 0 (va_A ([] ++ pl) sz) := by
  refine mc_entry (cc := c_M_show) (maxL := 4) (ret := (some .int)) (by decide) rfl (Nat.le_of_ble_eq_true rfl) ?_
  intro p e s0 m args below meth c ls F hr hlk hnm hsz hP hD hE hA hl
  obtain ⟨hx, hb, hml, hown, hts⟩ := id F
  have hK := hE.1
  generalize va_A ([] ++ pl) sz = A at hD hE hA ⊢
  have hS : va_S A s0.heap s0.heap [] := va_S.rf
  have hl : lv_has ls 4 [(0, .ref h0), (1, .int v), (2, .int sc)] := hl
  have hR : F_M_show v sc s = F_M_show v sc s := rfl
  have hF : frm (M_M_show) s s := frm_rf
  refine lv_aload_n hx hb dM_show_0 rfl (lv_at hl 0 rfl) ?_
  refine lv_iconst (v := nI 0) hx hb dM_show_1 (by decide) ?_
  refine nw_put (C := "LatticeKeysModel") (TT := T_M) (N := 14) hx hb hts (wg_ft i_M) ty_M k_M n_M hown hK hO hU k_h0 (kn := 148) (ci := 8) (fl := [(0, 0), (0, 0), (0, 0), (0, 0), (3, 149), (3, 150), (3, 151), (3, 152), (3, 161), (3, 170), (3, 171), (3, 172), (3, 184), (3, 225)]) rfl hP hD hS rfl 0 (by decide) (hts _ (wg_t kw_1526)) (fun _ h9 => h9) rfl (by decide +kernel) rfl dM_show_2 (fun s21 pl H locs es21 hO hP hD hS => ?_)
  replace hR := bnd_step hR es21
  have hF := frm_sI hF es21 (by unfold M_M_show; omega)
  have hf21 : s21.1 148 1 = nI tp := fc_ne e_tp es21 (by omega)
  have hf22 : s21.1 148 2 = nI rs := fc_ne e_rs es21 (by omega)
  have hf23 : s21.1 148 3 = nI ks := fc_ne e_ks es21 (by omega)
  have hf24 : s21.1 148 0 = nI 0 := fc_eq es21
  have hg21 : SETS ks (s21.1 170) := by rw [(ar_sI es21 (by omega))]; exact qst
  have hg22 : HIDS ks (s21.1 171) := by rw [(ar_sI es21 (by omega))]; exact qhd
  refine lv_aload_n hx hb dM_show_5 rfl (lv_at hl 0 rfl) ?_
  refine lv_iload_n hx hb dM_show_6 rfl (lv_at hl 1 rfl) ?_
  refine mp_i (cx := []) (wr := []) hP hD hS hA [] [] rfl rfl rfl (by decide) (va_runV (As := [.int v]) (rest := []) F (N_M_none l g _ T s21 pl hO hU h0 v tp rs ks k_h0 hf21 hf22 hf23 (by omega)) (cwV 1 hts (wg_app (wg_c kw_1781 (wg_c kw_1783 (wg_c ks_65 (wg_c kw_9 wg_n)))) kw_1784) rfl rfl rfl (by decide +kernel) ⟨by decide, by decide⟩) (pn_W "LatticeKeysModel" (en_ok g) (ci := 8) (kn := 148) (fl := [(0, 0), (0, 0), (0, 0), (0, 0), (3, 149), (3, 150), (3, 151), (3, 152), (3, 161), (3, 170), (3, 171), (3, 172), (3, 184), (3, 225)]) hK hO k_h0 rfl hP hD hS hA hE [] rfl rfl rfl) rfl rfl hl.1 rfl (lv_room (Nat.le_of_ble_eq_true rfl)) dM_show_7 ⟨by omega, by omega⟩) (fun r21 u21 H locs hu21 hP hD hS => ?_)
  obtain ⟨q21, pl⟩ := u21
  obtain ⟨⟨eq21, rfl, hFc21, hxp21, -⟩, hO⟩ := hu21
  have hO : okn g T q21.2 pl := hO
  have hP : va_P g.1 vcl ([] ++ pl) _ := hP
  have hD : va_D _ ([] ++ pl) := hD
  have hFc21 : frm (M_M_none) s21 q21.2 := hFc21
  replace hR := bnd_step hR eq21
  have hF := frm_tr hF hFc21 (fun k hk => by unfold M_M_none at hk; unfold M_M_show; omega)
  have hf25 : q21.2.1 148 1 = nI tp := fc_F hf21 hFc21 (by unfold M_M_none; omega)
  have hf26 : q21.2.1 148 2 = nI rs := fc_F hf22 hFc21 (by unfold M_M_none; omega)
  have hf27 : q21.2.1 148 3 = nI ks := fc_F hf23 hFc21 (by unfold M_M_none; omega)
  have hf28 : q21.2.1 148 0 = nI 0 := fc_F hf24 hFc21 (by unfold M_M_none; omega)
  have hg23 : SETS ks (q21.2.1 170) := by rw [hFc21 170 (by unfold M_M_none; omega)]; exact hg21
  have hg24 : HIDS ks (q21.2.1 171) := by rw [hFc21 171 (by unfold M_M_none; omega)]; exact hg22
  refine W.widen (k := 0) (n := 0) (by omega) (by omega) ?_
  refine lv_if_ne (tgt := 22) hx hb dM_show_10 (by decide) (fun h21 => ?_) (fun h21 => ?_)
  · replace hR := hR.trans (if_neg h21)
    refine lv_aload_n hx hb dM_show_22 rfl (lv_at hl 0 rfl) ?_
    refine lv_iconst (v := nI 1) hx hb dM_show_23 (by decide) ?_
    refine mp_i (cx := []) (wr := []) hP hD hS hA [] [] rfl rfl rfl (by decide) (va_runV (As := [.int (nI 1)]) (rest := []) F (N_M_fail l g _ T q21.2 pl hO hU h0 (nI 1) tp rs ks k_h0 hf25 hf26 hf27) (cwV 1 hts (wg_app (wg_c kw_1577 (wg_c kw_1579 (wg_c ks_50 (wg_c kw_9 wg_n)))) kw_1580) rfl rfl rfl (by decide +kernel) ⟨by decide, by decide⟩) (pn_W "LatticeKeysModel" (en_ok g) (ci := 8) (kn := 148) (fl := [(0, 0), (0, 0), (0, 0), (0, 0), (3, 149), (3, 150), (3, 151), (3, 152), (3, 161), (3, 170), (3, 171), (3, 172), (3, 184), (3, 225)]) hK hO k_h0 rfl hP hD hS hA hE [] rfl rfl rfl) rfl rfl hl.1 rfl (lv_room (Nat.le_of_ble_eq_true rfl)) dM_show_24 ⟨by omega, by omega⟩) (fun r22 u22 H locs hu22 hP hD hS => ?_)
    obtain ⟨q22, pl⟩ := u22
    obtain ⟨⟨eq22, rfl, hFc22, ⟨x22, hx_22, hb_22⟩, ⟨x23, hx_23, hb_23⟩, ⟨x24, hx_24, hb_24⟩, -⟩, hO⟩ := hu22
    have hO : okn g T q22.2 pl := hO
    have hP : va_P g.1 vcl ([] ++ pl) _ := hP
    have hD : va_D _ ([] ++ pl) := hD
    have hFc22 : frm (M_M_fail) q21.2 q22.2 := hFc22
    have hb_22 : x22 = tp := hb_22
    have hb_23 : x23 = rs := hb_23
    have hb_24 : x24 = ks := hb_24
    replace hR := bnd_step hR eq22
    have hF := frm_tr hF hFc22 (fun k hk => by unfold M_M_fail at hk; unfold M_M_show; omega)
    have hg25 : SETS ks (q22.2.1 170) := by rw [hFc22 170 (by unfold M_M_fail; omega)]; exact hg23
    have hg26 : HIDS ks (q22.2.1 171) := by rw [hFc22 171 (by unfold M_M_fail; omega)]; exact hg24
    refine W.widen (k := 0) (n := 0) (by omega) (by omega) ?_
    exact mp_iret hx hb hr hlk hP hD hS ((q22.1, q22.2), pl) ⟨⟨hR.symm, rfl, hF, ⟨x22, hx_22, by omega⟩, ⟨x23, hx_23, by omega⟩, ⟨x24, hx_24, by omega⟩, trivial⟩, hO⟩ [] rfl rfl rfl (by omega) (by omega) dM_show_27
  · replace hR := hR.trans (if_pos h21)
    obtain ⟨z21, hz21, hv21⟩ := (hxp21.resolve_left (fun h9 => absurd (h9.symm.trans h21) (by decide))).2
    have ez21 : z21 = v.toNatClampNeg := by rw [hv21]; exact (nI_clamp (by omega)).symm
    replace hR := bnd_step hR ez21
    rw [hv21] at hl
    refine lv_aload_n hx hb dM_show_13 rfl (lv_at hl 0 rfl) ?_
    refine lv_iload_n hx hb dM_show_14 rfl (lv_at hl 1 rfl) ?_
    refine lv_iload_n hx hb dM_show_15 rfl (lv_at hl 2 rfl) ?_
    refine mp_i (cx := []) (wr := []) hP hD hS hA [] [] rfl rfl rfl (by decide) (va_runV (As := [.int (nI z21), .int sc]) (rest := []) F (N_M_size l g _ T q21.2 pl hO hU h0 z21 sc tp rs ks k_h0 hf25 hf26 hf27 (by omega) (by omega) hg23 hg24) (cwV 2 hts (wg_app (wg_c kw_1785 (wg_c kw_1787 (wg_c ks_66 (wg_c kw_9 wg_n)))) kw_1788) rfl rfl rfl (by decide +kernel) ⟨by decide, by decide⟩) (pn_W "LatticeKeysModel" (en_ok g) (ci := 8) (kn := 148) (fl := [(0, 0), (0, 0), (0, 0), (0, 0), (3, 149), (3, 150), (3, 151), (3, 152), (3, 161), (3, 170), (3, 171), (3, 172), (3, 184), (3, 225)]) hK hO k_h0 rfl hP hD hS hA hE [] rfl rfl rfl) rfl rfl hl.1 rfl (lv_room (Nat.le_of_ble_eq_true rfl)) dM_show_16 ⟨by omega, by omega⟩) (fun r23 u23 H locs hu23 hP hD hS => ?_)
    obtain ⟨q23, pl⟩ := u23
    obtain ⟨⟨eq23, rfl, hFc23, ⟨x26, hx_26, hb_26⟩, hxp23, -⟩, hO⟩ := hu23
    have hO : okn g T q23.2 pl := hO
    have hP : va_P g.1 vcl ([] ++ pl) _ := hP
    have hD : va_D _ ([] ++ pl) := hD
    have hFc23 : frm (M_M_size) q21.2 q23.2 := hFc23
    have hb_26 : x26 < 4897 := hb_26
    replace hR := bnd_step hR eq23
    have hF := frm_tr hF hFc23 (fun k hk => by unfold M_M_size at hk; unfold M_M_show; omega)
    have hf29 : q23.2.1 148 1 = nI tp := fc_F hf25 hFc23 (by unfold M_M_size; omega)
    have hf30 : q23.2.1 148 2 = nI rs := fc_F hf26 hFc23 (by unfold M_M_size; omega)
    have hf31 : q23.2.1 148 3 = nI ks := fc_F hf27 hFc23 (by unfold M_M_size; omega)
    have hf32 : q23.2.1 148 0 = nI 0 := fc_F hf28 hFc23 (by unfold M_M_size; omega)
    have hg27 : SETS ks (q23.2.1 170) := by rw [hFc23 170 (by unfold M_M_size; omega)]; exact hg23
    have hg28 : HIDS ks (q23.2.1 171) := by rw [hFc23 171 (by unfold M_M_size; omega)]; exact hg24
    obtain ⟨z22, ez22, hz22, hz23⟩ := cl_of (b := 2147483648) hx_26 (by omega) (by decide)
    replace hR := bnd_step hR ez22
    refine mi_as hz22 ?_
    refine W.widen (k := 0) (n := 0) (by omega) (by omega) ?_
    refine lv_if_ne (tgt := 28) hx hb dM_show_19 (by decide) (fun h22 => ?_) (fun h22 => ?_)
    · replace hR := hR.trans (if_neg h22)
      refine lv_aload_n hx hb dM_show_28 rfl (lv_at hl 0 rfl) ?_
      refine lv_aload_n hx hb dM_show_29 rfl (lv_at hl 0 rfl) ?_
      refine lv_iload_n hx hb dM_show_30 rfl (lv_at hl 1 rfl) ?_
      refine lv_iload_n hx hb dM_show_31 rfl (lv_at hl 2 rfl) ?_
      refine mp_i (cx := []) (wr := []) hP hD hS hA [] [] rfl rfl rfl (by decide) (va_runV (As := [.int (nI z21), .int sc]) (rest := [.ref h0]) F (N_M_size l g _ T q23.2 pl hO hU h0 z21 sc tp rs ks k_h0 hf29 hf30 hf31 (by omega) (by omega) hg27 hg28) (cwV 2 hts (wg_app (wg_c kw_1785 (wg_c kw_1787 (wg_c ks_66 (wg_c kw_9 wg_n)))) kw_1788) rfl rfl rfl (by decide +kernel) ⟨by decide, by decide⟩) (pn_W "LatticeKeysModel" (en_ok g) (ci := 8) (kn := 148) (fl := [(0, 0), (0, 0), (0, 0), (0, 0), (3, 149), (3, 150), (3, 151), (3, 152), (3, 161), (3, 170), (3, 171), (3, 172), (3, 184), (3, 225)]) hK hO k_h0 rfl hP hD hS hA hE [] rfl rfl rfl) rfl rfl hl.1 rfl (lv_room (Nat.le_of_ble_eq_true rfl)) dM_show_32 ⟨by omega, by omega⟩) (fun r24 u24 H locs hu24 hP hD hS => ?_)
      obtain ⟨q24, pl⟩ := u24
      obtain ⟨⟨eq24, rfl, hFc24, ⟨x27, hx_27, hb_27⟩, hxp24, -⟩, hO⟩ := hu24
      have hO : okn g T q24.2 pl := hO
      have hP : va_P g.1 vcl ([] ++ pl) _ := hP
      have hD : va_D _ ([] ++ pl) := hD
      have hFc24 : frm (M_M_size) q23.2 q24.2 := hFc24
      have hb_27 : x27 < 4897 := hb_27
      replace hR := bnd_step hR eq24
      have hF := frm_tr hF hFc24 (fun k hk => by unfold M_M_size at hk; unfold M_M_show; omega)
      have hf33 : q24.2.1 148 1 = nI tp := fc_F hf29 hFc24 (by unfold M_M_size; omega)
      have hf34 : q24.2.1 148 2 = nI rs := fc_F hf30 hFc24 (by unfold M_M_size; omega)
      have hf35 : q24.2.1 148 3 = nI ks := fc_F hf31 hFc24 (by unfold M_M_size; omega)
      have hf36 : q24.2.1 148 0 = nI 0 := fc_F hf32 hFc24 (by unfold M_M_size; omega)
      have hg29 : SETS ks (q24.2.1 170) := by rw [hFc24 170 (by unfold M_M_size; omega)]; exact hg27
      have hg30 : HIDS ks (q24.2.1 171) := by rw [hFc24 171 (by unfold M_M_size; omega)]; exact hg28
      obtain ⟨z23, ez23, hz24, hz25⟩ := cl_of (b := 2147483648) hx_27 (by omega) (by decide)
      replace hR := bnd_step hR ez23
      refine mi_as hz24 ?_
      refine W.widen (k := 0) (n := 0) (by omega) (by omega) ?_
      refine nw_put (C := "LatticeKeysModel") (TT := T_M) (N := 14) hx hb hts (wg_ft i_M) ty_M k_M n_M hown hK hO hU k_h0 (kn := 148) (ci := 8) (fl := [(0, 0), (0, 0), (0, 0), (0, 0), (3, 149), (3, 150), (3, 151), (3, 152), (3, 161), (3, 170), (3, 171), (3, 172), (3, 184), (3, 225)]) rfl hP hD hS rfl 2 (by decide) (hts _ (wg_t kw_1528)) (fun _ h9 => h9) rfl (by decide +kernel) rfl dM_show_35 (fun s22 pl H locs es22 hO hP hD hS => ?_)
      replace hR := bnd_step hR es22
      have hF := frm_sI hF es22 (by unfold M_M_show; omega)
      have hf37 : s22.1 148 1 = nI tp := fc_ne hf33 es22 (by omega)
      have hf39 : s22.1 148 3 = nI ks := fc_ne hf35 es22 (by omega)
      have hf40 : s22.1 148 0 = nI 0 := fc_ne hf36 es22 (by omega)
      have hf41 : s22.1 148 2 = nI z23 := fc_eq es22
      have hg31 : SETS ks (s22.1 170) := by rw [(ar_sI es22 (by omega))]; exact hg29
      have hg32 : HIDS ks (s22.1 171) := by rw [(ar_sI es22 (by omega))]; exact hg30
      refine lv_iconst (v := nI 0) hx hb dM_show_38 (by decide) ?_
      refine lv_istore_n (lv' := [(3, .int (nI 0)), (0, .ref h0), (1, .int (nI z21)), (2, .int sc)]) hx hb dM_show_39 rfl hl (by decide) rfl (fun ls hl => ?_)
      have lp21 : ∀ (n21 : Nat) (i21 : Nat) (s23 : Sto) (pl : va_W) (ls : Array Slot) (H : Heap) (locs : List Loc), n21 + i21 = z23 → frm (M_M_show) s s23 → s23.1 148 1 = nI tp → s23.1 148 3 = nI ks → s23.1 148 0 = nI 0 → s23.1 148 2 = nI z23 → (SETS ks (s23.1 170)) → (HIDS ks (s23.1 171)) → F_M_show v sc s = F_M_show_L0 sc z21 n21 i21 s23 → lv_has ls 4 [(3, .int (nI i21)), (0, .ref h0), (1, .int (nI z21)), (2, .int sc)] → okn g T s23 pl → va_P g.1 vcl ([] ++ pl) H → va_D A ([] ++ pl) → va_S A s0.heap H locs → W p l e ({ frames := 3, cells := 0, slots := 0, locals := 62 } : Room) s0 m args below meth c H locs 0 0 (MQ below (va_Qi (fun (r : Int32) (u : (Int32 × Sto) × va_W) => (u.1 = F_M_show v sc s ∧ r = u.1.1 ∧ frm (M_M_show) s u.1.2 ∧ (∃ x : Nat, u.1.2.1 148 1 = nI x ∧ x ≤ 16384) ∧ (∃ x : Nat, u.1.2.1 148 2 = nI x ∧ x ≤ 8192) ∧ (∃ x : Nat, u.1.2.1 148 3 = nI x ∧ x ≤ 8) ∧ True) ∧ okn g T u.1.2 u.2) (po g.1 vcl A (fun (u : (Int32 × Sto) × va_W) => [] ++ u.2)) A) args s0 0 0 A) (F0 m 40 ls []) := by
        intro n21
        induction n21 with
        | zero =>
          intro i21 s23 pl ls H locs hm21 hF hf42 hf43 hf44 hf45 hg33 hg34 hR hl hO hP hD hS
          refine lv_iload_n hx hb dM_show_40 rfl (lv_at hl 0 rfl) ?_
          refine lv_aload_n hx hb dM_show_41 rfl (lv_at hl 1 rfl) ?_
          refine nw_get (C := "LatticeKeysModel") (TT := T_M) (N := 14) hx hb hts (wg_ft i_M) hown hK hO k_h0 (kn := 148) (ci := 8) (fl := [(0, 0), (0, 0), (0, 0), (0, 0), (3, 149), (3, 150), (3, 151), (3, 152), (3, 161), (3, 170), (3, 171), (3, 172), (3, 184), (3, 225)]) rfl hP rfl 2 (by decide) (hts _ (wg_t kw_1528)) (fun _ h9 => h9) (cd := (0, 0)) rfl dM_show_42 (fun v21 hv22 => ?_)
          obtain rfl := (show v21 = .int (s23.1 148 2) from hv22)
          obtain ⟨z24, ez24, hz26, hz27⟩ := cl_of (b := 2147483648) hf45 (by omega) (by decide)
          replace hR := bnd_step hR ez24
          refine mi_as hz26 ?_
          refine mi_ge (tgt := 83) hx hb dM_show_45 (by decide) (by omega) (by omega) (fun h23 => ?_) (fun h23 => absurd h23 (by omega))
          refine lv_aload_n hx hb dM_show_83 rfl (lv_at hl 1 rfl) ?_
          refine nw_get (C := "LatticeKeysModel") (TT := T_M) (N := 14) hx hb hts (wg_ft i_M) hown hK hO k_h0 (kn := 148) (ci := 8) (fl := [(0, 0), (0, 0), (0, 0), (0, 0), (3, 149), (3, 150), (3, 151), (3, 152), (3, 161), (3, 170), (3, 171), (3, 172), (3, 184), (3, 225)]) rfl hP rfl 2 (by decide) (hts _ (wg_t kw_1528)) (fun _ h9 => h9) (cd := (0, 0)) rfl dM_show_84 (fun v22 hv23 => ?_)
          obtain rfl := (show v22 = .int (s23.1 148 2) from hv23)
          obtain ⟨z25, ez25, hz28, hz29⟩ := cl_of (b := 2147483648) hf45 (by omega) (by decide)
          replace hR := bnd_step hR ez25
          refine mi_as hz28 ?_
          exact mp_iret hx hb hr hlk hP hD hS ((nI z25, s23), pl) ⟨⟨hR.symm, rfl, hF, ⟨tp, hf42, by omega⟩, ⟨z23, hf45, by omega⟩, ⟨ks, hf43, by omega⟩, trivial⟩, hO⟩ [] rfl rfl rfl (by omega) (by omega) dM_show_87
        | succ n21 ih21 =>
          intro i21 s23 pl ls H locs hm21 hF hf46 hf47 hf48 hf49 hg33 hg34 hR hl hO hP hD hS
          refine lv_iload_n hx hb dM_show_40 rfl (lv_at hl 0 rfl) ?_
          refine lv_aload_n hx hb dM_show_41 rfl (lv_at hl 1 rfl) ?_
          refine nw_get (C := "LatticeKeysModel") (TT := T_M) (N := 14) hx hb hts (wg_ft i_M) hown hK hO k_h0 (kn := 148) (ci := 8) (fl := [(0, 0), (0, 0), (0, 0), (0, 0), (3, 149), (3, 150), (3, 151), (3, 152), (3, 161), (3, 170), (3, 171), (3, 172), (3, 184), (3, 225)]) rfl hP rfl 2 (by decide) (hts _ (wg_t kw_1528)) (fun _ h9 => h9) (cd := (0, 0)) rfl dM_show_42 (fun v23 hv24 => ?_)
          obtain rfl := (show v23 = .int (s23.1 148 2) from hv24)
          obtain ⟨z26, ez26, hz30, hz31⟩ := cl_of (b := 2147483648) hf49 (by omega) (by decide)
          replace hR := bnd_step hR ez26
          refine mi_as hz30 ?_
          refine mi_ge (tgt := 83) hx hb dM_show_45 (by decide) (by omega) (by omega) (fun h24 => absurd h24 (by omega)) (fun h24 => ?_)
          refine lv_aload_n hx hb dM_show_48 rfl (lv_at hl 1 rfl) ?_
          refine nw_get (C := "LatticeKeysModel") (TT := T_M) (N := 14) hx hb hts (wg_ft i_M) hown hK hO k_h0 (kn := 148) (ci := 8) (fl := [(0, 0), (0, 0), (0, 0), (0, 0), (3, 149), (3, 150), (3, 151), (3, 152), (3, 161), (3, 170), (3, 171), (3, 172), (3, 184), (3, 225)]) rfl hP rfl 5 (by decide) (hts _ (wg_t kw_1531)) (fun _ h9 => h9) (cd := (3, 150)) rfl dM_show_49 (fun v24 hv25 => ?_)
          obtain ⟨r25, rfl, kr21⟩ := (show ∃ r : Nat, v24 = .ref r ∧ T r = some 150 from hv25)
          refine lv_iload_n hx hb dM_show_52 rfl (lv_at hl 0 rfl) ?_
          refine lv_iload_n hx hb dM_show_53 rfl (lv_at hl 3 rfl) ?_
          refine lv_if_eq (tgt := 68) hx hb dM_show_54 (by decide) (fun h25 => ?_) (fun h25 => ?_)
          · replace hR := hR.trans (if_pos h25)
            obtain ⟨x9, hx9, hy9⟩ := hxp24 h25
            have hz9 : z23 ≤ 2592 := by have h9 := (nI_eq (by omega) (by omega)).mp (hz24.symm.trans hx9); omega
            refine lv_aload_n hx hb dM_show_68 rfl (lv_at hl 1 rfl) ?_
            refine nw_get (C := "LatticeKeysModel") (TT := T_M) (N := 14) hx hb hts (wg_ft i_M) hown hK hO k_h0 (kn := 148) (ci := 8) (fl := [(0, 0), (0, 0), (0, 0), (0, 0), (3, 149), (3, 150), (3, 151), (3, 152), (3, 161), (3, 170), (3, 171), (3, 172), (3, 184), (3, 225)]) rfl hP rfl 7 (by decide) (hts _ (wg_t kw_1533)) (fun _ h9 => h9) (cd := (3, 152)) rfl dM_show_69 (fun v25 hv26 => ?_)
            obtain ⟨r26, rfl, kr22⟩ := (show ∃ r : Nat, v25 = .ref r ∧ T r = some 152 from hv26)
            refine lv_iload_n hx hb dM_show_72 rfl (lv_at hl 2 rfl) ?_
            refine nw_aald4 hx hb hK hO kr22 (k := 152) (b := 153) rfl hP (by omega) (by omega) dM_show_73 (fun r27 kr23 => ?_)
            have hn21 : nsp (153 + z21) = (1, 2592, []) := rows_okb 153 8 2592 (by decide) _ (by omega)
            refine lv_iload_n hx hb dM_show_74 rfl (lv_at hl 0 rfl) ?_
            refine nw_bald hx hb hK hO kr23 (k := (153 + z21)) hn21 hP (by omega) (by omega) dM_show_75 ?_
            refine nw_bast hx hb hK hO hU kr21 (k := 150) rfl hP hD hS (by omega) (by omega) dM_show_76 (fun s24 pl H locs es23 hO hP hD hS => ?_)
            replace hR := bnd_step hR es23
            have hF := frm_sB hF es23 (by unfold M_M_show; omega)
            have hf50 : s24.1 148 1 = nI tp := fc_B hf46 es23 (by omega)
            have hf51 : s24.1 148 3 = nI ks := fc_B hf47 es23 (by omega)
            have hf52 : s24.1 148 0 = nI 0 := fc_B hf48 es23 (by omega)
            have hf53 : s24.1 148 2 = nI z23 := fc_B hf49 es23 (by omega)
            have hg35 : SETS ks (s24.1 170) := by rw [(ar_sB es23 (by omega))]; exact hg33
            have hg36 : HIDS ks (s24.1 171) := by rw [(ar_sB es23 (by omega))]; exact hg34
            refine mi_iinc (k := 0) (x := i21) (d := 1) (y := i21 + 1) (lv' := [(3, .int (nI (i21 + 1))), (0, .ref h0), (1, .int (nI z21)), (2, .int sc)]) hx hb dM_show_77 hl rfl (by decide) rfl (by decide) rfl (fun ls hl => ?_)
            refine lv_goto (tgt := 40) hx hb dM_show_80 (by decide) ?_
            exact ih21 (i21 + 1) s24 pl ls H locs (by omega) hF hf50 hf51 hf52 hf53 hg35 hg36 hR (lv_sub hl [0, 1, 2, 3] rfl) hO hP hD hS
          · replace hR := hR.trans (if_neg h25)
            refine lv_aload_n hx hb dM_show_57 rfl (lv_at hl 1 rfl) ?_
            refine nw_get (C := "LatticeKeysModel") (TT := T_M) (N := 14) hx hb hts (wg_ft i_M) hown hK hO k_h0 (kn := 148) (ci := 8) (fl := [(0, 0), (0, 0), (0, 0), (0, 0), (3, 149), (3, 150), (3, 151), (3, 152), (3, 161), (3, 170), (3, 171), (3, 172), (3, 184), (3, 225)]) rfl hP rfl 8 (by decide) (hts _ (wg_t kw_1534)) (fun _ h9 => h9) (cd := (3, 161)) rfl dM_show_58 (fun v26 hv27 => ?_)
            obtain ⟨r28, rfl, kr24⟩ := (show ∃ r : Nat, v26 = .ref r ∧ T r = some 161 from hv27)
            refine lv_iload_n hx hb dM_show_61 rfl (lv_at hl 2 rfl) ?_
            refine nw_aald4 hx hb hK hO kr24 (k := 161) (b := 162) rfl hP (by omega) (by omega) dM_show_62 (fun r29 kr25 => ?_)
            have hn22 : nsp (162 + z21) = (1, 4896, []) := rows_okb 162 8 4896 (by decide) _ (by omega)
            refine lv_iload_n hx hb dM_show_63 rfl (lv_at hl 0 rfl) ?_
            refine nw_bald hx hb hK hO kr25 (k := (162 + z21)) hn22 hP (by omega) (by omega) dM_show_64 ?_
            refine lv_goto (tgt := 76) hx hb dM_show_65 (by decide) ?_
            refine nw_bast hx hb hK hO hU kr21 (k := 150) rfl hP hD hS (by omega) (by omega) dM_show_76 (fun s25 pl H locs es24 hO hP hD hS => ?_)
            replace hR := bnd_step hR es24
            have hF := frm_sB hF es24 (by unfold M_M_show; omega)
            have hf54 : s25.1 148 1 = nI tp := fc_B hf46 es24 (by omega)
            have hf55 : s25.1 148 3 = nI ks := fc_B hf47 es24 (by omega)
            have hf56 : s25.1 148 0 = nI 0 := fc_B hf48 es24 (by omega)
            have hf57 : s25.1 148 2 = nI z23 := fc_B hf49 es24 (by omega)
            have hg37 : SETS ks (s25.1 170) := by rw [(ar_sB es24 (by omega))]; exact hg33
            have hg38 : HIDS ks (s25.1 171) := by rw [(ar_sB es24 (by omega))]; exact hg34
            refine mi_iinc (k := 0) (x := i21) (d := 1) (y := i21 + 1) (lv' := [(3, .int (nI (i21 + 1))), (0, .ref h0), (1, .int (nI z21)), (2, .int sc)]) hx hb dM_show_77 hl rfl (by decide) rfl (by decide) rfl (fun ls hl => ?_)
            refine lv_goto (tgt := 40) hx hb dM_show_80 (by decide) ?_
            exact ih21 (i21 + 1) s25 pl ls H locs (by omega) hF hf54 hf55 hf56 hf57 hg37 hg38 hR (lv_sub hl [0, 1, 2, 3] rfl) hO hP hD hS
      exact lp21 z23 0 s22 pl ls _ _ (by omega) hF hf37 hf39 hf40 hf41 hg31 hg32 hR (lv_sub hl [0, 1, 2, 3] rfl) hO hP hD hS
    · replace hR := hR.trans (if_pos h22)
      refine lv_aload_n hx hb dM_show_22 rfl (lv_at hl 0 rfl) ?_
      refine lv_iconst (v := nI 1) hx hb dM_show_23 (by decide) ?_
      refine mp_i (cx := []) (wr := []) hP hD hS hA [] [] rfl rfl rfl (by decide) (va_runV (As := [.int (nI 1)]) (rest := []) F (N_M_fail l g _ T q23.2 pl hO hU h0 (nI 1) tp rs ks k_h0 hf29 hf30 hf31) (cwV 1 hts (wg_app (wg_c kw_1577 (wg_c kw_1579 (wg_c ks_50 (wg_c kw_9 wg_n)))) kw_1580) rfl rfl rfl (by decide +kernel) ⟨by decide, by decide⟩) (pn_W "LatticeKeysModel" (en_ok g) (ci := 8) (kn := 148) (fl := [(0, 0), (0, 0), (0, 0), (0, 0), (3, 149), (3, 150), (3, 151), (3, 152), (3, 161), (3, 170), (3, 171), (3, 172), (3, 184), (3, 225)]) hK hO k_h0 rfl hP hD hS hA hE [] rfl rfl rfl) rfl rfl hl.1 rfl (lv_room (Nat.le_of_ble_eq_true rfl)) dM_show_24 ⟨by omega, by omega⟩) (fun r30 u25 H locs hu25 hP hD hS => ?_)
      obtain ⟨q25, pl⟩ := u25
      obtain ⟨⟨eq25, rfl, hFc25, ⟨x28, hx_28, hb_28⟩, ⟨x29, hx_29, hb_29⟩, ⟨x30, hx_30, hb_30⟩, -⟩, hO⟩ := hu25
      have hO : okn g T q25.2 pl := hO
      have hP : va_P g.1 vcl ([] ++ pl) _ := hP
      have hD : va_D _ ([] ++ pl) := hD
      have hFc25 : frm (M_M_fail) q23.2 q25.2 := hFc25
      have hb_28 : x28 = tp := hb_28
      have hb_29 : x29 = rs := hb_29
      have hb_30 : x30 = ks := hb_30
      replace hR := bnd_step hR eq25
      have hF := frm_tr hF hFc25 (fun k hk => by unfold M_M_fail at hk; unfold M_M_show; omega)
      have hg39 : SETS ks (q25.2.1 170) := by rw [hFc25 170 (by unfold M_M_fail; omega)]; exact hg27
      have hg40 : HIDS ks (q25.2.1 171) := by rw [hFc25 171 (by unfold M_M_fail; omega)]; exact hg28
      refine W.widen (k := 0) (n := 0) (by omega) (by omega) ?_
      exact mp_iret hx hb hr hlk hP hD hS ((q25.1, q25.2), pl) ⟨⟨hR.symm, rfl, hF, ⟨x28, hx_28, by omega⟩, ⟨x29, hx_29, by omega⟩, ⟨x30, hx_30, by omega⟩, trivial⟩, hO⟩ [] rfl rfl rfl (by omega) (by omega) dM_show_27
