set_option linter.all false
abbrev c_K_writeNumber : ByteArray := prog_1_method_18_code
abbrev y_K_writeNumber : MethodName := ⟨"LatticeKeys", "writeNumber", "(I)V"⟩
abbrev w_K_writeNumber : List Cond := Cond.code y_K_writeNumber c_K_writeNumber 2 none :: WG
theorem dK_writeNumber_0 : decode c_K_writeNumber 0 = .ok (.aload_n 0, 1) := by decide +kernel
theorem dK_writeNumber_1 : decode c_K_writeNumber 1 = .ok (.getfield 9, 3) := by decide +kernel
theorem dK_writeNumber_4 : decode c_K_writeNumber 4 = .ok (.aload_n 0, 1) := by decide +kernel
theorem dK_writeNumber_5 : decode c_K_writeNumber 5 = .ok (.getfield 13, 3) := by decide +kernel
theorem dK_writeNumber_8 : decode c_K_writeNumber 8 = .ok (.iload_n 1, 1) := by decide +kernel
theorem dK_writeNumber_9 : decode c_K_writeNumber 9 = .ok (.bipush 24, 2) := by decide +kernel
theorem dK_writeNumber_11 : decode c_K_writeNumber 11 = .ok (.iushr, 1) := by decide +kernel
theorem dK_writeNumber_12 : decode c_K_writeNumber 12 = .ok (.i2b, 1) := by decide +kernel
theorem dK_writeNumber_13 : decode c_K_writeNumber 13 = .ok (.bastore, 1) := by decide +kernel
theorem dK_writeNumber_14 : decode c_K_writeNumber 14 = .ok (.aload_n 0, 1) := by decide +kernel
theorem dK_writeNumber_15 : decode c_K_writeNumber 15 = .ok (.getfield 9, 3) := by decide +kernel
theorem dK_writeNumber_18 : decode c_K_writeNumber 18 = .ok (.aload_n 0, 1) := by decide +kernel
theorem dK_writeNumber_19 : decode c_K_writeNumber 19 = .ok (.getfield 13, 3) := by decide +kernel
theorem dK_writeNumber_22 : decode c_K_writeNumber 22 = .ok (.iconst 1, 1) := by decide +kernel
theorem dK_writeNumber_23 : decode c_K_writeNumber 23 = .ok (.iadd, 1) := by decide +kernel
theorem dK_writeNumber_24 : decode c_K_writeNumber 24 = .ok (.iload_n 1, 1) := by decide +kernel
theorem dK_writeNumber_25 : decode c_K_writeNumber 25 = .ok (.bipush 16, 2) := by decide +kernel
theorem dK_writeNumber_27 : decode c_K_writeNumber 27 = .ok (.iushr, 1) := by decide +kernel
theorem dK_writeNumber_28 : decode c_K_writeNumber 28 = .ok (.i2b, 1) := by decide +kernel
theorem dK_writeNumber_29 : decode c_K_writeNumber 29 = .ok (.bastore, 1) := by decide +kernel
theorem dK_writeNumber_30 : decode c_K_writeNumber 30 = .ok (.aload_n 0, 1) := by decide +kernel
theorem dK_writeNumber_31 : decode c_K_writeNumber 31 = .ok (.getfield 9, 3) := by decide +kernel
theorem dK_writeNumber_34 : decode c_K_writeNumber 34 = .ok (.aload_n 0, 1) := by decide +kernel
theorem dK_writeNumber_35 : decode c_K_writeNumber 35 = .ok (.getfield 13, 3) := by decide +kernel
theorem dK_writeNumber_38 : decode c_K_writeNumber 38 = .ok (.iconst 2, 1) := by decide +kernel
theorem dK_writeNumber_39 : decode c_K_writeNumber 39 = .ok (.iadd, 1) := by decide +kernel
theorem dK_writeNumber_40 : decode c_K_writeNumber 40 = .ok (.iload_n 1, 1) := by decide +kernel
theorem dK_writeNumber_41 : decode c_K_writeNumber 41 = .ok (.bipush 8, 2) := by decide +kernel
theorem dK_writeNumber_43 : decode c_K_writeNumber 43 = .ok (.iushr, 1) := by decide +kernel
theorem dK_writeNumber_44 : decode c_K_writeNumber 44 = .ok (.i2b, 1) := by decide +kernel
theorem dK_writeNumber_45 : decode c_K_writeNumber 45 = .ok (.bastore, 1) := by decide +kernel
theorem dK_writeNumber_46 : decode c_K_writeNumber 46 = .ok (.aload_n 0, 1) := by decide +kernel
theorem dK_writeNumber_47 : decode c_K_writeNumber 47 = .ok (.getfield 9, 3) := by decide +kernel
theorem dK_writeNumber_50 : decode c_K_writeNumber 50 = .ok (.aload_n 0, 1) := by decide +kernel
theorem dK_writeNumber_51 : decode c_K_writeNumber 51 = .ok (.getfield 13, 3) := by decide +kernel
theorem dK_writeNumber_54 : decode c_K_writeNumber 54 = .ok (.iconst 3, 1) := by decide +kernel
theorem dK_writeNumber_55 : decode c_K_writeNumber 55 = .ok (.iadd, 1) := by decide +kernel
theorem dK_writeNumber_56 : decode c_K_writeNumber 56 = .ok (.iload_n 1, 1) := by decide +kernel
theorem dK_writeNumber_57 : decode c_K_writeNumber 57 = .ok (.i2b, 1) := by decide +kernel
theorem dK_writeNumber_58 : decode c_K_writeNumber 58 = .ok (.bastore, 1) := by decide +kernel
theorem dK_writeNumber_59 : decode c_K_writeNumber 59 = .ok (.aload_n 0, 1) := by decide +kernel
theorem dK_writeNumber_60 : decode c_K_writeNumber 60 = .ok (.dup, 1) := by decide +kernel
theorem dK_writeNumber_61 : decode c_K_writeNumber 61 = .ok (.getfield 13, 3) := by decide +kernel
theorem dK_writeNumber_64 : decode c_K_writeNumber 64 = .ok (.iconst 4, 1) := by decide +kernel
theorem dK_writeNumber_65 : decode c_K_writeNumber 65 = .ok (.iadd, 1) := by decide +kernel
theorem dK_writeNumber_66 : decode c_K_writeNumber 66 = .ok (.putfield 13, 3) := by decide +kernel
theorem dK_writeNumber_69 : decode c_K_writeNumber 69 = .ok (.return_, 1) := by decide +kernel
abbrev c_K_holdsContext : ByteArray := prog_1_method_31_code
abbrev y_K_holdsContext : MethodName := ⟨"LatticeKeys", "holdsContext", "(II)Z"⟩
abbrev w_K_holdsContext : List Cond := Cond.code y_K_holdsContext c_K_holdsContext 3 (some .boolean) :: WG
theorem dK_holdsContext_0 : decode c_K_holdsContext 0 = .ok (.iload_n 2, 1) := by decide +kernel
theorem dK_holdsContext_1 : decode c_K_holdsContext 1 = .ok (.ifCond .lt 24, 3) := by decide +kernel
theorem dK_holdsContext_4 : decode c_K_holdsContext 4 = .ok (.iload_n 2, 1) := by decide +kernel
theorem dK_holdsContext_5 : decode c_K_holdsContext 5 = .ok (.sipush 255, 3) := by decide +kernel
theorem dK_holdsContext_8 : decode c_K_holdsContext 8 = .ok (.if_icmp .gt 17, 3) := by decide +kernel
theorem dK_holdsContext_11 : decode c_K_holdsContext 11 = .ok (.aload_n 0, 1) := by decide +kernel
theorem dK_holdsContext_12 : decode c_K_holdsContext 12 = .ok (.getfield 13, 3) := by decide +kernel
theorem dK_holdsContext_15 : decode c_K_holdsContext 15 = .ok (.iload_n 1, 1) := by decide +kernel
theorem dK_holdsContext_16 : decode c_K_holdsContext 16 = .ok (.iload_n 2, 1) := by decide +kernel
theorem dK_holdsContext_17 : decode c_K_holdsContext 17 = .ok (.iadd, 1) := by decide +kernel
theorem dK_holdsContext_18 : decode c_K_holdsContext 18 = .ok (.if_icmp .lt 7, 3) := by decide +kernel
theorem dK_holdsContext_21 : decode c_K_holdsContext 21 = .ok (.iconst 1, 1) := by decide +kernel
theorem dK_holdsContext_22 : decode c_K_holdsContext 22 = .ok (.goto 4, 3) := by decide +kernel
theorem dK_holdsContext_25 : decode c_K_holdsContext 25 = .ok (.iconst 0, 1) := by decide +kernel
theorem dK_holdsContext_26 : decode c_K_holdsContext 26 = .ok (.ireturn, 1) := by decide +kernel
abbrev c_K_count : ByteArray := prog_1_method_17_code
abbrev y_K_count : MethodName := ⟨"LatticeKeys", "count", "(I)I"⟩
abbrev w_K_count : List Cond := Cond.code y_K_count c_K_count 2 (some .int) :: WG
theorem dK_count_0 : decode c_K_count 0 = .ok (.iload_n 1, 1) := by decide +kernel
theorem dK_count_1 : decode c_K_count 1 = .ok (.tableswitch 42 0 2 #[27, 32, 37], 27) := by decide +kernel
theorem dK_count_28 : decode c_K_count 28 = .ok (.aload_n 0, 1) := by decide +kernel
theorem dK_count_29 : decode c_K_count 29 = .ok (.getfield 13, 3) := by decide +kernel
theorem dK_count_32 : decode c_K_count 32 = .ok (.ireturn, 1) := by decide +kernel
theorem dK_count_33 : decode c_K_count 33 = .ok (.aload_n 0, 1) := by decide +kernel
theorem dK_count_34 : decode c_K_count 34 = .ok (.getfield 29, 3) := by decide +kernel
theorem dK_count_37 : decode c_K_count 37 = .ok (.ireturn, 1) := by decide +kernel
theorem dK_count_38 : decode c_K_count 38 = .ok (.aload_n 0, 1) := by decide +kernel
theorem dK_count_39 : decode c_K_count 39 = .ok (.getfield 20, 3) := by decide +kernel
theorem dK_count_42 : decode c_K_count 42 = .ok (.ireturn, 1) := by decide +kernel
theorem dK_count_43 : decode c_K_count 43 = .ok (.iconst (-1), 1) := by decide +kernel
theorem dK_count_44 : decode c_K_count 44 = .ok (.ireturn, 1) := by decide +kernel
def M_K_writeNumber (k : Nat) : Prop := k = 0 ∨ k = 1 ∨ (0 : Nat) = 1
noncomputable def F_K_writeNumber (v : Int32) (s : Sto) : Sto := bnd ((s.1 0 1).toNatClampNeg) fun z21 => bnd (sB s 1 z21 ((((v).toUInt32 >>> ((nI 24).toUInt32 &&& Int32.toUInt32 31)).toInt32).toInt8.toInt32)) fun s21 => bnd ((s21.1 0 1).toNatClampNeg) fun z22 => bnd (sB s21 1 (z22 + 1) ((((v).toUInt32 >>> ((nI 16).toUInt32 &&& Int32.toUInt32 31)).toInt32).toInt8.toInt32)) fun s22 => bnd ((s22.1 0 1).toNatClampNeg) fun z23 => bnd (sB s22 1 (z23 + 2) ((((v).toUInt32 >>> ((nI 8).toUInt32 &&& Int32.toUInt32 31)).toInt32).toInt8.toInt32)) fun s23 => bnd ((s23.1 0 1).toNatClampNeg) fun z24 => bnd (sB s23 1 (z24 + 3) (v.toInt8.toInt32)) fun s24 => bnd ((s24.1 0 1).toNatClampNeg) fun z25 => bnd (sI s24 0 1 (nI (z25 + 4))) fun s25 => s25
set_option maxHeartbeats 2000000 in
set_option maxRecDepth 100000 in
theorem N_K_writeNumber (l : Launch) (g : Gd) (sz : Nat) (T : TyN) (s : Sto) (pl : va_W) (hO : okn g T s pl) (hU : inj T) (h0 : Nat) (v : Int32) (tl : Nat) (al : Nat) (pn : Nat) (k_h0 : T h0 = some 0) (e_tl : s.1 0 1 = nI tl) (e_al : s.1 0 3 = nI al) (e_pn : s.1 0 5 = nI pn) (h1 : tl + 4 ≤ 16384)  : Met l y_K_writeNumber w_K_writeNumber ({ frames := 0, cells := 0, slots := 0, locals := 0 } : Room) (va_Pc [.ref h0, .int v] (pr (en g) g.1 vcl sz ([] ++ pl))) (va_Qv (fun (u : (Sto) × va_W) => (u.1 = F_K_writeNumber v s ∧ frm (M_K_writeNumber) s u.1 ∧ (∃ x : Nat, u.1.1 0 1 = nI x ∧ x = tl + 4) ∧ (∃ x : Nat, u.1.1 0 3 = nI x ∧ x = al) ∧ (∃ x : Nat, u.1.1 0 5 = nI x ∧ x = pn) ∧ True) ∧ okn g T u.1 u.2) (po g.1 vcl (va_A ([] ++ pl) sz) (fun (u : (Sto) × va_W) => [] ++ u.2)) (va_A ([] ++ pl) sz)) 0 0 (va_A ([] ++ pl) sz) := by
  refine mc_entry (cc := c_K_writeNumber) (maxL := 2) (ret := none) (by decide) rfl (Nat.le_of_ble_eq_true rfl) ?_
  intro p e s0 m args below meth c ls F hr hlk hnm hsz hP hD hE hA hl
  obtain ⟨hx, hb, hml, hown, hts⟩ := id F
  have hK := hE.1
  generalize va_A ([] ++ pl) sz = A at hD hE hA ⊢
  have hS : va_S A s0.heap s0.heap [] := va_S.rf
  have hl : lv_has ls 2 [(0, .ref h0), (1, .int v)] := hl
  have hR : F_K_writeNumber v s = F_K_writeNumber v s := rfl
  have hF : frm (M_K_writeNumber) s s := frm_rf
  refine lv_aload_n hx hb dK_writeNumber_0 rfl (lv_at hl 0 rfl) ?_
  refine nw_get (C := "LatticeKeys") (TT := T_K) (N := 11) hx hb hts (wg_ft i_K) hown hK hO k_h0 (kn := 0) (ci := 0) (fl := [(3, 1), (0, 0), (3, 2), (0, 0), (3, 3), (0, 0), (3, 4), (3, 8), (3, 12), (3, 24), (3, 39)]) rfl hP rfl 0 (by decide) (hts _ (wg_t kw_374)) (fun _ h9 => h9) (cd := (3, 1)) rfl dK_writeNumber_1 (fun v21 hv21 => ?_)
  obtain ⟨r21, rfl, kr21⟩ := (show ∃ r : Nat, v21 = .ref r ∧ T r = some 1 from hv21)
  refine lv_aload_n hx hb dK_writeNumber_4 rfl (lv_at hl 0 rfl) ?_
  refine nw_get (C := "LatticeKeys") (TT := T_K) (N := 11) hx hb hts (wg_ft i_K) hown hK hO k_h0 (kn := 0) (ci := 0) (fl := [(3, 1), (0, 0), (3, 2), (0, 0), (3, 3), (0, 0), (3, 4), (3, 8), (3, 12), (3, 24), (3, 39)]) rfl hP rfl 1 (by decide) (hts _ (wg_t kw_375)) (fun _ h9 => h9) (cd := (0, 0)) rfl dK_writeNumber_5 (fun v22 hv22 => ?_)
  obtain rfl := (show v22 = .int (s.1 0 1) from hv22)
  obtain ⟨z21, ez21, hz21, hz22⟩ := cl_of (b := 2147483648) e_tl (by omega) (by decide)
  replace hR := bnd_step hR ez21
  refine mi_as hz21 ?_
  refine lv_iload_n hx hb dK_writeNumber_8 rfl (lv_at hl 1 rfl) ?_
  refine lv_bipush (v := nI 24) hx hb dK_writeNumber_9 (by decide) ?_
  refine lv_iushr hx hb dK_writeNumber_11 rfl ?_
  refine lv_i2b hx hb dK_writeNumber_12 rfl ?_
  refine nw_bast hx hb hK hO hU kr21 (k := 1) rfl hP hD hS (by omega) (by omega) dK_writeNumber_13 (fun s21 pl H locs es21 hO hP hD hS => ?_)
  replace hR := bnd_step hR es21
  have hF := frm_sB hF es21 (by unfold M_K_writeNumber; omega)
  have hf21 : s21.1 0 1 = nI tl := fc_B e_tl es21 (by omega)
  have hf22 : s21.1 0 3 = nI al := fc_B e_al es21 (by omega)
  have hf23 : s21.1 0 5 = nI pn := fc_B e_pn es21 (by omega)
  refine lv_aload_n hx hb dK_writeNumber_14 rfl (lv_at hl 0 rfl) ?_
  refine nw_get (C := "LatticeKeys") (TT := T_K) (N := 11) hx hb hts (wg_ft i_K) hown hK hO k_h0 (kn := 0) (ci := 0) (fl := [(3, 1), (0, 0), (3, 2), (0, 0), (3, 3), (0, 0), (3, 4), (3, 8), (3, 12), (3, 24), (3, 39)]) rfl hP rfl 0 (by decide) (hts _ (wg_t kw_374)) (fun _ h9 => h9) (cd := (3, 1)) rfl dK_writeNumber_15 (fun v23 hv23 => ?_)
  obtain ⟨r22, rfl, kr22⟩ := (show ∃ r : Nat, v23 = .ref r ∧ T r = some 1 from hv23)
  refine lv_aload_n hx hb dK_writeNumber_18 rfl (lv_at hl 0 rfl) ?_
  refine nw_get (C := "LatticeKeys") (TT := T_K) (N := 11) hx hb hts (wg_ft i_K) hown hK hO k_h0 (kn := 0) (ci := 0) (fl := [(3, 1), (0, 0), (3, 2), (0, 0), (3, 3), (0, 0), (3, 4), (3, 8), (3, 12), (3, 24), (3, 39)]) rfl hP rfl 1 (by decide) (hts _ (wg_t kw_375)) (fun _ h9 => h9) (cd := (0, 0)) rfl dK_writeNumber_19 (fun v24 hv24 => ?_)
  obtain rfl := (show v24 = .int (s21.1 0 1) from hv24)
  obtain ⟨z22, ez22, hz23, hz24⟩ := cl_of (b := 2147483648) hf21 (by omega) (by decide)
  replace hR := bnd_step hR ez22
  refine mi_as hz23 ?_
  refine lv_iconst (v := nI 1) hx hb dK_writeNumber_22 (by decide) ?_
  refine mi_iadd hx hb dK_writeNumber_23 ?_
  refine lv_iload_n hx hb dK_writeNumber_24 rfl (lv_at hl 1 rfl) ?_
  refine lv_bipush (v := nI 16) hx hb dK_writeNumber_25 (by decide) ?_
  refine lv_iushr hx hb dK_writeNumber_27 rfl ?_
  refine lv_i2b hx hb dK_writeNumber_28 rfl ?_
  refine nw_bast hx hb hK hO hU kr22 (k := 1) rfl hP hD hS (by omega) (by omega) dK_writeNumber_29 (fun s22 pl H locs es22 hO hP hD hS => ?_)
  replace hR := bnd_step hR es22
  have hF := frm_sB hF es22 (by unfold M_K_writeNumber; omega)
  have hf24 : s22.1 0 1 = nI tl := fc_B hf21 es22 (by omega)
  have hf25 : s22.1 0 3 = nI al := fc_B hf22 es22 (by omega)
  have hf26 : s22.1 0 5 = nI pn := fc_B hf23 es22 (by omega)
  refine lv_aload_n hx hb dK_writeNumber_30 rfl (lv_at hl 0 rfl) ?_
  refine nw_get (C := "LatticeKeys") (TT := T_K) (N := 11) hx hb hts (wg_ft i_K) hown hK hO k_h0 (kn := 0) (ci := 0) (fl := [(3, 1), (0, 0), (3, 2), (0, 0), (3, 3), (0, 0), (3, 4), (3, 8), (3, 12), (3, 24), (3, 39)]) rfl hP rfl 0 (by decide) (hts _ (wg_t kw_374)) (fun _ h9 => h9) (cd := (3, 1)) rfl dK_writeNumber_31 (fun v25 hv25 => ?_)
  obtain ⟨r23, rfl, kr23⟩ := (show ∃ r : Nat, v25 = .ref r ∧ T r = some 1 from hv25)
  refine lv_aload_n hx hb dK_writeNumber_34 rfl (lv_at hl 0 rfl) ?_
  refine nw_get (C := "LatticeKeys") (TT := T_K) (N := 11) hx hb hts (wg_ft i_K) hown hK hO k_h0 (kn := 0) (ci := 0) (fl := [(3, 1), (0, 0), (3, 2), (0, 0), (3, 3), (0, 0), (3, 4), (3, 8), (3, 12), (3, 24), (3, 39)]) rfl hP rfl 1 (by decide) (hts _ (wg_t kw_375)) (fun _ h9 => h9) (cd := (0, 0)) rfl dK_writeNumber_35 (fun v26 hv26 => ?_)
  obtain rfl := (show v26 = .int (s22.1 0 1) from hv26)
  obtain ⟨z23, ez23, hz25, hz26⟩ := cl_of (b := 2147483648) hf24 (by omega) (by decide)
  replace hR := bnd_step hR ez23
  refine mi_as hz25 ?_
  refine lv_iconst (v := nI 2) hx hb dK_writeNumber_38 (by decide) ?_
  refine mi_iadd hx hb dK_writeNumber_39 ?_
  refine lv_iload_n hx hb dK_writeNumber_40 rfl (lv_at hl 1 rfl) ?_
  refine lv_bipush (v := nI 8) hx hb dK_writeNumber_41 (by decide) ?_
  refine lv_iushr hx hb dK_writeNumber_43 rfl ?_
  refine lv_i2b hx hb dK_writeNumber_44 rfl ?_
  refine nw_bast hx hb hK hO hU kr23 (k := 1) rfl hP hD hS (by omega) (by omega) dK_writeNumber_45 (fun s23 pl H locs es23 hO hP hD hS => ?_)
  replace hR := bnd_step hR es23
  have hF := frm_sB hF es23 (by unfold M_K_writeNumber; omega)
  have hf27 : s23.1 0 1 = nI tl := fc_B hf24 es23 (by omega)
  have hf28 : s23.1 0 3 = nI al := fc_B hf25 es23 (by omega)
  have hf29 : s23.1 0 5 = nI pn := fc_B hf26 es23 (by omega)
  refine lv_aload_n hx hb dK_writeNumber_46 rfl (lv_at hl 0 rfl) ?_
  refine nw_get (C := "LatticeKeys") (TT := T_K) (N := 11) hx hb hts (wg_ft i_K) hown hK hO k_h0 (kn := 0) (ci := 0) (fl := [(3, 1), (0, 0), (3, 2), (0, 0), (3, 3), (0, 0), (3, 4), (3, 8), (3, 12), (3, 24), (3, 39)]) rfl hP rfl 0 (by decide) (hts _ (wg_t kw_374)) (fun _ h9 => h9) (cd := (3, 1)) rfl dK_writeNumber_47 (fun v27 hv27 => ?_)
  obtain ⟨r24, rfl, kr24⟩ := (show ∃ r : Nat, v27 = .ref r ∧ T r = some 1 from hv27)
  refine lv_aload_n hx hb dK_writeNumber_50 rfl (lv_at hl 0 rfl) ?_
  refine nw_get (C := "LatticeKeys") (TT := T_K) (N := 11) hx hb hts (wg_ft i_K) hown hK hO k_h0 (kn := 0) (ci := 0) (fl := [(3, 1), (0, 0), (3, 2), (0, 0), (3, 3), (0, 0), (3, 4), (3, 8), (3, 12), (3, 24), (3, 39)]) rfl hP rfl 1 (by decide) (hts _ (wg_t kw_375)) (fun _ h9 => h9) (cd := (0, 0)) rfl dK_writeNumber_51 (fun v28 hv28 => ?_)
  obtain rfl := (show v28 = .int (s23.1 0 1) from hv28)
  obtain ⟨z24, ez24, hz27, hz28⟩ := cl_of (b := 2147483648) hf27 (by omega) (by decide)
  replace hR := bnd_step hR ez24
  refine mi_as hz27 ?_
  refine lv_iconst (v := nI 3) hx hb dK_writeNumber_54 (by decide) ?_
  refine mi_iadd hx hb dK_writeNumber_55 ?_
  refine lv_iload_n hx hb dK_writeNumber_56 rfl (lv_at hl 1 rfl) ?_
  refine lv_i2b hx hb dK_writeNumber_57 rfl ?_
  refine nw_bast hx hb hK hO hU kr24 (k := 1) rfl hP hD hS (by omega) (by omega) dK_writeNumber_58 (fun s24 pl H locs es24 hO hP hD hS => ?_)
  replace hR := bnd_step hR es24
  have hF := frm_sB hF es24 (by unfold M_K_writeNumber; omega)
  have hf30 : s24.1 0 1 = nI tl := fc_B hf27 es24 (by omega)
  have hf31 : s24.1 0 3 = nI al := fc_B hf28 es24 (by omega)
  have hf32 : s24.1 0 5 = nI pn := fc_B hf29 es24 (by omega)
  refine lv_aload_n hx hb dK_writeNumber_59 rfl (lv_at hl 0 rfl) ?_
  refine lv_dup hx hb dK_writeNumber_60 rfl ?_
  refine nw_get (C := "LatticeKeys") (TT := T_K) (N := 11) hx hb hts (wg_ft i_K) hown hK hO k_h0 (kn := 0) (ci := 0) (fl := [(3, 1), (0, 0), (3, 2), (0, 0), (3, 3), (0, 0), (3, 4), (3, 8), (3, 12), (3, 24), (3, 39)]) rfl hP rfl 1 (by decide) (hts _ (wg_t kw_375)) (fun _ h9 => h9) (cd := (0, 0)) rfl dK_writeNumber_61 (fun v29 hv29 => ?_)
  obtain rfl := (show v29 = .int (s24.1 0 1) from hv29)
  obtain ⟨z25, ez25, hz29, hz30⟩ := cl_of (b := 2147483648) hf30 (by omega) (by decide)
  replace hR := bnd_step hR ez25
  refine mi_as hz29 ?_
  refine lv_iconst (v := nI 4) hx hb dK_writeNumber_64 (by decide) ?_
  refine mi_iadd hx hb dK_writeNumber_65 ?_
  refine nw_put (C := "LatticeKeys") (TT := T_K) (N := 11) hx hb hts (wg_ft i_K) ty_K k_K n_K hown hK hO hU k_h0 (kn := 0) (ci := 0) (fl := [(3, 1), (0, 0), (3, 2), (0, 0), (3, 3), (0, 0), (3, 4), (3, 8), (3, 12), (3, 24), (3, 39)]) rfl hP hD hS rfl 1 (by decide) (hts _ (wg_t kw_375)) (fun _ h9 => h9) rfl (by decide +kernel) rfl dK_writeNumber_66 (fun s25 pl H locs es25 hO hP hD hS => ?_)
  replace hR := bnd_step hR es25
  have hF := frm_sI hF es25 (by unfold M_K_writeNumber; omega)
  have hf34 : s25.1 0 3 = nI al := fc_ne hf31 es25 (by omega)
  have hf35 : s25.1 0 5 = nI pn := fc_ne hf32 es25 (by omega)
  have hf36 : s25.1 0 1 = nI (z25 + 4) := fc_eq es25
  exact mp_vret hx hb hr hlk hP hD hS (s25, pl) ⟨⟨hR.symm, hF, ⟨z25 + 4, hf36, by omega⟩, ⟨al, hf34, by omega⟩, ⟨pn, hf35, by omega⟩, trivial⟩, hO⟩ [] rfl rfl rfl (by omega) (by omega) dK_writeNumber_69
def M_K_holdsContext (k : Nat) : Prop := (0 : Nat) = 1
noncomputable def F_K_holdsContext (bf : Nat) (v : Int32) (s : Sto) : Int32 × Sto := if v < 0 then (nI 0, s) else if (nI 255) < v then (nI 0, s) else bnd (v.toNatClampNeg) fun z21 => bnd ((s.1 0 1).toNatClampNeg) fun z22 => if z22 < bf + z21 then (nI 0, s) else (nI 1, s)
set_option maxHeartbeats 2000000 in
set_option maxRecDepth 100000 in
theorem N_K_holdsContext (l : Launch) (g : Gd) (sz : Nat) (T : TyN) (s : Sto) (pl : va_W) (hO : okn g T s pl) (hU : inj T) (h0 : Nat) (bf : Nat) (v : Int32) (tl : Nat) (al : Nat) (pn : Nat) (k_h0 : T h0 = some 0) (e_tl : s.1 0 1 = nI tl) (e_al : s.1 0 3 = nI al) (e_pn : s.1 0 5 = nI pn) (h1 : bf < 65536) (h4 : tl ≤ 16384) (h2 : al ≤ 8192) (h3 : pn ≤ 8)  : Met l y_K_holdsContext w_K_holdsContext ({ frames := 0, cells := 0, slots := 0, locals := 0 } : Room) (va_Pc [.ref h0, .int (nI bf), .int v] (pr (en g) g.1 vcl sz ([] ++ pl))) (va_Qi (fun (r : Int32) (u : (Int32 × Sto) × va_W) => (u.1 = F_K_holdsContext bf v s ∧ r = u.1.1 ∧ frm (M_K_holdsContext) s u.1.2 ∧ (u.1.1 = nI 0 ∨ bf ≤ tl) ∧ True) ∧ okn g T u.1.2 u.2) (po g.1 vcl (va_A ([] ++ pl) sz) (fun (u : (Int32 × Sto) × va_W) => [] ++ u.2)) (va_A ([] ++ pl) sz)) 0 0 (va_A ([] ++ pl) sz) := by
  refine mc_entry (cc := c_K_holdsContext) (maxL := 3) (ret := (some .boolean)) (by decide) rfl (Nat.le_of_ble_eq_true rfl) ?_
  intro p e s0 m args below meth c ls F hr hlk hnm hsz hP hD hE hA hl
  obtain ⟨hx, hb, hml, hown, hts⟩ := id F
  have hK := hE.1
  generalize va_A ([] ++ pl) sz = A at hD hE hA ⊢
  have hS : va_S A s0.heap s0.heap [] := va_S.rf
  have hl : lv_has ls 3 [(0, .ref h0), (1, .int (nI bf)), (2, .int v)] := hl
  have hR : F_K_holdsContext bf v s = F_K_holdsContext bf v s := rfl
  have hF : frm (M_K_holdsContext) s s := frm_rf
  refine lv_iload_n hx hb dK_holdsContext_0 rfl (lv_at hl 2 rfl) ?_
  refine lv_if_lt (tgt := 25) hx hb dK_holdsContext_1 (by decide) (fun h21 => ?_) (fun h21 => ?_)
  · replace hR := hR.trans (if_pos h21)
    refine lv_iconst (v := nI 0) hx hb dK_holdsContext_25 (by decide) ?_
    exact mp_zret hx hb hr hlk rfl hP hD hS ((nI 0, s), pl) ⟨⟨hR.symm, rfl, hF, (Or.inl rfl), trivial⟩, hO⟩ [] rfl rfl rfl (by omega) (by omega) dK_holdsContext_26
  · replace hR := hR.trans (if_neg h21)
    refine lv_iload_n hx hb dK_holdsContext_4 rfl (lv_at hl 2 rfl) ?_
    refine lv_sipush (v := nI 255) hx hb dK_holdsContext_5 (by decide) ?_
    refine lv_icmp_gt (tgt := 25) hx hb dK_holdsContext_8 (by decide) (fun h22 => ?_) (fun h22 => ?_)
    · replace hR := hR.trans (if_pos h22)
      refine lv_iconst (v := nI 0) hx hb dK_holdsContext_25 (by decide) ?_
      exact mp_zret hx hb hr hlk rfl hP hD hS ((nI 0, s), pl) ⟨⟨hR.symm, rfl, hF, (Or.inl rfl), trivial⟩, hO⟩ [] rfl rfl rfl (by omega) (by omega) dK_holdsContext_26
    · replace hR := hR.trans (if_neg h22)
      obtain ⟨z21, hz21, hv21⟩ := i32_lex h21 (by omega) h22
      have ez21 : z21 = v.toNatClampNeg := by rw [hv21]; exact (nI_clamp (by omega)).symm
      replace hR := bnd_step hR ez21
      rw [hv21] at hl
      refine lv_aload_n hx hb dK_holdsContext_11 rfl (lv_at hl 0 rfl) ?_
      refine nw_get (C := "LatticeKeys") (TT := T_K) (N := 11) hx hb hts (wg_ft i_K) hown hK hO k_h0 (kn := 0) (ci := 0) (fl := [(3, 1), (0, 0), (3, 2), (0, 0), (3, 3), (0, 0), (3, 4), (3, 8), (3, 12), (3, 24), (3, 39)]) rfl hP rfl 1 (by decide) (hts _ (wg_t kw_375)) (fun _ h9 => h9) (cd := (0, 0)) rfl dK_holdsContext_12 (fun v21 hv22 => ?_)
      obtain rfl := (show v21 = .int (s.1 0 1) from hv22)
      obtain ⟨z22, ez22, hz22, hz23⟩ := cl_of (b := 2147483648) e_tl (by omega) (by decide)
      replace hR := bnd_step hR ez22
      refine mi_as hz22 ?_
      refine lv_iload_n hx hb dK_holdsContext_15 rfl (lv_at hl 1 rfl) ?_
      refine lv_iload_n hx hb dK_holdsContext_16 rfl (lv_at hl 2 rfl) ?_
      refine mi_iadd hx hb dK_holdsContext_17 ?_
      refine mi_lt (tgt := 25) hx hb dK_holdsContext_18 (by decide) (by omega) (by omega) (fun h23 => ?_) (fun h23 => ?_)
      · replace hR := hR.trans (if_pos h23)
        refine lv_iconst (v := nI 0) hx hb dK_holdsContext_25 (by decide) ?_
        exact mp_zret hx hb hr hlk rfl hP hD hS ((nI 0, s), pl) ⟨⟨hR.symm, rfl, hF, (Or.inl rfl), trivial⟩, hO⟩ [] rfl rfl rfl (by omega) (by omega) dK_holdsContext_26
      · replace hR := hR.trans (if_neg (Nat.not_lt.mpr h23))
        refine lv_iconst (v := nI 1) hx hb dK_holdsContext_21 (by decide) ?_
        refine lv_goto (tgt := 26) hx hb dK_holdsContext_22 (by decide) ?_
        exact mp_zret hx hb hr hlk rfl hP hD hS ((nI 1, s), pl) ⟨⟨hR.symm, rfl, hF, (Or.inr (by omega)), trivial⟩, hO⟩ [] rfl rfl rfl (by omega) (by omega) dK_holdsContext_26
def M_K_count (k : Nat) : Prop := (0 : Nat) = 1
noncomputable def F_K_count (v : Int32) (s : Sto) : Int32 × Sto := if v = nI 0 then bnd ((s.1 0 1).toNatClampNeg) fun z21 => (nI z21, s) else if v = nI 1 then bnd ((s.1 0 5).toNatClampNeg) fun z22 => (nI z22, s) else if v = nI 2 then bnd ((s.1 0 3).toNatClampNeg) fun z23 => (nI z23, s) else ((-1), s)
set_option maxHeartbeats 2000000 in
set_option maxRecDepth 100000 in
theorem N_K_count (l : Launch) (g : Gd) (sz : Nat) (T : TyN) (s : Sto) (pl : va_W) (hO : okn g T s pl) (hU : inj T) (h0 : Nat) (v : Int32) (tl : Nat) (al : Nat) (pn : Nat) (k_h0 : T h0 = some 0) (e_tl : s.1 0 1 = nI tl) (e_al : s.1 0 3 = nI al) (e_pn : s.1 0 5 = nI pn) (h1 : tl ≤ 16384) (h2 : al ≤ 8192) (h3 : pn ≤ 8)  : Met l y_K_count w_K_count ({ frames := 0, cells := 0, slots := 0, locals := 0 } : Room) (va_Pc [.ref h0, .int v] (pr (en g) g.1 vcl sz ([] ++ pl))) (va_Qi (fun (r : Int32) (u : (Int32 × Sto) × va_W) => (u.1 = F_K_count v s ∧ r = u.1.1 ∧ frm (M_K_count) s u.1.2 ∧ (∃ x : Nat, u.1.2.1 0 1 = nI x ∧ x = tl) ∧ (∃ x : Nat, u.1.2.1 0 3 = nI x ∧ x = al) ∧ (∃ x : Nat, u.1.2.1 0 5 = nI x ∧ x = pn) ∧ True) ∧ okn g T u.1.2 u.2) (po g.1 vcl (va_A ([] ++ pl) sz) (fun (u : (Int32 × Sto) × va_W) => [] ++ u.2)) (va_A ([] ++ pl) sz)) 0 0 (va_A ([] ++ pl) sz) := by
  refine mc_entry (cc := c_K_count) (maxL := 2) (ret := (some .int)) (by decide) rfl (Nat.le_of_ble_eq_true rfl) ?_
  intro p e s0 m args below meth c ls F hr hlk hnm hsz hP hD hE hA hl
  obtain ⟨hx, hb, hml, hown, hts⟩ := id F
  have hK := hE.1
  generalize va_A ([] ++ pl) sz = A at hD hE hA ⊢
  have hS : va_S A s0.heap s0.heap [] := va_S.rf
  have hl : lv_has ls 2 [(0, .ref h0), (1, .int v)] := hl
  have hR : F_K_count v s = F_K_count v s := rfl
  have hF : frm (M_K_count) s s := frm_rf
  refine lv_iload_n hx hb dK_count_0 rfl (lv_at hl 1 rfl) ?_
  by_cases hs21 : v = nI 0
  · replace hR := hR.trans (if_pos hs21)
    refine mi_as hs21 ?_
    refine lv_tableIn (off := 27) (tgt := 28) hx hb dK_count_1 (by decide) (by decide) (by decide) (by decide) ?_
    refine lv_aload_n hx hb dK_count_28 rfl (lv_at hl 0 rfl) ?_
    refine nw_get (C := "LatticeKeys") (TT := T_K) (N := 11) hx hb hts (wg_ft i_K) hown hK hO k_h0 (kn := 0) (ci := 0) (fl := [(3, 1), (0, 0), (3, 2), (0, 0), (3, 3), (0, 0), (3, 4), (3, 8), (3, 12), (3, 24), (3, 39)]) rfl hP rfl 1 (by decide) (hts _ (wg_t kw_375)) (fun _ h9 => h9) (cd := (0, 0)) rfl dK_count_29 (fun v21 hv21 => ?_)
    obtain rfl := (show v21 = .int (s.1 0 1) from hv21)
    obtain ⟨z21, ez21, hz21, hz22⟩ := cl_of (b := 2147483648) e_tl (by omega) (by decide)
    replace hR := bnd_step hR ez21
    refine mi_as hz21 ?_
    exact mp_iret hx hb hr hlk hP hD hS ((nI z21, s), pl) ⟨⟨hR.symm, rfl, hF, ⟨tl, e_tl, by omega⟩, ⟨al, e_al, by omega⟩, ⟨pn, e_pn, by omega⟩, trivial⟩, hO⟩ [] rfl rfl rfl (by omega) (by omega) dK_count_32
  replace hR := hR.trans (if_neg hs21)
  by_cases hs22 : v = nI 1
  · replace hR := hR.trans (if_pos hs22)
    refine mi_as hs22 ?_
    refine lv_tableIn (off := 32) (tgt := 33) hx hb dK_count_1 (by decide) (by decide) (by decide) (by decide) ?_
    refine lv_aload_n hx hb dK_count_33 rfl (lv_at hl 0 rfl) ?_
    refine nw_get (C := "LatticeKeys") (TT := T_K) (N := 11) hx hb hts (wg_ft i_K) hown hK hO k_h0 (kn := 0) (ci := 0) (fl := [(3, 1), (0, 0), (3, 2), (0, 0), (3, 3), (0, 0), (3, 4), (3, 8), (3, 12), (3, 24), (3, 39)]) rfl hP rfl 5 (by decide) (hts _ (wg_t kw_379)) (fun _ h9 => h9) (cd := (0, 0)) rfl dK_count_34 (fun v22 hv22 => ?_)
    obtain rfl := (show v22 = .int (s.1 0 5) from hv22)
    obtain ⟨z22, ez22, hz23, hz24⟩ := cl_of (b := 2147483648) e_pn (by omega) (by decide)
    replace hR := bnd_step hR ez22
    refine mi_as hz23 ?_
    exact mp_iret hx hb hr hlk hP hD hS ((nI z22, s), pl) ⟨⟨hR.symm, rfl, hF, ⟨tl, e_tl, by omega⟩, ⟨al, e_al, by omega⟩, ⟨pn, e_pn, by omega⟩, trivial⟩, hO⟩ [] rfl rfl rfl (by omega) (by omega) dK_count_37
  replace hR := hR.trans (if_neg hs22)
  by_cases hs23 : v = nI 2
  · replace hR := hR.trans (if_pos hs23)
    refine mi_as hs23 ?_
    refine lv_tableIn (off := 37) (tgt := 38) hx hb dK_count_1 (by decide) (by decide) (by decide) (by decide) ?_
    refine lv_aload_n hx hb dK_count_38 rfl (lv_at hl 0 rfl) ?_
    refine nw_get (C := "LatticeKeys") (TT := T_K) (N := 11) hx hb hts (wg_ft i_K) hown hK hO k_h0 (kn := 0) (ci := 0) (fl := [(3, 1), (0, 0), (3, 2), (0, 0), (3, 3), (0, 0), (3, 4), (3, 8), (3, 12), (3, 24), (3, 39)]) rfl hP rfl 3 (by decide) (hts _ (wg_t kw_377)) (fun _ h9 => h9) (cd := (0, 0)) rfl dK_count_39 (fun v23 hv23 => ?_)
    obtain rfl := (show v23 = .int (s.1 0 3) from hv23)
    obtain ⟨z23, ez23, hz25, hz26⟩ := cl_of (b := 2147483648) e_al (by omega) (by decide)
    replace hR := bnd_step hR ez23
    refine mi_as hz25 ?_
    exact mp_iret hx hb hr hlk hP hD hS ((nI z23, s), pl) ⟨⟨hR.symm, rfl, hF, ⟨tl, e_tl, by omega⟩, ⟨al, e_al, by omega⟩, ⟨pn, e_pn, by omega⟩, trivial⟩, hO⟩ [] rfl rfl rfl (by omega) (by omega) dK_count_42
  replace hR := hR.trans (if_neg hs23)
  have hb9 := (rng (v := v) 2 (by decide)).resolve_left (fun ⟨j9, hj9, e9⟩ => by
    have h9 : j9 = 0 ∨ j9 = 1 ∨ j9 = 2 := by omega
    rcases h9 with rfl | rfl | rfl
    · exact hs21 e9
    · exact hs22 e9
    · exact hs23 e9)
  refine lv_tableOut (tgt := 43) hx hb dK_count_1 (tout (by decide) hb9) (by decide) ?_
  refine lv_iconst (v := (-1)) hx hb dK_count_43 (by decide) ?_
  exact mp_iret hx hb hr hlk hP hD hS (((-1), s), pl) ⟨⟨hR.symm, rfl, hF, ⟨tl, e_tl, by omega⟩, ⟨al, e_al, by omega⟩, ⟨pn, e_pn, by omega⟩, trivial⟩, hO⟩ [] rfl rfl rfl (by omega) (by omega) dK_count_44
