set_option linter.all false
abbrev c_DS_high : ByteArray := prog_5_method_2_code
abbrev y_DS_high : MethodName := ⟨"LatticeKeys$DsaSet", "high", "(I)I"⟩
abbrev w_DS_high : List Cond := Cond.code y_DS_high c_DS_high 3 (some .int) :: WG
theorem dDS_high_0 : decode c_DS_high 0 = .ok (.iload_n 1, 1) := by decide +kernel
theorem dDS_high_1 : decode c_DS_high 1 = .ok (.aload_n 0, 1) := by decide +kernel
theorem dDS_high_2 : decode c_DS_high 2 = .ok (.getfield 71, 3) := by decide +kernel
theorem dDS_high_5 : decode c_DS_high 5 = .ok (.iadd, 1) := by decide +kernel
theorem dDS_high_6 : decode c_DS_high 6 = .ok (.iconst 1, 1) := by decide +kernel
theorem dDS_high_7 : decode c_DS_high 7 = .ok (.isub, 1) := by decide +kernel
theorem dDS_high_8 : decode c_DS_high 8 = .ok (.iconst 2, 1) := by decide +kernel
theorem dDS_high_9 : decode c_DS_high 9 = .ok (.aload_n 0, 1) := by decide +kernel
theorem dDS_high_10 : decode c_DS_high 10 = .ok (.getfield 71, 3) := by decide +kernel
theorem dDS_high_13 : decode c_DS_high 13 = .ok (.imul, 1) := by decide +kernel
theorem dDS_high_14 : decode c_DS_high 14 = .ok (.idiv, 1) := by decide +kernel
theorem dDS_high_15 : decode c_DS_high 15 = .ok (.istore_n 2, 1) := by decide +kernel
theorem dDS_high_16 : decode c_DS_high 16 = .ok (.iload_n 2, 1) := by decide +kernel
theorem dDS_high_17 : decode c_DS_high 17 = .ok (.aload_n 0, 1) := by decide +kernel
theorem dDS_high_18 : decode c_DS_high 18 = .ok (.getfield 59, 3) := by decide +kernel
theorem dDS_high_21 : decode c_DS_high 21 = .ok (.if_icmp .ne 7, 3) := by decide +kernel
theorem dDS_high_24 : decode c_DS_high 24 = .ok (.iconst 0, 1) := by decide +kernel
theorem dDS_high_25 : decode c_DS_high 25 = .ok (.goto 4, 3) := by decide +kernel
theorem dDS_high_28 : decode c_DS_high 28 = .ok (.iload_n 2, 1) := by decide +kernel
theorem dDS_high_29 : decode c_DS_high 29 = .ok (.ireturn, 1) := by decide +kernel
abbrev c_DS_low : ByteArray := prog_5_method_3_code
abbrev y_DS_low : MethodName := ⟨"LatticeKeys$DsaSet", "low", "(I)I"⟩
abbrev w_DS_low : List Cond := Cond.code y_DS_low c_DS_low 4 (some .int) :: WG
theorem dDS_low_0 : decode c_DS_low 0 = .ok (.iload_n 1, 1) := by decide +kernel
theorem dDS_low_1 : decode c_DS_low 1 = .ok (.aload_n 0, 1) := by decide +kernel
theorem dDS_low_2 : decode c_DS_low 2 = .ok (.getfield 71, 3) := by decide +kernel
theorem dDS_low_5 : decode c_DS_low 5 = .ok (.iadd, 1) := by decide +kernel
theorem dDS_low_6 : decode c_DS_low 6 = .ok (.iconst 1, 1) := by decide +kernel
theorem dDS_low_7 : decode c_DS_low 7 = .ok (.isub, 1) := by decide +kernel
theorem dDS_low_8 : decode c_DS_low 8 = .ok (.iconst 2, 1) := by decide +kernel
theorem dDS_low_9 : decode c_DS_low 9 = .ok (.aload_n 0, 1) := by decide +kernel
theorem dDS_low_10 : decode c_DS_low 10 = .ok (.getfield 71, 3) := by decide +kernel
theorem dDS_low_13 : decode c_DS_low 13 = .ok (.imul, 1) := by decide +kernel
theorem dDS_low_14 : decode c_DS_low 14 = .ok (.idiv, 1) := by decide +kernel
theorem dDS_low_15 : decode c_DS_low 15 = .ok (.istore_n 2, 1) := by decide +kernel
theorem dDS_low_16 : decode c_DS_low 16 = .ok (.iload_n 1, 1) := by decide +kernel
theorem dDS_low_17 : decode c_DS_low 17 = .ok (.iload_n 2, 1) := by decide +kernel
theorem dDS_low_18 : decode c_DS_low 18 = .ok (.iconst 2, 1) := by decide +kernel
theorem dDS_low_19 : decode c_DS_low 19 = .ok (.imul, 1) := by decide +kernel
theorem dDS_low_20 : decode c_DS_low 20 = .ok (.aload_n 0, 1) := by decide +kernel
theorem dDS_low_21 : decode c_DS_low 21 = .ok (.getfield 71, 3) := by decide +kernel
theorem dDS_low_24 : decode c_DS_low 24 = .ok (.imul, 1) := by decide +kernel
theorem dDS_low_25 : decode c_DS_low 25 = .ok (.isub, 1) := by decide +kernel
theorem dDS_low_26 : decode c_DS_low 26 = .ok (.istore_n 3, 1) := by decide +kernel
theorem dDS_low_27 : decode c_DS_low 27 = .ok (.iload_n 2, 1) := by decide +kernel
theorem dDS_low_28 : decode c_DS_low 28 = .ok (.aload_n 0, 1) := by decide +kernel
theorem dDS_low_29 : decode c_DS_low 29 = .ok (.getfield 59, 3) := by decide +kernel
theorem dDS_low_32 : decode c_DS_low 32 = .ok (.if_icmp .ne 9, 3) := by decide +kernel
theorem dDS_low_35 : decode c_DS_low 35 = .ok (.iload_n 3, 1) := by decide +kernel
theorem dDS_low_36 : decode c_DS_low 36 = .ok (.iconst 1, 1) := by decide +kernel
theorem dDS_low_37 : decode c_DS_low 37 = .ok (.isub, 1) := by decide +kernel
theorem dDS_low_38 : decode c_DS_low 38 = .ok (.goto 4, 3) := by decide +kernel
theorem dDS_low_41 : decode c_DS_low 41 = .ok (.iload_n 3, 1) := by decide +kernel
theorem dDS_low_42 : decode c_DS_low 42 = .ok (.ireturn, 1) := by decide +kernel
abbrev c_DS_hintedHigh : ByteArray := prog_5_method_4_code
abbrev y_DS_hintedHigh : MethodName := ⟨"LatticeKeys$DsaSet", "hintedHigh", "(I)I"⟩
abbrev w_DS_hintedHigh : List Cond := Cond.code y_DS_hintedHigh c_DS_hintedHigh 3 (some .int) :: WG
theorem dDS_hintedHigh_0 : decode c_DS_hintedHigh 0 = .ok (.aload_n 0, 1) := by decide +kernel
theorem dDS_hintedHigh_1 : decode c_DS_hintedHigh 1 = .ok (.iload_n 1, 1) := by decide +kernel
theorem dDS_hintedHigh_2 : decode c_DS_hintedHigh 2 = .ok (.invokevirtual 95, 3) := by decide +kernel
theorem dDS_hintedHigh_5 : decode c_DS_hintedHigh 5 = .ok (.istore_n 2, 1) := by decide +kernel
theorem dDS_hintedHigh_6 : decode c_DS_hintedHigh 6 = .ok (.aload_n 0, 1) := by decide +kernel
theorem dDS_hintedHigh_7 : decode c_DS_hintedHigh 7 = .ok (.iload_n 1, 1) := by decide +kernel
theorem dDS_hintedHigh_8 : decode c_DS_hintedHigh 8 = .ok (.invokevirtual 99, 3) := by decide +kernel
theorem dDS_hintedHigh_11 : decode c_DS_hintedHigh 11 = .ok (.ifCond .le 21, 3) := by decide +kernel
theorem dDS_hintedHigh_14 : decode c_DS_hintedHigh 14 = .ok (.iload_n 2, 1) := by decide +kernel
theorem dDS_hintedHigh_15 : decode c_DS_hintedHigh 15 = .ok (.aload_n 0, 1) := by decide +kernel
theorem dDS_hintedHigh_16 : decode c_DS_hintedHigh 16 = .ok (.getfield 59, 3) := by decide +kernel
theorem dDS_hintedHigh_19 : decode c_DS_hintedHigh 19 = .ok (.iconst 1, 1) := by decide +kernel
theorem dDS_hintedHigh_20 : decode c_DS_hintedHigh 20 = .ok (.isub, 1) := by decide +kernel
theorem dDS_hintedHigh_21 : decode c_DS_hintedHigh 21 = .ok (.if_icmp .ne 7, 3) := by decide +kernel
theorem dDS_hintedHigh_24 : decode c_DS_hintedHigh 24 = .ok (.iconst 0, 1) := by decide +kernel
theorem dDS_hintedHigh_25 : decode c_DS_hintedHigh 25 = .ok (.goto 6, 3) := by decide +kernel
theorem dDS_hintedHigh_28 : decode c_DS_hintedHigh 28 = .ok (.iload_n 2, 1) := by decide +kernel
theorem dDS_hintedHigh_29 : decode c_DS_hintedHigh 29 = .ok (.iconst 1, 1) := by decide +kernel
theorem dDS_hintedHigh_30 : decode c_DS_hintedHigh 30 = .ok (.iadd, 1) := by decide +kernel
theorem dDS_hintedHigh_31 : decode c_DS_hintedHigh 31 = .ok (.ireturn, 1) := by decide +kernel
theorem dDS_hintedHigh_32 : decode c_DS_hintedHigh 32 = .ok (.iload_n 2, 1) := by decide +kernel
theorem dDS_hintedHigh_33 : decode c_DS_hintedHigh 33 = .ok (.ifCond .ne 12, 3) := by decide +kernel
theorem dDS_hintedHigh_36 : decode c_DS_hintedHigh 36 = .ok (.aload_n 0, 1) := by decide +kernel
theorem dDS_hintedHigh_37 : decode c_DS_hintedHigh 37 = .ok (.getfield 59, 3) := by decide +kernel
theorem dDS_hintedHigh_40 : decode c_DS_hintedHigh 40 = .ok (.iconst 1, 1) := by decide +kernel
theorem dDS_hintedHigh_41 : decode c_DS_hintedHigh 41 = .ok (.isub, 1) := by decide +kernel
theorem dDS_hintedHigh_42 : decode c_DS_hintedHigh 42 = .ok (.goto 6, 3) := by decide +kernel
theorem dDS_hintedHigh_45 : decode c_DS_hintedHigh 45 = .ok (.iload_n 2, 1) := by decide +kernel
theorem dDS_hintedHigh_46 : decode c_DS_hintedHigh 46 = .ok (.iconst 1, 1) := by decide +kernel
theorem dDS_hintedHigh_47 : decode c_DS_hintedHigh 47 = .ok (.isub, 1) := by decide +kernel
theorem dDS_hintedHigh_48 : decode c_DS_hintedHigh 48 = .ok (.ireturn, 1) := by decide +kernel
def M_DS_high_0 (k : Nat) : Prop := (0 : Nat) = 1
noncomputable def F_DS_high_0 (v : Int32) (s : Sto) : Int32 × Sto := bnd ((((v + (nI 95232)) - (nI 1)) / (nI 190464))) fun z21 => if z21 = (nI 44) then (nI 0, s) else (z21, s)
set_option maxHeartbeats 400000 in
set_option maxRecDepth 100000 in
theorem N_DS_high_0 (l : Launch) (g : Gd) (sz : Nat) (T : TyN) (s : Sto) (pl : va_W) (hO : okn g T s pl) (hU : inj T) (h0 : Nat) (v : Int32) (k_h0 : T h0 = some 9)  : Met l y_DS_high w_DS_high ({ frames := 0, cells := 0, slots := 0, locals := 0 } : Room) (va_Pc [.ref h0, .int v] (pr (en g) g.1 vcl sz ([] ++ pl))) (va_Qi (fun (r : Int32) (u : (Int32 × Sto) × va_W) => (u.1 = F_DS_high_0 v s ∧ r = u.1.1 ∧ frm (M_DS_high_0) s u.1.2 ∧ True) ∧ okn g T u.1.2 u.2) (po g.1 vcl (va_A ([] ++ pl) sz) (fun (u : (Int32 × Sto) × va_W) => [] ++ u.2)) (va_A ([] ++ pl) sz)) 0 0 (va_A ([] ++ pl) sz) := by
  refine mc_entry (cc := c_DS_high) (maxL := 3) (ret := (some .int)) (by decide) rfl (Nat.le_of_ble_eq_true rfl) ?_
  intro p e s0 m args below meth c ls F hr hlk hnm hsz hP hD hE hA hl
  obtain ⟨hx, hb, hml, hown, hts⟩ := id F
  have hK := hE.1
  generalize va_A ([] ++ pl) sz = A at hD hE hA ⊢
  have hS : va_S A s0.heap s0.heap [] := va_S.rf
  have hl : lv_has ls 3 [(0, .ref h0), (1, .int v)] := hl
  have hR : F_DS_high_0 v s = F_DS_high_0 v s := rfl
  have hF : frm (M_DS_high_0) s s := frm_rf
  refine lv_iload_n hx hb dDS_high_0 rfl (lv_at hl 1 rfl) ?_
  refine lv_aload_n hx hb dDS_high_1 rfl (lv_at hl 0 rfl) ?_
  refine nw_get (C := "LatticeKeys$DsaSet") (TT := T_DS) (N := 17) hx hb hts (wg_ft i_DS) hown hK hO k_h0 (kn := 9) (ci := 2) (fl := [(1, 4), (1, 4), (1, 2), (1, 3), (1, 39), (1, 32), (1, 18), (1, 131072), (1, 44), (1, 6), (1, 95232), (1, 80), (1, 78), (1, 1312), (1, 2560), (1, 2336), (1, 2420)]) rfl hP rfl 10 (by decide) (hts _ (wg_t kw_324)) (fun _ h9 => h9) (cd := (1, 95232)) rfl dDS_high_2 (fun v21 hv21 => ?_)
  obtain rfl := (show v21 = .int (nI 95232) from hv21)
  refine lv_iadd hx hb dDS_high_5 ?_
  refine lv_iconst (v := nI 1) hx hb dDS_high_6 (by decide) ?_
  refine lv_isub hx hb dDS_high_7 ?_
  refine lv_iconst (v := nI 2) hx hb dDS_high_8 (by decide) ?_
  refine lv_aload_n hx hb dDS_high_9 rfl (lv_at hl 0 rfl) ?_
  refine nw_get (C := "LatticeKeys$DsaSet") (TT := T_DS) (N := 17) hx hb hts (wg_ft i_DS) hown hK hO k_h0 (kn := 9) (ci := 2) (fl := [(1, 4), (1, 4), (1, 2), (1, 3), (1, 39), (1, 32), (1, 18), (1, 131072), (1, 44), (1, 6), (1, 95232), (1, 80), (1, 78), (1, 1312), (1, 2560), (1, 2336), (1, 2420)]) rfl hP rfl 10 (by decide) (hts _ (wg_t kw_324)) (fun _ h9 => h9) (cd := (1, 95232)) rfl dDS_high_10 (fun v22 hv22 => ?_)
  obtain rfl := (show v22 = .int (nI 95232) from hv22)
  refine mi_imul hx hb dDS_high_13 ?_
  refine mi_as (show nI (2 * 95232) = nI 190464 from rfl) ?_
  refine lv_idiv hx hb dDS_high_14 (nI_ne0 (by omega) (by omega)) ?_
  refine mi_eqv (fun z21 ez21 => ?_)
  replace hR := bnd_step hR ez21
  refine lv_istore_n (lv' := [(2, .int z21), (0, .ref h0), (1, .int v)]) hx hb dDS_high_15 rfl hl (by decide) rfl (fun ls hl => ?_)
  refine lv_iload_n hx hb dDS_high_16 rfl (lv_at hl 0 rfl) ?_
  refine lv_aload_n hx hb dDS_high_17 rfl (lv_at hl 1 rfl) ?_
  refine nw_get (C := "LatticeKeys$DsaSet") (TT := T_DS) (N := 17) hx hb hts (wg_ft i_DS) hown hK hO k_h0 (kn := 9) (ci := 2) (fl := [(1, 4), (1, 4), (1, 2), (1, 3), (1, 39), (1, 32), (1, 18), (1, 131072), (1, 44), (1, 6), (1, 95232), (1, 80), (1, 78), (1, 1312), (1, 2560), (1, 2336), (1, 2420)]) rfl hP rfl 8 (by decide) (hts _ (wg_t kw_321)) (fun _ h9 => h9) (cd := (1, 44)) rfl dDS_high_18 (fun v23 hv23 => ?_)
  obtain rfl := (show v23 = .int (nI 44) from hv23)
  refine lv_icmp_ne (tgt := 28) hx hb dDS_high_21 (by decide) (fun h21 => ?_) (fun h21 => ?_)
  · replace hR := hR.trans (if_neg h21)
    refine lv_iload_n hx hb dDS_high_28 rfl (lv_at hl 0 rfl) ?_
    exact mp_iret hx hb hr hlk hP hD hS ((z21, s), pl) ⟨⟨hR.symm, rfl, hF, trivial⟩, hO⟩ [] rfl rfl rfl (by omega) (by omega) dDS_high_29
  · replace hR := hR.trans (if_pos h21)
    refine lv_iconst (v := nI 0) hx hb dDS_high_24 (by decide) ?_
    refine lv_goto (tgt := 29) hx hb dDS_high_25 (by decide) ?_
    exact mp_iret hx hb hr hlk hP hD hS ((nI 0, s), pl) ⟨⟨hR.symm, rfl, hF, trivial⟩, hO⟩ [] rfl rfl rfl (by omega) (by omega) dDS_high_29
def M_DS_high_1 (k : Nat) : Prop := (0 : Nat) = 1
noncomputable def F_DS_high_1 (v : Int32) (s : Sto) : Int32 × Sto := bnd ((((v + (nI 261888)) - (nI 1)) / (nI 523776))) fun z21 => if z21 = (nI 16) then (nI 0, s) else (z21, s)
set_option maxHeartbeats 400000 in
set_option maxRecDepth 100000 in
theorem N_DS_high_1 (l : Launch) (g : Gd) (sz : Nat) (T : TyN) (s : Sto) (pl : va_W) (hO : okn g T s pl) (hU : inj T) (h0 : Nat) (v : Int32) (k_h0 : T h0 = some 10)  : Met l y_DS_high w_DS_high ({ frames := 0, cells := 0, slots := 0, locals := 0 } : Room) (va_Pc [.ref h0, .int v] (pr (en g) g.1 vcl sz ([] ++ pl))) (va_Qi (fun (r : Int32) (u : (Int32 × Sto) × va_W) => (u.1 = F_DS_high_1 v s ∧ r = u.1.1 ∧ frm (M_DS_high_1) s u.1.2 ∧ True) ∧ okn g T u.1.2 u.2) (po g.1 vcl (va_A ([] ++ pl) sz) (fun (u : (Int32 × Sto) × va_W) => [] ++ u.2)) (va_A ([] ++ pl) sz)) 0 0 (va_A ([] ++ pl) sz) := by
  refine mc_entry (cc := c_DS_high) (maxL := 3) (ret := (some .int)) (by decide) rfl (Nat.le_of_ble_eq_true rfl) ?_
  intro p e s0 m args below meth c ls F hr hlk hnm hsz hP hD hE hA hl
  obtain ⟨hx, hb, hml, hown, hts⟩ := id F
  have hK := hE.1
  generalize va_A ([] ++ pl) sz = A at hD hE hA ⊢
  have hS : va_S A s0.heap s0.heap [] := va_S.rf
  have hl : lv_has ls 3 [(0, .ref h0), (1, .int v)] := hl
  have hR : F_DS_high_1 v s = F_DS_high_1 v s := rfl
  have hF : frm (M_DS_high_1) s s := frm_rf
  refine lv_iload_n hx hb dDS_high_0 rfl (lv_at hl 1 rfl) ?_
  refine lv_aload_n hx hb dDS_high_1 rfl (lv_at hl 0 rfl) ?_
  refine nw_get (C := "LatticeKeys$DsaSet") (TT := T_DS) (N := 17) hx hb hts (wg_ft i_DS) hown hK hO k_h0 (kn := 10) (ci := 2) (fl := [(1, 6), (1, 5), (1, 4), (1, 4), (1, 49), (1, 48), (1, 20), (1, 524288), (1, 16), (1, 4), (1, 261888), (1, 55), (1, 196), (1, 1952), (1, 4032), (1, 3248), (1, 3309)]) rfl hP rfl 10 (by decide) (hts _ (wg_t kw_324)) (fun _ h9 => h9) (cd := (1, 261888)) rfl dDS_high_2 (fun v21 hv21 => ?_)
  obtain rfl := (show v21 = .int (nI 261888) from hv21)
  refine lv_iadd hx hb dDS_high_5 ?_
  refine lv_iconst (v := nI 1) hx hb dDS_high_6 (by decide) ?_
  refine lv_isub hx hb dDS_high_7 ?_
  refine lv_iconst (v := nI 2) hx hb dDS_high_8 (by decide) ?_
  refine lv_aload_n hx hb dDS_high_9 rfl (lv_at hl 0 rfl) ?_
  refine nw_get (C := "LatticeKeys$DsaSet") (TT := T_DS) (N := 17) hx hb hts (wg_ft i_DS) hown hK hO k_h0 (kn := 10) (ci := 2) (fl := [(1, 6), (1, 5), (1, 4), (1, 4), (1, 49), (1, 48), (1, 20), (1, 524288), (1, 16), (1, 4), (1, 261888), (1, 55), (1, 196), (1, 1952), (1, 4032), (1, 3248), (1, 3309)]) rfl hP rfl 10 (by decide) (hts _ (wg_t kw_324)) (fun _ h9 => h9) (cd := (1, 261888)) rfl dDS_high_10 (fun v22 hv22 => ?_)
  obtain rfl := (show v22 = .int (nI 261888) from hv22)
  refine mi_imul hx hb dDS_high_13 ?_
  refine mi_as (show nI (2 * 261888) = nI 523776 from rfl) ?_
  refine lv_idiv hx hb dDS_high_14 (nI_ne0 (by omega) (by omega)) ?_
  refine mi_eqv (fun z21 ez21 => ?_)
  replace hR := bnd_step hR ez21
  refine lv_istore_n (lv' := [(2, .int z21), (0, .ref h0), (1, .int v)]) hx hb dDS_high_15 rfl hl (by decide) rfl (fun ls hl => ?_)
  refine lv_iload_n hx hb dDS_high_16 rfl (lv_at hl 0 rfl) ?_
  refine lv_aload_n hx hb dDS_high_17 rfl (lv_at hl 1 rfl) ?_
  refine nw_get (C := "LatticeKeys$DsaSet") (TT := T_DS) (N := 17) hx hb hts (wg_ft i_DS) hown hK hO k_h0 (kn := 10) (ci := 2) (fl := [(1, 6), (1, 5), (1, 4), (1, 4), (1, 49), (1, 48), (1, 20), (1, 524288), (1, 16), (1, 4), (1, 261888), (1, 55), (1, 196), (1, 1952), (1, 4032), (1, 3248), (1, 3309)]) rfl hP rfl 8 (by decide) (hts _ (wg_t kw_321)) (fun _ h9 => h9) (cd := (1, 16)) rfl dDS_high_18 (fun v23 hv23 => ?_)
  obtain rfl := (show v23 = .int (nI 16) from hv23)
  refine lv_icmp_ne (tgt := 28) hx hb dDS_high_21 (by decide) (fun h21 => ?_) (fun h21 => ?_)
  · replace hR := hR.trans (if_neg h21)
    refine lv_iload_n hx hb dDS_high_28 rfl (lv_at hl 0 rfl) ?_
    exact mp_iret hx hb hr hlk hP hD hS ((z21, s), pl) ⟨⟨hR.symm, rfl, hF, trivial⟩, hO⟩ [] rfl rfl rfl (by omega) (by omega) dDS_high_29
  · replace hR := hR.trans (if_pos h21)
    refine lv_iconst (v := nI 0) hx hb dDS_high_24 (by decide) ?_
    refine lv_goto (tgt := 29) hx hb dDS_high_25 (by decide) ?_
    exact mp_iret hx hb hr hlk hP hD hS ((nI 0, s), pl) ⟨⟨hR.symm, rfl, hF, trivial⟩, hO⟩ [] rfl rfl rfl (by omega) (by omega) dDS_high_29
def M_DS_high_2 (k : Nat) : Prop := (0 : Nat) = 1
noncomputable def F_DS_high_2 (v : Int32) (s : Sto) : Int32 × Sto := bnd ((((v + (nI 261888)) - (nI 1)) / (nI 523776))) fun z21 => if z21 = (nI 16) then (nI 0, s) else (z21, s)
set_option maxHeartbeats 400000 in
set_option maxRecDepth 100000 in
theorem N_DS_high_2 (l : Launch) (g : Gd) (sz : Nat) (T : TyN) (s : Sto) (pl : va_W) (hO : okn g T s pl) (hU : inj T) (h0 : Nat) (v : Int32) (k_h0 : T h0 = some 11)  : Met l y_DS_high w_DS_high ({ frames := 0, cells := 0, slots := 0, locals := 0 } : Room) (va_Pc [.ref h0, .int v] (pr (en g) g.1 vcl sz ([] ++ pl))) (va_Qi (fun (r : Int32) (u : (Int32 × Sto) × va_W) => (u.1 = F_DS_high_2 v s ∧ r = u.1.1 ∧ frm (M_DS_high_2) s u.1.2 ∧ True) ∧ okn g T u.1.2 u.2) (po g.1 vcl (va_A ([] ++ pl) sz) (fun (u : (Int32 × Sto) × va_W) => [] ++ u.2)) (va_A ([] ++ pl) sz)) 0 0 (va_A ([] ++ pl) sz) := by
  refine mc_entry (cc := c_DS_high) (maxL := 3) (ret := (some .int)) (by decide) rfl (Nat.le_of_ble_eq_true rfl) ?_
  intro p e s0 m args below meth c ls F hr hlk hnm hsz hP hD hE hA hl
  obtain ⟨hx, hb, hml, hown, hts⟩ := id F
  have hK := hE.1
  generalize va_A ([] ++ pl) sz = A at hD hE hA ⊢
  have hS : va_S A s0.heap s0.heap [] := va_S.rf
  have hl : lv_has ls 3 [(0, .ref h0), (1, .int v)] := hl
  have hR : F_DS_high_2 v s = F_DS_high_2 v s := rfl
  have hF : frm (M_DS_high_2) s s := frm_rf
  refine lv_iload_n hx hb dDS_high_0 rfl (lv_at hl 1 rfl) ?_
  refine lv_aload_n hx hb dDS_high_1 rfl (lv_at hl 0 rfl) ?_
  refine nw_get (C := "LatticeKeys$DsaSet") (TT := T_DS) (N := 17) hx hb hts (wg_ft i_DS) hown hK hO k_h0 (kn := 11) (ci := 2) (fl := [(1, 8), (1, 7), (1, 2), (1, 3), (1, 60), (1, 64), (1, 20), (1, 524288), (1, 16), (1, 4), (1, 261888), (1, 75), (1, 120), (1, 2592), (1, 4896), (1, 4544), (1, 4627)]) rfl hP rfl 10 (by decide) (hts _ (wg_t kw_324)) (fun _ h9 => h9) (cd := (1, 261888)) rfl dDS_high_2 (fun v21 hv21 => ?_)
  obtain rfl := (show v21 = .int (nI 261888) from hv21)
  refine lv_iadd hx hb dDS_high_5 ?_
  refine lv_iconst (v := nI 1) hx hb dDS_high_6 (by decide) ?_
  refine lv_isub hx hb dDS_high_7 ?_
  refine lv_iconst (v := nI 2) hx hb dDS_high_8 (by decide) ?_
  refine lv_aload_n hx hb dDS_high_9 rfl (lv_at hl 0 rfl) ?_
  refine nw_get (C := "LatticeKeys$DsaSet") (TT := T_DS) (N := 17) hx hb hts (wg_ft i_DS) hown hK hO k_h0 (kn := 11) (ci := 2) (fl := [(1, 8), (1, 7), (1, 2), (1, 3), (1, 60), (1, 64), (1, 20), (1, 524288), (1, 16), (1, 4), (1, 261888), (1, 75), (1, 120), (1, 2592), (1, 4896), (1, 4544), (1, 4627)]) rfl hP rfl 10 (by decide) (hts _ (wg_t kw_324)) (fun _ h9 => h9) (cd := (1, 261888)) rfl dDS_high_10 (fun v22 hv22 => ?_)
  obtain rfl := (show v22 = .int (nI 261888) from hv22)
  refine mi_imul hx hb dDS_high_13 ?_
  refine mi_as (show nI (2 * 261888) = nI 523776 from rfl) ?_
  refine lv_idiv hx hb dDS_high_14 (nI_ne0 (by omega) (by omega)) ?_
  refine mi_eqv (fun z21 ez21 => ?_)
  replace hR := bnd_step hR ez21
  refine lv_istore_n (lv' := [(2, .int z21), (0, .ref h0), (1, .int v)]) hx hb dDS_high_15 rfl hl (by decide) rfl (fun ls hl => ?_)
  refine lv_iload_n hx hb dDS_high_16 rfl (lv_at hl 0 rfl) ?_
  refine lv_aload_n hx hb dDS_high_17 rfl (lv_at hl 1 rfl) ?_
  refine nw_get (C := "LatticeKeys$DsaSet") (TT := T_DS) (N := 17) hx hb hts (wg_ft i_DS) hown hK hO k_h0 (kn := 11) (ci := 2) (fl := [(1, 8), (1, 7), (1, 2), (1, 3), (1, 60), (1, 64), (1, 20), (1, 524288), (1, 16), (1, 4), (1, 261888), (1, 75), (1, 120), (1, 2592), (1, 4896), (1, 4544), (1, 4627)]) rfl hP rfl 8 (by decide) (hts _ (wg_t kw_321)) (fun _ h9 => h9) (cd := (1, 16)) rfl dDS_high_18 (fun v23 hv23 => ?_)
  obtain rfl := (show v23 = .int (nI 16) from hv23)
  refine lv_icmp_ne (tgt := 28) hx hb dDS_high_21 (by decide) (fun h21 => ?_) (fun h21 => ?_)
  · replace hR := hR.trans (if_neg h21)
    refine lv_iload_n hx hb dDS_high_28 rfl (lv_at hl 0 rfl) ?_
    exact mp_iret hx hb hr hlk hP hD hS ((z21, s), pl) ⟨⟨hR.symm, rfl, hF, trivial⟩, hO⟩ [] rfl rfl rfl (by omega) (by omega) dDS_high_29
  · replace hR := hR.trans (if_pos h21)
    refine lv_iconst (v := nI 0) hx hb dDS_high_24 (by decide) ?_
    refine lv_goto (tgt := 29) hx hb dDS_high_25 (by decide) ?_
    exact mp_iret hx hb hr hlk hP hD hS ((nI 0, s), pl) ⟨⟨hR.symm, rfl, hF, trivial⟩, hO⟩ [] rfl rfl rfl (by omega) (by omega) dDS_high_29
def M_DS_low_0 (k : Nat) : Prop := (0 : Nat) = 1
noncomputable def F_DS_low_0 (v : Int32) (s : Sto) : Int32 × Sto := bnd ((((v + (nI 95232)) - (nI 1)) / (nI 190464))) fun z21 => bnd ((v - ((z21 * (nI 2)) * (nI 95232)))) fun z22 => if z21 = (nI 44) then ((z22 - (nI 1)), s) else (z22, s)
set_option maxHeartbeats 400000 in
set_option maxRecDepth 100000 in
theorem N_DS_low_0 (l : Launch) (g : Gd) (sz : Nat) (T : TyN) (s : Sto) (pl : va_W) (hO : okn g T s pl) (hU : inj T) (h0 : Nat) (v : Int32) (k_h0 : T h0 = some 9)  : Met l y_DS_low w_DS_low ({ frames := 0, cells := 0, slots := 0, locals := 0 } : Room) (va_Pc [.ref h0, .int v] (pr (en g) g.1 vcl sz ([] ++ pl))) (va_Qi (fun (r : Int32) (u : (Int32 × Sto) × va_W) => (u.1 = F_DS_low_0 v s ∧ r = u.1.1 ∧ frm (M_DS_low_0) s u.1.2 ∧ True) ∧ okn g T u.1.2 u.2) (po g.1 vcl (va_A ([] ++ pl) sz) (fun (u : (Int32 × Sto) × va_W) => [] ++ u.2)) (va_A ([] ++ pl) sz)) 0 0 (va_A ([] ++ pl) sz) := by
  refine mc_entry (cc := c_DS_low) (maxL := 4) (ret := (some .int)) (by decide) rfl (Nat.le_of_ble_eq_true rfl) ?_
  intro p e s0 m args below meth c ls F hr hlk hnm hsz hP hD hE hA hl
  obtain ⟨hx, hb, hml, hown, hts⟩ := id F
  have hK := hE.1
  generalize va_A ([] ++ pl) sz = A at hD hE hA ⊢
  have hS : va_S A s0.heap s0.heap [] := va_S.rf
  have hl : lv_has ls 4 [(0, .ref h0), (1, .int v)] := hl
  have hR : F_DS_low_0 v s = F_DS_low_0 v s := rfl
  have hF : frm (M_DS_low_0) s s := frm_rf
  refine lv_iload_n hx hb dDS_low_0 rfl (lv_at hl 1 rfl) ?_
  refine lv_aload_n hx hb dDS_low_1 rfl (lv_at hl 0 rfl) ?_
  refine nw_get (C := "LatticeKeys$DsaSet") (TT := T_DS) (N := 17) hx hb hts (wg_ft i_DS) hown hK hO k_h0 (kn := 9) (ci := 2) (fl := [(1, 4), (1, 4), (1, 2), (1, 3), (1, 39), (1, 32), (1, 18), (1, 131072), (1, 44), (1, 6), (1, 95232), (1, 80), (1, 78), (1, 1312), (1, 2560), (1, 2336), (1, 2420)]) rfl hP rfl 10 (by decide) (hts _ (wg_t kw_324)) (fun _ h9 => h9) (cd := (1, 95232)) rfl dDS_low_2 (fun v21 hv21 => ?_)
  obtain rfl := (show v21 = .int (nI 95232) from hv21)
  refine lv_iadd hx hb dDS_low_5 ?_
  refine lv_iconst (v := nI 1) hx hb dDS_low_6 (by decide) ?_
  refine lv_isub hx hb dDS_low_7 ?_
  refine lv_iconst (v := nI 2) hx hb dDS_low_8 (by decide) ?_
  refine lv_aload_n hx hb dDS_low_9 rfl (lv_at hl 0 rfl) ?_
  refine nw_get (C := "LatticeKeys$DsaSet") (TT := T_DS) (N := 17) hx hb hts (wg_ft i_DS) hown hK hO k_h0 (kn := 9) (ci := 2) (fl := [(1, 4), (1, 4), (1, 2), (1, 3), (1, 39), (1, 32), (1, 18), (1, 131072), (1, 44), (1, 6), (1, 95232), (1, 80), (1, 78), (1, 1312), (1, 2560), (1, 2336), (1, 2420)]) rfl hP rfl 10 (by decide) (hts _ (wg_t kw_324)) (fun _ h9 => h9) (cd := (1, 95232)) rfl dDS_low_10 (fun v22 hv22 => ?_)
  obtain rfl := (show v22 = .int (nI 95232) from hv22)
  refine mi_imul hx hb dDS_low_13 ?_
  refine mi_as (show nI (2 * 95232) = nI 190464 from rfl) ?_
  refine lv_idiv hx hb dDS_low_14 (nI_ne0 (by omega) (by omega)) ?_
  refine mi_eqv (fun z21 ez21 => ?_)
  replace hR := bnd_step hR ez21
  refine lv_istore_n (lv' := [(2, .int z21), (0, .ref h0), (1, .int v)]) hx hb dDS_low_15 rfl hl (by decide) rfl (fun ls hl => ?_)
  refine lv_iload_n hx hb dDS_low_16 rfl (lv_at hl 2 rfl) ?_
  refine lv_iload_n hx hb dDS_low_17 rfl (lv_at hl 0 rfl) ?_
  refine lv_iconst (v := nI 2) hx hb dDS_low_18 (by decide) ?_
  refine lv_imul hx hb dDS_low_19 ?_
  refine lv_aload_n hx hb dDS_low_20 rfl (lv_at hl 1 rfl) ?_
  refine nw_get (C := "LatticeKeys$DsaSet") (TT := T_DS) (N := 17) hx hb hts (wg_ft i_DS) hown hK hO k_h0 (kn := 9) (ci := 2) (fl := [(1, 4), (1, 4), (1, 2), (1, 3), (1, 39), (1, 32), (1, 18), (1, 131072), (1, 44), (1, 6), (1, 95232), (1, 80), (1, 78), (1, 1312), (1, 2560), (1, 2336), (1, 2420)]) rfl hP rfl 10 (by decide) (hts _ (wg_t kw_324)) (fun _ h9 => h9) (cd := (1, 95232)) rfl dDS_low_21 (fun v23 hv23 => ?_)
  obtain rfl := (show v23 = .int (nI 95232) from hv23)
  refine lv_imul hx hb dDS_low_24 ?_
  refine lv_isub hx hb dDS_low_25 ?_
  refine mi_eqv (fun z22 ez22 => ?_)
  replace hR := bnd_step hR ez22
  refine lv_istore_n (lv' := [(3, .int z22), (2, .int z21), (0, .ref h0), (1, .int v)]) hx hb dDS_low_26 rfl hl (by decide) rfl (fun ls hl => ?_)
  refine lv_iload_n hx hb dDS_low_27 rfl (lv_at hl 1 rfl) ?_
  refine lv_aload_n hx hb dDS_low_28 rfl (lv_at hl 2 rfl) ?_
  refine nw_get (C := "LatticeKeys$DsaSet") (TT := T_DS) (N := 17) hx hb hts (wg_ft i_DS) hown hK hO k_h0 (kn := 9) (ci := 2) (fl := [(1, 4), (1, 4), (1, 2), (1, 3), (1, 39), (1, 32), (1, 18), (1, 131072), (1, 44), (1, 6), (1, 95232), (1, 80), (1, 78), (1, 1312), (1, 2560), (1, 2336), (1, 2420)]) rfl hP rfl 8 (by decide) (hts _ (wg_t kw_321)) (fun _ h9 => h9) (cd := (1, 44)) rfl dDS_low_29 (fun v24 hv24 => ?_)
  obtain rfl := (show v24 = .int (nI 44) from hv24)
  refine lv_icmp_ne (tgt := 41) hx hb dDS_low_32 (by decide) (fun h21 => ?_) (fun h21 => ?_)
  · replace hR := hR.trans (if_neg h21)
    refine lv_iload_n hx hb dDS_low_41 rfl (lv_at hl 0 rfl) ?_
    exact mp_iret hx hb hr hlk hP hD hS ((z22, s), pl) ⟨⟨hR.symm, rfl, hF, trivial⟩, hO⟩ [] rfl rfl rfl (by omega) (by omega) dDS_low_42
  · replace hR := hR.trans (if_pos h21)
    refine lv_iload_n hx hb dDS_low_35 rfl (lv_at hl 0 rfl) ?_
    refine lv_iconst (v := nI 1) hx hb dDS_low_36 (by decide) ?_
    refine lv_isub hx hb dDS_low_37 ?_
    refine lv_goto (tgt := 42) hx hb dDS_low_38 (by decide) ?_
    exact mp_iret hx hb hr hlk hP hD hS (((z22 - (nI 1)), s), pl) ⟨⟨hR.symm, rfl, hF, trivial⟩, hO⟩ [] rfl rfl rfl (by omega) (by omega) dDS_low_42
def M_DS_low_1 (k : Nat) : Prop := (0 : Nat) = 1
noncomputable def F_DS_low_1 (v : Int32) (s : Sto) : Int32 × Sto := bnd ((((v + (nI 261888)) - (nI 1)) / (nI 523776))) fun z21 => bnd ((v - ((z21 * (nI 2)) * (nI 261888)))) fun z22 => if z21 = (nI 16) then ((z22 - (nI 1)), s) else (z22, s)
set_option maxHeartbeats 400000 in
set_option maxRecDepth 100000 in
theorem N_DS_low_1 (l : Launch) (g : Gd) (sz : Nat) (T : TyN) (s : Sto) (pl : va_W) (hO : okn g T s pl) (hU : inj T) (h0 : Nat) (v : Int32) (k_h0 : T h0 = some 10)  : Met l y_DS_low w_DS_low ({ frames := 0, cells := 0, slots := 0, locals := 0 } : Room) (va_Pc [.ref h0, .int v] (pr (en g) g.1 vcl sz ([] ++ pl))) (va_Qi (fun (r : Int32) (u : (Int32 × Sto) × va_W) => (u.1 = F_DS_low_1 v s ∧ r = u.1.1 ∧ frm (M_DS_low_1) s u.1.2 ∧ True) ∧ okn g T u.1.2 u.2) (po g.1 vcl (va_A ([] ++ pl) sz) (fun (u : (Int32 × Sto) × va_W) => [] ++ u.2)) (va_A ([] ++ pl) sz)) 0 0 (va_A ([] ++ pl) sz) := by
  refine mc_entry (cc := c_DS_low) (maxL := 4) (ret := (some .int)) (by decide) rfl (Nat.le_of_ble_eq_true rfl) ?_
  intro p e s0 m args below meth c ls F hr hlk hnm hsz hP hD hE hA hl
  obtain ⟨hx, hb, hml, hown, hts⟩ := id F
  have hK := hE.1
  generalize va_A ([] ++ pl) sz = A at hD hE hA ⊢
  have hS : va_S A s0.heap s0.heap [] := va_S.rf
  have hl : lv_has ls 4 [(0, .ref h0), (1, .int v)] := hl
  have hR : F_DS_low_1 v s = F_DS_low_1 v s := rfl
  have hF : frm (M_DS_low_1) s s := frm_rf
  refine lv_iload_n hx hb dDS_low_0 rfl (lv_at hl 1 rfl) ?_
  refine lv_aload_n hx hb dDS_low_1 rfl (lv_at hl 0 rfl) ?_
  refine nw_get (C := "LatticeKeys$DsaSet") (TT := T_DS) (N := 17) hx hb hts (wg_ft i_DS) hown hK hO k_h0 (kn := 10) (ci := 2) (fl := [(1, 6), (1, 5), (1, 4), (1, 4), (1, 49), (1, 48), (1, 20), (1, 524288), (1, 16), (1, 4), (1, 261888), (1, 55), (1, 196), (1, 1952), (1, 4032), (1, 3248), (1, 3309)]) rfl hP rfl 10 (by decide) (hts _ (wg_t kw_324)) (fun _ h9 => h9) (cd := (1, 261888)) rfl dDS_low_2 (fun v21 hv21 => ?_)
  obtain rfl := (show v21 = .int (nI 261888) from hv21)
  refine lv_iadd hx hb dDS_low_5 ?_
  refine lv_iconst (v := nI 1) hx hb dDS_low_6 (by decide) ?_
  refine lv_isub hx hb dDS_low_7 ?_
  refine lv_iconst (v := nI 2) hx hb dDS_low_8 (by decide) ?_
  refine lv_aload_n hx hb dDS_low_9 rfl (lv_at hl 0 rfl) ?_
  refine nw_get (C := "LatticeKeys$DsaSet") (TT := T_DS) (N := 17) hx hb hts (wg_ft i_DS) hown hK hO k_h0 (kn := 10) (ci := 2) (fl := [(1, 6), (1, 5), (1, 4), (1, 4), (1, 49), (1, 48), (1, 20), (1, 524288), (1, 16), (1, 4), (1, 261888), (1, 55), (1, 196), (1, 1952), (1, 4032), (1, 3248), (1, 3309)]) rfl hP rfl 10 (by decide) (hts _ (wg_t kw_324)) (fun _ h9 => h9) (cd := (1, 261888)) rfl dDS_low_10 (fun v22 hv22 => ?_)
  obtain rfl := (show v22 = .int (nI 261888) from hv22)
  refine mi_imul hx hb dDS_low_13 ?_
  refine mi_as (show nI (2 * 261888) = nI 523776 from rfl) ?_
  refine lv_idiv hx hb dDS_low_14 (nI_ne0 (by omega) (by omega)) ?_
  refine mi_eqv (fun z21 ez21 => ?_)
  replace hR := bnd_step hR ez21
  refine lv_istore_n (lv' := [(2, .int z21), (0, .ref h0), (1, .int v)]) hx hb dDS_low_15 rfl hl (by decide) rfl (fun ls hl => ?_)
  refine lv_iload_n hx hb dDS_low_16 rfl (lv_at hl 2 rfl) ?_
  refine lv_iload_n hx hb dDS_low_17 rfl (lv_at hl 0 rfl) ?_
  refine lv_iconst (v := nI 2) hx hb dDS_low_18 (by decide) ?_
  refine lv_imul hx hb dDS_low_19 ?_
  refine lv_aload_n hx hb dDS_low_20 rfl (lv_at hl 1 rfl) ?_
  refine nw_get (C := "LatticeKeys$DsaSet") (TT := T_DS) (N := 17) hx hb hts (wg_ft i_DS) hown hK hO k_h0 (kn := 10) (ci := 2) (fl := [(1, 6), (1, 5), (1, 4), (1, 4), (1, 49), (1, 48), (1, 20), (1, 524288), (1, 16), (1, 4), (1, 261888), (1, 55), (1, 196), (1, 1952), (1, 4032), (1, 3248), (1, 3309)]) rfl hP rfl 10 (by decide) (hts _ (wg_t kw_324)) (fun _ h9 => h9) (cd := (1, 261888)) rfl dDS_low_21 (fun v23 hv23 => ?_)
  obtain rfl := (show v23 = .int (nI 261888) from hv23)
  refine lv_imul hx hb dDS_low_24 ?_
  refine lv_isub hx hb dDS_low_25 ?_
  refine mi_eqv (fun z22 ez22 => ?_)
  replace hR := bnd_step hR ez22
  refine lv_istore_n (lv' := [(3, .int z22), (2, .int z21), (0, .ref h0), (1, .int v)]) hx hb dDS_low_26 rfl hl (by decide) rfl (fun ls hl => ?_)
  refine lv_iload_n hx hb dDS_low_27 rfl (lv_at hl 1 rfl) ?_
  refine lv_aload_n hx hb dDS_low_28 rfl (lv_at hl 2 rfl) ?_
  refine nw_get (C := "LatticeKeys$DsaSet") (TT := T_DS) (N := 17) hx hb hts (wg_ft i_DS) hown hK hO k_h0 (kn := 10) (ci := 2) (fl := [(1, 6), (1, 5), (1, 4), (1, 4), (1, 49), (1, 48), (1, 20), (1, 524288), (1, 16), (1, 4), (1, 261888), (1, 55), (1, 196), (1, 1952), (1, 4032), (1, 3248), (1, 3309)]) rfl hP rfl 8 (by decide) (hts _ (wg_t kw_321)) (fun _ h9 => h9) (cd := (1, 16)) rfl dDS_low_29 (fun v24 hv24 => ?_)
  obtain rfl := (show v24 = .int (nI 16) from hv24)
  refine lv_icmp_ne (tgt := 41) hx hb dDS_low_32 (by decide) (fun h21 => ?_) (fun h21 => ?_)
  · replace hR := hR.trans (if_neg h21)
    refine lv_iload_n hx hb dDS_low_41 rfl (lv_at hl 0 rfl) ?_
    exact mp_iret hx hb hr hlk hP hD hS ((z22, s), pl) ⟨⟨hR.symm, rfl, hF, trivial⟩, hO⟩ [] rfl rfl rfl (by omega) (by omega) dDS_low_42
  · replace hR := hR.trans (if_pos h21)
    refine lv_iload_n hx hb dDS_low_35 rfl (lv_at hl 0 rfl) ?_
    refine lv_iconst (v := nI 1) hx hb dDS_low_36 (by decide) ?_
    refine lv_isub hx hb dDS_low_37 ?_
    refine lv_goto (tgt := 42) hx hb dDS_low_38 (by decide) ?_
    exact mp_iret hx hb hr hlk hP hD hS (((z22 - (nI 1)), s), pl) ⟨⟨hR.symm, rfl, hF, trivial⟩, hO⟩ [] rfl rfl rfl (by omega) (by omega) dDS_low_42
def M_DS_low_2 (k : Nat) : Prop := (0 : Nat) = 1
noncomputable def F_DS_low_2 (v : Int32) (s : Sto) : Int32 × Sto := bnd ((((v + (nI 261888)) - (nI 1)) / (nI 523776))) fun z21 => bnd ((v - ((z21 * (nI 2)) * (nI 261888)))) fun z22 => if z21 = (nI 16) then ((z22 - (nI 1)), s) else (z22, s)
set_option maxHeartbeats 400000 in
set_option maxRecDepth 100000 in
theorem N_DS_low_2 (l : Launch) (g : Gd) (sz : Nat) (T : TyN) (s : Sto) (pl : va_W) (hO : okn g T s pl) (hU : inj T) (h0 : Nat) (v : Int32) (k_h0 : T h0 = some 11)  : Met l y_DS_low w_DS_low ({ frames := 0, cells := 0, slots := 0, locals := 0 } : Room) (va_Pc [.ref h0, .int v] (pr (en g) g.1 vcl sz ([] ++ pl))) (va_Qi (fun (r : Int32) (u : (Int32 × Sto) × va_W) => (u.1 = F_DS_low_2 v s ∧ r = u.1.1 ∧ frm (M_DS_low_2) s u.1.2 ∧ True) ∧ okn g T u.1.2 u.2) (po g.1 vcl (va_A ([] ++ pl) sz) (fun (u : (Int32 × Sto) × va_W) => [] ++ u.2)) (va_A ([] ++ pl) sz)) 0 0 (va_A ([] ++ pl) sz) := by
  refine mc_entry (cc := c_DS_low) (maxL := 4) (ret := (some .int)) (by decide) rfl (Nat.le_of_ble_eq_true rfl) ?_
  intro p e s0 m args below meth c ls F hr hlk hnm hsz hP hD hE hA hl
  obtain ⟨hx, hb, hml, hown, hts⟩ := id F
  have hK := hE.1
  generalize va_A ([] ++ pl) sz = A at hD hE hA ⊢
  have hS : va_S A s0.heap s0.heap [] := va_S.rf
  have hl : lv_has ls 4 [(0, .ref h0), (1, .int v)] := hl
  have hR : F_DS_low_2 v s = F_DS_low_2 v s := rfl
  have hF : frm (M_DS_low_2) s s := frm_rf
  refine lv_iload_n hx hb dDS_low_0 rfl (lv_at hl 1 rfl) ?_
  refine lv_aload_n hx hb dDS_low_1 rfl (lv_at hl 0 rfl) ?_
  refine nw_get (C := "LatticeKeys$DsaSet") (TT := T_DS) (N := 17) hx hb hts (wg_ft i_DS) hown hK hO k_h0 (kn := 11) (ci := 2) (fl := [(1, 8), (1, 7), (1, 2), (1, 3), (1, 60), (1, 64), (1, 20), (1, 524288), (1, 16), (1, 4), (1, 261888), (1, 75), (1, 120), (1, 2592), (1, 4896), (1, 4544), (1, 4627)]) rfl hP rfl 10 (by decide) (hts _ (wg_t kw_324)) (fun _ h9 => h9) (cd := (1, 261888)) rfl dDS_low_2 (fun v21 hv21 => ?_)
  obtain rfl := (show v21 = .int (nI 261888) from hv21)
  refine lv_iadd hx hb dDS_low_5 ?_
  refine lv_iconst (v := nI 1) hx hb dDS_low_6 (by decide) ?_
  refine lv_isub hx hb dDS_low_7 ?_
  refine lv_iconst (v := nI 2) hx hb dDS_low_8 (by decide) ?_
  refine lv_aload_n hx hb dDS_low_9 rfl (lv_at hl 0 rfl) ?_
  refine nw_get (C := "LatticeKeys$DsaSet") (TT := T_DS) (N := 17) hx hb hts (wg_ft i_DS) hown hK hO k_h0 (kn := 11) (ci := 2) (fl := [(1, 8), (1, 7), (1, 2), (1, 3), (1, 60), (1, 64), (1, 20), (1, 524288), (1, 16), (1, 4), (1, 261888), (1, 75), (1, 120), (1, 2592), (1, 4896), (1, 4544), (1, 4627)]) rfl hP rfl 10 (by decide) (hts _ (wg_t kw_324)) (fun _ h9 => h9) (cd := (1, 261888)) rfl dDS_low_10 (fun v22 hv22 => ?_)
  obtain rfl := (show v22 = .int (nI 261888) from hv22)
  refine mi_imul hx hb dDS_low_13 ?_
  refine mi_as (show nI (2 * 261888) = nI 523776 from rfl) ?_
  refine lv_idiv hx hb dDS_low_14 (nI_ne0 (by omega) (by omega)) ?_
  refine mi_eqv (fun z21 ez21 => ?_)
  replace hR := bnd_step hR ez21
  refine lv_istore_n (lv' := [(2, .int z21), (0, .ref h0), (1, .int v)]) hx hb dDS_low_15 rfl hl (by decide) rfl (fun ls hl => ?_)
  refine lv_iload_n hx hb dDS_low_16 rfl (lv_at hl 2 rfl) ?_
  refine lv_iload_n hx hb dDS_low_17 rfl (lv_at hl 0 rfl) ?_
  refine lv_iconst (v := nI 2) hx hb dDS_low_18 (by decide) ?_
  refine lv_imul hx hb dDS_low_19 ?_
  refine lv_aload_n hx hb dDS_low_20 rfl (lv_at hl 1 rfl) ?_
  refine nw_get (C := "LatticeKeys$DsaSet") (TT := T_DS) (N := 17) hx hb hts (wg_ft i_DS) hown hK hO k_h0 (kn := 11) (ci := 2) (fl := [(1, 8), (1, 7), (1, 2), (1, 3), (1, 60), (1, 64), (1, 20), (1, 524288), (1, 16), (1, 4), (1, 261888), (1, 75), (1, 120), (1, 2592), (1, 4896), (1, 4544), (1, 4627)]) rfl hP rfl 10 (by decide) (hts _ (wg_t kw_324)) (fun _ h9 => h9) (cd := (1, 261888)) rfl dDS_low_21 (fun v23 hv23 => ?_)
  obtain rfl := (show v23 = .int (nI 261888) from hv23)
  refine lv_imul hx hb dDS_low_24 ?_
  refine lv_isub hx hb dDS_low_25 ?_
  refine mi_eqv (fun z22 ez22 => ?_)
  replace hR := bnd_step hR ez22
  refine lv_istore_n (lv' := [(3, .int z22), (2, .int z21), (0, .ref h0), (1, .int v)]) hx hb dDS_low_26 rfl hl (by decide) rfl (fun ls hl => ?_)
  refine lv_iload_n hx hb dDS_low_27 rfl (lv_at hl 1 rfl) ?_
  refine lv_aload_n hx hb dDS_low_28 rfl (lv_at hl 2 rfl) ?_
  refine nw_get (C := "LatticeKeys$DsaSet") (TT := T_DS) (N := 17) hx hb hts (wg_ft i_DS) hown hK hO k_h0 (kn := 11) (ci := 2) (fl := [(1, 8), (1, 7), (1, 2), (1, 3), (1, 60), (1, 64), (1, 20), (1, 524288), (1, 16), (1, 4), (1, 261888), (1, 75), (1, 120), (1, 2592), (1, 4896), (1, 4544), (1, 4627)]) rfl hP rfl 8 (by decide) (hts _ (wg_t kw_321)) (fun _ h9 => h9) (cd := (1, 16)) rfl dDS_low_29 (fun v24 hv24 => ?_)
  obtain rfl := (show v24 = .int (nI 16) from hv24)
  refine lv_icmp_ne (tgt := 41) hx hb dDS_low_32 (by decide) (fun h21 => ?_) (fun h21 => ?_)
  · replace hR := hR.trans (if_neg h21)
    refine lv_iload_n hx hb dDS_low_41 rfl (lv_at hl 0 rfl) ?_
    exact mp_iret hx hb hr hlk hP hD hS ((z22, s), pl) ⟨⟨hR.symm, rfl, hF, trivial⟩, hO⟩ [] rfl rfl rfl (by omega) (by omega) dDS_low_42
  · replace hR := hR.trans (if_pos h21)
    refine lv_iload_n hx hb dDS_low_35 rfl (lv_at hl 0 rfl) ?_
    refine lv_iconst (v := nI 1) hx hb dDS_low_36 (by decide) ?_
    refine lv_isub hx hb dDS_low_37 ?_
    refine lv_goto (tgt := 42) hx hb dDS_low_38 (by decide) ?_
    exact mp_iret hx hb hr hlk hP hD hS (((z22 - (nI 1)), s), pl) ⟨⟨hR.symm, rfl, hF, trivial⟩, hO⟩ [] rfl rfl rfl (by omega) (by omega) dDS_low_42
def M_DS_hintedHigh_0 (k : Nat) : Prop := (0 : Nat) = 1
noncomputable def F_DS_hintedHigh_0 (v : Int32) (s : Sto) : Int32 × Sto := bnd (F_DS_high_0 v s) fun q21 => bnd (q21.1) fun z21 => bnd (F_DS_low_0 v q21.2) fun q22 => if (q22.1) ≤ 0 then if z21 = 0 then (nI 43, q22.2) else ((z21 - (nI 1)), q22.2) else if z21 = (nI 43) then (nI 0, q22.2) else ((z21 + (nI 1)), q22.2)
set_option maxHeartbeats 400000 in
set_option maxRecDepth 100000 in
theorem N_DS_hintedHigh_0 (l : Launch) (g : Gd) (sz : Nat) (T : TyN) (s : Sto) (pl : va_W) (hO : okn g T s pl) (hU : inj T) (h0 : Nat) (v : Int32) (k_h0 : T h0 = some 9)  : Met l y_DS_hintedHigh w_DS_hintedHigh ({ frames := 1, cells := 0, slots := 0, locals := 23 } : Room) (va_Pc [.ref h0, .int v] (pr (en g) g.1 vcl sz ([] ++ pl))) (va_Qi (fun (r : Int32) (u : (Int32 × Sto) × va_W) => (u.1 = F_DS_hintedHigh_0 v s ∧ r = u.1.1 ∧ frm (M_DS_hintedHigh_0) s u.1.2 ∧ True) ∧ okn g T u.1.2 u.2) (po g.1 vcl (va_A ([] ++ pl) sz) (fun (u : (Int32 × Sto) × va_W) => [] ++ u.2)) (va_A ([] ++ pl) sz)) 0 0 (va_A ([] ++ pl) sz) := by
  refine mc_entry (cc := c_DS_hintedHigh) (maxL := 3) (ret := (some .int)) (by decide) rfl (Nat.le_of_ble_eq_true rfl) ?_
  intro p e s0 m args below meth c ls F hr hlk hnm hsz hP hD hE hA hl
  obtain ⟨hx, hb, hml, hown, hts⟩ := id F
  have hK := hE.1
  generalize va_A ([] ++ pl) sz = A at hD hE hA ⊢
  have hS : va_S A s0.heap s0.heap [] := va_S.rf
  have hl : lv_has ls 3 [(0, .ref h0), (1, .int v)] := hl
  have hR : F_DS_hintedHigh_0 v s = F_DS_hintedHigh_0 v s := rfl
  have hF : frm (M_DS_hintedHigh_0) s s := frm_rf
  refine lv_aload_n hx hb dDS_hintedHigh_0 rfl (lv_at hl 0 rfl) ?_
  refine lv_iload_n hx hb dDS_hintedHigh_1 rfl (lv_at hl 1 rfl) ?_
  refine mp_i (cx := []) (wr := []) hP hD hS hA [] [] rfl rfl rfl (by decide) (va_runV (As := [.int v]) (rest := []) F (N_DS_high_0 l g _ T s pl hO hU h0 v k_h0) (cwV 1 hts (wg_app (wg_c kw_1285 (wg_c kw_1207 (wg_c kw_1208 (wg_c kw_8 wg_n)))) kw_1209) rfl rfl rfl (by decide +kernel) ⟨by decide, by decide⟩) (pn_W "LatticeKeys$DsaSet" (en_ok g) (ci := 2) (kn := 9) (fl := [(1, 4), (1, 4), (1, 2), (1, 3), (1, 39), (1, 32), (1, 18), (1, 131072), (1, 44), (1, 6), (1, 95232), (1, 80), (1, 78), (1, 1312), (1, 2560), (1, 2336), (1, 2420)]) hK hO k_h0 rfl hP hD hS hA hE [] rfl rfl rfl) rfl rfl hl.1 rfl (lv_room (Nat.le_of_ble_eq_true rfl)) dDS_hintedHigh_2 ⟨by omega, by omega⟩) (fun r21 u21 H locs hu21 hP hD hS => ?_)
  obtain ⟨q21, pl⟩ := u21
  obtain ⟨⟨eq21, rfl, hFc21, -⟩, hO⟩ := hu21
  have hO : okn g T q21.2 pl := hO
  have hP : va_P g.1 vcl ([] ++ pl) _ := hP
  have hD : va_D _ ([] ++ pl) := hD
  have hFc21 : frm (M_DS_high_0) s q21.2 := hFc21
  replace hR := bnd_step hR eq21
  have hF := frm_tr hF hFc21 (fun k hk => by unfold M_DS_high_0 at hk; unfold M_DS_hintedHigh_0; omega)
  refine W.widen (k := 0) (n := 0) (by omega) (by omega) ?_
  refine mi_eqv (fun z21 ez21 => ?_)
  replace hR := bnd_step hR ez21
  refine lv_istore_n (lv' := [(2, .int z21), (0, .ref h0), (1, .int v)]) hx hb dDS_hintedHigh_5 rfl hl (by decide) rfl (fun ls hl => ?_)
  refine lv_aload_n hx hb dDS_hintedHigh_6 rfl (lv_at hl 1 rfl) ?_
  refine lv_iload_n hx hb dDS_hintedHigh_7 rfl (lv_at hl 2 rfl) ?_
  refine mp_i (cx := []) (wr := []) hP hD hS hA [] [] rfl rfl rfl (by decide) (va_runV (As := [.int v]) (rest := []) F (N_DS_low_0 l g _ T q21.2 pl hO hU h0 v k_h0) (cwV 1 hts (wg_app (wg_c kw_1286 (wg_c kw_1238 (wg_c kw_1239 (wg_c kw_8 wg_n)))) kw_1240) rfl rfl rfl (by decide +kernel) ⟨by decide, by decide⟩) (pn_W "LatticeKeys$DsaSet" (en_ok g) (ci := 2) (kn := 9) (fl := [(1, 4), (1, 4), (1, 2), (1, 3), (1, 39), (1, 32), (1, 18), (1, 131072), (1, 44), (1, 6), (1, 95232), (1, 80), (1, 78), (1, 1312), (1, 2560), (1, 2336), (1, 2420)]) hK hO k_h0 rfl hP hD hS hA hE [] rfl rfl rfl) rfl rfl hl.1 rfl (lv_room (Nat.le_of_ble_eq_true rfl)) dDS_hintedHigh_8 ⟨by omega, by omega⟩) (fun r22 u22 H locs hu22 hP hD hS => ?_)
  obtain ⟨q22, pl⟩ := u22
  obtain ⟨⟨eq22, rfl, hFc22, -⟩, hO⟩ := hu22
  have hO : okn g T q22.2 pl := hO
  have hP : va_P g.1 vcl ([] ++ pl) _ := hP
  have hD : va_D _ ([] ++ pl) := hD
  have hFc22 : frm (M_DS_low_0) q21.2 q22.2 := hFc22
  replace hR := bnd_step hR eq22
  have hF := frm_tr hF hFc22 (fun k hk => by unfold M_DS_low_0 at hk; unfold M_DS_hintedHigh_0; omega)
  refine W.widen (k := 0) (n := 0) (by omega) (by omega) ?_
  refine lv_if_le (tgt := 32) hx hb dDS_hintedHigh_11 (by decide) (fun h21 => ?_) (fun h21 => ?_)
  · replace hR := hR.trans (if_pos h21)
    refine lv_iload_n hx hb dDS_hintedHigh_32 rfl (lv_at hl 0 rfl) ?_
    refine lv_if_ne (tgt := 45) hx hb dDS_hintedHigh_33 (by decide) (fun h22 => ?_) (fun h22 => ?_)
    · replace hR := hR.trans (if_neg h22)
      refine lv_iload_n hx hb dDS_hintedHigh_45 rfl (lv_at hl 0 rfl) ?_
      refine lv_iconst (v := nI 1) hx hb dDS_hintedHigh_46 (by decide) ?_
      refine lv_isub hx hb dDS_hintedHigh_47 ?_
      exact mp_iret hx hb hr hlk hP hD hS (((z21 - (nI 1)), q22.2), pl) ⟨⟨hR.symm, rfl, hF, trivial⟩, hO⟩ [] rfl rfl rfl (by omega) (by omega) dDS_hintedHigh_48
    · replace hR := hR.trans (if_pos h22)
      refine lv_aload_n hx hb dDS_hintedHigh_36 rfl (lv_at hl 1 rfl) ?_
      refine nw_get (C := "LatticeKeys$DsaSet") (TT := T_DS) (N := 17) hx hb hts (wg_ft i_DS) hown hK hO k_h0 (kn := 9) (ci := 2) (fl := [(1, 4), (1, 4), (1, 2), (1, 3), (1, 39), (1, 32), (1, 18), (1, 131072), (1, 44), (1, 6), (1, 95232), (1, 80), (1, 78), (1, 1312), (1, 2560), (1, 2336), (1, 2420)]) rfl hP rfl 8 (by decide) (hts _ (wg_t kw_321)) (fun _ h9 => h9) (cd := (1, 44)) rfl dDS_hintedHigh_37 (fun v21 hv21 => ?_)
      obtain rfl := (show v21 = .int (nI 44) from hv21)
      refine lv_iconst (v := nI 1) hx hb dDS_hintedHigh_40 (by decide) ?_
      refine mi_isub hx hb dDS_hintedHigh_41 (by omega) ?_
      refine mi_as (show nI (44 - 1) = nI 43 from rfl) ?_
      refine lv_goto (tgt := 48) hx hb dDS_hintedHigh_42 (by decide) ?_
      exact mp_iret hx hb hr hlk hP hD hS ((nI 43, q22.2), pl) ⟨⟨hR.symm, rfl, hF, trivial⟩, hO⟩ [] rfl rfl rfl (by omega) (by omega) dDS_hintedHigh_48
  · replace hR := hR.trans (if_neg h21)
    refine lv_iload_n hx hb dDS_hintedHigh_14 rfl (lv_at hl 0 rfl) ?_
    refine lv_aload_n hx hb dDS_hintedHigh_15 rfl (lv_at hl 1 rfl) ?_
    refine nw_get (C := "LatticeKeys$DsaSet") (TT := T_DS) (N := 17) hx hb hts (wg_ft i_DS) hown hK hO k_h0 (kn := 9) (ci := 2) (fl := [(1, 4), (1, 4), (1, 2), (1, 3), (1, 39), (1, 32), (1, 18), (1, 131072), (1, 44), (1, 6), (1, 95232), (1, 80), (1, 78), (1, 1312), (1, 2560), (1, 2336), (1, 2420)]) rfl hP rfl 8 (by decide) (hts _ (wg_t kw_321)) (fun _ h9 => h9) (cd := (1, 44)) rfl dDS_hintedHigh_16 (fun v22 hv22 => ?_)
    obtain rfl := (show v22 = .int (nI 44) from hv22)
    refine lv_iconst (v := nI 1) hx hb dDS_hintedHigh_19 (by decide) ?_
    refine mi_isub hx hb dDS_hintedHigh_20 (by omega) ?_
    refine mi_as (show nI (44 - 1) = nI 43 from rfl) ?_
    refine lv_icmp_ne (tgt := 28) hx hb dDS_hintedHigh_21 (by decide) (fun h23 => ?_) (fun h23 => ?_)
    · replace hR := hR.trans (if_neg h23)
      refine lv_iload_n hx hb dDS_hintedHigh_28 rfl (lv_at hl 0 rfl) ?_
      refine lv_iconst (v := nI 1) hx hb dDS_hintedHigh_29 (by decide) ?_
      refine lv_iadd hx hb dDS_hintedHigh_30 ?_
      exact mp_iret hx hb hr hlk hP hD hS (((z21 + (nI 1)), q22.2), pl) ⟨⟨hR.symm, rfl, hF, trivial⟩, hO⟩ [] rfl rfl rfl (by omega) (by omega) dDS_hintedHigh_31
    · replace hR := hR.trans (if_pos h23)
      refine lv_iconst (v := nI 0) hx hb dDS_hintedHigh_24 (by decide) ?_
      refine lv_goto (tgt := 31) hx hb dDS_hintedHigh_25 (by decide) ?_
      exact mp_iret hx hb hr hlk hP hD hS ((nI 0, q22.2), pl) ⟨⟨hR.symm, rfl, hF, trivial⟩, hO⟩ [] rfl rfl rfl (by omega) (by omega) dDS_hintedHigh_31
def M_DS_hintedHigh_1 (k : Nat) : Prop := (0 : Nat) = 1
noncomputable def F_DS_hintedHigh_1 (v : Int32) (s : Sto) : Int32 × Sto := bnd (F_DS_high_1 v s) fun q21 => bnd (q21.1) fun z21 => bnd (F_DS_low_1 v q21.2) fun q22 => if (q22.1) ≤ 0 then if z21 = 0 then (nI 15, q22.2) else ((z21 - (nI 1)), q22.2) else if z21 = (nI 15) then (nI 0, q22.2) else ((z21 + (nI 1)), q22.2)
set_option maxHeartbeats 400000 in
set_option maxRecDepth 100000 in
theorem N_DS_hintedHigh_1 (l : Launch) (g : Gd) (sz : Nat) (T : TyN) (s : Sto) (pl : va_W) (hO : okn g T s pl) (hU : inj T) (h0 : Nat) (v : Int32) (k_h0 : T h0 = some 10)  : Met l y_DS_hintedHigh w_DS_hintedHigh ({ frames := 1, cells := 0, slots := 0, locals := 23 } : Room) (va_Pc [.ref h0, .int v] (pr (en g) g.1 vcl sz ([] ++ pl))) (va_Qi (fun (r : Int32) (u : (Int32 × Sto) × va_W) => (u.1 = F_DS_hintedHigh_1 v s ∧ r = u.1.1 ∧ frm (M_DS_hintedHigh_1) s u.1.2 ∧ True) ∧ okn g T u.1.2 u.2) (po g.1 vcl (va_A ([] ++ pl) sz) (fun (u : (Int32 × Sto) × va_W) => [] ++ u.2)) (va_A ([] ++ pl) sz)) 0 0 (va_A ([] ++ pl) sz) := by
  refine mc_entry (cc := c_DS_hintedHigh) (maxL := 3) (ret := (some .int)) (by decide) rfl (Nat.le_of_ble_eq_true rfl) ?_
  intro p e s0 m args below meth c ls F hr hlk hnm hsz hP hD hE hA hl
  obtain ⟨hx, hb, hml, hown, hts⟩ := id F
  have hK := hE.1
  generalize va_A ([] ++ pl) sz = A at hD hE hA ⊢
  have hS : va_S A s0.heap s0.heap [] := va_S.rf
  have hl : lv_has ls 3 [(0, .ref h0), (1, .int v)] := hl
  have hR : F_DS_hintedHigh_1 v s = F_DS_hintedHigh_1 v s := rfl
  have hF : frm (M_DS_hintedHigh_1) s s := frm_rf
  refine lv_aload_n hx hb dDS_hintedHigh_0 rfl (lv_at hl 0 rfl) ?_
  refine lv_iload_n hx hb dDS_hintedHigh_1 rfl (lv_at hl 1 rfl) ?_
  refine mp_i (cx := []) (wr := []) hP hD hS hA [] [] rfl rfl rfl (by decide) (va_runV (As := [.int v]) (rest := []) F (N_DS_high_1 l g _ T s pl hO hU h0 v k_h0) (cwV 1 hts (wg_app (wg_c kw_1285 (wg_c kw_1207 (wg_c kw_1208 (wg_c kw_8 wg_n)))) kw_1209) rfl rfl rfl (by decide +kernel) ⟨by decide, by decide⟩) (pn_W "LatticeKeys$DsaSet" (en_ok g) (ci := 2) (kn := 10) (fl := [(1, 6), (1, 5), (1, 4), (1, 4), (1, 49), (1, 48), (1, 20), (1, 524288), (1, 16), (1, 4), (1, 261888), (1, 55), (1, 196), (1, 1952), (1, 4032), (1, 3248), (1, 3309)]) hK hO k_h0 rfl hP hD hS hA hE [] rfl rfl rfl) rfl rfl hl.1 rfl (lv_room (Nat.le_of_ble_eq_true rfl)) dDS_hintedHigh_2 ⟨by omega, by omega⟩) (fun r21 u21 H locs hu21 hP hD hS => ?_)
  obtain ⟨q21, pl⟩ := u21
  obtain ⟨⟨eq21, rfl, hFc21, -⟩, hO⟩ := hu21
  have hO : okn g T q21.2 pl := hO
  have hP : va_P g.1 vcl ([] ++ pl) _ := hP
  have hD : va_D _ ([] ++ pl) := hD
  have hFc21 : frm (M_DS_high_1) s q21.2 := hFc21
  replace hR := bnd_step hR eq21
  have hF := frm_tr hF hFc21 (fun k hk => by unfold M_DS_high_1 at hk; unfold M_DS_hintedHigh_1; omega)
  refine W.widen (k := 0) (n := 0) (by omega) (by omega) ?_
  refine mi_eqv (fun z21 ez21 => ?_)
  replace hR := bnd_step hR ez21
  refine lv_istore_n (lv' := [(2, .int z21), (0, .ref h0), (1, .int v)]) hx hb dDS_hintedHigh_5 rfl hl (by decide) rfl (fun ls hl => ?_)
  refine lv_aload_n hx hb dDS_hintedHigh_6 rfl (lv_at hl 1 rfl) ?_
  refine lv_iload_n hx hb dDS_hintedHigh_7 rfl (lv_at hl 2 rfl) ?_
  refine mp_i (cx := []) (wr := []) hP hD hS hA [] [] rfl rfl rfl (by decide) (va_runV (As := [.int v]) (rest := []) F (N_DS_low_1 l g _ T q21.2 pl hO hU h0 v k_h0) (cwV 1 hts (wg_app (wg_c kw_1286 (wg_c kw_1238 (wg_c kw_1239 (wg_c kw_8 wg_n)))) kw_1240) rfl rfl rfl (by decide +kernel) ⟨by decide, by decide⟩) (pn_W "LatticeKeys$DsaSet" (en_ok g) (ci := 2) (kn := 10) (fl := [(1, 6), (1, 5), (1, 4), (1, 4), (1, 49), (1, 48), (1, 20), (1, 524288), (1, 16), (1, 4), (1, 261888), (1, 55), (1, 196), (1, 1952), (1, 4032), (1, 3248), (1, 3309)]) hK hO k_h0 rfl hP hD hS hA hE [] rfl rfl rfl) rfl rfl hl.1 rfl (lv_room (Nat.le_of_ble_eq_true rfl)) dDS_hintedHigh_8 ⟨by omega, by omega⟩) (fun r22 u22 H locs hu22 hP hD hS => ?_)
  obtain ⟨q22, pl⟩ := u22
  obtain ⟨⟨eq22, rfl, hFc22, -⟩, hO⟩ := hu22
  have hO : okn g T q22.2 pl := hO
  have hP : va_P g.1 vcl ([] ++ pl) _ := hP
  have hD : va_D _ ([] ++ pl) := hD
  have hFc22 : frm (M_DS_low_1) q21.2 q22.2 := hFc22
  replace hR := bnd_step hR eq22
  have hF := frm_tr hF hFc22 (fun k hk => by unfold M_DS_low_1 at hk; unfold M_DS_hintedHigh_1; omega)
  refine W.widen (k := 0) (n := 0) (by omega) (by omega) ?_
  refine lv_if_le (tgt := 32) hx hb dDS_hintedHigh_11 (by decide) (fun h21 => ?_) (fun h21 => ?_)
  · replace hR := hR.trans (if_pos h21)
    refine lv_iload_n hx hb dDS_hintedHigh_32 rfl (lv_at hl 0 rfl) ?_
    refine lv_if_ne (tgt := 45) hx hb dDS_hintedHigh_33 (by decide) (fun h22 => ?_) (fun h22 => ?_)
    · replace hR := hR.trans (if_neg h22)
      refine lv_iload_n hx hb dDS_hintedHigh_45 rfl (lv_at hl 0 rfl) ?_
      refine lv_iconst (v := nI 1) hx hb dDS_hintedHigh_46 (by decide) ?_
      refine lv_isub hx hb dDS_hintedHigh_47 ?_
      exact mp_iret hx hb hr hlk hP hD hS (((z21 - (nI 1)), q22.2), pl) ⟨⟨hR.symm, rfl, hF, trivial⟩, hO⟩ [] rfl rfl rfl (by omega) (by omega) dDS_hintedHigh_48
    · replace hR := hR.trans (if_pos h22)
      refine lv_aload_n hx hb dDS_hintedHigh_36 rfl (lv_at hl 1 rfl) ?_
      refine nw_get (C := "LatticeKeys$DsaSet") (TT := T_DS) (N := 17) hx hb hts (wg_ft i_DS) hown hK hO k_h0 (kn := 10) (ci := 2) (fl := [(1, 6), (1, 5), (1, 4), (1, 4), (1, 49), (1, 48), (1, 20), (1, 524288), (1, 16), (1, 4), (1, 261888), (1, 55), (1, 196), (1, 1952), (1, 4032), (1, 3248), (1, 3309)]) rfl hP rfl 8 (by decide) (hts _ (wg_t kw_321)) (fun _ h9 => h9) (cd := (1, 16)) rfl dDS_hintedHigh_37 (fun v21 hv21 => ?_)
      obtain rfl := (show v21 = .int (nI 16) from hv21)
      refine lv_iconst (v := nI 1) hx hb dDS_hintedHigh_40 (by decide) ?_
      refine mi_isub hx hb dDS_hintedHigh_41 (by omega) ?_
      refine mi_as (show nI (16 - 1) = nI 15 from rfl) ?_
      refine lv_goto (tgt := 48) hx hb dDS_hintedHigh_42 (by decide) ?_
      exact mp_iret hx hb hr hlk hP hD hS ((nI 15, q22.2), pl) ⟨⟨hR.symm, rfl, hF, trivial⟩, hO⟩ [] rfl rfl rfl (by omega) (by omega) dDS_hintedHigh_48
  · replace hR := hR.trans (if_neg h21)
    refine lv_iload_n hx hb dDS_hintedHigh_14 rfl (lv_at hl 0 rfl) ?_
    refine lv_aload_n hx hb dDS_hintedHigh_15 rfl (lv_at hl 1 rfl) ?_
    refine nw_get (C := "LatticeKeys$DsaSet") (TT := T_DS) (N := 17) hx hb hts (wg_ft i_DS) hown hK hO k_h0 (kn := 10) (ci := 2) (fl := [(1, 6), (1, 5), (1, 4), (1, 4), (1, 49), (1, 48), (1, 20), (1, 524288), (1, 16), (1, 4), (1, 261888), (1, 55), (1, 196), (1, 1952), (1, 4032), (1, 3248), (1, 3309)]) rfl hP rfl 8 (by decide) (hts _ (wg_t kw_321)) (fun _ h9 => h9) (cd := (1, 16)) rfl dDS_hintedHigh_16 (fun v22 hv22 => ?_)
    obtain rfl := (show v22 = .int (nI 16) from hv22)
    refine lv_iconst (v := nI 1) hx hb dDS_hintedHigh_19 (by decide) ?_
    refine mi_isub hx hb dDS_hintedHigh_20 (by omega) ?_
    refine mi_as (show nI (16 - 1) = nI 15 from rfl) ?_
    refine lv_icmp_ne (tgt := 28) hx hb dDS_hintedHigh_21 (by decide) (fun h23 => ?_) (fun h23 => ?_)
    · replace hR := hR.trans (if_neg h23)
      refine lv_iload_n hx hb dDS_hintedHigh_28 rfl (lv_at hl 0 rfl) ?_
      refine lv_iconst (v := nI 1) hx hb dDS_hintedHigh_29 (by decide) ?_
      refine lv_iadd hx hb dDS_hintedHigh_30 ?_
      exact mp_iret hx hb hr hlk hP hD hS (((z21 + (nI 1)), q22.2), pl) ⟨⟨hR.symm, rfl, hF, trivial⟩, hO⟩ [] rfl rfl rfl (by omega) (by omega) dDS_hintedHigh_31
    · replace hR := hR.trans (if_pos h23)
      refine lv_iconst (v := nI 0) hx hb dDS_hintedHigh_24 (by decide) ?_
      refine lv_goto (tgt := 31) hx hb dDS_hintedHigh_25 (by decide) ?_
      exact mp_iret hx hb hr hlk hP hD hS ((nI 0, q22.2), pl) ⟨⟨hR.symm, rfl, hF, trivial⟩, hO⟩ [] rfl rfl rfl (by omega) (by omega) dDS_hintedHigh_31
def M_DS_hintedHigh_2 (k : Nat) : Prop := (0 : Nat) = 1
noncomputable def F_DS_hintedHigh_2 (v : Int32) (s : Sto) : Int32 × Sto := bnd (F_DS_high_2 v s) fun q21 => bnd (q21.1) fun z21 => bnd (F_DS_low_2 v q21.2) fun q22 => if (q22.1) ≤ 0 then if z21 = 0 then (nI 15, q22.2) else ((z21 - (nI 1)), q22.2) else if z21 = (nI 15) then (nI 0, q22.2) else ((z21 + (nI 1)), q22.2)
set_option maxHeartbeats 400000 in
set_option maxRecDepth 100000 in
theorem N_DS_hintedHigh_2 (l : Launch) (g : Gd) (sz : Nat) (T : TyN) (s : Sto) (pl : va_W) (hO : okn g T s pl) (hU : inj T) (h0 : Nat) (v : Int32) (k_h0 : T h0 = some 11)  : Met l y_DS_hintedHigh w_DS_hintedHigh ({ frames := 1, cells := 0, slots := 0, locals := 23 } : Room) (va_Pc [.ref h0, .int v] (pr (en g) g.1 vcl sz ([] ++ pl))) (va_Qi (fun (r : Int32) (u : (Int32 × Sto) × va_W) => (u.1 = F_DS_hintedHigh_2 v s ∧ r = u.1.1 ∧ frm (M_DS_hintedHigh_2) s u.1.2 ∧ True) ∧ okn g T u.1.2 u.2) (po g.1 vcl (va_A ([] ++ pl) sz) (fun (u : (Int32 × Sto) × va_W) => [] ++ u.2)) (va_A ([] ++ pl) sz)) 0 0 (va_A ([] ++ pl) sz) := by
  refine mc_entry (cc := c_DS_hintedHigh) (maxL := 3) (ret := (some .int)) (by decide) rfl (Nat.le_of_ble_eq_true rfl) ?_
  intro p e s0 m args below meth c ls F hr hlk hnm hsz hP hD hE hA hl
  obtain ⟨hx, hb, hml, hown, hts⟩ := id F
  have hK := hE.1
  generalize va_A ([] ++ pl) sz = A at hD hE hA ⊢
  have hS : va_S A s0.heap s0.heap [] := va_S.rf
  have hl : lv_has ls 3 [(0, .ref h0), (1, .int v)] := hl
  have hR : F_DS_hintedHigh_2 v s = F_DS_hintedHigh_2 v s := rfl
  have hF : frm (M_DS_hintedHigh_2) s s := frm_rf
  refine lv_aload_n hx hb dDS_hintedHigh_0 rfl (lv_at hl 0 rfl) ?_
  refine lv_iload_n hx hb dDS_hintedHigh_1 rfl (lv_at hl 1 rfl) ?_
  refine mp_i (cx := []) (wr := []) hP hD hS hA [] [] rfl rfl rfl (by decide) (va_runV (As := [.int v]) (rest := []) F (N_DS_high_2 l g _ T s pl hO hU h0 v k_h0) (cwV 1 hts (wg_app (wg_c kw_1285 (wg_c kw_1207 (wg_c kw_1208 (wg_c kw_8 wg_n)))) kw_1209) rfl rfl rfl (by decide +kernel) ⟨by decide, by decide⟩) (pn_W "LatticeKeys$DsaSet" (en_ok g) (ci := 2) (kn := 11) (fl := [(1, 8), (1, 7), (1, 2), (1, 3), (1, 60), (1, 64), (1, 20), (1, 524288), (1, 16), (1, 4), (1, 261888), (1, 75), (1, 120), (1, 2592), (1, 4896), (1, 4544), (1, 4627)]) hK hO k_h0 rfl hP hD hS hA hE [] rfl rfl rfl) rfl rfl hl.1 rfl (lv_room (Nat.le_of_ble_eq_true rfl)) dDS_hintedHigh_2 ⟨by omega, by omega⟩) (fun r21 u21 H locs hu21 hP hD hS => ?_)
  obtain ⟨q21, pl⟩ := u21
  obtain ⟨⟨eq21, rfl, hFc21, -⟩, hO⟩ := hu21
  have hO : okn g T q21.2 pl := hO
  have hP : va_P g.1 vcl ([] ++ pl) _ := hP
  have hD : va_D _ ([] ++ pl) := hD
  have hFc21 : frm (M_DS_high_2) s q21.2 := hFc21
  replace hR := bnd_step hR eq21
  have hF := frm_tr hF hFc21 (fun k hk => by unfold M_DS_high_2 at hk; unfold M_DS_hintedHigh_2; omega)
  refine W.widen (k := 0) (n := 0) (by omega) (by omega) ?_
  refine mi_eqv (fun z21 ez21 => ?_)
  replace hR := bnd_step hR ez21
  refine lv_istore_n (lv' := [(2, .int z21), (0, .ref h0), (1, .int v)]) hx hb dDS_hintedHigh_5 rfl hl (by decide) rfl (fun ls hl => ?_)
  refine lv_aload_n hx hb dDS_hintedHigh_6 rfl (lv_at hl 1 rfl) ?_
  refine lv_iload_n hx hb dDS_hintedHigh_7 rfl (lv_at hl 2 rfl) ?_
  refine mp_i (cx := []) (wr := []) hP hD hS hA [] [] rfl rfl rfl (by decide) (va_runV (As := [.int v]) (rest := []) F (N_DS_low_2 l g _ T q21.2 pl hO hU h0 v k_h0) (cwV 1 hts (wg_app (wg_c kw_1286 (wg_c kw_1238 (wg_c kw_1239 (wg_c kw_8 wg_n)))) kw_1240) rfl rfl rfl (by decide +kernel) ⟨by decide, by decide⟩) (pn_W "LatticeKeys$DsaSet" (en_ok g) (ci := 2) (kn := 11) (fl := [(1, 8), (1, 7), (1, 2), (1, 3), (1, 60), (1, 64), (1, 20), (1, 524288), (1, 16), (1, 4), (1, 261888), (1, 75), (1, 120), (1, 2592), (1, 4896), (1, 4544), (1, 4627)]) hK hO k_h0 rfl hP hD hS hA hE [] rfl rfl rfl) rfl rfl hl.1 rfl (lv_room (Nat.le_of_ble_eq_true rfl)) dDS_hintedHigh_8 ⟨by omega, by omega⟩) (fun r22 u22 H locs hu22 hP hD hS => ?_)
  obtain ⟨q22, pl⟩ := u22
  obtain ⟨⟨eq22, rfl, hFc22, -⟩, hO⟩ := hu22
  have hO : okn g T q22.2 pl := hO
  have hP : va_P g.1 vcl ([] ++ pl) _ := hP
  have hD : va_D _ ([] ++ pl) := hD
  have hFc22 : frm (M_DS_low_2) q21.2 q22.2 := hFc22
  replace hR := bnd_step hR eq22
  have hF := frm_tr hF hFc22 (fun k hk => by unfold M_DS_low_2 at hk; unfold M_DS_hintedHigh_2; omega)
  refine W.widen (k := 0) (n := 0) (by omega) (by omega) ?_
  refine lv_if_le (tgt := 32) hx hb dDS_hintedHigh_11 (by decide) (fun h21 => ?_) (fun h21 => ?_)
  · replace hR := hR.trans (if_pos h21)
    refine lv_iload_n hx hb dDS_hintedHigh_32 rfl (lv_at hl 0 rfl) ?_
    refine lv_if_ne (tgt := 45) hx hb dDS_hintedHigh_33 (by decide) (fun h22 => ?_) (fun h22 => ?_)
    · replace hR := hR.trans (if_neg h22)
      refine lv_iload_n hx hb dDS_hintedHigh_45 rfl (lv_at hl 0 rfl) ?_
      refine lv_iconst (v := nI 1) hx hb dDS_hintedHigh_46 (by decide) ?_
      refine lv_isub hx hb dDS_hintedHigh_47 ?_
      exact mp_iret hx hb hr hlk hP hD hS (((z21 - (nI 1)), q22.2), pl) ⟨⟨hR.symm, rfl, hF, trivial⟩, hO⟩ [] rfl rfl rfl (by omega) (by omega) dDS_hintedHigh_48
    · replace hR := hR.trans (if_pos h22)
      refine lv_aload_n hx hb dDS_hintedHigh_36 rfl (lv_at hl 1 rfl) ?_
      refine nw_get (C := "LatticeKeys$DsaSet") (TT := T_DS) (N := 17) hx hb hts (wg_ft i_DS) hown hK hO k_h0 (kn := 11) (ci := 2) (fl := [(1, 8), (1, 7), (1, 2), (1, 3), (1, 60), (1, 64), (1, 20), (1, 524288), (1, 16), (1, 4), (1, 261888), (1, 75), (1, 120), (1, 2592), (1, 4896), (1, 4544), (1, 4627)]) rfl hP rfl 8 (by decide) (hts _ (wg_t kw_321)) (fun _ h9 => h9) (cd := (1, 16)) rfl dDS_hintedHigh_37 (fun v21 hv21 => ?_)
      obtain rfl := (show v21 = .int (nI 16) from hv21)
      refine lv_iconst (v := nI 1) hx hb dDS_hintedHigh_40 (by decide) ?_
      refine mi_isub hx hb dDS_hintedHigh_41 (by omega) ?_
      refine mi_as (show nI (16 - 1) = nI 15 from rfl) ?_
      refine lv_goto (tgt := 48) hx hb dDS_hintedHigh_42 (by decide) ?_
      exact mp_iret hx hb hr hlk hP hD hS ((nI 15, q22.2), pl) ⟨⟨hR.symm, rfl, hF, trivial⟩, hO⟩ [] rfl rfl rfl (by omega) (by omega) dDS_hintedHigh_48
  · replace hR := hR.trans (if_neg h21)
    refine lv_iload_n hx hb dDS_hintedHigh_14 rfl (lv_at hl 0 rfl) ?_
    refine lv_aload_n hx hb dDS_hintedHigh_15 rfl (lv_at hl 1 rfl) ?_
    refine nw_get (C := "LatticeKeys$DsaSet") (TT := T_DS) (N := 17) hx hb hts (wg_ft i_DS) hown hK hO k_h0 (kn := 11) (ci := 2) (fl := [(1, 8), (1, 7), (1, 2), (1, 3), (1, 60), (1, 64), (1, 20), (1, 524288), (1, 16), (1, 4), (1, 261888), (1, 75), (1, 120), (1, 2592), (1, 4896), (1, 4544), (1, 4627)]) rfl hP rfl 8 (by decide) (hts _ (wg_t kw_321)) (fun _ h9 => h9) (cd := (1, 16)) rfl dDS_hintedHigh_16 (fun v22 hv22 => ?_)
    obtain rfl := (show v22 = .int (nI 16) from hv22)
    refine lv_iconst (v := nI 1) hx hb dDS_hintedHigh_19 (by decide) ?_
    refine mi_isub hx hb dDS_hintedHigh_20 (by omega) ?_
    refine mi_as (show nI (16 - 1) = nI 15 from rfl) ?_
    refine lv_icmp_ne (tgt := 28) hx hb dDS_hintedHigh_21 (by decide) (fun h23 => ?_) (fun h23 => ?_)
    · replace hR := hR.trans (if_neg h23)
      refine lv_iload_n hx hb dDS_hintedHigh_28 rfl (lv_at hl 0 rfl) ?_
      refine lv_iconst (v := nI 1) hx hb dDS_hintedHigh_29 (by decide) ?_
      refine lv_iadd hx hb dDS_hintedHigh_30 ?_
      exact mp_iret hx hb hr hlk hP hD hS (((z21 + (nI 1)), q22.2), pl) ⟨⟨hR.symm, rfl, hF, trivial⟩, hO⟩ [] rfl rfl rfl (by omega) (by omega) dDS_hintedHigh_31
    · replace hR := hR.trans (if_pos h23)
      refine lv_iconst (v := nI 0) hx hb dDS_hintedHigh_24 (by decide) ?_
      refine lv_goto (tgt := 31) hx hb dDS_hintedHigh_25 (by decide) ?_
      exact mp_iret hx hb hr hlk hP hD hS ((nI 0, q22.2), pl) ⟨⟨hR.symm, rfl, hF, trivial⟩, hO⟩ [] rfl rfl rfl (by omega) (by omega) dDS_hintedHigh_31
