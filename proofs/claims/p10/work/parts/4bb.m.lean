set_option linter.all false
abbrev c_M_none : ByteArray := prog_12_method_16_code
abbrev y_M_none : MethodName := ⟨"LatticeKeysModel", "none", "(I)Z"⟩
abbrev w_M_none : List Cond := Cond.code y_M_none c_M_none 2 (some .boolean) :: WG
theorem dM_none_0 : decode c_M_none 0 = .ok (.iload_n 1, 1) := by decide +kernel
theorem dM_none_1 : decode c_M_none 1 = .ok (.ifCond .lt 11, 3) := by decide +kernel
theorem dM_none_4 : decode c_M_none 4 = .ok (.iload_n 1, 1) := by decide +kernel
theorem dM_none_5 : decode c_M_none 5 = .ok (.aload_n 0, 1) := by decide +kernel
theorem dM_none_6 : decode c_M_none 6 = .ok (.getfield 83, 3) := by decide +kernel
theorem dM_none_9 : decode c_M_none 9 = .ok (.if_icmp .lt 7, 3) := by decide +kernel
theorem dM_none_12 : decode c_M_none 12 = .ok (.iconst 1, 1) := by decide +kernel
theorem dM_none_13 : decode c_M_none 13 = .ok (.goto 4, 3) := by decide +kernel
theorem dM_none_16 : decode c_M_none 16 = .ok (.iconst 0, 1) := by decide +kernel
theorem dM_none_17 : decode c_M_none 17 = .ok (.ireturn, 1) := by decide +kernel
abbrev c_M_openSize : ByteArray := prog_12_method_6_code
abbrev y_M_openSize : MethodName := ⟨"LatticeKeysModel", "openSize", "(I)I"⟩
abbrev w_M_openSize : List Cond := Cond.code y_M_openSize c_M_openSize 1 (some .int) :: WG
theorem dM_openSize_0 : decode c_M_openSize 0 = .ok (.iload_n 0, 1) := by decide +kernel
theorem dM_openSize_1 : decode c_M_openSize 1 = .ok (.iconst 3, 1) := by decide +kernel
theorem dM_openSize_2 : decode c_M_openSize 2 = .ok (.if_icmp .ge 10, 3) := by decide +kernel
theorem dM_openSize_5 : decode c_M_openSize 5 = .ok (.iload_n 0, 1) := by decide +kernel
theorem dM_openSize_6 : decode c_M_openSize 6 = .ok (.invokestatic 61, 3) := by decide +kernel
theorem dM_openSize_9 : decode c_M_openSize 9 = .ok (.goto 9, 3) := by decide +kernel
theorem dM_openSize_12 : decode c_M_openSize 12 = .ok (.iload_n 0, 1) := by decide +kernel
theorem dM_openSize_13 : decode c_M_openSize 13 = .ok (.iconst 3, 1) := by decide +kernel
theorem dM_openSize_14 : decode c_M_openSize 14 = .ok (.isub, 1) := by decide +kernel
theorem dM_openSize_15 : decode c_M_openSize 15 = .ok (.invokestatic 65, 3) := by decide +kernel
theorem dM_openSize_18 : decode c_M_openSize 18 = .ok (.ireturn, 1) := by decide +kernel
abbrev c_M_hiddenSize : ByteArray := prog_12_method_7_code
abbrev y_M_hiddenSize : MethodName := ⟨"LatticeKeysModel", "hiddenSize", "(I)I"⟩
abbrev w_M_hiddenSize : List Cond := Cond.code y_M_hiddenSize c_M_hiddenSize 1 (some .int) :: WG
theorem dM_hiddenSize_0 : decode c_M_hiddenSize 0 = .ok (.iload_n 0, 1) := by decide +kernel
theorem dM_hiddenSize_1 : decode c_M_hiddenSize 1 = .ok (.iconst 3, 1) := by decide +kernel
theorem dM_hiddenSize_2 : decode c_M_hiddenSize 2 = .ok (.if_icmp .ge 10, 3) := by decide +kernel
theorem dM_hiddenSize_5 : decode c_M_hiddenSize 5 = .ok (.iload_n 0, 1) := by decide +kernel
theorem dM_hiddenSize_6 : decode c_M_hiddenSize 6 = .ok (.invokestatic 66, 3) := by decide +kernel
theorem dM_hiddenSize_9 : decode c_M_hiddenSize 9 = .ok (.goto 9, 3) := by decide +kernel
theorem dM_hiddenSize_12 : decode c_M_hiddenSize 12 = .ok (.iload_n 0, 1) := by decide +kernel
theorem dM_hiddenSize_13 : decode c_M_hiddenSize 13 = .ok (.iconst 3, 1) := by decide +kernel
theorem dM_hiddenSize_14 : decode c_M_hiddenSize 14 = .ok (.isub, 1) := by decide +kernel
theorem dM_hiddenSize_15 : decode c_M_hiddenSize 15 = .ok (.invokestatic 69, 3) := by decide +kernel
theorem dM_hiddenSize_18 : decode c_M_hiddenSize 18 = .ok (.ireturn, 1) := by decide +kernel
abbrev c_M_size : ByteArray := prog_12_method_17_code
abbrev y_M_size : MethodName := ⟨"LatticeKeysModel", "size", "(IZ)I"⟩
abbrev w_M_size : List Cond := Cond.code y_M_size c_M_size 3 (some .int) :: WG
theorem dM_size_0 : decode c_M_size 0 = .ok (.iload_n 2, 1) := by decide +kernel
theorem dM_size_1 : decode c_M_size 1 = .ok (.ifCond .eq 12, 3) := by decide +kernel
theorem dM_size_4 : decode c_M_size 4 = .ok (.aload_n 0, 1) := by decide +kernel
theorem dM_size_5 : decode c_M_size 5 = .ok (.getfield 31, 3) := by decide +kernel
theorem dM_size_8 : decode c_M_size 8 = .ok (.iload_n 1, 1) := by decide +kernel
theorem dM_size_9 : decode c_M_size 9 = .ok (.iaload, 1) := by decide +kernel
theorem dM_size_10 : decode c_M_size 10 = .ok (.goto 12, 3) := by decide +kernel
theorem dM_size_13 : decode c_M_size 13 = .ok (.aload_n 0, 1) := by decide +kernel
theorem dM_size_14 : decode c_M_size 14 = .ok (.getfield 27, 3) := by decide +kernel
theorem dM_size_17 : decode c_M_size 17 = .ok (.iload_n 1, 1) := by decide +kernel
theorem dM_size_18 : decode c_M_size 18 = .ok (.iaload, 1) := by decide +kernel
theorem dM_size_19 : decode c_M_size 19 = .ok (.invokestatic 95, 3) := by decide +kernel
theorem dM_size_22 : decode c_M_size 22 = .ok (.ireturn, 1) := by decide +kernel
def M_M_none (k : Nat) : Prop := (0 : Nat) = 1
noncomputable def F_M_none (v : Int32) (s : Sto) : Int32 × Sto := if v < 0 then (nI 1, s) else bnd ((s.1 148 3).toNatClampNeg) fun z21 => if v < (nI z21) then bnd (v.toNatClampNeg) fun z22 => (nI 0, s) else (nI 1, s)
set_option maxHeartbeats 8000000 in
set_option maxRecDepth 100000 in
theorem N_M_none (l : Launch) (g : Gd) (sz : Nat) (T : TyN) (s : Sto) (pl : va_W) (hO : okn g T s pl) (hU : inj T) (h0 : Nat) (v : Int32) (tp : Nat) (rs : Nat) (ks : Nat) (k_h0 : T h0 = some 148) (e_tp : s.1 148 1 = nI tp) (e_rs : s.1 148 2 = nI rs) (e_ks : s.1 148 3 = nI ks) (h3 : ks ≤ 8)  : Met l y_M_none w_M_none ({ frames := 0, cells := 0, slots := 0, locals := 0 } : Room) (va_Pc [.ref h0, .int v] (pr (en g) g.1 vcl sz ([] ++ pl))) (va_Qi (fun (r : Int32) (u : (Int32 × Sto) × va_W) => (u.1 = F_M_none v s ∧ r = u.1.1 ∧ frm (M_M_none) s u.1.2 ∧ (u.1.1 = nI 1 ∨ (u.1.1 = nI 0 ∧ ∃ z : Nat, z < ks ∧ v = nI z)) ∧ True) ∧ okn g T u.1.2 u.2) (po g.1 vcl (va_A ([] ++ pl) sz) (fun (u : (Int32 × Sto) × va_W) => [] ++ u.2)) (va_A ([] ++ pl) sz)) 0 0 (va_A ([] ++ pl) sz) := by
  refine mc_entry (cc := c_M_none) (maxL := 2) (ret := (some .boolean)) (by decide) rfl (Nat.le_of_ble_eq_true rfl) ?_
  intro p e s0 m args below meth c ls F hr hlk hnm hsz hP hD hE hA hl
  obtain ⟨hx, hb, hml, hown, hts⟩ := id F
  have hK := hE.1
  generalize va_A ([] ++ pl) sz = A at hD hE hA ⊢
  have hS : va_S A s0.heap s0.heap [] := va_S.rf
  have hl : lv_has ls 2 [(0, .ref h0), (1, .int v)] := hl
  have hR : F_M_none v s = F_M_none v s := rfl
  have hF : frm (M_M_none) s s := frm_rf
  refine lv_iload_n hx hb dM_none_0 rfl (lv_at hl 1 rfl) ?_
  refine lv_if_lt (tgt := 12) hx hb dM_none_1 (by decide) (fun h21 => ?_) (fun h21 => ?_)
  · replace hR := hR.trans (if_pos h21)
    refine lv_iconst (v := nI 1) hx hb dM_none_12 (by decide) ?_
    refine lv_goto (tgt := 17) hx hb dM_none_13 (by decide) ?_
    exact mp_zret hx hb hr hlk rfl hP hD hS ((nI 1, s), pl) ⟨⟨hR.symm, rfl, hF, (Or.inl rfl), trivial⟩, hO⟩ [] rfl rfl rfl (by omega) (by omega) dM_none_17
  · replace hR := hR.trans (if_neg h21)
    refine lv_iload_n hx hb dM_none_4 rfl (lv_at hl 1 rfl) ?_
    refine lv_aload_n hx hb dM_none_5 rfl (lv_at hl 0 rfl) ?_
    refine nw_get (C := "LatticeKeysModel") (TT := T_M) (N := 14) hx hb hts (wg_ft i_M) hown hK hO k_h0 (kn := 148) (ci := 8) (fl := [(0, 0), (0, 0), (0, 0), (0, 0), (3, 149), (3, 150), (3, 151), (3, 152), (3, 161), (3, 170), (3, 171), (3, 172), (3, 184), (3, 225)]) rfl hP rfl 3 (by decide) (hts _ (wg_t kw_1529)) (fun _ h9 => h9) (cd := (0, 0)) rfl dM_none_6 (fun v21 hv21 => ?_)
    obtain rfl := (show v21 = .int (s.1 148 3) from hv21)
    obtain ⟨z21, ez21, hz21, hz22⟩ := cl_of (b := 2147483648) e_ks (by omega) (by decide)
    replace hR := bnd_step hR ez21
    refine mi_as hz21 ?_
    refine lv_icmp_lt (tgt := 16) hx hb dM_none_9 (by decide) (fun h22 => ?_) (fun h22 => ?_)
    · replace hR := hR.trans (if_pos h22)
      obtain ⟨z22, hz23, hv22⟩ := i32_ltc h21 (by omega) h22
      have ez22 : z22 = v.toNatClampNeg := by rw [hv22]; exact (nI_clamp (by omega)).symm
      replace hR := bnd_step hR ez22
      rw [hv22] at hl
      refine lv_iconst (v := nI 0) hx hb dM_none_16 (by decide) ?_
      exact mp_zret hx hb hr hlk rfl hP hD hS ((nI 0, s), pl) ⟨⟨hR.symm, rfl, hF, (Or.inr ⟨rfl, z22, by omega, hv22⟩), trivial⟩, hO⟩ [] rfl rfl rfl (by omega) (by omega) dM_none_17
    · replace hR := hR.trans (if_neg h22)
      refine lv_iconst (v := nI 1) hx hb dM_none_12 (by decide) ?_
      refine lv_goto (tgt := 17) hx hb dM_none_13 (by decide) ?_
      exact mp_zret hx hb hr hlk rfl hP hD hS ((nI 1, s), pl) ⟨⟨hR.symm, rfl, hF, (Or.inl rfl), trivial⟩, hO⟩ [] rfl rfl rfl (by omega) (by omega) dM_none_17
def M_M_openSize_0 (k : Nat) : Prop := (0 : Nat) = 1
noncomputable def F_M_openSize_0 (s : Sto) : Int32 × Sto := bnd (F_ME_openSize_0  s) fun q21 => bnd (q21.1.toNatClampNeg) fun z21 => (nI 800, q21.2)
set_option maxHeartbeats 8000000 in
set_option maxRecDepth 100000 in
theorem N_M_openSize_0 (l : Launch) (g : Gd) (sz : Nat) (T : TyN) (s : Sto) (pl : va_W) (hO : okn g T s pl) (hU : inj T)   : Met l y_M_openSize w_M_openSize ({ frames := 1, cells := 0, slots := 0, locals := 20 } : Room) (va_Pc [.int (nI 0)] (pr (en g) g.1 vcl sz ([] ++ pl))) (va_Qi (fun (r : Int32) (u : (Int32 × Sto) × va_W) => (u.1 = F_M_openSize_0 s ∧ r = u.1.1 ∧ frm (M_M_openSize_0) s u.1.2 ∧ (∃ x : Nat, u.1.1 = nI x ∧ x < 801) ∧ (u.1.1 = nI 800) ∧ True) ∧ okn g T u.1.2 u.2) (po g.1 vcl (va_A ([] ++ pl) sz) (fun (u : (Int32 × Sto) × va_W) => [] ++ u.2)) (va_A ([] ++ pl) sz)) 0 0 (va_A ([] ++ pl) sz) := by
  refine mc_entry (cc := c_M_openSize) (maxL := 1) (ret := (some .int)) (by decide) rfl (Nat.le_of_ble_eq_true rfl) ?_
  intro p e s0 m args below meth c ls F hr hlk hnm hsz hP hD hE hA hl
  obtain ⟨hx, hb, hml, hown, hts⟩ := id F
  have hK := hE.1
  generalize va_A ([] ++ pl) sz = A at hD hE hA ⊢
  have hS : va_S A s0.heap s0.heap [] := va_S.rf
  have hl : lv_has ls 1 [(0, .int (nI 0))] := hl
  have hR : F_M_openSize_0 s = F_M_openSize_0 s := rfl
  have hF : frm (M_M_openSize_0) s s := frm_rf
  refine lv_iload_n hx hb dM_openSize_0 rfl (lv_at hl 0 rfl) ?_
  refine lv_iconst (v := nI 3) hx hb dM_openSize_1 (by decide) ?_
  refine mi_ge (tgt := 12) hx hb dM_openSize_2 (by decide) (by omega) (by omega) (fun h21 => absurd h21 (by omega)) (fun h21 => ?_)
  refine lv_iload_n hx hb dM_openSize_5 rfl (lv_at hl 0 rfl) ?_
  refine mp_i (cx := []) (wr := []) hP hD hS hA [] [] rfl rfl rfl (by decide) (va_runS (As := [.int (nI 0)]) (rest := []) F (N_ME_openSize_0 l g _ T s pl hO hU ) (va_cwS 1 hts (wg_app (wg_c kw_1767 (wg_c kw_1692 (wg_c kw_11 wg_n))) kw_1693) rfl rfl rfl (by decide +kernel) ⟨by decide, by decide⟩) (pp_S (en_ok g) hP hD hS hA hE [] rfl rfl) rfl rfl hl.1 rfl (lv_room (Nat.le_of_ble_eq_true rfl)) dM_openSize_6 ⟨by omega, by omega⟩) (fun r21 u21 H locs hu21 hP hD hS => ?_)
  obtain ⟨q21, pl⟩ := u21
  obtain ⟨⟨eq21, rfl, hFc21, ⟨x21, hx_21, hb_21⟩, hxp21, -⟩, hO⟩ := hu21
  have hO : okn g T q21.2 pl := hO
  have hP : va_P g.1 vcl ([] ++ pl) _ := hP
  have hD : va_D _ ([] ++ pl) := hD
  have hFc21 : frm (M_ME_openSize_0) s q21.2 := hFc21
  have hb_21 : x21 < 801 := hb_21
  replace hR := bnd_step hR eq21
  have hF := frm_tr hF hFc21 (fun k hk => by unfold M_ME_openSize_0 at hk; unfold M_M_openSize_0; omega)
  obtain ⟨z21, ez21, hz21, hz22⟩ := cl_of (b := 2147483648) hx_21 (by omega) (by decide)
  replace hR := bnd_step hR ez21
  refine mi_as hz21 ?_
  have hsz21 : z21 = 800 := (nI_eq (by omega) (by omega)).mp (hz21.symm.trans hxp21)
  subst hsz21
  refine W.widen (k := 0) (n := 0) (by omega) (by omega) ?_
  refine lv_goto (tgt := 18) hx hb dM_openSize_9 (by decide) ?_
  exact mp_iret hx hb hr hlk hP hD hS ((nI 800, q21.2), pl) ⟨⟨hR.symm, rfl, hF, ⟨800, rfl, by omega⟩, rfl, trivial⟩, hO⟩ [] rfl rfl rfl (by omega) (by omega) dM_openSize_18
def M_M_openSize_1 (k : Nat) : Prop := (0 : Nat) = 1
noncomputable def F_M_openSize_1 (s : Sto) : Int32 × Sto := bnd (F_ME_openSize_1  s) fun q21 => bnd (q21.1.toNatClampNeg) fun z21 => (nI 1184, q21.2)
set_option maxHeartbeats 8000000 in
set_option maxRecDepth 100000 in
theorem N_M_openSize_1 (l : Launch) (g : Gd) (sz : Nat) (T : TyN) (s : Sto) (pl : va_W) (hO : okn g T s pl) (hU : inj T)   : Met l y_M_openSize w_M_openSize ({ frames := 1, cells := 0, slots := 0, locals := 20 } : Room) (va_Pc [.int (nI 1)] (pr (en g) g.1 vcl sz ([] ++ pl))) (va_Qi (fun (r : Int32) (u : (Int32 × Sto) × va_W) => (u.1 = F_M_openSize_1 s ∧ r = u.1.1 ∧ frm (M_M_openSize_1) s u.1.2 ∧ (∃ x : Nat, u.1.1 = nI x ∧ x < 1185) ∧ (u.1.1 = nI 1184) ∧ True) ∧ okn g T u.1.2 u.2) (po g.1 vcl (va_A ([] ++ pl) sz) (fun (u : (Int32 × Sto) × va_W) => [] ++ u.2)) (va_A ([] ++ pl) sz)) 0 0 (va_A ([] ++ pl) sz) := by
  refine mc_entry (cc := c_M_openSize) (maxL := 1) (ret := (some .int)) (by decide) rfl (Nat.le_of_ble_eq_true rfl) ?_
  intro p e s0 m args below meth c ls F hr hlk hnm hsz hP hD hE hA hl
  obtain ⟨hx, hb, hml, hown, hts⟩ := id F
  have hK := hE.1
  generalize va_A ([] ++ pl) sz = A at hD hE hA ⊢
  have hS : va_S A s0.heap s0.heap [] := va_S.rf
  have hl : lv_has ls 1 [(0, .int (nI 1))] := hl
  have hR : F_M_openSize_1 s = F_M_openSize_1 s := rfl
  have hF : frm (M_M_openSize_1) s s := frm_rf
  refine lv_iload_n hx hb dM_openSize_0 rfl (lv_at hl 0 rfl) ?_
  refine lv_iconst (v := nI 3) hx hb dM_openSize_1 (by decide) ?_
  refine mi_ge (tgt := 12) hx hb dM_openSize_2 (by decide) (by omega) (by omega) (fun h21 => absurd h21 (by omega)) (fun h21 => ?_)
  refine lv_iload_n hx hb dM_openSize_5 rfl (lv_at hl 0 rfl) ?_
  refine mp_i (cx := []) (wr := []) hP hD hS hA [] [] rfl rfl rfl (by decide) (va_runS (As := [.int (nI 1)]) (rest := []) F (N_ME_openSize_1 l g _ T s pl hO hU ) (va_cwS 1 hts (wg_app (wg_c kw_1767 (wg_c kw_1692 (wg_c kw_11 wg_n))) kw_1693) rfl rfl rfl (by decide +kernel) ⟨by decide, by decide⟩) (pp_S (en_ok g) hP hD hS hA hE [] rfl rfl) rfl rfl hl.1 rfl (lv_room (Nat.le_of_ble_eq_true rfl)) dM_openSize_6 ⟨by omega, by omega⟩) (fun r21 u21 H locs hu21 hP hD hS => ?_)
  obtain ⟨q21, pl⟩ := u21
  obtain ⟨⟨eq21, rfl, hFc21, ⟨x21, hx_21, hb_21⟩, hxp21, -⟩, hO⟩ := hu21
  have hO : okn g T q21.2 pl := hO
  have hP : va_P g.1 vcl ([] ++ pl) _ := hP
  have hD : va_D _ ([] ++ pl) := hD
  have hFc21 : frm (M_ME_openSize_1) s q21.2 := hFc21
  have hb_21 : x21 < 1185 := hb_21
  replace hR := bnd_step hR eq21
  have hF := frm_tr hF hFc21 (fun k hk => by unfold M_ME_openSize_1 at hk; unfold M_M_openSize_1; omega)
  obtain ⟨z21, ez21, hz21, hz22⟩ := cl_of (b := 2147483648) hx_21 (by omega) (by decide)
  replace hR := bnd_step hR ez21
  refine mi_as hz21 ?_
  have hsz21 : z21 = 1184 := (nI_eq (by omega) (by omega)).mp (hz21.symm.trans hxp21)
  subst hsz21
  refine W.widen (k := 0) (n := 0) (by omega) (by omega) ?_
  refine lv_goto (tgt := 18) hx hb dM_openSize_9 (by decide) ?_
  exact mp_iret hx hb hr hlk hP hD hS ((nI 1184, q21.2), pl) ⟨⟨hR.symm, rfl, hF, ⟨1184, rfl, by omega⟩, rfl, trivial⟩, hO⟩ [] rfl rfl rfl (by omega) (by omega) dM_openSize_18
def M_M_openSize_2 (k : Nat) : Prop := (0 : Nat) = 1
noncomputable def F_M_openSize_2 (s : Sto) : Int32 × Sto := bnd (F_ME_openSize_2  s) fun q21 => bnd (q21.1.toNatClampNeg) fun z21 => (nI 1568, q21.2)
set_option maxHeartbeats 8000000 in
set_option maxRecDepth 100000 in
theorem N_M_openSize_2 (l : Launch) (g : Gd) (sz : Nat) (T : TyN) (s : Sto) (pl : va_W) (hO : okn g T s pl) (hU : inj T)   : Met l y_M_openSize w_M_openSize ({ frames := 1, cells := 0, slots := 0, locals := 20 } : Room) (va_Pc [.int (nI 2)] (pr (en g) g.1 vcl sz ([] ++ pl))) (va_Qi (fun (r : Int32) (u : (Int32 × Sto) × va_W) => (u.1 = F_M_openSize_2 s ∧ r = u.1.1 ∧ frm (M_M_openSize_2) s u.1.2 ∧ (∃ x : Nat, u.1.1 = nI x ∧ x < 1569) ∧ (u.1.1 = nI 1568) ∧ True) ∧ okn g T u.1.2 u.2) (po g.1 vcl (va_A ([] ++ pl) sz) (fun (u : (Int32 × Sto) × va_W) => [] ++ u.2)) (va_A ([] ++ pl) sz)) 0 0 (va_A ([] ++ pl) sz) := by
  refine mc_entry (cc := c_M_openSize) (maxL := 1) (ret := (some .int)) (by decide) rfl (Nat.le_of_ble_eq_true rfl) ?_
  intro p e s0 m args below meth c ls F hr hlk hnm hsz hP hD hE hA hl
  obtain ⟨hx, hb, hml, hown, hts⟩ := id F
  have hK := hE.1
  generalize va_A ([] ++ pl) sz = A at hD hE hA ⊢
  have hS : va_S A s0.heap s0.heap [] := va_S.rf
  have hl : lv_has ls 1 [(0, .int (nI 2))] := hl
  have hR : F_M_openSize_2 s = F_M_openSize_2 s := rfl
  have hF : frm (M_M_openSize_2) s s := frm_rf
  refine lv_iload_n hx hb dM_openSize_0 rfl (lv_at hl 0 rfl) ?_
  refine lv_iconst (v := nI 3) hx hb dM_openSize_1 (by decide) ?_
  refine mi_ge (tgt := 12) hx hb dM_openSize_2 (by decide) (by omega) (by omega) (fun h21 => absurd h21 (by omega)) (fun h21 => ?_)
  refine lv_iload_n hx hb dM_openSize_5 rfl (lv_at hl 0 rfl) ?_
  refine mp_i (cx := []) (wr := []) hP hD hS hA [] [] rfl rfl rfl (by decide) (va_runS (As := [.int (nI 2)]) (rest := []) F (N_ME_openSize_2 l g _ T s pl hO hU ) (va_cwS 1 hts (wg_app (wg_c kw_1767 (wg_c kw_1692 (wg_c kw_11 wg_n))) kw_1693) rfl rfl rfl (by decide +kernel) ⟨by decide, by decide⟩) (pp_S (en_ok g) hP hD hS hA hE [] rfl rfl) rfl rfl hl.1 rfl (lv_room (Nat.le_of_ble_eq_true rfl)) dM_openSize_6 ⟨by omega, by omega⟩) (fun r21 u21 H locs hu21 hP hD hS => ?_)
  obtain ⟨q21, pl⟩ := u21
  obtain ⟨⟨eq21, rfl, hFc21, ⟨x21, hx_21, hb_21⟩, hxp21, -⟩, hO⟩ := hu21
  have hO : okn g T q21.2 pl := hO
  have hP : va_P g.1 vcl ([] ++ pl) _ := hP
  have hD : va_D _ ([] ++ pl) := hD
  have hFc21 : frm (M_ME_openSize_2) s q21.2 := hFc21
  have hb_21 : x21 < 1569 := hb_21
  replace hR := bnd_step hR eq21
  have hF := frm_tr hF hFc21 (fun k hk => by unfold M_ME_openSize_2 at hk; unfold M_M_openSize_2; omega)
  obtain ⟨z21, ez21, hz21, hz22⟩ := cl_of (b := 2147483648) hx_21 (by omega) (by decide)
  replace hR := bnd_step hR ez21
  refine mi_as hz21 ?_
  have hsz21 : z21 = 1568 := (nI_eq (by omega) (by omega)).mp (hz21.symm.trans hxp21)
  subst hsz21
  refine W.widen (k := 0) (n := 0) (by omega) (by omega) ?_
  refine lv_goto (tgt := 18) hx hb dM_openSize_9 (by decide) ?_
  exact mp_iret hx hb hr hlk hP hD hS ((nI 1568, q21.2), pl) ⟨⟨hR.symm, rfl, hF, ⟨1568, rfl, by omega⟩, rfl, trivial⟩, hO⟩ [] rfl rfl rfl (by omega) (by omega) dM_openSize_18
def M_M_openSize_3 (k : Nat) : Prop := (0 : Nat) = 1
noncomputable def F_M_openSize_3 (s : Sto) : Int32 × Sto := bnd (F_MH_openSize_0  s) fun q21 => bnd (q21.1.toNatClampNeg) fun z21 => (nI 1312, q21.2)
set_option maxHeartbeats 8000000 in
set_option maxRecDepth 100000 in
theorem N_M_openSize_3 (l : Launch) (g : Gd) (sz : Nat) (T : TyN) (s : Sto) (pl : va_W) (hO : okn g T s pl) (hU : inj T)   : Met l y_M_openSize w_M_openSize ({ frames := 1, cells := 0, slots := 0, locals := 20 } : Room) (va_Pc [.int (nI 3)] (pr (en g) g.1 vcl sz ([] ++ pl))) (va_Qi (fun (r : Int32) (u : (Int32 × Sto) × va_W) => (u.1 = F_M_openSize_3 s ∧ r = u.1.1 ∧ frm (M_M_openSize_3) s u.1.2 ∧ (∃ x : Nat, u.1.1 = nI x ∧ x < 1313) ∧ (u.1.1 = nI 1312) ∧ True) ∧ okn g T u.1.2 u.2) (po g.1 vcl (va_A ([] ++ pl) sz) (fun (u : (Int32 × Sto) × va_W) => [] ++ u.2)) (va_A ([] ++ pl) sz)) 0 0 (va_A ([] ++ pl) sz) := by
  refine mc_entry (cc := c_M_openSize) (maxL := 1) (ret := (some .int)) (by decide) rfl (Nat.le_of_ble_eq_true rfl) ?_
  intro p e s0 m args below meth c ls F hr hlk hnm hsz hP hD hE hA hl
  obtain ⟨hx, hb, hml, hown, hts⟩ := id F
  have hK := hE.1
  generalize va_A ([] ++ pl) sz = A at hD hE hA ⊢
  have hS : va_S A s0.heap s0.heap [] := va_S.rf
  have hl : lv_has ls 1 [(0, .int (nI 3))] := hl
  have hR : F_M_openSize_3 s = F_M_openSize_3 s := rfl
  have hF : frm (M_M_openSize_3) s s := frm_rf
  refine lv_iload_n hx hb dM_openSize_0 rfl (lv_at hl 0 rfl) ?_
  refine lv_iconst (v := nI 3) hx hb dM_openSize_1 (by decide) ?_
  refine mi_ge (tgt := 12) hx hb dM_openSize_2 (by decide) (by omega) (by omega) (fun h21 => ?_) (fun h21 => absurd h21 (by omega))
  refine lv_iload_n hx hb dM_openSize_12 rfl (lv_at hl 0 rfl) ?_
  refine lv_iconst (v := nI 3) hx hb dM_openSize_13 (by decide) ?_
  refine mi_isub hx hb dM_openSize_14 (by omega) ?_
  refine mi_as (show nI (3 - 3) = nI 0 from rfl) ?_
  refine mp_i (cx := []) (wr := []) hP hD hS hA [] [] rfl rfl rfl (by decide) (va_runS (As := [.int (nI 0)]) (rest := []) F (N_MH_openSize_0 l g _ T s pl hO hU ) (va_cwS 1 hts (wg_app (wg_c kw_1768 (wg_c kw_1745 (wg_c kw_13 wg_n))) kw_1746) rfl rfl rfl (by decide +kernel) ⟨by decide, by decide⟩) (pp_S (en_ok g) hP hD hS hA hE [] rfl rfl) rfl rfl hl.1 rfl (lv_room (Nat.le_of_ble_eq_true rfl)) dM_openSize_15 ⟨by omega, by omega⟩) (fun r21 u21 H locs hu21 hP hD hS => ?_)
  obtain ⟨q21, pl⟩ := u21
  obtain ⟨⟨eq21, rfl, hFc21, ⟨x21, hx_21, hb_21⟩, hxp21, -⟩, hO⟩ := hu21
  have hO : okn g T q21.2 pl := hO
  have hP : va_P g.1 vcl ([] ++ pl) _ := hP
  have hD : va_D _ ([] ++ pl) := hD
  have hFc21 : frm (M_MH_openSize_0) s q21.2 := hFc21
  have hb_21 : x21 < 1313 := hb_21
  replace hR := bnd_step hR eq21
  have hF := frm_tr hF hFc21 (fun k hk => by unfold M_MH_openSize_0 at hk; unfold M_M_openSize_3; omega)
  obtain ⟨z21, ez21, hz21, hz22⟩ := cl_of (b := 2147483648) hx_21 (by omega) (by decide)
  replace hR := bnd_step hR ez21
  refine mi_as hz21 ?_
  have hsz21 : z21 = 1312 := (nI_eq (by omega) (by omega)).mp (hz21.symm.trans hxp21)
  subst hsz21
  refine W.widen (k := 0) (n := 0) (by omega) (by omega) ?_
  exact mp_iret hx hb hr hlk hP hD hS ((nI 1312, q21.2), pl) ⟨⟨hR.symm, rfl, hF, ⟨1312, rfl, by omega⟩, rfl, trivial⟩, hO⟩ [] rfl rfl rfl (by omega) (by omega) dM_openSize_18
def M_M_openSize_4 (k : Nat) : Prop := (0 : Nat) = 1
noncomputable def F_M_openSize_4 (s : Sto) : Int32 × Sto := bnd (F_MH_openSize_1  s) fun q21 => bnd (q21.1.toNatClampNeg) fun z21 => (nI 1952, q21.2)
set_option maxHeartbeats 8000000 in
set_option maxRecDepth 100000 in
theorem N_M_openSize_4 (l : Launch) (g : Gd) (sz : Nat) (T : TyN) (s : Sto) (pl : va_W) (hO : okn g T s pl) (hU : inj T)   : Met l y_M_openSize w_M_openSize ({ frames := 1, cells := 0, slots := 0, locals := 20 } : Room) (va_Pc [.int (nI 4)] (pr (en g) g.1 vcl sz ([] ++ pl))) (va_Qi (fun (r : Int32) (u : (Int32 × Sto) × va_W) => (u.1 = F_M_openSize_4 s ∧ r = u.1.1 ∧ frm (M_M_openSize_4) s u.1.2 ∧ (∃ x : Nat, u.1.1 = nI x ∧ x < 1953) ∧ (u.1.1 = nI 1952) ∧ True) ∧ okn g T u.1.2 u.2) (po g.1 vcl (va_A ([] ++ pl) sz) (fun (u : (Int32 × Sto) × va_W) => [] ++ u.2)) (va_A ([] ++ pl) sz)) 0 0 (va_A ([] ++ pl) sz) := by
  refine mc_entry (cc := c_M_openSize) (maxL := 1) (ret := (some .int)) (by decide) rfl (Nat.le_of_ble_eq_true rfl) ?_
  intro p e s0 m args below meth c ls F hr hlk hnm hsz hP hD hE hA hl
  obtain ⟨hx, hb, hml, hown, hts⟩ := id F
  have hK := hE.1
  generalize va_A ([] ++ pl) sz = A at hD hE hA ⊢
  have hS : va_S A s0.heap s0.heap [] := va_S.rf
  have hl : lv_has ls 1 [(0, .int (nI 4))] := hl
  have hR : F_M_openSize_4 s = F_M_openSize_4 s := rfl
  have hF : frm (M_M_openSize_4) s s := frm_rf
  refine lv_iload_n hx hb dM_openSize_0 rfl (lv_at hl 0 rfl) ?_
  refine lv_iconst (v := nI 3) hx hb dM_openSize_1 (by decide) ?_
  refine mi_ge (tgt := 12) hx hb dM_openSize_2 (by decide) (by omega) (by omega) (fun h21 => ?_) (fun h21 => absurd h21 (by omega))
  refine lv_iload_n hx hb dM_openSize_12 rfl (lv_at hl 0 rfl) ?_
  refine lv_iconst (v := nI 3) hx hb dM_openSize_13 (by decide) ?_
  refine mi_isub hx hb dM_openSize_14 (by omega) ?_
  refine mi_as (show nI (4 - 3) = nI 1 from rfl) ?_
  refine mp_i (cx := []) (wr := []) hP hD hS hA [] [] rfl rfl rfl (by decide) (va_runS (As := [.int (nI 1)]) (rest := []) F (N_MH_openSize_1 l g _ T s pl hO hU ) (va_cwS 1 hts (wg_app (wg_c kw_1768 (wg_c kw_1745 (wg_c kw_13 wg_n))) kw_1746) rfl rfl rfl (by decide +kernel) ⟨by decide, by decide⟩) (pp_S (en_ok g) hP hD hS hA hE [] rfl rfl) rfl rfl hl.1 rfl (lv_room (Nat.le_of_ble_eq_true rfl)) dM_openSize_15 ⟨by omega, by omega⟩) (fun r21 u21 H locs hu21 hP hD hS => ?_)
  obtain ⟨q21, pl⟩ := u21
  obtain ⟨⟨eq21, rfl, hFc21, ⟨x21, hx_21, hb_21⟩, hxp21, -⟩, hO⟩ := hu21
  have hO : okn g T q21.2 pl := hO
  have hP : va_P g.1 vcl ([] ++ pl) _ := hP
  have hD : va_D _ ([] ++ pl) := hD
  have hFc21 : frm (M_MH_openSize_1) s q21.2 := hFc21
  have hb_21 : x21 < 1953 := hb_21
  replace hR := bnd_step hR eq21
  have hF := frm_tr hF hFc21 (fun k hk => by unfold M_MH_openSize_1 at hk; unfold M_M_openSize_4; omega)
  obtain ⟨z21, ez21, hz21, hz22⟩ := cl_of (b := 2147483648) hx_21 (by omega) (by decide)
  replace hR := bnd_step hR ez21
  refine mi_as hz21 ?_
  have hsz21 : z21 = 1952 := (nI_eq (by omega) (by omega)).mp (hz21.symm.trans hxp21)
  subst hsz21
  refine W.widen (k := 0) (n := 0) (by omega) (by omega) ?_
  exact mp_iret hx hb hr hlk hP hD hS ((nI 1952, q21.2), pl) ⟨⟨hR.symm, rfl, hF, ⟨1952, rfl, by omega⟩, rfl, trivial⟩, hO⟩ [] rfl rfl rfl (by omega) (by omega) dM_openSize_18
def M_M_openSize_5 (k : Nat) : Prop := (0 : Nat) = 1
noncomputable def F_M_openSize_5 (s : Sto) : Int32 × Sto := bnd (F_MH_openSize_2  s) fun q21 => bnd (q21.1.toNatClampNeg) fun z21 => (nI 2592, q21.2)
set_option maxHeartbeats 8000000 in
set_option maxRecDepth 100000 in
theorem N_M_openSize_5 (l : Launch) (g : Gd) (sz : Nat) (T : TyN) (s : Sto) (pl : va_W) (hO : okn g T s pl) (hU : inj T)   : Met l y_M_openSize w_M_openSize ({ frames := 1, cells := 0, slots := 0, locals := 20 } : Room) (va_Pc [.int (nI 5)] (pr (en g) g.1 vcl sz ([] ++ pl))) (va_Qi (fun (r : Int32) (u : (Int32 × Sto) × va_W) => (u.1 = F_M_openSize_5 s ∧ r = u.1.1 ∧ frm (M_M_openSize_5) s u.1.2 ∧ (∃ x : Nat, u.1.1 = nI x ∧ x < 2593) ∧ (u.1.1 = nI 2592) ∧ True) ∧ okn g T u.1.2 u.2) (po g.1 vcl (va_A ([] ++ pl) sz) (fun (u : (Int32 × Sto) × va_W) => [] ++ u.2)) (va_A ([] ++ pl) sz)) 0 0 (va_A ([] ++ pl) sz) := by
  refine mc_entry (cc := c_M_openSize) (maxL := 1) (ret := (some .int)) (by decide) rfl (Nat.le_of_ble_eq_true rfl) ?_
  intro p e s0 m args below meth c ls F hr hlk hnm hsz hP hD hE hA hl
  obtain ⟨hx, hb, hml, hown, hts⟩ := id F
  have hK := hE.1
  generalize va_A ([] ++ pl) sz = A at hD hE hA ⊢
  have hS : va_S A s0.heap s0.heap [] := va_S.rf
  have hl : lv_has ls 1 [(0, .int (nI 5))] := hl
  have hR : F_M_openSize_5 s = F_M_openSize_5 s := rfl
  have hF : frm (M_M_openSize_5) s s := frm_rf
  refine lv_iload_n hx hb dM_openSize_0 rfl (lv_at hl 0 rfl) ?_
  refine lv_iconst (v := nI 3) hx hb dM_openSize_1 (by decide) ?_
  refine mi_ge (tgt := 12) hx hb dM_openSize_2 (by decide) (by omega) (by omega) (fun h21 => ?_) (fun h21 => absurd h21 (by omega))
  refine lv_iload_n hx hb dM_openSize_12 rfl (lv_at hl 0 rfl) ?_
  refine lv_iconst (v := nI 3) hx hb dM_openSize_13 (by decide) ?_
  refine mi_isub hx hb dM_openSize_14 (by omega) ?_
  refine mi_as (show nI (5 - 3) = nI 2 from rfl) ?_
  refine mp_i (cx := []) (wr := []) hP hD hS hA [] [] rfl rfl rfl (by decide) (va_runS (As := [.int (nI 2)]) (rest := []) F (N_MH_openSize_2 l g _ T s pl hO hU ) (va_cwS 1 hts (wg_app (wg_c kw_1768 (wg_c kw_1745 (wg_c kw_13 wg_n))) kw_1746) rfl rfl rfl (by decide +kernel) ⟨by decide, by decide⟩) (pp_S (en_ok g) hP hD hS hA hE [] rfl rfl) rfl rfl hl.1 rfl (lv_room (Nat.le_of_ble_eq_true rfl)) dM_openSize_15 ⟨by omega, by omega⟩) (fun r21 u21 H locs hu21 hP hD hS => ?_)
  obtain ⟨q21, pl⟩ := u21
  obtain ⟨⟨eq21, rfl, hFc21, ⟨x21, hx_21, hb_21⟩, hxp21, -⟩, hO⟩ := hu21
  have hO : okn g T q21.2 pl := hO
  have hP : va_P g.1 vcl ([] ++ pl) _ := hP
  have hD : va_D _ ([] ++ pl) := hD
  have hFc21 : frm (M_MH_openSize_2) s q21.2 := hFc21
  have hb_21 : x21 < 2593 := hb_21
  replace hR := bnd_step hR eq21
  have hF := frm_tr hF hFc21 (fun k hk => by unfold M_MH_openSize_2 at hk; unfold M_M_openSize_5; omega)
  obtain ⟨z21, ez21, hz21, hz22⟩ := cl_of (b := 2147483648) hx_21 (by omega) (by decide)
  replace hR := bnd_step hR ez21
  refine mi_as hz21 ?_
  have hsz21 : z21 = 2592 := (nI_eq (by omega) (by omega)).mp (hz21.symm.trans hxp21)
  subst hsz21
  refine W.widen (k := 0) (n := 0) (by omega) (by omega) ?_
  exact mp_iret hx hb hr hlk hP hD hS ((nI 2592, q21.2), pl) ⟨⟨hR.symm, rfl, hF, ⟨2592, rfl, by omega⟩, rfl, trivial⟩, hO⟩ [] rfl rfl rfl (by omega) (by omega) dM_openSize_18
def M_M_hiddenSize_0 (k : Nat) : Prop := (0 : Nat) = 1
noncomputable def F_M_hiddenSize_0 (s : Sto) : Int32 × Sto := bnd (F_ME_hiddenSize_0  s) fun q21 => bnd (q21.1.toNatClampNeg) fun z21 => (nI 1632, q21.2)
set_option maxHeartbeats 8000000 in
set_option maxRecDepth 100000 in
theorem N_M_hiddenSize_0 (l : Launch) (g : Gd) (sz : Nat) (T : TyN) (s : Sto) (pl : va_W) (hO : okn g T s pl) (hU : inj T)   : Met l y_M_hiddenSize w_M_hiddenSize ({ frames := 1, cells := 0, slots := 0, locals := 20 } : Room) (va_Pc [.int (nI 0)] (pr (en g) g.1 vcl sz ([] ++ pl))) (va_Qi (fun (r : Int32) (u : (Int32 × Sto) × va_W) => (u.1 = F_M_hiddenSize_0 s ∧ r = u.1.1 ∧ frm (M_M_hiddenSize_0) s u.1.2 ∧ (∃ x : Nat, u.1.1 = nI x ∧ x < 1633) ∧ (u.1.1 = nI 1632) ∧ True) ∧ okn g T u.1.2 u.2) (po g.1 vcl (va_A ([] ++ pl) sz) (fun (u : (Int32 × Sto) × va_W) => [] ++ u.2)) (va_A ([] ++ pl) sz)) 0 0 (va_A ([] ++ pl) sz) := by
  refine mc_entry (cc := c_M_hiddenSize) (maxL := 1) (ret := (some .int)) (by decide) rfl (Nat.le_of_ble_eq_true rfl) ?_
  intro p e s0 m args below meth c ls F hr hlk hnm hsz hP hD hE hA hl
  obtain ⟨hx, hb, hml, hown, hts⟩ := id F
  have hK := hE.1
  generalize va_A ([] ++ pl) sz = A at hD hE hA ⊢
  have hS : va_S A s0.heap s0.heap [] := va_S.rf
  have hl : lv_has ls 1 [(0, .int (nI 0))] := hl
  have hR : F_M_hiddenSize_0 s = F_M_hiddenSize_0 s := rfl
  have hF : frm (M_M_hiddenSize_0) s s := frm_rf
  refine lv_iload_n hx hb dM_hiddenSize_0 rfl (lv_at hl 0 rfl) ?_
  refine lv_iconst (v := nI 3) hx hb dM_hiddenSize_1 (by decide) ?_
  refine mi_ge (tgt := 12) hx hb dM_hiddenSize_2 (by decide) (by omega) (by omega) (fun h21 => absurd h21 (by omega)) (fun h21 => ?_)
  refine lv_iload_n hx hb dM_hiddenSize_5 rfl (lv_at hl 0 rfl) ?_
  refine mp_i (cx := []) (wr := []) hP hD hS hA [] [] rfl rfl rfl (by decide) (va_runS (As := [.int (nI 0)]) (rest := []) F (N_ME_hiddenSize_0 l g _ T s pl hO hU ) (va_cwS 1 hts (wg_app (wg_c kw_1750 (wg_c kw_1751 (wg_c kw_11 wg_n))) kw_1752) rfl rfl rfl (by decide +kernel) ⟨by decide, by decide⟩) (pp_S (en_ok g) hP hD hS hA hE [] rfl rfl) rfl rfl hl.1 rfl (lv_room (Nat.le_of_ble_eq_true rfl)) dM_hiddenSize_6 ⟨by omega, by omega⟩) (fun r21 u21 H locs hu21 hP hD hS => ?_)
  obtain ⟨q21, pl⟩ := u21
  obtain ⟨⟨eq21, rfl, hFc21, ⟨x21, hx_21, hb_21⟩, hxp21, -⟩, hO⟩ := hu21
  have hO : okn g T q21.2 pl := hO
  have hP : va_P g.1 vcl ([] ++ pl) _ := hP
  have hD : va_D _ ([] ++ pl) := hD
  have hFc21 : frm (M_ME_hiddenSize_0) s q21.2 := hFc21
  have hb_21 : x21 < 1633 := hb_21
  replace hR := bnd_step hR eq21
  have hF := frm_tr hF hFc21 (fun k hk => by unfold M_ME_hiddenSize_0 at hk; unfold M_M_hiddenSize_0; omega)
  obtain ⟨z21, ez21, hz21, hz22⟩ := cl_of (b := 2147483648) hx_21 (by omega) (by decide)
  replace hR := bnd_step hR ez21
  refine mi_as hz21 ?_
  have hsz21 : z21 = 1632 := (nI_eq (by omega) (by omega)).mp (hz21.symm.trans hxp21)
  subst hsz21
  refine W.widen (k := 0) (n := 0) (by omega) (by omega) ?_
  refine lv_goto (tgt := 18) hx hb dM_hiddenSize_9 (by decide) ?_
  exact mp_iret hx hb hr hlk hP hD hS ((nI 1632, q21.2), pl) ⟨⟨hR.symm, rfl, hF, ⟨1632, rfl, by omega⟩, rfl, trivial⟩, hO⟩ [] rfl rfl rfl (by omega) (by omega) dM_hiddenSize_18
def M_M_hiddenSize_1 (k : Nat) : Prop := (0 : Nat) = 1
noncomputable def F_M_hiddenSize_1 (s : Sto) : Int32 × Sto := bnd (F_ME_hiddenSize_1  s) fun q21 => bnd (q21.1.toNatClampNeg) fun z21 => (nI 2400, q21.2)
set_option maxHeartbeats 8000000 in
set_option maxRecDepth 100000 in
theorem N_M_hiddenSize_1 (l : Launch) (g : Gd) (sz : Nat) (T : TyN) (s : Sto) (pl : va_W) (hO : okn g T s pl) (hU : inj T)   : Met l y_M_hiddenSize w_M_hiddenSize ({ frames := 1, cells := 0, slots := 0, locals := 20 } : Room) (va_Pc [.int (nI 1)] (pr (en g) g.1 vcl sz ([] ++ pl))) (va_Qi (fun (r : Int32) (u : (Int32 × Sto) × va_W) => (u.1 = F_M_hiddenSize_1 s ∧ r = u.1.1 ∧ frm (M_M_hiddenSize_1) s u.1.2 ∧ (∃ x : Nat, u.1.1 = nI x ∧ x < 2401) ∧ (u.1.1 = nI 2400) ∧ True) ∧ okn g T u.1.2 u.2) (po g.1 vcl (va_A ([] ++ pl) sz) (fun (u : (Int32 × Sto) × va_W) => [] ++ u.2)) (va_A ([] ++ pl) sz)) 0 0 (va_A ([] ++ pl) sz) := by
  refine mc_entry (cc := c_M_hiddenSize) (maxL := 1) (ret := (some .int)) (by decide) rfl (Nat.le_of_ble_eq_true rfl) ?_
  intro p e s0 m args below meth c ls F hr hlk hnm hsz hP hD hE hA hl
  obtain ⟨hx, hb, hml, hown, hts⟩ := id F
  have hK := hE.1
  generalize va_A ([] ++ pl) sz = A at hD hE hA ⊢
  have hS : va_S A s0.heap s0.heap [] := va_S.rf
  have hl : lv_has ls 1 [(0, .int (nI 1))] := hl
  have hR : F_M_hiddenSize_1 s = F_M_hiddenSize_1 s := rfl
  have hF : frm (M_M_hiddenSize_1) s s := frm_rf
  refine lv_iload_n hx hb dM_hiddenSize_0 rfl (lv_at hl 0 rfl) ?_
  refine lv_iconst (v := nI 3) hx hb dM_hiddenSize_1 (by decide) ?_
  refine mi_ge (tgt := 12) hx hb dM_hiddenSize_2 (by decide) (by omega) (by omega) (fun h21 => absurd h21 (by omega)) (fun h21 => ?_)
  refine lv_iload_n hx hb dM_hiddenSize_5 rfl (lv_at hl 0 rfl) ?_
  refine mp_i (cx := []) (wr := []) hP hD hS hA [] [] rfl rfl rfl (by decide) (va_runS (As := [.int (nI 1)]) (rest := []) F (N_ME_hiddenSize_1 l g _ T s pl hO hU ) (va_cwS 1 hts (wg_app (wg_c kw_1750 (wg_c kw_1751 (wg_c kw_11 wg_n))) kw_1752) rfl rfl rfl (by decide +kernel) ⟨by decide, by decide⟩) (pp_S (en_ok g) hP hD hS hA hE [] rfl rfl) rfl rfl hl.1 rfl (lv_room (Nat.le_of_ble_eq_true rfl)) dM_hiddenSize_6 ⟨by omega, by omega⟩) (fun r21 u21 H locs hu21 hP hD hS => ?_)
  obtain ⟨q21, pl⟩ := u21
  obtain ⟨⟨eq21, rfl, hFc21, ⟨x21, hx_21, hb_21⟩, hxp21, -⟩, hO⟩ := hu21
  have hO : okn g T q21.2 pl := hO
  have hP : va_P g.1 vcl ([] ++ pl) _ := hP
  have hD : va_D _ ([] ++ pl) := hD
  have hFc21 : frm (M_ME_hiddenSize_1) s q21.2 := hFc21
  have hb_21 : x21 < 2401 := hb_21
  replace hR := bnd_step hR eq21
  have hF := frm_tr hF hFc21 (fun k hk => by unfold M_ME_hiddenSize_1 at hk; unfold M_M_hiddenSize_1; omega)
  obtain ⟨z21, ez21, hz21, hz22⟩ := cl_of (b := 2147483648) hx_21 (by omega) (by decide)
  replace hR := bnd_step hR ez21
  refine mi_as hz21 ?_
  have hsz21 : z21 = 2400 := (nI_eq (by omega) (by omega)).mp (hz21.symm.trans hxp21)
  subst hsz21
  refine W.widen (k := 0) (n := 0) (by omega) (by omega) ?_
  refine lv_goto (tgt := 18) hx hb dM_hiddenSize_9 (by decide) ?_
  exact mp_iret hx hb hr hlk hP hD hS ((nI 2400, q21.2), pl) ⟨⟨hR.symm, rfl, hF, ⟨2400, rfl, by omega⟩, rfl, trivial⟩, hO⟩ [] rfl rfl rfl (by omega) (by omega) dM_hiddenSize_18
def M_M_hiddenSize_2 (k : Nat) : Prop := (0 : Nat) = 1
noncomputable def F_M_hiddenSize_2 (s : Sto) : Int32 × Sto := bnd (F_ME_hiddenSize_2  s) fun q21 => bnd (q21.1.toNatClampNeg) fun z21 => (nI 3168, q21.2)
set_option maxHeartbeats 8000000 in
set_option maxRecDepth 100000 in
theorem N_M_hiddenSize_2 (l : Launch) (g : Gd) (sz : Nat) (T : TyN) (s : Sto) (pl : va_W) (hO : okn g T s pl) (hU : inj T)   : Met l y_M_hiddenSize w_M_hiddenSize ({ frames := 1, cells := 0, slots := 0, locals := 20 } : Room) (va_Pc [.int (nI 2)] (pr (en g) g.1 vcl sz ([] ++ pl))) (va_Qi (fun (r : Int32) (u : (Int32 × Sto) × va_W) => (u.1 = F_M_hiddenSize_2 s ∧ r = u.1.1 ∧ frm (M_M_hiddenSize_2) s u.1.2 ∧ (∃ x : Nat, u.1.1 = nI x ∧ x < 3169) ∧ (u.1.1 = nI 3168) ∧ True) ∧ okn g T u.1.2 u.2) (po g.1 vcl (va_A ([] ++ pl) sz) (fun (u : (Int32 × Sto) × va_W) => [] ++ u.2)) (va_A ([] ++ pl) sz)) 0 0 (va_A ([] ++ pl) sz) := by
  refine mc_entry (cc := c_M_hiddenSize) (maxL := 1) (ret := (some .int)) (by decide) rfl (Nat.le_of_ble_eq_true rfl) ?_
  intro p e s0 m args below meth c ls F hr hlk hnm hsz hP hD hE hA hl
  obtain ⟨hx, hb, hml, hown, hts⟩ := id F
  have hK := hE.1
  generalize va_A ([] ++ pl) sz = A at hD hE hA ⊢
  have hS : va_S A s0.heap s0.heap [] := va_S.rf
  have hl : lv_has ls 1 [(0, .int (nI 2))] := hl
  have hR : F_M_hiddenSize_2 s = F_M_hiddenSize_2 s := rfl
  have hF : frm (M_M_hiddenSize_2) s s := frm_rf
  refine lv_iload_n hx hb dM_hiddenSize_0 rfl (lv_at hl 0 rfl) ?_
  refine lv_iconst (v := nI 3) hx hb dM_hiddenSize_1 (by decide) ?_
  refine mi_ge (tgt := 12) hx hb dM_hiddenSize_2 (by decide) (by omega) (by omega) (fun h21 => absurd h21 (by omega)) (fun h21 => ?_)
  refine lv_iload_n hx hb dM_hiddenSize_5 rfl (lv_at hl 0 rfl) ?_
  refine mp_i (cx := []) (wr := []) hP hD hS hA [] [] rfl rfl rfl (by decide) (va_runS (As := [.int (nI 2)]) (rest := []) F (N_ME_hiddenSize_2 l g _ T s pl hO hU ) (va_cwS 1 hts (wg_app (wg_c kw_1750 (wg_c kw_1751 (wg_c kw_11 wg_n))) kw_1752) rfl rfl rfl (by decide +kernel) ⟨by decide, by decide⟩) (pp_S (en_ok g) hP hD hS hA hE [] rfl rfl) rfl rfl hl.1 rfl (lv_room (Nat.le_of_ble_eq_true rfl)) dM_hiddenSize_6 ⟨by omega, by omega⟩) (fun r21 u21 H locs hu21 hP hD hS => ?_)
  obtain ⟨q21, pl⟩ := u21
  obtain ⟨⟨eq21, rfl, hFc21, ⟨x21, hx_21, hb_21⟩, hxp21, -⟩, hO⟩ := hu21
  have hO : okn g T q21.2 pl := hO
  have hP : va_P g.1 vcl ([] ++ pl) _ := hP
  have hD : va_D _ ([] ++ pl) := hD
  have hFc21 : frm (M_ME_hiddenSize_2) s q21.2 := hFc21
  have hb_21 : x21 < 3169 := hb_21
  replace hR := bnd_step hR eq21
  have hF := frm_tr hF hFc21 (fun k hk => by unfold M_ME_hiddenSize_2 at hk; unfold M_M_hiddenSize_2; omega)
  obtain ⟨z21, ez21, hz21, hz22⟩ := cl_of (b := 2147483648) hx_21 (by omega) (by decide)
  replace hR := bnd_step hR ez21
  refine mi_as hz21 ?_
  have hsz21 : z21 = 3168 := (nI_eq (by omega) (by omega)).mp (hz21.symm.trans hxp21)
  subst hsz21
  refine W.widen (k := 0) (n := 0) (by omega) (by omega) ?_
  refine lv_goto (tgt := 18) hx hb dM_hiddenSize_9 (by decide) ?_
  exact mp_iret hx hb hr hlk hP hD hS ((nI 3168, q21.2), pl) ⟨⟨hR.symm, rfl, hF, ⟨3168, rfl, by omega⟩, rfl, trivial⟩, hO⟩ [] rfl rfl rfl (by omega) (by omega) dM_hiddenSize_18
def M_M_hiddenSize_3 (k : Nat) : Prop := (0 : Nat) = 1
noncomputable def F_M_hiddenSize_3 (s : Sto) : Int32 × Sto := bnd (F_MH_hiddenSize_0  s) fun q21 => bnd (q21.1.toNatClampNeg) fun z21 => (nI 2560, q21.2)
set_option maxHeartbeats 8000000 in
set_option maxRecDepth 100000 in
theorem N_M_hiddenSize_3 (l : Launch) (g : Gd) (sz : Nat) (T : TyN) (s : Sto) (pl : va_W) (hO : okn g T s pl) (hU : inj T)   : Met l y_M_hiddenSize w_M_hiddenSize ({ frames := 1, cells := 0, slots := 0, locals := 20 } : Room) (va_Pc [.int (nI 3)] (pr (en g) g.1 vcl sz ([] ++ pl))) (va_Qi (fun (r : Int32) (u : (Int32 × Sto) × va_W) => (u.1 = F_M_hiddenSize_3 s ∧ r = u.1.1 ∧ frm (M_M_hiddenSize_3) s u.1.2 ∧ (∃ x : Nat, u.1.1 = nI x ∧ x < 2561) ∧ (u.1.1 = nI 2560) ∧ True) ∧ okn g T u.1.2 u.2) (po g.1 vcl (va_A ([] ++ pl) sz) (fun (u : (Int32 × Sto) × va_W) => [] ++ u.2)) (va_A ([] ++ pl) sz)) 0 0 (va_A ([] ++ pl) sz) := by
  refine mc_entry (cc := c_M_hiddenSize) (maxL := 1) (ret := (some .int)) (by decide) rfl (Nat.le_of_ble_eq_true rfl) ?_
  intro p e s0 m args below meth c ls F hr hlk hnm hsz hP hD hE hA hl
  obtain ⟨hx, hb, hml, hown, hts⟩ := id F
  have hK := hE.1
  generalize va_A ([] ++ pl) sz = A at hD hE hA ⊢
  have hS : va_S A s0.heap s0.heap [] := va_S.rf
  have hl : lv_has ls 1 [(0, .int (nI 3))] := hl
  have hR : F_M_hiddenSize_3 s = F_M_hiddenSize_3 s := rfl
  have hF : frm (M_M_hiddenSize_3) s s := frm_rf
  refine lv_iload_n hx hb dM_hiddenSize_0 rfl (lv_at hl 0 rfl) ?_
  refine lv_iconst (v := nI 3) hx hb dM_hiddenSize_1 (by decide) ?_
  refine mi_ge (tgt := 12) hx hb dM_hiddenSize_2 (by decide) (by omega) (by omega) (fun h21 => ?_) (fun h21 => absurd h21 (by omega))
  refine lv_iload_n hx hb dM_hiddenSize_12 rfl (lv_at hl 0 rfl) ?_
  refine lv_iconst (v := nI 3) hx hb dM_hiddenSize_13 (by decide) ?_
  refine mi_isub hx hb dM_hiddenSize_14 (by omega) ?_
  refine mi_as (show nI (3 - 3) = nI 0 from rfl) ?_
  refine mp_i (cx := []) (wr := []) hP hD hS hA [] [] rfl rfl rfl (by decide) (va_runS (As := [.int (nI 0)]) (rest := []) F (N_MH_hiddenSize_0 l g _ T s pl hO hU ) (va_cwS 1 hts (wg_app (wg_c kw_1753 (wg_c kw_1754 (wg_c kw_13 wg_n))) kw_1755) rfl rfl rfl (by decide +kernel) ⟨by decide, by decide⟩) (pp_S (en_ok g) hP hD hS hA hE [] rfl rfl) rfl rfl hl.1 rfl (lv_room (Nat.le_of_ble_eq_true rfl)) dM_hiddenSize_15 ⟨by omega, by omega⟩) (fun r21 u21 H locs hu21 hP hD hS => ?_)
  obtain ⟨q21, pl⟩ := u21
  obtain ⟨⟨eq21, rfl, hFc21, ⟨x21, hx_21, hb_21⟩, hxp21, -⟩, hO⟩ := hu21
  have hO : okn g T q21.2 pl := hO
  have hP : va_P g.1 vcl ([] ++ pl) _ := hP
  have hD : va_D _ ([] ++ pl) := hD
  have hFc21 : frm (M_MH_hiddenSize_0) s q21.2 := hFc21
  have hb_21 : x21 < 2561 := hb_21
  replace hR := bnd_step hR eq21
  have hF := frm_tr hF hFc21 (fun k hk => by unfold M_MH_hiddenSize_0 at hk; unfold M_M_hiddenSize_3; omega)
  obtain ⟨z21, ez21, hz21, hz22⟩ := cl_of (b := 2147483648) hx_21 (by omega) (by decide)
  replace hR := bnd_step hR ez21
  refine mi_as hz21 ?_
  have hsz21 : z21 = 2560 := (nI_eq (by omega) (by omega)).mp (hz21.symm.trans hxp21)
  subst hsz21
  refine W.widen (k := 0) (n := 0) (by omega) (by omega) ?_
  exact mp_iret hx hb hr hlk hP hD hS ((nI 2560, q21.2), pl) ⟨⟨hR.symm, rfl, hF, ⟨2560, rfl, by omega⟩, rfl, trivial⟩, hO⟩ [] rfl rfl rfl (by omega) (by omega) dM_hiddenSize_18
def M_M_hiddenSize_4 (k : Nat) : Prop := (0 : Nat) = 1
noncomputable def F_M_hiddenSize_4 (s : Sto) : Int32 × Sto := bnd (F_MH_hiddenSize_1  s) fun q21 => bnd (q21.1.toNatClampNeg) fun z21 => (nI 4032, q21.2)
set_option maxHeartbeats 8000000 in
set_option maxRecDepth 100000 in
theorem N_M_hiddenSize_4 (l : Launch) (g : Gd) (sz : Nat) (T : TyN) (s : Sto) (pl : va_W) (hO : okn g T s pl) (hU : inj T)   : Met l y_M_hiddenSize w_M_hiddenSize ({ frames := 1, cells := 0, slots := 0, locals := 20 } : Room) (va_Pc [.int (nI 4)] (pr (en g) g.1 vcl sz ([] ++ pl))) (va_Qi (fun (r : Int32) (u : (Int32 × Sto) × va_W) => (u.1 = F_M_hiddenSize_4 s ∧ r = u.1.1 ∧ frm (M_M_hiddenSize_4) s u.1.2 ∧ (∃ x : Nat, u.1.1 = nI x ∧ x < 4033) ∧ (u.1.1 = nI 4032) ∧ True) ∧ okn g T u.1.2 u.2) (po g.1 vcl (va_A ([] ++ pl) sz) (fun (u : (Int32 × Sto) × va_W) => [] ++ u.2)) (va_A ([] ++ pl) sz)) 0 0 (va_A ([] ++ pl) sz) := by
  refine mc_entry (cc := c_M_hiddenSize) (maxL := 1) (ret := (some .int)) (by decide) rfl (Nat.le_of_ble_eq_true rfl) ?_
  intro p e s0 m args below meth c ls F hr hlk hnm hsz hP hD hE hA hl
  obtain ⟨hx, hb, hml, hown, hts⟩ := id F
  have hK := hE.1
  generalize va_A ([] ++ pl) sz = A at hD hE hA ⊢
  have hS : va_S A s0.heap s0.heap [] := va_S.rf
  have hl : lv_has ls 1 [(0, .int (nI 4))] := hl
  have hR : F_M_hiddenSize_4 s = F_M_hiddenSize_4 s := rfl
  have hF : frm (M_M_hiddenSize_4) s s := frm_rf
  refine lv_iload_n hx hb dM_hiddenSize_0 rfl (lv_at hl 0 rfl) ?_
  refine lv_iconst (v := nI 3) hx hb dM_hiddenSize_1 (by decide) ?_
  refine mi_ge (tgt := 12) hx hb dM_hiddenSize_2 (by decide) (by omega) (by omega) (fun h21 => ?_) (fun h21 => absurd h21 (by omega))
  refine lv_iload_n hx hb dM_hiddenSize_12 rfl (lv_at hl 0 rfl) ?_
  refine lv_iconst (v := nI 3) hx hb dM_hiddenSize_13 (by decide) ?_
  refine mi_isub hx hb dM_hiddenSize_14 (by omega) ?_
  refine mi_as (show nI (4 - 3) = nI 1 from rfl) ?_
  refine mp_i (cx := []) (wr := []) hP hD hS hA [] [] rfl rfl rfl (by decide) (va_runS (As := [.int (nI 1)]) (rest := []) F (N_MH_hiddenSize_1 l g _ T s pl hO hU ) (va_cwS 1 hts (wg_app (wg_c kw_1753 (wg_c kw_1754 (wg_c kw_13 wg_n))) kw_1755) rfl rfl rfl (by decide +kernel) ⟨by decide, by decide⟩) (pp_S (en_ok g) hP hD hS hA hE [] rfl rfl) rfl rfl hl.1 rfl (lv_room (Nat.le_of_ble_eq_true rfl)) dM_hiddenSize_15 ⟨by omega, by omega⟩) (fun r21 u21 H locs hu21 hP hD hS => ?_)
  obtain ⟨q21, pl⟩ := u21
  obtain ⟨⟨eq21, rfl, hFc21, ⟨x21, hx_21, hb_21⟩, hxp21, -⟩, hO⟩ := hu21
  have hO : okn g T q21.2 pl := hO
  have hP : va_P g.1 vcl ([] ++ pl) _ := hP
  have hD : va_D _ ([] ++ pl) := hD
  have hFc21 : frm (M_MH_hiddenSize_1) s q21.2 := hFc21
  have hb_21 : x21 < 4033 := hb_21
  replace hR := bnd_step hR eq21
  have hF := frm_tr hF hFc21 (fun k hk => by unfold M_MH_hiddenSize_1 at hk; unfold M_M_hiddenSize_4; omega)
  obtain ⟨z21, ez21, hz21, hz22⟩ := cl_of (b := 2147483648) hx_21 (by omega) (by decide)
  replace hR := bnd_step hR ez21
  refine mi_as hz21 ?_
  have hsz21 : z21 = 4032 := (nI_eq (by omega) (by omega)).mp (hz21.symm.trans hxp21)
  subst hsz21
  refine W.widen (k := 0) (n := 0) (by omega) (by omega) ?_
  exact mp_iret hx hb hr hlk hP hD hS ((nI 4032, q21.2), pl) ⟨⟨hR.symm, rfl, hF, ⟨4032, rfl, by omega⟩, rfl, trivial⟩, hO⟩ [] rfl rfl rfl (by omega) (by omega) dM_hiddenSize_18
def M_M_hiddenSize_5 (k : Nat) : Prop := (0 : Nat) = 1
noncomputable def F_M_hiddenSize_5 (s : Sto) : Int32 × Sto := bnd (F_MH_hiddenSize_2  s) fun q21 => bnd (q21.1.toNatClampNeg) fun z21 => (nI 4896, q21.2)
set_option maxHeartbeats 8000000 in
set_option maxRecDepth 100000 in
theorem N_M_hiddenSize_5 (l : Launch) (g : Gd) (sz : Nat) (T : TyN) (s : Sto) (pl : va_W) (hO : okn g T s pl) (hU : inj T)   : Met l y_M_hiddenSize w_M_hiddenSize ({ frames := 1, cells := 0, slots := 0, locals := 20 } : Room) (va_Pc [.int (nI 5)] (pr (en g) g.1 vcl sz ([] ++ pl))) (va_Qi (fun (r : Int32) (u : (Int32 × Sto) × va_W) => (u.1 = F_M_hiddenSize_5 s ∧ r = u.1.1 ∧ frm (M_M_hiddenSize_5) s u.1.2 ∧ (∃ x : Nat, u.1.1 = nI x ∧ x < 4897) ∧ (u.1.1 = nI 4896) ∧ True) ∧ okn g T u.1.2 u.2) (po g.1 vcl (va_A ([] ++ pl) sz) (fun (u : (Int32 × Sto) × va_W) => [] ++ u.2)) (va_A ([] ++ pl) sz)) 0 0 (va_A ([] ++ pl) sz) := by
  refine mc_entry (cc := c_M_hiddenSize) (maxL := 1) (ret := (some .int)) (by decide) rfl (Nat.le_of_ble_eq_true rfl) ?_
  intro p e s0 m args below meth c ls F hr hlk hnm hsz hP hD hE hA hl
  obtain ⟨hx, hb, hml, hown, hts⟩ := id F
  have hK := hE.1
  generalize va_A ([] ++ pl) sz = A at hD hE hA ⊢
  have hS : va_S A s0.heap s0.heap [] := va_S.rf
  have hl : lv_has ls 1 [(0, .int (nI 5))] := hl
  have hR : F_M_hiddenSize_5 s = F_M_hiddenSize_5 s := rfl
  have hF : frm (M_M_hiddenSize_5) s s := frm_rf
  refine lv_iload_n hx hb dM_hiddenSize_0 rfl (lv_at hl 0 rfl) ?_
  refine lv_iconst (v := nI 3) hx hb dM_hiddenSize_1 (by decide) ?_
  refine mi_ge (tgt := 12) hx hb dM_hiddenSize_2 (by decide) (by omega) (by omega) (fun h21 => ?_) (fun h21 => absurd h21 (by omega))
  refine lv_iload_n hx hb dM_hiddenSize_12 rfl (lv_at hl 0 rfl) ?_
  refine lv_iconst (v := nI 3) hx hb dM_hiddenSize_13 (by decide) ?_
  refine mi_isub hx hb dM_hiddenSize_14 (by omega) ?_
  refine mi_as (show nI (5 - 3) = nI 2 from rfl) ?_
  refine mp_i (cx := []) (wr := []) hP hD hS hA [] [] rfl rfl rfl (by decide) (va_runS (As := [.int (nI 2)]) (rest := []) F (N_MH_hiddenSize_2 l g _ T s pl hO hU ) (va_cwS 1 hts (wg_app (wg_c kw_1753 (wg_c kw_1754 (wg_c kw_13 wg_n))) kw_1755) rfl rfl rfl (by decide +kernel) ⟨by decide, by decide⟩) (pp_S (en_ok g) hP hD hS hA hE [] rfl rfl) rfl rfl hl.1 rfl (lv_room (Nat.le_of_ble_eq_true rfl)) dM_hiddenSize_15 ⟨by omega, by omega⟩) (fun r21 u21 H locs hu21 hP hD hS => ?_)
  obtain ⟨q21, pl⟩ := u21
  obtain ⟨⟨eq21, rfl, hFc21, ⟨x21, hx_21, hb_21⟩, hxp21, -⟩, hO⟩ := hu21
  have hO : okn g T q21.2 pl := hO
  have hP : va_P g.1 vcl ([] ++ pl) _ := hP
  have hD : va_D _ ([] ++ pl) := hD
  have hFc21 : frm (M_MH_hiddenSize_2) s q21.2 := hFc21
  have hb_21 : x21 < 4897 := hb_21
  replace hR := bnd_step hR eq21
  have hF := frm_tr hF hFc21 (fun k hk => by unfold M_MH_hiddenSize_2 at hk; unfold M_M_hiddenSize_5; omega)
  obtain ⟨z21, ez21, hz21, hz22⟩ := cl_of (b := 2147483648) hx_21 (by omega) (by decide)
  replace hR := bnd_step hR ez21
  refine mi_as hz21 ?_
  have hsz21 : z21 = 4896 := (nI_eq (by omega) (by omega)).mp (hz21.symm.trans hxp21)
  subst hsz21
  refine W.widen (k := 0) (n := 0) (by omega) (by omega) ?_
  exact mp_iret hx hb hr hlk hP hD hS ((nI 4896, q21.2), pl) ⟨⟨hR.symm, rfl, hF, ⟨4896, rfl, by omega⟩, rfl, trivial⟩, hO⟩ [] rfl rfl rfl (by omega) (by omega) dM_hiddenSize_18
def M_M_size (k : Nat) : Prop := (0 : Nat) = 1
noncomputable def F_M_size (k : Nat) (sc : Int32) (s : Sto) : Int32 × Sto := if sc = 0 then if (s.1 170 k) = nI 0 then bnd (F_M_openSize_0  s) fun q21 => bnd (q21.1.toNatClampNeg) fun z21 => (nI 800, q21.2) else if (s.1 170 k) = nI 1 then bnd (F_M_openSize_1  s) fun q22 => bnd (q22.1.toNatClampNeg) fun z22 => (nI 1184, q22.2) else if (s.1 170 k) = nI 2 then bnd (F_M_openSize_2  s) fun q23 => bnd (q23.1.toNatClampNeg) fun z23 => (nI 1568, q23.2) else if (s.1 170 k) = nI 3 then bnd (F_M_openSize_3  s) fun q24 => bnd (q24.1.toNatClampNeg) fun z24 => (nI 1312, q24.2) else if (s.1 170 k) = nI 4 then bnd (F_M_openSize_4  s) fun q25 => bnd (q25.1.toNatClampNeg) fun z25 => (nI 1952, q25.2) else bnd (F_M_openSize_5  s) fun q26 => bnd (q26.1.toNatClampNeg) fun z26 => (nI 2592, q26.2) else bnd ((s.1 171 k).toNatClampNeg) fun z27 => (nI z27, s)
set_option maxHeartbeats 8000000 in
set_option maxRecDepth 100000 in
theorem N_M_size (l : Launch) (g : Gd) (sz : Nat) (T : TyN) (s : Sto) (pl : va_W) (hO : okn g T s pl) (hU : inj T) (h0 : Nat) (k : Nat) (sc : Int32) (tp : Nat) (rs : Nat) (ks : Nat) (k_h0 : T h0 = some 148) (e_tp : s.1 148 1 = nI tp) (e_rs : s.1 148 2 = nI rs) (e_ks : s.1 148 3 = nI ks) (hk : k < ks) (h3 : ks ≤ 8) (qst : SETS ks (s.1 170)) (qhd : HIDS ks (s.1 171))  : Met l y_M_size w_M_size ({ frames := 2, cells := 0, slots := 0, locals := 40 } : Room) (va_Pc [.ref h0, .int (nI k), .int sc] (pr (en g) g.1 vcl sz ([] ++ pl))) (va_Qi (fun (r : Int32) (u : (Int32 × Sto) × va_W) => (u.1 = F_M_size k sc s ∧ r = u.1.1 ∧ frm (M_M_size) s u.1.2 ∧ (∃ x : Nat, u.1.1 = nI x ∧ x < 4897) ∧ (sc = 0 → ∃ x : Nat, u.1.1 = nI x ∧ x ≤ 2592) ∧ True) ∧ okn g T u.1.2 u.2) (po g.1 vcl (va_A ([] ++ pl) sz) (fun (u : (Int32 × Sto) × va_W) => [] ++ u.2)) (va_A ([] ++ pl) sz)) 0 0 (va_A ([] ++ pl) sz) := by
  refine mc_entry (cc := c_M_size) (maxL := 3) (ret := (some .int)) (by decide) rfl (Nat.le_of_ble_eq_true rfl) ?_
  intro p e s0 m args below meth c ls F hr hlk hnm hsz hP hD hE hA hl
  obtain ⟨hx, hb, hml, hown, hts⟩ := id F
  have hK := hE.1
  generalize va_A ([] ++ pl) sz = A at hD hE hA ⊢
  have hS : va_S A s0.heap s0.heap [] := va_S.rf
  have hl : lv_has ls 3 [(0, .ref h0), (1, .int (nI k)), (2, .int sc)] := hl
  have hR : F_M_size k sc s = F_M_size k sc s := rfl
  have hF : frm (M_M_size) s s := frm_rf
  refine lv_iload_n hx hb dM_size_0 rfl (lv_at hl 2 rfl) ?_
  refine lv_if_eq (tgt := 13) hx hb dM_size_1 (by decide) (fun h21 => ?_) (fun h21 => ?_)
  · replace hR := hR.trans (if_pos h21)
    refine lv_aload_n hx hb dM_size_13 rfl (lv_at hl 0 rfl) ?_
    refine nw_get (C := "LatticeKeysModel") (TT := T_M) (N := 14) hx hb hts (wg_ft i_M) hown hK hO k_h0 (kn := 148) (ci := 8) (fl := [(0, 0), (0, 0), (0, 0), (0, 0), (3, 149), (3, 150), (3, 151), (3, 152), (3, 161), (3, 170), (3, 171), (3, 172), (3, 184), (3, 225)]) rfl hP rfl 9 (by decide) (hts _ (wg_t kw_1535)) (fun _ h9 => h9) (cd := (3, 170)) rfl dM_size_14 (fun v21 hv21 => ?_)
    obtain ⟨r21, rfl, kr21⟩ := (show ∃ r : Nat, v21 = .ref r ∧ T r = some 170 from hv21)
    refine lv_iload_n hx hb dM_size_17 rfl (lv_at hl 1 rfl) ?_
    refine nw_iald hx hb hK hO kr21 (k := 170) rfl hP (by omega) (by omega) dM_size_18 ?_
    by_cases hs21 : (s.1 170 k) = nI 0
    · replace hR := hR.trans (if_pos hs21)
      refine mi_as hs21 ?_
      refine mp_i (cx := []) (wr := []) hP hD hS hA [] [] rfl rfl rfl (by decide) (va_runS (As := [.int (nI 0)]) (rest := []) F (N_M_openSize_0 l g _ T s pl hO hU ) (va_cwS 1 hts (wg_app (wg_c kw_1764 (wg_c kw_1765 (wg_c kw_9 wg_n))) kw_1766) rfl rfl rfl (by decide +kernel) ⟨by decide, by decide⟩) (pp_S (en_ok g) hP hD hS hA hE [] rfl rfl) rfl rfl hl.1 rfl (lv_room (Nat.le_of_ble_eq_true rfl)) dM_size_19 ⟨by omega, by omega⟩) (fun r22 u21 H locs hu21 hP hD hS => ?_)
      obtain ⟨q21, pl⟩ := u21
      obtain ⟨⟨eq21, rfl, hFc21, ⟨x21, hx_21, hb_21⟩, hxp21, -⟩, hO⟩ := hu21
      have hO : okn g T q21.2 pl := hO
      have hP : va_P g.1 vcl ([] ++ pl) _ := hP
      have hD : va_D _ ([] ++ pl) := hD
      have hFc21 : frm (M_M_openSize_0) s q21.2 := hFc21
      have hb_21 : x21 < 801 := hb_21
      replace hR := bnd_step hR eq21
      have hF := frm_tr hF hFc21 (fun k hk => by unfold M_M_openSize_0 at hk; unfold M_M_size; omega)
      have hf21 : q21.2.1 148 1 = nI tp := fc_F e_tp hFc21 (by unfold M_M_openSize_0; omega)
      have hf22 : q21.2.1 148 2 = nI rs := fc_F e_rs hFc21 (by unfold M_M_openSize_0; omega)
      have hf23 : q21.2.1 148 3 = nI ks := fc_F e_ks hFc21 (by unfold M_M_openSize_0; omega)
      have hf24 : q21.2.1 170 k = nI 0 := fc_F hs21 hFc21 (by unfold M_M_openSize_0; omega)
      have hg21 : SETS ks (q21.2.1 170) := by rw [hFc21 170 (by unfold M_M_openSize_0; omega)]; exact qst
      have hg22 : HIDS ks (q21.2.1 171) := by rw [hFc21 171 (by unfold M_M_openSize_0; omega)]; exact qhd
      obtain ⟨z21, ez21, hz21, hz22⟩ := cl_of (b := 2147483648) hx_21 (by omega) (by decide)
      replace hR := bnd_step hR ez21
      refine mi_as hz21 ?_
      have hsz21 : z21 = 800 := (nI_eq (by omega) (by omega)).mp (hz21.symm.trans hxp21)
      subst hsz21
      refine W.widen (k := 0) (n := 0) (by omega) (by omega) ?_
      exact mp_iret hx hb hr hlk hP hD hS ((nI 800, q21.2), pl) ⟨⟨hR.symm, rfl, hF, ⟨800, rfl, by omega⟩, (fun _ => ⟨800, rfl, by omega⟩), trivial⟩, hO⟩ [] rfl rfl rfl (by omega) (by omega) dM_size_22
    replace hR := hR.trans (if_neg hs21)
    by_cases hs22 : (s.1 170 k) = nI 1
    · replace hR := hR.trans (if_pos hs22)
      refine mi_as hs22 ?_
      refine mp_i (cx := []) (wr := []) hP hD hS hA [] [] rfl rfl rfl (by decide) (va_runS (As := [.int (nI 1)]) (rest := []) F (N_M_openSize_1 l g _ T s pl hO hU ) (va_cwS 1 hts (wg_app (wg_c kw_1764 (wg_c kw_1765 (wg_c kw_9 wg_n))) kw_1766) rfl rfl rfl (by decide +kernel) ⟨by decide, by decide⟩) (pp_S (en_ok g) hP hD hS hA hE [] rfl rfl) rfl rfl hl.1 rfl (lv_room (Nat.le_of_ble_eq_true rfl)) dM_size_19 ⟨by omega, by omega⟩) (fun r23 u22 H locs hu22 hP hD hS => ?_)
      obtain ⟨q22, pl⟩ := u22
      obtain ⟨⟨eq22, rfl, hFc22, ⟨x22, hx_22, hb_22⟩, hxp22, -⟩, hO⟩ := hu22
      have hO : okn g T q22.2 pl := hO
      have hP : va_P g.1 vcl ([] ++ pl) _ := hP
      have hD : va_D _ ([] ++ pl) := hD
      have hFc22 : frm (M_M_openSize_1) s q22.2 := hFc22
      have hb_22 : x22 < 1185 := hb_22
      replace hR := bnd_step hR eq22
      have hF := frm_tr hF hFc22 (fun k hk => by unfold M_M_openSize_1 at hk; unfold M_M_size; omega)
      have hf25 : q22.2.1 148 1 = nI tp := fc_F e_tp hFc22 (by unfold M_M_openSize_1; omega)
      have hf26 : q22.2.1 148 2 = nI rs := fc_F e_rs hFc22 (by unfold M_M_openSize_1; omega)
      have hf27 : q22.2.1 148 3 = nI ks := fc_F e_ks hFc22 (by unfold M_M_openSize_1; omega)
      have hf28 : q22.2.1 170 k = nI 1 := fc_F hs22 hFc22 (by unfold M_M_openSize_1; omega)
      have hg23 : SETS ks (q22.2.1 170) := by rw [hFc22 170 (by unfold M_M_openSize_1; omega)]; exact qst
      have hg24 : HIDS ks (q22.2.1 171) := by rw [hFc22 171 (by unfold M_M_openSize_1; omega)]; exact qhd
      obtain ⟨z22, ez22, hz23, hz24⟩ := cl_of (b := 2147483648) hx_22 (by omega) (by decide)
      replace hR := bnd_step hR ez22
      refine mi_as hz23 ?_
      have hsz22 : z22 = 1184 := (nI_eq (by omega) (by omega)).mp (hz23.symm.trans hxp22)
      subst hsz22
      refine W.widen (k := 0) (n := 0) (by omega) (by omega) ?_
      exact mp_iret hx hb hr hlk hP hD hS ((nI 1184, q22.2), pl) ⟨⟨hR.symm, rfl, hF, ⟨1184, rfl, by omega⟩, (fun _ => ⟨1184, rfl, by omega⟩), trivial⟩, hO⟩ [] rfl rfl rfl (by omega) (by omega) dM_size_22
    replace hR := hR.trans (if_neg hs22)
    by_cases hs23 : (s.1 170 k) = nI 2
    · replace hR := hR.trans (if_pos hs23)
      refine mi_as hs23 ?_
      refine mp_i (cx := []) (wr := []) hP hD hS hA [] [] rfl rfl rfl (by decide) (va_runS (As := [.int (nI 2)]) (rest := []) F (N_M_openSize_2 l g _ T s pl hO hU ) (va_cwS 1 hts (wg_app (wg_c kw_1764 (wg_c kw_1765 (wg_c kw_9 wg_n))) kw_1766) rfl rfl rfl (by decide +kernel) ⟨by decide, by decide⟩) (pp_S (en_ok g) hP hD hS hA hE [] rfl rfl) rfl rfl hl.1 rfl (lv_room (Nat.le_of_ble_eq_true rfl)) dM_size_19 ⟨by omega, by omega⟩) (fun r24 u23 H locs hu23 hP hD hS => ?_)
      obtain ⟨q23, pl⟩ := u23
      obtain ⟨⟨eq23, rfl, hFc23, ⟨x23, hx_23, hb_23⟩, hxp23, -⟩, hO⟩ := hu23
      have hO : okn g T q23.2 pl := hO
      have hP : va_P g.1 vcl ([] ++ pl) _ := hP
      have hD : va_D _ ([] ++ pl) := hD
      have hFc23 : frm (M_M_openSize_2) s q23.2 := hFc23
      have hb_23 : x23 < 1569 := hb_23
      replace hR := bnd_step hR eq23
      have hF := frm_tr hF hFc23 (fun k hk => by unfold M_M_openSize_2 at hk; unfold M_M_size; omega)
      have hf29 : q23.2.1 148 1 = nI tp := fc_F e_tp hFc23 (by unfold M_M_openSize_2; omega)
      have hf30 : q23.2.1 148 2 = nI rs := fc_F e_rs hFc23 (by unfold M_M_openSize_2; omega)
      have hf31 : q23.2.1 148 3 = nI ks := fc_F e_ks hFc23 (by unfold M_M_openSize_2; omega)
      have hf32 : q23.2.1 170 k = nI 2 := fc_F hs23 hFc23 (by unfold M_M_openSize_2; omega)
      have hg25 : SETS ks (q23.2.1 170) := by rw [hFc23 170 (by unfold M_M_openSize_2; omega)]; exact qst
      have hg26 : HIDS ks (q23.2.1 171) := by rw [hFc23 171 (by unfold M_M_openSize_2; omega)]; exact qhd
      obtain ⟨z23, ez23, hz25, hz26⟩ := cl_of (b := 2147483648) hx_23 (by omega) (by decide)
      replace hR := bnd_step hR ez23
      refine mi_as hz25 ?_
      have hsz23 : z23 = 1568 := (nI_eq (by omega) (by omega)).mp (hz25.symm.trans hxp23)
      subst hsz23
      refine W.widen (k := 0) (n := 0) (by omega) (by omega) ?_
      exact mp_iret hx hb hr hlk hP hD hS ((nI 1568, q23.2), pl) ⟨⟨hR.symm, rfl, hF, ⟨1568, rfl, by omega⟩, (fun _ => ⟨1568, rfl, by omega⟩), trivial⟩, hO⟩ [] rfl rfl rfl (by omega) (by omega) dM_size_22
    replace hR := hR.trans (if_neg hs23)
    by_cases hs24 : (s.1 170 k) = nI 3
    · replace hR := hR.trans (if_pos hs24)
      refine mi_as hs24 ?_
      refine mp_i (cx := []) (wr := []) hP hD hS hA [] [] rfl rfl rfl (by decide) (va_runS (As := [.int (nI 3)]) (rest := []) F (N_M_openSize_3 l g _ T s pl hO hU ) (va_cwS 1 hts (wg_app (wg_c kw_1764 (wg_c kw_1765 (wg_c kw_9 wg_n))) kw_1766) rfl rfl rfl (by decide +kernel) ⟨by decide, by decide⟩) (pp_S (en_ok g) hP hD hS hA hE [] rfl rfl) rfl rfl hl.1 rfl (lv_room (Nat.le_of_ble_eq_true rfl)) dM_size_19 ⟨by omega, by omega⟩) (fun r25 u24 H locs hu24 hP hD hS => ?_)
      obtain ⟨q24, pl⟩ := u24
      obtain ⟨⟨eq24, rfl, hFc24, ⟨x24, hx_24, hb_24⟩, hxp24, -⟩, hO⟩ := hu24
      have hO : okn g T q24.2 pl := hO
      have hP : va_P g.1 vcl ([] ++ pl) _ := hP
      have hD : va_D _ ([] ++ pl) := hD
      have hFc24 : frm (M_M_openSize_3) s q24.2 := hFc24
      have hb_24 : x24 < 1313 := hb_24
      replace hR := bnd_step hR eq24
      have hF := frm_tr hF hFc24 (fun k hk => by unfold M_M_openSize_3 at hk; unfold M_M_size; omega)
      have hf33 : q24.2.1 148 1 = nI tp := fc_F e_tp hFc24 (by unfold M_M_openSize_3; omega)
      have hf34 : q24.2.1 148 2 = nI rs := fc_F e_rs hFc24 (by unfold M_M_openSize_3; omega)
      have hf35 : q24.2.1 148 3 = nI ks := fc_F e_ks hFc24 (by unfold M_M_openSize_3; omega)
      have hf36 : q24.2.1 170 k = nI 3 := fc_F hs24 hFc24 (by unfold M_M_openSize_3; omega)
      have hg27 : SETS ks (q24.2.1 170) := by rw [hFc24 170 (by unfold M_M_openSize_3; omega)]; exact qst
      have hg28 : HIDS ks (q24.2.1 171) := by rw [hFc24 171 (by unfold M_M_openSize_3; omega)]; exact qhd
      obtain ⟨z24, ez24, hz27, hz28⟩ := cl_of (b := 2147483648) hx_24 (by omega) (by decide)
      replace hR := bnd_step hR ez24
      refine mi_as hz27 ?_
      have hsz24 : z24 = 1312 := (nI_eq (by omega) (by omega)).mp (hz27.symm.trans hxp24)
      subst hsz24
      refine W.widen (k := 0) (n := 0) (by omega) (by omega) ?_
      exact mp_iret hx hb hr hlk hP hD hS ((nI 1312, q24.2), pl) ⟨⟨hR.symm, rfl, hF, ⟨1312, rfl, by omega⟩, (fun _ => ⟨1312, rfl, by omega⟩), trivial⟩, hO⟩ [] rfl rfl rfl (by omega) (by omega) dM_size_22
    replace hR := hR.trans (if_neg hs24)
    by_cases hs25 : (s.1 170 k) = nI 4
    · replace hR := hR.trans (if_pos hs25)
      refine mi_as hs25 ?_
      refine mp_i (cx := []) (wr := []) hP hD hS hA [] [] rfl rfl rfl (by decide) (va_runS (As := [.int (nI 4)]) (rest := []) F (N_M_openSize_4 l g _ T s pl hO hU ) (va_cwS 1 hts (wg_app (wg_c kw_1764 (wg_c kw_1765 (wg_c kw_9 wg_n))) kw_1766) rfl rfl rfl (by decide +kernel) ⟨by decide, by decide⟩) (pp_S (en_ok g) hP hD hS hA hE [] rfl rfl) rfl rfl hl.1 rfl (lv_room (Nat.le_of_ble_eq_true rfl)) dM_size_19 ⟨by omega, by omega⟩) (fun r26 u25 H locs hu25 hP hD hS => ?_)
      obtain ⟨q25, pl⟩ := u25
      obtain ⟨⟨eq25, rfl, hFc25, ⟨x25, hx_25, hb_25⟩, hxp25, -⟩, hO⟩ := hu25
      have hO : okn g T q25.2 pl := hO
      have hP : va_P g.1 vcl ([] ++ pl) _ := hP
      have hD : va_D _ ([] ++ pl) := hD
      have hFc25 : frm (M_M_openSize_4) s q25.2 := hFc25
      have hb_25 : x25 < 1953 := hb_25
      replace hR := bnd_step hR eq25
      have hF := frm_tr hF hFc25 (fun k hk => by unfold M_M_openSize_4 at hk; unfold M_M_size; omega)
      have hf37 : q25.2.1 148 1 = nI tp := fc_F e_tp hFc25 (by unfold M_M_openSize_4; omega)
      have hf38 : q25.2.1 148 2 = nI rs := fc_F e_rs hFc25 (by unfold M_M_openSize_4; omega)
      have hf39 : q25.2.1 148 3 = nI ks := fc_F e_ks hFc25 (by unfold M_M_openSize_4; omega)
      have hf40 : q25.2.1 170 k = nI 4 := fc_F hs25 hFc25 (by unfold M_M_openSize_4; omega)
      have hg29 : SETS ks (q25.2.1 170) := by rw [hFc25 170 (by unfold M_M_openSize_4; omega)]; exact qst
      have hg30 : HIDS ks (q25.2.1 171) := by rw [hFc25 171 (by unfold M_M_openSize_4; omega)]; exact qhd
      obtain ⟨z25, ez25, hz29, hz30⟩ := cl_of (b := 2147483648) hx_25 (by omega) (by decide)
      replace hR := bnd_step hR ez25
      refine mi_as hz29 ?_
      have hsz25 : z25 = 1952 := (nI_eq (by omega) (by omega)).mp (hz29.symm.trans hxp25)
      subst hsz25
      refine W.widen (k := 0) (n := 0) (by omega) (by omega) ?_
      exact mp_iret hx hb hr hlk hP hD hS ((nI 1952, q25.2), pl) ⟨⟨hR.symm, rfl, hF, ⟨1952, rfl, by omega⟩, (fun _ => ⟨1952, rfl, by omega⟩), trivial⟩, hO⟩ [] rfl rfl rfl (by omega) (by omega) dM_size_22
    replace hR := hR.trans (if_neg hs25)
    have hs26 : (s.1 170 k) = nI 5 := set5 qst (by omega) hs21 hs22 hs23 hs24 hs25
    refine mi_as hs26 ?_
    refine mp_i (cx := []) (wr := []) hP hD hS hA [] [] rfl rfl rfl (by decide) (va_runS (As := [.int (nI 5)]) (rest := []) F (N_M_openSize_5 l g _ T s pl hO hU ) (va_cwS 1 hts (wg_app (wg_c kw_1764 (wg_c kw_1765 (wg_c kw_9 wg_n))) kw_1766) rfl rfl rfl (by decide +kernel) ⟨by decide, by decide⟩) (pp_S (en_ok g) hP hD hS hA hE [] rfl rfl) rfl rfl hl.1 rfl (lv_room (Nat.le_of_ble_eq_true rfl)) dM_size_19 ⟨by omega, by omega⟩) (fun r27 u26 H locs hu26 hP hD hS => ?_)
    obtain ⟨q26, pl⟩ := u26
    obtain ⟨⟨eq26, rfl, hFc26, ⟨x26, hx_26, hb_26⟩, hxp26, -⟩, hO⟩ := hu26
    have hO : okn g T q26.2 pl := hO
    have hP : va_P g.1 vcl ([] ++ pl) _ := hP
    have hD : va_D _ ([] ++ pl) := hD
    have hFc26 : frm (M_M_openSize_5) s q26.2 := hFc26
    have hb_26 : x26 < 2593 := hb_26
    replace hR := bnd_step hR eq26
    have hF := frm_tr hF hFc26 (fun k hk => by unfold M_M_openSize_5 at hk; unfold M_M_size; omega)
    have hf41 : q26.2.1 148 1 = nI tp := fc_F e_tp hFc26 (by unfold M_M_openSize_5; omega)
    have hf42 : q26.2.1 148 2 = nI rs := fc_F e_rs hFc26 (by unfold M_M_openSize_5; omega)
    have hf43 : q26.2.1 148 3 = nI ks := fc_F e_ks hFc26 (by unfold M_M_openSize_5; omega)
    have hf44 : q26.2.1 170 k = nI 5 := fc_F hs26 hFc26 (by unfold M_M_openSize_5; omega)
    have hg31 : SETS ks (q26.2.1 170) := by rw [hFc26 170 (by unfold M_M_openSize_5; omega)]; exact qst
    have hg32 : HIDS ks (q26.2.1 171) := by rw [hFc26 171 (by unfold M_M_openSize_5; omega)]; exact qhd
    obtain ⟨z26, ez26, hz31, hz32⟩ := cl_of (b := 2147483648) hx_26 (by omega) (by decide)
    replace hR := bnd_step hR ez26
    refine mi_as hz31 ?_
    have hsz26 : z26 = 2592 := (nI_eq (by omega) (by omega)).mp (hz31.symm.trans hxp26)
    subst hsz26
    refine W.widen (k := 0) (n := 0) (by omega) (by omega) ?_
    exact mp_iret hx hb hr hlk hP hD hS ((nI 2592, q26.2), pl) ⟨⟨hR.symm, rfl, hF, ⟨2592, rfl, by omega⟩, (fun _ => ⟨2592, rfl, by omega⟩), trivial⟩, hO⟩ [] rfl rfl rfl (by omega) (by omega) dM_size_22
  · replace hR := hR.trans (if_neg h21)
    refine lv_aload_n hx hb dM_size_4 rfl (lv_at hl 0 rfl) ?_
    refine nw_get (C := "LatticeKeysModel") (TT := T_M) (N := 14) hx hb hts (wg_ft i_M) hown hK hO k_h0 (kn := 148) (ci := 8) (fl := [(0, 0), (0, 0), (0, 0), (0, 0), (3, 149), (3, 150), (3, 151), (3, 152), (3, 161), (3, 170), (3, 171), (3, 172), (3, 184), (3, 225)]) rfl hP rfl 10 (by decide) (hts _ (wg_t kw_1536)) (fun _ h9 => h9) (cd := (3, 171)) rfl dM_size_5 (fun v22 hv22 => ?_)
    obtain ⟨r28, rfl, kr22⟩ := (show ∃ r : Nat, v22 = .ref r ∧ T r = some 171 from hv22)
    refine lv_iload_n hx hb dM_size_8 rfl (lv_at hl 1 rfl) ?_
    refine nw_iald hx hb hK hO kr22 (k := 171) rfl hP (by omega) (by omega) dM_size_9 ?_
    obtain ⟨c21, hc21, hb21⟩ := qhd k (by omega)
    obtain ⟨z27, ez27, hz33, hz34⟩ := cl_of (b := 2147483648) hc21 (by omega) (by decide)
    replace hR := bnd_step hR ez27
    refine mi_as hz33 ?_
    refine lv_goto (tgt := 22) hx hb dM_size_10 (by decide) ?_
    exact mp_iret hx hb hr hlk hP hD hS ((nI z27, s), pl) ⟨⟨hR.symm, rfl, hF, ⟨z27, rfl, by omega⟩, (fun h9 => absurd h9 h21), trivial⟩, hO⟩ [] rfl rfl rfl (by omega) (by omega) dM_size_22
