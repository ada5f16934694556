abbrev c_M_fail : ByteArray := prog_12_method_5_code
abbrev y_M_fail : MethodName := ⟨"LatticeKeysModel", "fail", "(I)I"⟩
abbrev w_M_fail : List Cond := Cond.code y_M_fail c_M_fail 2 (some .int) :: WG
theorem dM_fail_0 : decode c_M_fail 0 = .ok (.aload_n 0, 1) := by decide +kernel
theorem dM_fail_1 : decode c_M_fail 1 = .ok (.iload_n 1, 1) := by decide +kernel
theorem dM_fail_2 : decode c_M_fail 2 = .ok (.putfield 57, 3) := by decide +kernel
theorem dM_fail_5 : decode c_M_fail 5 = .ok (.iconst 0, 1) := by decide +kernel
theorem dM_fail_6 : decode c_M_fail 6 = .ok (.ireturn, 1) := by decide +kernel
abbrev c_M_thrown : ByteArray := prog_12_method_4_code
abbrev y_M_thrown : MethodName := ⟨"LatticeKeysModel", "thrown", "()I"⟩
abbrev w_M_thrown : List Cond := Cond.code y_M_thrown c_M_thrown 1 (some .int) :: WG
theorem dM_thrown_0 : decode c_M_thrown 0 = .ok (.aload_n 0, 1) := by decide +kernel
theorem dM_thrown_1 : decode c_M_thrown 1 = .ok (.getfield 57, 3) := by decide +kernel
theorem dM_thrown_4 : decode c_M_thrown 4 = .ok (.ireturn, 1) := by decide +kernel
abbrev c_M_none : ByteArray := prog_12_method_16_code
abbrev y_M_none : MethodName := ⟨"LatticeKeysModel", "none", "(I)Z"⟩
abbrev w_M_none : List Cond := Cond.code y_M_none c_M_none 2 (some .boolean) :: WG
theorem dM_none_0 : decode c_M_none 0 = .ok (.iload_n 1, 1) := by decide +kernel
theorem dM_none_1 : decode c_M_none 1 = .ok (.ifCond .lt 11, 3) := by decide +kernel
theorem dM_none_4 : decode c_M_none 4 = .ok (.iload_n 1, 1) := by decide +kernel
theorem dM_none_5 : decode c_M_none 5 = .ok (.aload_n 0, 1) := by decide +kernel
theorem dM_none_6 : decode c_M_none 6 = .ok (.getfield 83, 3) := by decide +kernel
theorem dM_none_9 : decode c_M_none 9 = .ok (.if_icmp .lt 7, 3) := by decide +kernel
theorem dM_none_12 : decode c_M_none 12 = .ok (.iconst 1, 1) := by decide +kernel
theorem dM_none_13 : decode c_M_none 13 = .ok (.goto 4, 3) := by decide +kernel
theorem dM_none_16 : decode c_M_none 16 = .ok (.iconst 0, 1) := by decide +kernel
theorem dM_none_17 : decode c_M_none 17 = .ok (.ireturn, 1) := by decide +kernel
abbrev c_ME_openSize : ByteArray := prog_15_method_2_code
abbrev y_ME_openSize : MethodName := ⟨"LatticeKeysModel$Secrets", "openSize", "(I)I"⟩
abbrev w_ME_openSize : List Cond := Cond.code y_ME_openSize c_ME_openSize 1 (some .int) :: WG
theorem dME_openSize_0 : decode c_ME_openSize 0 = .ok (.sipush 384, 3) := by decide +kernel
theorem dME_openSize_3 : decode c_ME_openSize 3 = .ok (.getstatic 62, 3) := by decide +kernel
theorem dME_openSize_6 : decode c_ME_openSize 6 = .ok (.iload_n 0, 1) := by decide +kernel
theorem dME_openSize_7 : decode c_ME_openSize 7 = .ok (.iaload, 1) := by decide +kernel
theorem dME_openSize_8 : decode c_ME_openSize 8 = .ok (.imul, 1) := by decide +kernel
theorem dME_openSize_9 : decode c_ME_openSize 9 = .ok (.bipush 32, 2) := by decide +kernel
theorem dME_openSize_11 : decode c_ME_openSize 11 = .ok (.iadd, 1) := by decide +kernel
theorem dME_openSize_12 : decode c_ME_openSize 12 = .ok (.ireturn, 1) := by decide +kernel
abbrev c_ME_hiddenSize : ByteArray := prog_15_method_3_code
abbrev y_ME_hiddenSize : MethodName := ⟨"LatticeKeysModel$Secrets", "hiddenSize", "(I)I"⟩
abbrev w_ME_hiddenSize : List Cond := Cond.code y_ME_hiddenSize c_ME_hiddenSize 1 (some .int) :: WG
theorem dME_hiddenSize_0 : decode c_ME_hiddenSize 0 = .ok (.sipush 768, 3) := by decide +kernel
theorem dME_hiddenSize_3 : decode c_ME_hiddenSize 3 = .ok (.getstatic 62, 3) := by decide +kernel
theorem dME_hiddenSize_6 : decode c_ME_hiddenSize 6 = .ok (.iload_n 0, 1) := by decide +kernel
theorem dME_hiddenSize_7 : decode c_ME_hiddenSize 7 = .ok (.iaload, 1) := by decide +kernel
theorem dME_hiddenSize_8 : decode c_ME_hiddenSize 8 = .ok (.imul, 1) := by decide +kernel
theorem dME_hiddenSize_9 : decode c_ME_hiddenSize 9 = .ok (.bipush 96, 2) := by decide +kernel
theorem dME_hiddenSize_11 : decode c_ME_hiddenSize 11 = .ok (.iadd, 1) := by decide +kernel
theorem dME_hiddenSize_12 : decode c_ME_hiddenSize 12 = .ok (.ireturn, 1) := by decide +kernel
abbrev c_MH_openSize : ByteArray := prog_13_method_2_code
abbrev y_MH_openSize : MethodName := ⟨"LatticeKeysModel$Hands", "openSize", "(I)I"⟩
abbrev w_MH_openSize : List Cond := Cond.code y_MH_openSize c_MH_openSize 1 (some .int) :: WG
theorem dMH_openSize_0 : decode c_MH_openSize 0 = .ok (.bipush 32, 2) := by decide +kernel
theorem dMH_openSize_2 : decode c_MH_openSize 2 = .ok (.sipush 320, 3) := by decide +kernel
theorem dMH_openSize_5 : decode c_MH_openSize 5 = .ok (.getstatic 91, 3) := by decide +kernel
theorem dMH_openSize_8 : decode c_MH_openSize 8 = .ok (.iload_n 0, 1) := by decide +kernel
theorem dMH_openSize_9 : decode c_MH_openSize 9 = .ok (.iaload, 1) := by decide +kernel
theorem dMH_openSize_10 : decode c_MH_openSize 10 = .ok (.imul, 1) := by decide +kernel
theorem dMH_openSize_11 : decode c_MH_openSize 11 = .ok (.iadd, 1) := by decide +kernel
theorem dMH_openSize_12 : decode c_MH_openSize 12 = .ok (.ireturn, 1) := by decide +kernel
abbrev c_M_openSize : ByteArray := prog_12_method_6_code
abbrev y_M_openSize : MethodName := ⟨"LatticeKeysModel", "openSize", "(I)I"⟩
abbrev w_M_openSize : List Cond := Cond.code y_M_openSize c_M_openSize 1 (some .int) :: WG
theorem dM_openSize_0 : decode c_M_openSize 0 = .ok (.iload_n 0, 1) := by decide +kernel
theorem dM_openSize_1 : decode c_M_openSize 1 = .ok (.iconst 3, 1) := by decide +kernel
theorem dM_openSize_2 : decode c_M_openSize 2 = .ok (.if_icmp .ge 10, 3) := by decide +kernel
theorem dM_openSize_5 : decode c_M_openSize 5 = .ok (.iload_n 0, 1) := by decide +kernel
theorem dM_openSize_6 : decode c_M_openSize 6 = .ok (.invokestatic 61, 3) := by decide +kernel
theorem dM_openSize_9 : decode c_M_openSize 9 = .ok (.goto 9, 3) := by decide +kernel
theorem dM_openSize_12 : decode c_M_openSize 12 = .ok (.iload_n 0, 1) := by decide +kernel
theorem dM_openSize_13 : decode c_M_openSize 13 = .ok (.iconst 3, 1) := by decide +kernel
theorem dM_openSize_14 : decode c_M_openSize 14 = .ok (.isub, 1) := by decide +kernel
theorem dM_openSize_15 : decode c_M_openSize 15 = .ok (.invokestatic 65, 3) := by decide +kernel
theorem dM_openSize_18 : decode c_M_openSize 18 = .ok (.ireturn, 1) := by decide +kernel
abbrev c_M_hiddenSize : ByteArray := prog_12_method_7_code
abbrev y_M_hiddenSize : MethodName := ⟨"LatticeKeysModel", "hiddenSize", "(I)I"⟩
abbrev w_M_hiddenSize : List Cond := Cond.code y_M_hiddenSize c_M_hiddenSize 1 (some .int) :: WG
theorem dM_hiddenSize_0 : decode c_M_hiddenSize 0 = .ok (.iload_n 0, 1) := by decide +kernel
theorem dM_hiddenSize_1 : decode c_M_hiddenSize 1 = .ok (.iconst 3, 1) := by decide +kernel
theorem dM_hiddenSize_2 : decode c_M_hiddenSize 2 = .ok (.if_icmp .ge 10, 3) := by decide +kernel
theorem dM_hiddenSize_5 : decode c_M_hiddenSize 5 = .ok (.iload_n 0, 1) := by decide +kernel
theorem dM_hiddenSize_6 : decode c_M_hiddenSize 6 = .ok (.invokestatic 66, 3) := by decide +kernel
theorem dM_hiddenSize_9 : decode c_M_hiddenSize 9 = .ok (.goto 9, 3) := by decide +kernel
theorem dM_hiddenSize_12 : decode c_M_hiddenSize 12 = .ok (.iload_n 0, 1) := by decide +kernel
theorem dM_hiddenSize_13 : decode c_M_hiddenSize 13 = .ok (.iconst 3, 1) := by decide +kernel
theorem dM_hiddenSize_14 : decode c_M_hiddenSize 14 = .ok (.isub, 1) := by decide +kernel
theorem dM_hiddenSize_15 : decode c_M_hiddenSize 15 = .ok (.invokestatic 69, 3) := by decide +kernel
theorem dM_hiddenSize_18 : decode c_M_hiddenSize 18 = .ok (.ireturn, 1) := by decide +kernel
set_option maxHeartbeats 400000 in
set_option maxRecDepth 100000 in
theorem m_M_fail (l : Launch) (g : Gd) (sz : Nat) (h0 : Nat) (w : Nat → Nat) (x0 x1 x2 x3 : Int32) (v : Int32)  : Met l y_M_fail w_M_fail ({ frames := 0, cells := 0, slots := 0, locals := 0 } : Room) (va_Pc [.ref h0, .int v] (pr (en g) g.1 vcl sz [(h0, .inr (8, [.int x0, .int x1, .int x2, .int x3, .ref (w 0), .ref (w 1), .ref (w 2), .ref (w 3), .ref (w 4), .ref (w 5), .ref (w 6), .ref (w 7), .ref (w 8), .ref (w 9)]))])) (va_Qi (fun (r : Int32) (u : Unit) => r = nI 0) (po g.1 vcl (va_A [(h0, .inr (8, [.int x0, .int x1, .int x2, .int x3, .ref (w 0), .ref (w 1), .ref (w 2), .ref (w 3), .ref (w 4), .ref (w 5), .ref (w 6), .ref (w 7), .ref (w 8), .ref (w 9)]))] sz) (fun (u : Unit) => [(h0, .inr (8, [.int v, .int x1, .int x2, .int x3, .ref (w 0), .ref (w 1), .ref (w 2), .ref (w 3), .ref (w 4), .ref (w 5), .ref (w 6), .ref (w 7), .ref (w 8), .ref (w 9)]))])) (va_A [(h0, .inr (8, [.int x0, .int x1, .int x2, .int x3, .ref (w 0), .ref (w 1), .ref (w 2), .ref (w 3), .ref (w 4), .ref (w 5), .ref (w 6), .ref (w 7), .ref (w 8), .ref (w 9)]))] sz)) 0 0 (va_A [(h0, .inr (8, [.int x0, .int x1, .int x2, .int x3, .ref (w 0), .ref (w 1), .ref (w 2), .ref (w 3), .ref (w 4), .ref (w 5), .ref (w 6), .ref (w 7), .ref (w 8), .ref (w 9)]))] sz) := by
  refine mc_entry (cc := c_M_fail) (maxL := 2) (ret := (some .int)) (by decide) rfl (Nat.le_of_ble_eq_true rfl) ?_
  intro p e s m args below meth c ls F hr hlk hnm hsz hP hD hE hA hl
  obtain ⟨hx, hb, hml, hown, hts⟩ := id F
  have hK := hE.1
  generalize va_A [(h0, .inr (8, [.int x0, .int x1, .int x2, .int x3, .ref (w 0), .ref (w 1), .ref (w 2), .ref (w 3), .ref (w 4), .ref (w 5), .ref (w 6), .ref (w 7), .ref (w 8), .ref (w 9)]))] sz = A at hD hE hA ⊢
  have hS : va_S A s.heap s.heap [] := va_S.rf
  have hl : lv_has ls 2 [(0, .ref h0), (1, .int v)] := hl
  refine lv_aload_n hx hb dM_fail_0 rfl (lv_at hl 0 rfl) ?_
  refine lv_iload_n hx hb dM_fail_1 rfl (lv_at hl 1 rfl) ?_
  refine va_put (D := g.1) (ci := 8) (v := .int v) (ty := .int) (C := "LatticeKeysModel") (T := T_M) (N := 14) hx hb hts (wg_ft i_M) ty_M k_M n_M hown hK hP hD hS 0 rfl rfl 0 (by decide) (hts _ (wg_t kw_1526)) (fun _ h9 => h9) rfl (by decide +kernel) rfl rfl (Nat.le_of_ble_eq_true rfl) dM_fail_2 (fun H locs hP hD hS => ?_)
  have hP : va_P g.1 vcl [(h0, .inr (8, [.int v, .int x1, .int x2, .int x3, .ref (w 0), .ref (w 1), .ref (w 2), .ref (w 3), .ref (w 4), .ref (w 5), .ref (w 6), .ref (w 7), .ref (w 8), .ref (w 9)]))] _ := hP
  have hD : va_D _ [(h0, .inr (8, [.int v, .int x1, .int x2, .int x3, .ref (w 0), .ref (w 1), .ref (w 2), .ref (w 3), .ref (w 4), .ref (w 5), .ref (w 6), .ref (w 7), .ref (w 8), .ref (w 9)]))] := hD
  refine lv_iconst (v := nI 0) hx hb dM_fail_5 (by decide) ?_
  exact mc_iret hx hb hr hlk hP hD hS () rfl [0] rfl rfl (by omega) (by omega) dM_fail_6
set_option maxHeartbeats 400000 in
set_option maxRecDepth 100000 in
theorem m_M_thrown (l : Launch) (g : Gd) (sz : Nat) (h0 : Nat) (w : Nat → Nat) (x0 x1 x2 x3 : Int32)  : Met l y_M_thrown w_M_thrown ({ frames := 0, cells := 0, slots := 0, locals := 0 } : Room) (va_Pc [.ref h0] (pr (en g) g.1 vcl sz [(h0, .inr (8, [.int x0, .int x1, .int x2, .int x3, .ref (w 0), .ref (w 1), .ref (w 2), .ref (w 3), .ref (w 4), .ref (w 5), .ref (w 6), .ref (w 7), .ref (w 8), .ref (w 9)]))])) (va_Qi (fun (r : Int32) (u : Unit) => r = x0) (po g.1 vcl (va_A [(h0, .inr (8, [.int x0, .int x1, .int x2, .int x3, .ref (w 0), .ref (w 1), .ref (w 2), .ref (w 3), .ref (w 4), .ref (w 5), .ref (w 6), .ref (w 7), .ref (w 8), .ref (w 9)]))] sz) (fun (u : Unit) => [])) (va_A [(h0, .inr (8, [.int x0, .int x1, .int x2, .int x3, .ref (w 0), .ref (w 1), .ref (w 2), .ref (w 3), .ref (w 4), .ref (w 5), .ref (w 6), .ref (w 7), .ref (w 8), .ref (w 9)]))] sz)) 0 0 (fun _ => False) := by
  refine mc_entry (cc := c_M_thrown) (maxL := 1) (ret := (some .int)) (by decide) rfl (Nat.le_of_ble_eq_true rfl) ?_
  intro p e s m args below meth c ls F hr hlk hnm hsz hP hD hE hA hl
  obtain ⟨hx, hb, hml, hown, hts⟩ := id F
  have hK := hE.1
  generalize va_A [(h0, .inr (8, [.int x0, .int x1, .int x2, .int x3, .ref (w 0), .ref (w 1), .ref (w 2), .ref (w 3), .ref (w 4), .ref (w 5), .ref (w 6), .ref (w 7), .ref (w 8), .ref (w 9)]))] sz = A at hD hE hA ⊢
  have hS : va_S A s.heap s.heap [] := va_S.rf
  have hl : lv_has ls 1 [(0, .ref h0)] := hl
  refine lv_aload_n hx hb dM_thrown_0 rfl (lv_at hl 0 rfl) ?_
  refine va_get (D := g.1) (ci := 8) (C := "LatticeKeysModel") (T := T_M) (N := 14) hx hb hts (wg_ft i_M) hown hK hP 0 rfl rfl 0 (by decide) (hts _ (wg_t kw_1526)) (fun _ h9 => h9) rfl dM_thrown_1 ?_
  exact mr_iret hx hb hr hlk hP hD hS () rfl [] rfl rfl (by omega) (by omega) dM_thrown_4
set_option maxHeartbeats 400000 in
set_option maxRecDepth 100000 in
theorem m_M_none (l : Launch) (g : Gd) (sz : Nat) (h0 : Nat) (w : Nat → Nat) (x0 x1 x2 v : Int32)  : Met l y_M_none w_M_none ({ frames := 0, cells := 0, slots := 0, locals := 0 } : Room) (va_Pc [.ref h0, .int v] (pr (en g) g.1 vcl sz [(h0, .inr (8, [.int x0, .int x1, .int x2, .int 0, .ref (w 0), .ref (w 1), .ref (w 2), .ref (w 3), .ref (w 4), .ref (w 5), .ref (w 6), .ref (w 7), .ref (w 8), .ref (w 9)]))])) (va_Qi (fun (r : Int32) (u : Unit) => r = nI 1) (po g.1 vcl (va_A [(h0, .inr (8, [.int x0, .int x1, .int x2, .int 0, .ref (w 0), .ref (w 1), .ref (w 2), .ref (w 3), .ref (w 4), .ref (w 5), .ref (w 6), .ref (w 7), .ref (w 8), .ref (w 9)]))] sz) (fun (u : Unit) => [(h0, .inr (8, [.int x0, .int x1, .int x2, .int 0, .ref (w 0), .ref (w 1), .ref (w 2), .ref (w 3), .ref (w 4), .ref (w 5), .ref (w 6), .ref (w 7), .ref (w 8), .ref (w 9)]))])) (va_A [(h0, .inr (8, [.int x0, .int x1, .int x2, .int 0, .ref (w 0), .ref (w 1), .ref (w 2), .ref (w 3), .ref (w 4), .ref (w 5), .ref (w 6), .ref (w 7), .ref (w 8), .ref (w 9)]))] sz)) 0 0 (fun _ => False) := by
  refine mc_entry (cc := c_M_none) (maxL := 2) (ret := (some .boolean)) (by decide) rfl (Nat.le_of_ble_eq_true rfl) ?_
  intro p e s m args below meth c ls F hr hlk hnm hsz hP hD hE hA hl
  obtain ⟨hx, hb, hml, hown, hts⟩ := id F
  have hK := hE.1
  generalize va_A [(h0, .inr (8, [.int x0, .int x1, .int x2, .int 0, .ref (w 0), .ref (w 1), .ref (w 2), .ref (w 3), .ref (w 4), .ref (w 5), .ref (w 6), .ref (w 7), .ref (w 8), .ref (w 9)]))] sz = A at hD hE hA ⊢
  have hS : va_S A s.heap s.heap [] := va_S.rf
  have hl : lv_has ls 2 [(0, .ref h0), (1, .int v)] := hl
  refine lv_iload_n hx hb dM_none_0 rfl (lv_at hl 1 rfl) ?_
  refine lv_if_lt (tgt := 12) hx hb dM_none_1 (by decide) (fun h1 => ?_) (fun h1 => ?_)
  · refine lv_iconst (v := nI 1) hx hb dM_none_12 (by decide) ?_
    refine lv_goto (tgt := 17) hx hb dM_none_13 (by decide) ?_
    exact mr_zret hx hb hr hlk rfl hP hD hS () rfl [0] rfl rfl (by omega) (by omega) dM_none_17
  · refine lv_iload_n hx hb dM_none_4 rfl (lv_at hl 1 rfl) ?_
    refine lv_aload_n hx hb dM_none_5 rfl (lv_at hl 0 rfl) ?_
    refine va_get (D := g.1) (ci := 8) (C := "LatticeKeysModel") (T := T_M) (N := 14) hx hb hts (wg_ft i_M) hown hK hP 0 rfl rfl 3 (by decide) (hts _ (wg_t kw_1529)) (fun _ h9 => h9) rfl dM_none_6 ?_
    refine mi_as (show (0 : Int32) = nI 0 from rfl) ?_
    refine lv_icmp_lt (tgt := 16) hx hb dM_none_9 (by decide) (fun h2 => absurd h2 h1) (fun h2 => ?_)
    refine lv_iconst (v := nI 1) hx hb dM_none_12 (by decide) ?_
    refine lv_goto (tgt := 17) hx hb dM_none_13 (by decide) ?_
    exact mr_zret hx hb hr hlk rfl hP hD hS () rfl [0] rfl rfl (by omega) (by omega) dM_none_17
set_option maxHeartbeats 400000 in
set_option maxRecDepth 100000 in
theorem m_ME_openSize_0 (l : Launch) (g : Gd) (sz : Nat)  : Met l y_ME_openSize w_ME_openSize ({ frames := 0, cells := 0, slots := 0, locals := 0 } : Room) (va_Pc [.int (nI 0)] (pr (en g) g.1 vcl sz [])) (va_Qi (fun (r : Int32) (u : Unit) => ¬ nI 0 = r) (po g.1 vcl (va_A [] sz) (fun (u : Unit) => [])) (va_A [] sz)) 0 0 (fun _ => False) := by
  refine mc_entry (cc := c_ME_openSize) (maxL := 1) (ret := (some .int)) (by decide) rfl (Nat.le_of_ble_eq_true rfl) ?_
  intro p e s m args below meth c ls F hr hlk hnm hsz hP hD hE hA hl
  obtain ⟨hx, hb, hml, hown, hts⟩ := id F
  have hK := hE.1
  generalize va_A [] sz = A at hD hE hA ⊢
  have hS : va_S A s.heap s.heap [] := va_S.rf
  have hl : lv_has ls 1 [(0, .int (nI 0))] := hl
  refine lv_sipush (v := nI 384) hx hb dME_openSize_0 (by decide) ?_
  refine va_gets hx hb (hE.2.1 19 _ rfl).1 hS hown (hts _ (wg_t kw_1605)) (fun _ h9 => h9) dME_openSize_3 ?_
  refine lv_iload_n hx hb dME_openSize_6 rfl (lv_at hl 0 rfl) ?_
  refine va_ti (v := .int (nI 2)) hx hb (hE.2.1 19 _ rfl).2 hS (vp_in_nI (by decide) (by decide)) (by decide +kernel) dME_openSize_7 ?_
  refine mi_imul hx hb dME_openSize_8 ?_
  refine mi_as (show nI (384 * 2) = nI 768 from rfl) ?_
  refine lv_bipush (v := nI 32) hx hb dME_openSize_9 (by decide) ?_
  refine mi_iadd hx hb dME_openSize_11 ?_
  refine mi_as (show nI (768 + 32) = nI 800 from rfl) ?_
  exact mr_iret hx hb hr hlk hP hD hS () (by decide) [] rfl rfl (by omega) (by omega) dME_openSize_12
set_option maxHeartbeats 400000 in
set_option maxRecDepth 100000 in
theorem m_ME_openSize_1 (l : Launch) (g : Gd) (sz : Nat)  : Met l y_ME_openSize w_ME_openSize ({ frames := 0, cells := 0, slots := 0, locals := 0 } : Room) (va_Pc [.int (nI 1)] (pr (en g) g.1 vcl sz [])) (va_Qi (fun (r : Int32) (u : Unit) => ¬ nI 0 = r) (po g.1 vcl (va_A [] sz) (fun (u : Unit) => [])) (va_A [] sz)) 0 0 (fun _ => False) := by
  refine mc_entry (cc := c_ME_openSize) (maxL := 1) (ret := (some .int)) (by decide) rfl (Nat.le_of_ble_eq_true rfl) ?_
  intro p e s m args below meth c ls F hr hlk hnm hsz hP hD hE hA hl
  obtain ⟨hx, hb, hml, hown, hts⟩ := id F
  have hK := hE.1
  generalize va_A [] sz = A at hD hE hA ⊢
  have hS : va_S A s.heap s.heap [] := va_S.rf
  have hl : lv_has ls 1 [(0, .int (nI 1))] := hl
  refine lv_sipush (v := nI 384) hx hb dME_openSize_0 (by decide) ?_
  refine va_gets hx hb (hE.2.1 19 _ rfl).1 hS hown (hts _ (wg_t kw_1605)) (fun _ h9 => h9) dME_openSize_3 ?_
  refine lv_iload_n hx hb dME_openSize_6 rfl (lv_at hl 0 rfl) ?_
  refine va_ti (v := .int (nI 3)) hx hb (hE.2.1 19 _ rfl).2 hS (vp_in_nI (by decide) (by decide)) (by decide +kernel) dME_openSize_7 ?_
  refine mi_imul hx hb dME_openSize_8 ?_
  refine mi_as (show nI (384 * 3) = nI 1152 from rfl) ?_
  refine lv_bipush (v := nI 32) hx hb dME_openSize_9 (by decide) ?_
  refine mi_iadd hx hb dME_openSize_11 ?_
  refine mi_as (show nI (1152 + 32) = nI 1184 from rfl) ?_
  exact mr_iret hx hb hr hlk hP hD hS () (by decide) [] rfl rfl (by omega) (by omega) dME_openSize_12
set_option maxHeartbeats 400000 in
set_option maxRecDepth 100000 in
theorem m_ME_openSize_2 (l : Launch) (g : Gd) (sz : Nat)  : Met l y_ME_openSize w_ME_openSize ({ frames := 0, cells := 0, slots := 0, locals := 0 } : Room) (va_Pc [.int (nI 2)] (pr (en g) g.1 vcl sz [])) (va_Qi (fun (r : Int32) (u : Unit) => ¬ nI 0 = r) (po g.1 vcl (va_A [] sz) (fun (u : Unit) => [])) (va_A [] sz)) 0 0 (fun _ => False) := by
  refine mc_entry (cc := c_ME_openSize) (maxL := 1) (ret := (some .int)) (by decide) rfl (Nat.le_of_ble_eq_true rfl) ?_
  intro p e s m args below meth c ls F hr hlk hnm hsz hP hD hE hA hl
  obtain ⟨hx, hb, hml, hown, hts⟩ := id F
  have hK := hE.1
  generalize va_A [] sz = A at hD hE hA ⊢
  have hS : va_S A s.heap s.heap [] := va_S.rf
  have hl : lv_has ls 1 [(0, .int (nI 2))] := hl
  refine lv_sipush (v := nI 384) hx hb dME_openSize_0 (by decide) ?_
  refine va_gets hx hb (hE.2.1 19 _ rfl).1 hS hown (hts _ (wg_t kw_1605)) (fun _ h9 => h9) dME_openSize_3 ?_
  refine lv_iload_n hx hb dME_openSize_6 rfl (lv_at hl 0 rfl) ?_
  refine va_ti (v := .int (nI 4)) hx hb (hE.2.1 19 _ rfl).2 hS (vp_in_nI (by decide) (by decide)) (by decide +kernel) dME_openSize_7 ?_
  refine mi_imul hx hb dME_openSize_8 ?_
  refine mi_as (show nI (384 * 4) = nI 1536 from rfl) ?_
  refine lv_bipush (v := nI 32) hx hb dME_openSize_9 (by decide) ?_
  refine mi_iadd hx hb dME_openSize_11 ?_
  refine mi_as (show nI (1536 + 32) = nI 1568 from rfl) ?_
  exact mr_iret hx hb hr hlk hP hD hS () (by decide) [] rfl rfl (by omega) (by omega) dME_openSize_12
theorem m_ME_openSize (l : Launch) (g : Gd) (sz : Nat) (j : Nat) (hj : j < 3)  : Met l y_ME_openSize w_ME_openSize ({ frames := 0, cells := 0, slots := 0, locals := 0 } : Room) (va_Pc [.int (nI j)] (pr (en g) g.1 vcl sz [])) (va_Qi (fun (r : Int32) (u : Unit) => ¬ nI 0 = r) (po g.1 vcl (va_A [] sz) (fun (u : Unit) => [])) (va_A [] sz)) 0 0 (fun _ => False) := by
  match j, hj with | 0, _ => exact m_ME_openSize_0 l g sz | 1, _ => exact m_ME_openSize_1 l g sz | 2, _ => exact m_ME_openSize_2 l g sz | n + 3, h => exact absurd h (by omega)
set_option maxHeartbeats 400000 in
set_option maxRecDepth 100000 in
theorem m_ME_hiddenSize_0 (l : Launch) (g : Gd) (sz : Nat)  : Met l y_ME_hiddenSize w_ME_hiddenSize ({ frames := 0, cells := 0, slots := 0, locals := 0 } : Room) (va_Pc [.int (nI 0)] (pr (en g) g.1 vcl sz [])) (va_Qi (fun (r : Int32) (u : Unit) => ¬ nI 0 = r) (po g.1 vcl (va_A [] sz) (fun (u : Unit) => [])) (va_A [] sz)) 0 0 (fun _ => False) := by
  refine mc_entry (cc := c_ME_hiddenSize) (maxL := 1) (ret := (some .int)) (by decide) rfl (Nat.le_of_ble_eq_true rfl) ?_
  intro p e s m args below meth c ls F hr hlk hnm hsz hP hD hE hA hl
  obtain ⟨hx, hb, hml, hown, hts⟩ := id F
  have hK := hE.1
  generalize va_A [] sz = A at hD hE hA ⊢
  have hS : va_S A s.heap s.heap [] := va_S.rf
  have hl : lv_has ls 1 [(0, .int (nI 0))] := hl
  refine lv_sipush (v := nI 768) hx hb dME_hiddenSize_0 (by decide) ?_
  refine va_gets hx hb (hE.2.1 19 _ rfl).1 hS hown (hts _ (wg_t kw_1605)) (fun _ h9 => h9) dME_hiddenSize_3 ?_
  refine lv_iload_n hx hb dME_hiddenSize_6 rfl (lv_at hl 0 rfl) ?_
  refine va_ti (v := .int (nI 2)) hx hb (hE.2.1 19 _ rfl).2 hS (vp_in_nI (by decide) (by decide)) (by decide +kernel) dME_hiddenSize_7 ?_
  refine mi_imul hx hb dME_hiddenSize_8 ?_
  refine mi_as (show nI (768 * 2) = nI 1536 from rfl) ?_
  refine lv_bipush (v := nI 96) hx hb dME_hiddenSize_9 (by decide) ?_
  refine mi_iadd hx hb dME_hiddenSize_11 ?_
  refine mi_as (show nI (1536 + 96) = nI 1632 from rfl) ?_
  exact mr_iret hx hb hr hlk hP hD hS () (by decide) [] rfl rfl (by omega) (by omega) dME_hiddenSize_12
set_option maxHeartbeats 400000 in
set_option maxRecDepth 100000 in
theorem m_ME_hiddenSize_1 (l : Launch) (g : Gd) (sz : Nat)  : Met l y_ME_hiddenSize w_ME_hiddenSize ({ frames := 0, cells := 0, slots := 0, locals := 0 } : Room) (va_Pc [.int (nI 1)] (pr (en g) g.1 vcl sz [])) (va_Qi (fun (r : Int32) (u : Unit) => ¬ nI 0 = r) (po g.1 vcl (va_A [] sz) (fun (u : Unit) => [])) (va_A [] sz)) 0 0 (fun _ => False) := by
  refine mc_entry (cc := c_ME_hiddenSize) (maxL := 1) (ret := (some .int)) (by decide) rfl (Nat.le_of_ble_eq_true rfl) ?_
  intro p e s m args below meth c ls F hr hlk hnm hsz hP hD hE hA hl
  obtain ⟨hx, hb, hml, hown, hts⟩ := id F
  have hK := hE.1
  generalize va_A [] sz = A at hD hE hA ⊢
  have hS : va_S A s.heap s.heap [] := va_S.rf
  have hl : lv_has ls 1 [(0, .int (nI 1))] := hl
  refine lv_sipush (v := nI 768) hx hb dME_hiddenSize_0 (by decide) ?_
  refine va_gets hx hb (hE.2.1 19 _ rfl).1 hS hown (hts _ (wg_t kw_1605)) (fun _ h9 => h9) dME_hiddenSize_3 ?_
  refine lv_iload_n hx hb dME_hiddenSize_6 rfl (lv_at hl 0 rfl) ?_
  refine va_ti (v := .int (nI 3)) hx hb (hE.2.1 19 _ rfl).2 hS (vp_in_nI (by decide) (by decide)) (by decide +kernel) dME_hiddenSize_7 ?_
  refine mi_imul hx hb dME_hiddenSize_8 ?_
  refine mi_as (show nI (768 * 3) = nI 2304 from rfl) ?_
  refine lv_bipush (v := nI 96) hx hb dME_hiddenSize_9 (by decide) ?_
  refine mi_iadd hx hb dME_hiddenSize_11 ?_
  refine mi_as (show nI (2304 + 96) = nI 2400 from rfl) ?_
  exact mr_iret hx hb hr hlk hP hD hS () (by decide) [] rfl rfl (by omega) (by omega) dME_hiddenSize_12
set_option maxHeartbeats 400000 in
set_option maxRecDepth 100000 in
theorem m_ME_hiddenSize_2 (l : Launch) (g : Gd) (sz : Nat)  : Met l y_ME_hiddenSize w_ME_hiddenSize ({ frames := 0, cells := 0, slots := 0, locals := 0 } : Room) (va_Pc [.int (nI 2)] (pr (en g) g.1 vcl sz [])) (va_Qi (fun (r : Int32) (u : Unit) => ¬ nI 0 = r) (po g.1 vcl (va_A [] sz) (fun (u : Unit) => [])) (va_A [] sz)) 0 0 (fun _ => False) := by
  refine mc_entry (cc := c_ME_hiddenSize) (maxL := 1) (ret := (some .int)) (by decide) rfl (Nat.le_of_ble_eq_true rfl) ?_
  intro p e s m args below meth c ls F hr hlk hnm hsz hP hD hE hA hl
  obtain ⟨hx, hb, hml, hown, hts⟩ := id F
  have hK := hE.1
  generalize va_A [] sz = A at hD hE hA ⊢
  have hS : va_S A s.heap s.heap [] := va_S.rf
  have hl : lv_has ls 1 [(0, .int (nI 2))] := hl
  refine lv_sipush (v := nI 768) hx hb dME_hiddenSize_0 (by decide) ?_
  refine va_gets hx hb (hE.2.1 19 _ rfl).1 hS hown (hts _ (wg_t kw_1605)) (fun _ h9 => h9) dME_hiddenSize_3 ?_
  refine lv_iload_n hx hb dME_hiddenSize_6 rfl (lv_at hl 0 rfl) ?_
  refine va_ti (v := .int (nI 4)) hx hb (hE.2.1 19 _ rfl).2 hS (vp_in_nI (by decide) (by decide)) (by decide +kernel) dME_hiddenSize_7 ?_
  refine mi_imul hx hb dME_hiddenSize_8 ?_
  refine mi_as (show nI (768 * 4) = nI 3072 from rfl) ?_
  refine lv_bipush (v := nI 96) hx hb dME_hiddenSize_9 (by decide) ?_
  refine mi_iadd hx hb dME_hiddenSize_11 ?_
  refine mi_as (show nI (3072 + 96) = nI 3168 from rfl) ?_
  exact mr_iret hx hb hr hlk hP hD hS () (by decide) [] rfl rfl (by omega) (by omega) dME_hiddenSize_12
theorem m_ME_hiddenSize (l : Launch) (g : Gd) (sz : Nat) (j : Nat) (hj : j < 3)  : Met l y_ME_hiddenSize w_ME_hiddenSize ({ frames := 0, cells := 0, slots := 0, locals := 0 } : Room) (va_Pc [.int (nI j)] (pr (en g) g.1 vcl sz [])) (va_Qi (fun (r : Int32) (u : Unit) => ¬ nI 0 = r) (po g.1 vcl (va_A [] sz) (fun (u : Unit) => [])) (va_A [] sz)) 0 0 (fun _ => False) := by
  match j, hj with | 0, _ => exact m_ME_hiddenSize_0 l g sz | 1, _ => exact m_ME_hiddenSize_1 l g sz | 2, _ => exact m_ME_hiddenSize_2 l g sz | n + 3, h => exact absurd h (by omega)
set_option maxHeartbeats 400000 in
set_option maxRecDepth 100000 in
theorem m_MH_openSize_0 (l : Launch) (g : Gd) (sz : Nat)  : Met l y_MH_openSize w_MH_openSize ({ frames := 0, cells := 0, slots := 0, locals := 0 } : Room) (va_Pc [.int (nI 0)] (pr (en g) g.1 vcl sz [])) (va_Qi (fun (r : Int32) (u : Unit) => ¬ nI 0 = r) (po g.1 vcl (va_A [] sz) (fun (u : Unit) => [])) (va_A [] sz)) 0 0 (fun _ => False) := by
  refine mc_entry (cc := c_MH_openSize) (maxL := 1) (ret := (some .int)) (by decide) rfl (Nat.le_of_ble_eq_true rfl) ?_
  intro p e s m args below meth c ls F hr hlk hnm hsz hP hD hE hA hl
  obtain ⟨hx, hb, hml, hown, hts⟩ := id F
  have hK := hE.1
  generalize va_A [] sz = A at hD hE hA ⊢
  have hS : va_S A s.heap s.heap [] := va_S.rf
  have hl : lv_has ls 1 [(0, .int (nI 0))] := hl
  refine lv_bipush (v := nI 32) hx hb dMH_openSize_0 (by decide) ?_
  refine lv_sipush (v := nI 320) hx hb dMH_openSize_2 (by decide) ?_
  refine va_gets hx hb (hE.2.1 23 _ rfl).1 hS hown (hts _ (wg_t kw_1706)) (fun _ h9 => h9) dMH_openSize_5 ?_
  refine lv_iload_n hx hb dMH_openSize_8 rfl (lv_at hl 0 rfl) ?_
  refine va_ti (v := .int (nI 4)) hx hb (hE.2.1 23 _ rfl).2 hS (vp_in_nI (by decide) (by decide)) (by decide +kernel) dMH_openSize_9 ?_
  refine mi_imul hx hb dMH_openSize_10 ?_
  refine mi_as (show nI (320 * 4) = nI 1280 from rfl) ?_
  refine mi_iadd hx hb dMH_openSize_11 ?_
  refine mi_as (show nI (32 + 1280) = nI 1312 from rfl) ?_
  exact mr_iret hx hb hr hlk hP hD hS () (by decide) [] rfl rfl (by omega) (by omega) dMH_openSize_12
set_option maxHeartbeats 400000 in
set_option maxRecDepth 100000 in
theorem m_MH_openSize_1 (l : Launch) (g : Gd) (sz : Nat)  : Met l y_MH_openSize w_MH_openSize ({ frames := 0, cells := 0, slots := 0, locals := 0 } : Room) (va_Pc [.int (nI 1)] (pr (en g) g.1 vcl sz [])) (va_Qi (fun (r : Int32) (u : Unit) => ¬ nI 0 = r) (po g.1 vcl (va_A [] sz) (fun (u : Unit) => [])) (va_A [] sz)) 0 0 (fun _ => False) := by
  refine mc_entry (cc := c_MH_openSize) (maxL := 1) (ret := (some .int)) (by decide) rfl (Nat.le_of_ble_eq_true rfl) ?_
  intro p e s m args below meth c ls F hr hlk hnm hsz hP hD hE hA hl
  obtain ⟨hx, hb, hml, hown, hts⟩ := id F
  have hK := hE.1
  generalize va_A [] sz = A at hD hE hA ⊢
  have hS : va_S A s.heap s.heap [] := va_S.rf
  have hl : lv_has ls 1 [(0, .int (nI 1))] := hl
  refine lv_bipush (v := nI 32) hx hb dMH_openSize_0 (by decide) ?_
  refine lv_sipush (v := nI 320) hx hb dMH_openSize_2 (by decide) ?_
  refine va_gets hx hb (hE.2.1 23 _ rfl).1 hS hown (hts _ (wg_t kw_1706)) (fun _ h9 => h9) dMH_openSize_5 ?_
  refine lv_iload_n hx hb dMH_openSize_8 rfl (lv_at hl 0 rfl) ?_
  refine va_ti (v := .int (nI 6)) hx hb (hE.2.1 23 _ rfl).2 hS (vp_in_nI (by decide) (by decide)) (by decide +kernel) dMH_openSize_9 ?_
  refine mi_imul hx hb dMH_openSize_10 ?_
  refine mi_as (show nI (320 * 6) = nI 1920 from rfl) ?_
  refine mi_iadd hx hb dMH_openSize_11 ?_
  refine mi_as (show nI (32 + 1920) = nI 1952 from rfl) ?_
  exact mr_iret hx hb hr hlk hP hD hS () (by decide) [] rfl rfl (by omega) (by omega) dMH_openSize_12
set_option maxHeartbeats 400000 in
set_option maxRecDepth 100000 in
theorem m_MH_openSize_2 (l : Launch) (g : Gd) (sz : Nat)  : Met l y_MH_openSize w_MH_openSize ({ frames := 0, cells := 0, slots := 0, locals := 0 } : Room) (va_Pc [.int (nI 2)] (pr (en g) g.1 vcl sz [])) (va_Qi (fun (r : Int32) (u : Unit) => ¬ nI 0 = r) (po g.1 vcl (va_A [] sz) (fun (u : Unit) => [])) (va_A [] sz)) 0 0 (fun _ => False) := by
  refine mc_entry (cc := c_MH_openSize) (maxL := 1) (ret := (some .int)) (by decide) rfl (Nat.le_of_ble_eq_true rfl) ?_
  intro p e s m args below meth c ls F hr hlk hnm hsz hP hD hE hA hl
  obtain ⟨hx, hb, hml, hown, hts⟩ := id F
  have hK := hE.1
  generalize va_A [] sz = A at hD hE hA ⊢
  have hS : va_S A s.heap s.heap [] := va_S.rf
  have hl : lv_has ls 1 [(0, .int (nI 2))] := hl
  refine lv_bipush (v := nI 32) hx hb dMH_openSize_0 (by decide) ?_
  refine lv_sipush (v := nI 320) hx hb dMH_openSize_2 (by decide) ?_
  refine va_gets hx hb (hE.2.1 23 _ rfl).1 hS hown (hts _ (wg_t kw_1706)) (fun _ h9 => h9) dMH_openSize_5 ?_
  refine lv_iload_n hx hb dMH_openSize_8 rfl (lv_at hl 0 rfl) ?_
  refine va_ti (v := .int (nI 8)) hx hb (hE.2.1 23 _ rfl).2 hS (vp_in_nI (by decide) (by decide)) (by decide +kernel) dMH_openSize_9 ?_
  refine mi_imul hx hb dMH_openSize_10 ?_
  refine mi_as (show nI (320 * 8) = nI 2560 from rfl) ?_
  refine mi_iadd hx hb dMH_openSize_11 ?_
  refine mi_as (show nI (32 + 2560) = nI 2592 from rfl) ?_
  exact mr_iret hx hb hr hlk hP hD hS () (by decide) [] rfl rfl (by omega) (by omega) dMH_openSize_12
theorem m_MH_openSize (l : Launch) (g : Gd) (sz : Nat) (j : Nat) (hj : j < 3)  : Met l y_MH_openSize w_MH_openSize ({ frames := 0, cells := 0, slots := 0, locals := 0 } : Room) (va_Pc [.int (nI j)] (pr (en g) g.1 vcl sz [])) (va_Qi (fun (r : Int32) (u : Unit) => ¬ nI 0 = r) (po g.1 vcl (va_A [] sz) (fun (u : Unit) => [])) (va_A [] sz)) 0 0 (fun _ => False) := by
  match j, hj with | 0, _ => exact m_MH_openSize_0 l g sz | 1, _ => exact m_MH_openSize_1 l g sz | 2, _ => exact m_MH_openSize_2 l g sz | n + 3, h => exact absurd h (by omega)
set_option maxHeartbeats 400000 in
set_option maxRecDepth 100000 in
theorem m_M_openSize (l : Launch) (g : Gd) (sz : Nat) (j : Nat) (hj : j < 6)  : Met l y_M_openSize w_M_openSize ({ frames := 1, cells := 0, slots := 0, locals := 30 } : Room) (va_Pc [.int (nI j)] (pr (en g) g.1 vcl sz [])) (va_Qi (fun (r : Int32) (u : Unit) => ¬ nI 0 = r) (po g.1 vcl (va_A [] sz) (fun (u : Unit) => [])) (va_A [] sz)) 0 0 (fun _ => False) := by
  refine mc_entry (cc := c_M_openSize) (maxL := 1) (ret := (some .int)) (by decide) rfl (Nat.le_of_ble_eq_true rfl) ?_
  intro p e s m args below meth c ls F hr hlk hnm hsz hP hD hE hA hl
  obtain ⟨hx, hb, hml, hown, hts⟩ := id F
  have hK := hE.1
  generalize va_A [] sz = A at hD hE hA ⊢
  have hS : va_S A s.heap s.heap [] := va_S.rf
  have hl : lv_has ls 1 [(0, .int (nI j))] := hl
  refine lv_iload_n hx hb dM_openSize_0 rfl (lv_at hl 0 rfl) ?_
  refine lv_iconst (v := nI 3) hx hb dM_openSize_1 (by decide) ?_
  refine mi_ge (tgt := 12) hx hb dM_openSize_2 (by decide) (by omega) (by omega) (fun h1 => ?_) (fun h1 => ?_)
  · refine lv_iload_n hx hb dM_openSize_12 rfl (lv_at hl 0 rfl) ?_
    refine lv_iconst (v := nI 3) hx hb dM_openSize_13 (by decide) ?_
    refine mi_isub hx hb dM_openSize_14 (by omega) ?_
    refine mr_i (wc := []) (wr := []) hP hD hS hA [] [] rfl rfl rfl (by decide) (va_runS (As := [.int (nI (j - 3))]) (rest := []) F (m_MH_openSize l g _ (j - 3) (by omega)) (va_cwS 1 hts (wg_app (wg_c kw_1768 (wg_c kw_1745 (wg_c kw_13 wg_n))) kw_1746) rfl rfl rfl (by decide +kernel) ⟨by decide, by decide⟩) (pr_S (en_ok g) hP hD hS hA hE [] rfl rfl) rfl rfl hl.1 rfl (lv_room (Nat.le_of_ble_eq_true rfl)) dM_openSize_15 ⟨(by decide), (by decide)⟩) (fun r1 u1 H hu1 hP hD hS => ?_)
    have hP : va_P g.1 vcl [] _ := hP
    have hD : va_D _ [] := hD
    refine W.widen (k := 0) (n := 0) (by omega) (by omega) ?_
    exact mr_iret hx hb hr hlk hP hD hS () hu1 [] rfl rfl (by omega) (by omega) dM_openSize_18
  · refine lv_iload_n hx hb dM_openSize_5 rfl (lv_at hl 0 rfl) ?_
    refine mr_i (wc := []) (wr := []) hP hD hS hA [] [] rfl rfl rfl (by decide) (va_runS (As := [.int (nI j)]) (rest := []) F (m_ME_openSize l g _ j (by omega)) (va_cwS 1 hts (wg_app (wg_c kw_1767 (wg_c kw_1692 (wg_c kw_11 wg_n))) kw_1693) rfl rfl rfl (by decide +kernel) ⟨by decide, by decide⟩) (pr_S (en_ok g) hP hD hS hA hE [] rfl rfl) rfl rfl hl.1 rfl (lv_room (Nat.le_of_ble_eq_true rfl)) dM_openSize_6 ⟨(by decide), (by decide)⟩) (fun r2 u2 H hu2 hP hD hS => ?_)
    have hP : va_P g.1 vcl [] _ := hP
    have hD : va_D _ [] := hD
    refine W.widen (k := 0) (n := 0) (by omega) (by omega) ?_
    refine lv_goto (tgt := 18) hx hb dM_openSize_9 (by decide) ?_
    exact mr_iret hx hb hr hlk hP hD hS () hu2 [] rfl rfl (by omega) (by omega) dM_openSize_18
set_option maxHeartbeats 400000 in
set_option maxRecDepth 100000 in
theorem m_M_hiddenSize (l : Launch) (g : Gd) (sz : Nat) (j : Nat) (hj : j < 3)  : Met l y_M_hiddenSize w_M_hiddenSize ({ frames := 1, cells := 0, slots := 0, locals := 30 } : Room) (va_Pc [.int (nI j)] (pr (en g) g.1 vcl sz [])) (va_Qi (fun (r : Int32) (u : Unit) => ¬ nI 0 = r) (po g.1 vcl (va_A [] sz) (fun (u : Unit) => [])) (va_A [] sz)) 0 0 (fun _ => False) := by
  refine mc_entry (cc := c_M_hiddenSize) (maxL := 1) (ret := (some .int)) (by decide) rfl (Nat.le_of_ble_eq_true rfl) ?_
  intro p e s m args below meth c ls F hr hlk hnm hsz hP hD hE hA hl
  obtain ⟨hx, hb, hml, hown, hts⟩ := id F
  have hK := hE.1
  generalize va_A [] sz = A at hD hE hA ⊢
  have hS : va_S A s.heap s.heap [] := va_S.rf
  have hl : lv_has ls 1 [(0, .int (nI j))] := hl
  refine lv_iload_n hx hb dM_hiddenSize_0 rfl (lv_at hl 0 rfl) ?_
  refine lv_iconst (v := nI 3) hx hb dM_hiddenSize_1 (by decide) ?_
  refine mi_ge (tgt := 12) hx hb dM_hiddenSize_2 (by decide) (by omega) (by omega) (fun h1 => absurd h1 (by omega)) (fun h1 => ?_)
  refine lv_iload_n hx hb dM_hiddenSize_5 rfl (lv_at hl 0 rfl) ?_
  refine mr_i (wc := []) (wr := []) hP hD hS hA [] [] rfl rfl rfl (by decide) (va_runS (As := [.int (nI j)]) (rest := []) F (m_ME_hiddenSize l g _ j (by omega)) (va_cwS 1 hts (wg_app (wg_c kw_1750 (wg_c kw_1751 (wg_c kw_11 wg_n))) kw_1752) rfl rfl rfl (by decide +kernel) ⟨by decide, by decide⟩) (pr_S (en_ok g) hP hD hS hA hE [] rfl rfl) rfl rfl hl.1 rfl (lv_room (Nat.le_of_ble_eq_true rfl)) dM_hiddenSize_6 ⟨(by decide), (by decide)⟩) (fun r1 u1 H hu1 hP hD hS => ?_)
  have hP : va_P g.1 vcl [] _ := hP
  have hD : va_D _ [] := hD
  refine W.widen (k := 0) (n := 0) (by omega) (by omega) ?_
  refine lv_goto (tgt := 18) hx hb dM_hiddenSize_9 (by decide) ?_
  exact mr_iret hx hb hr hlk hP hD hS () hu1 [] rfl rfl (by omega) (by omega) dM_hiddenSize_18
