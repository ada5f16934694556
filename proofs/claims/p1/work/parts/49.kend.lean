set_option maxRecDepth 100000 in
theorem kw_18 : (Jvm.Cond.initialized "java/lang/IllegalArgumentException") ∈ WG := wgr_1 18 (by rfl) (by rfl)
set_option maxRecDepth 100000 in
theorem kw_19 : (Jvm.Cond.initialized "java/lang/System") ∈ WG := wgr_1 19 (by rfl) (by rfl)
set_option maxRecDepth 100000 in
theorem kw_20 : (Jvm.Cond.initialized "java/lang/IndexOutOfBoundsException") ∈ WG := wgr_1 20 (by rfl) (by rfl)
set_option maxRecDepth 100000 in
theorem kw_525 : (Jvm.Cond.static ({ cls := "java/lang/System", name := "arraycopy", desc := "(Ljava/lang/Object;ILjava/lang/Object;II)V" } : Jvm.MethodName)) ∈ WG := wgr_3 45 (by rfl) (by rfl)
set_option maxRecDepth 100000 in
theorem kw_526 : (Jvm.Cond.native ({ cls := "java/lang/System", name := "arraycopy", desc := "(Ljava/lang/Object;ILjava/lang/Object;II)V" } : Jvm.MethodName)) ∈ WG := wgr_3 46 (by rfl) (by rfl)
abbrev c_K_end : ByteArray := prog_1_method_3_code
abbrev y_K_end : MethodName := ⟨"LatticeKeys", "end", "(I)I"⟩
abbrev w_K_end : List Cond := Cond.code y_K_end c_K_end 2 (some .int) :: WG
theorem dK_end_0 : decode c_K_end 0 = .ok (.iload_n 1, 1) := by decide +kernel
theorem dK_end_1 : decode c_K_end 1 = .ok (.ifCond .lt 11, 3) := by decide +kernel
theorem dK_end_4 : decode c_K_end 4 = .ok (.iload_n 1, 1) := by decide +kernel
theorem dK_end_5 : decode c_K_end 5 = .ok (.aload_n 0, 1) := by decide +kernel
theorem dK_end_6 : decode c_K_end 6 = .ok (.getfield 13, 3) := by decide +kernel
theorem dK_end_9 : decode c_K_end 9 = .ok (.if_icmp .le 13, 3) := by decide +kernel
theorem dK_end_12 : decode c_K_end 12 = .ok (.new 79, 3) := by decide +kernel
theorem dK_end_15 : decode c_K_end 15 = .ok (.dup, 1) := by decide +kernel
theorem dK_end_16 : decode c_K_end 16 = .ok (.ldc 81, 2) := by decide +kernel
theorem dK_end_18 : decode c_K_end 18 = .ok (.invokespecial 83, 3) := by decide +kernel
theorem dK_end_21 : decode c_K_end 21 = .ok (.athrow, 1) := by decide +kernel
theorem dK_end_22 : decode c_K_end 22 = .ok (.aload_n 0, 1) := by decide +kernel
theorem dK_end_23 : decode c_K_end 23 = .ok (.iload_n 1, 1) := by decide +kernel
theorem dK_end_24 : decode c_K_end 24 = .ok (.putfield 13, 3) := by decide +kernel
theorem dK_end_27 : decode c_K_end 27 = .ok (.iload_n 1, 1) := by decide +kernel
theorem dK_end_28 : decode c_K_end 28 = .ok (.ireturn, 1) := by decide +kernel
abbrev c_K_again : ByteArray := prog_1_method_4_code
abbrev y_K_again : MethodName := ⟨"LatticeKeys", "again", "()I"⟩
abbrev w_K_again : List Cond := Cond.code y_K_again c_K_again 1 (some .int) :: WG
theorem dK_again_0 : decode c_K_again 0 = .ok (.aload_n 0, 1) := by decide +kernel
theorem dK_again_1 : decode c_K_again 1 = .ok (.getfield 20, 3) := by decide +kernel
theorem dK_again_4 : decode c_K_again 4 = .ok (.sipush 16384, 3) := by decide +kernel
theorem dK_again_7 : decode c_K_again 7 = .ok (.aload_n 0, 1) := by decide +kernel
theorem dK_again_8 : decode c_K_again 8 = .ok (.getfield 13, 3) := by decide +kernel
theorem dK_again_11 : decode c_K_again 11 = .ok (.isub, 1) := by decide +kernel
theorem dK_again_12 : decode c_K_again 12 = .ok (.if_icmp .le 13, 3) := by decide +kernel
theorem dK_again_15 : decode c_K_again 15 = .ok (.new 69, 3) := by decide +kernel
theorem dK_again_18 : decode c_K_again 18 = .ok (.dup, 1) := by decide +kernel
theorem dK_again_19 : decode c_K_again 19 = .ok (.ldc 71, 2) := by decide +kernel
theorem dK_again_21 : decode c_K_again 21 = .ok (.invokespecial 73, 3) := by decide +kernel
theorem dK_again_24 : decode c_K_again 24 = .ok (.athrow, 1) := by decide +kernel
theorem dK_again_25 : decode c_K_again 25 = .ok (.aload_n 0, 1) := by decide +kernel
theorem dK_again_26 : decode c_K_again 26 = .ok (.getfield 17, 3) := by decide +kernel
theorem dK_again_29 : decode c_K_again 29 = .ok (.iconst 0, 1) := by decide +kernel
theorem dK_again_30 : decode c_K_again 30 = .ok (.aload_n 0, 1) := by decide +kernel
theorem dK_again_31 : decode c_K_again 31 = .ok (.getfield 9, 3) := by decide +kernel
theorem dK_again_34 : decode c_K_again 34 = .ok (.aload_n 0, 1) := by decide +kernel
theorem dK_again_35 : decode c_K_again 35 = .ok (.getfield 13, 3) := by decide +kernel
theorem dK_again_38 : decode c_K_again 38 = .ok (.aload_n 0, 1) := by decide +kernel
theorem dK_again_39 : decode c_K_again 39 = .ok (.getfield 20, 3) := by decide +kernel
theorem dK_again_42 : decode c_K_again 42 = .ok (.invokestatic 84, 3) := by decide +kernel
theorem dK_again_45 : decode c_K_again 45 = .ok (.aload_n 0, 1) := by decide +kernel
theorem dK_again_46 : decode c_K_again 46 = .ok (.dup, 1) := by decide +kernel
theorem dK_again_47 : decode c_K_again 47 = .ok (.getfield 13, 3) := by decide +kernel
theorem dK_again_50 : decode c_K_again 50 = .ok (.aload_n 0, 1) := by decide +kernel
theorem dK_again_51 : decode c_K_again 51 = .ok (.getfield 20, 3) := by decide +kernel
theorem dK_again_54 : decode c_K_again 54 = .ok (.iadd, 1) := by decide +kernel
theorem dK_again_55 : decode c_K_again 55 = .ok (.putfield 13, 3) := by decide +kernel
theorem dK_again_58 : decode c_K_again 58 = .ok (.aload_n 0, 1) := by decide +kernel
theorem dK_again_59 : decode c_K_again 59 = .ok (.getfield 13, 3) := by decide +kernel
theorem dK_again_62 : decode c_K_again 62 = .ok (.ireturn, 1) := by decide +kernel
abbrev c_K_alter : ByteArray := prog_1_method_5_code
abbrev y_K_alter : MethodName := ⟨"LatticeKeys", "alter", "(II)I"⟩
abbrev w_K_alter : List Cond := Cond.code y_K_alter c_K_alter 3 (some .int) :: WG
theorem dK_alter_0 : decode c_K_alter 0 = .ok (.iload_n 1, 1) := by decide +kernel
theorem dK_alter_1 : decode c_K_alter 1 = .ok (.ifCond .lt 11, 3) := by decide +kernel
theorem dK_alter_4 : decode c_K_alter 4 = .ok (.iload_n 1, 1) := by decide +kernel
theorem dK_alter_5 : decode c_K_alter 5 = .ok (.aload_n 0, 1) := by decide +kernel
theorem dK_alter_6 : decode c_K_alter 6 = .ok (.getfield 13, 3) := by decide +kernel
theorem dK_alter_9 : decode c_K_alter 9 = .ok (.if_icmp .lt 13, 3) := by decide +kernel
theorem dK_alter_12 : decode c_K_alter 12 = .ok (.new 90, 3) := by decide +kernel
theorem dK_alter_15 : decode c_K_alter 15 = .ok (.dup, 1) := by decide +kernel
theorem dK_alter_16 : decode c_K_alter 16 = .ok (.ldc 92, 2) := by decide +kernel
theorem dK_alter_18 : decode c_K_alter 18 = .ok (.invokespecial 94, 3) := by decide +kernel
theorem dK_alter_21 : decode c_K_alter 21 = .ok (.athrow, 1) := by decide +kernel
theorem dK_alter_22 : decode c_K_alter 22 = .ok (.aload_n 0, 1) := by decide +kernel
theorem dK_alter_23 : decode c_K_alter 23 = .ok (.getfield 9, 3) := by decide +kernel
theorem dK_alter_26 : decode c_K_alter 26 = .ok (.iload_n 1, 1) := by decide +kernel
theorem dK_alter_27 : decode c_K_alter 27 = .ok (.dup2, 1) := by decide +kernel
theorem dK_alter_28 : decode c_K_alter 28 = .ok (.baload, 1) := by decide +kernel
theorem dK_alter_29 : decode c_K_alter 29 = .ok (.iload_n 2, 1) := by decide +kernel
theorem dK_alter_30 : decode c_K_alter 30 = .ok (.i2b, 1) := by decide +kernel
theorem dK_alter_31 : decode c_K_alter 31 = .ok (.ixor, 1) := by decide +kernel
theorem dK_alter_32 : decode c_K_alter 32 = .ok (.i2b, 1) := by decide +kernel
theorem dK_alter_33 : decode c_K_alter 33 = .ok (.bastore, 1) := by decide +kernel
theorem dK_alter_34 : decode c_K_alter 34 = .ok (.aload_n 0, 1) := by decide +kernel
theorem dK_alter_35 : decode c_K_alter 35 = .ok (.getfield 9, 3) := by decide +kernel
theorem dK_alter_38 : decode c_K_alter 38 = .ok (.iload_n 1, 1) := by decide +kernel
theorem dK_alter_39 : decode c_K_alter 39 = .ok (.baload, 1) := by decide +kernel
theorem dK_alter_40 : decode c_K_alter 40 = .ok (.sipush 255, 3) := by decide +kernel
theorem dK_alter_43 : decode c_K_alter 43 = .ok (.iand, 1) := by decide +kernel
theorem dK_alter_44 : decode c_K_alter 44 = .ok (.ireturn, 1) := by decide +kernel
abbrev c_K_result : ByteArray := prog_1_method_16_code
abbrev y_K_result : MethodName := ⟨"LatticeKeys", "result", "(I)I"⟩
abbrev w_K_result : List Cond := Cond.code y_K_result c_K_result 2 (some .int) :: WG
theorem dK_result_0 : decode c_K_result 0 = .ok (.iload_n 1, 1) := by decide +kernel
theorem dK_result_1 : decode c_K_result 1 = .ok (.ifCond .lt 11, 3) := by decide +kernel
theorem dK_result_4 : decode c_K_result 4 = .ok (.iload_n 1, 1) := by decide +kernel
theorem dK_result_5 : decode c_K_result 5 = .ok (.aload_n 0, 1) := by decide +kernel
theorem dK_result_6 : decode c_K_result 6 = .ok (.getfield 20, 3) := by decide +kernel
theorem dK_result_9 : decode c_K_result 9 = .ok (.if_icmp .lt 13, 3) := by decide +kernel
theorem dK_result_12 : decode c_K_result 12 = .ok (.new 90, 3) := by decide +kernel
theorem dK_result_15 : decode c_K_result 15 = .ok (.dup, 1) := by decide +kernel
theorem dK_result_16 : decode c_K_result 16 = .ok (.ldc 241, 2) := by decide +kernel
theorem dK_result_18 : decode c_K_result 18 = .ok (.invokespecial 94, 3) := by decide +kernel
theorem dK_result_21 : decode c_K_result 21 = .ok (.athrow, 1) := by decide +kernel
theorem dK_result_22 : decode c_K_result 22 = .ok (.aload_n 0, 1) := by decide +kernel
theorem dK_result_23 : decode c_K_result 23 = .ok (.getfield 17, 3) := by decide +kernel
theorem dK_result_26 : decode c_K_result 26 = .ok (.iload_n 1, 1) := by decide +kernel
theorem dK_result_27 : decode c_K_result 27 = .ok (.baload, 1) := by decide +kernel
theorem dK_result_28 : decode c_K_result 28 = .ok (.sipush 255, 3) := by decide +kernel
theorem dK_result_31 : decode c_K_result 31 = .ok (.iand, 1) := by decide +kernel
theorem dK_result_32 : decode c_K_result 32 = .ok (.ireturn, 1) := by decide +kernel
set_option maxHeartbeats 400000 in
set_option maxRecDepth 100000 in
theorem m_K_end0 (l : Launch) (g : Gd) (sz : Nat) (h0 : Nat) (u : Nat → Nat)  : Met l y_K_end w_K_end ({ frames := 0, cells := 0, slots := 0, locals := 0 } : Room) (va_Pc [.ref h0, .int (nI 0)] (pr (en g) g.1 vcl sz [(h0, .inr (0, [.ref (u 0), .int (nI 0), .ref (u 1), .int (nI 0), .ref (u 12), .int (nI 0), .ref (u 2), .ref (u 3), .ref (u 4), .ref (u 13), .ref (u 14)]))])) (va_Qi (fun (r : Int32) (u : Unit) => r = nI 0) (po g.1 vcl (va_A [(h0, .inr (0, [.ref (u 0), .int (nI 0), .ref (u 1), .int (nI 0), .ref (u 12), .int (nI 0), .ref (u 2), .ref (u 3), .ref (u 4), .ref (u 13), .ref (u 14)]))] sz) (fun (u : Unit) => [])) (va_A [(h0, .inr (0, [.ref (u 0), .int (nI 0), .ref (u 1), .int (nI 0), .ref (u 12), .int (nI 0), .ref (u 2), .ref (u 3), .ref (u 4), .ref (u 13), .ref (u 14)]))] sz)) 0 0 (va_A [(h0, .inr (0, [.ref (u 0), .int (nI 0), .ref (u 1), .int (nI 0), .ref (u 12), .int (nI 0), .ref (u 2), .ref (u 3), .ref (u 4), .ref (u 13), .ref (u 14)]))] sz) := by
  refine mc_entry (cc := c_K_end) (maxL := 2) (ret := (some .int)) (by decide) rfl (Nat.le_of_ble_eq_true rfl) ?_
  intro p e s m args below meth c ls F hr hlk hnm hsz hP hD hE hA hl
  obtain ⟨hx, hb, hml, hown, hts⟩ := id F
  have hK := hE.1
  generalize va_A [(h0, .inr (0, [.ref (u 0), .int (nI 0), .ref (u 1), .int (nI 0), .ref (u 12), .int (nI 0), .ref (u 2), .ref (u 3), .ref (u 4), .ref (u 13), .ref (u 14)]))] sz = A at hD hE hA ⊢
  have hS : va_S A s.heap s.heap [] := va_S.rf
  have hl : lv_has ls 2 [(0, .ref h0), (1, .int (nI 0))] := hl
  refine lv_iload_n hx hb dK_end_0 rfl (lv_at hl 1 rfl) ?_
  refine lv_if_lt (tgt := 12) hx hb dK_end_1 (by decide) (fun h1 => absurd h1 (by decide)) (fun h1 => ?_)
  refine lv_iload_n hx hb dK_end_4 rfl (lv_at hl 1 rfl) ?_
  refine lv_aload_n hx hb dK_end_5 rfl (lv_at hl 0 rfl) ?_
  refine va_get (D := g.1) (ci := 0) (C := "LatticeKeys") (T := T_K) (N := 11) hx hb hts (wg_ft i_K) hown hK hP 0 rfl rfl 1 (by decide) (hts _ (wg_t kw_375)) (fun _ h9 => h9) rfl dK_end_6 ?_
  refine mi_le (tgt := 22) hx hb dK_end_9 (by decide) (by omega) (by omega) (fun h2 => ?_) (fun h2 => absurd h2 (by omega))
  refine lv_aload_n hx hb dK_end_22 rfl (lv_at hl 0 rfl) ?_
  refine lv_iload_n hx hb dK_end_23 rfl (lv_at hl 1 rfl) ?_
  refine va_put (D := g.1) (ci := 0) (v := .int (nI 0)) (ty := .int) (C := "LatticeKeys") (T := T_K) (N := 11) hx hb hts (wg_ft i_K) ty_K k_K n_K hown hK hP hD hS 0 rfl rfl 1 (by decide) (hts _ (wg_t kw_375)) (fun _ h9 => h9) rfl (by decide +kernel) rfl rfl (Nat.le_of_ble_eq_true rfl) dK_end_24 (fun H locs hP hD hS => ?_)
  have hP : va_P g.1 vcl [(h0, .inr (0, [.ref (u 0), .int (nI 0), .ref (u 1), .int (nI 0), .ref (u 12), .int (nI 0), .ref (u 2), .ref (u 3), .ref (u 4), .ref (u 13), .ref (u 14)]))] _ := hP
  have hD : va_D _ [(h0, .inr (0, [.ref (u 0), .int (nI 0), .ref (u 1), .int (nI 0), .ref (u 12), .int (nI 0), .ref (u 2), .ref (u 3), .ref (u 4), .ref (u 13), .ref (u 14)]))] := hD
  refine lv_iload_n hx hb dK_end_27 rfl (lv_at hl 1 rfl) ?_
  exact mc_iret hx hb hr hlk hP hD hS () rfl [] rfl rfl (by omega) (by omega) dK_end_28
set_option maxHeartbeats 400000 in
set_option maxRecDepth 100000 in
theorem x_K_end (l : Launch) (htr : l.stackTraces = false) (g : Gd) (sz : Nat) (h0 : Nat) (u : Nat → Nat) (v : Int32) (hv : ¬ v = 0)  : xtMet l y_K_end w_K_end ({ frames := 6, cells := 1, slots := 6, locals := 150 } : Room) (va_Pc [.ref h0, .int v] (pr (ex g) g.1 vcl sz [(h0, .inr (0, [.ref (u 0), .int (nI 0), .ref (u 1), .int (nI 0), .ref (u 12), .int (nI 0), .ref (u 2), .ref (u 3), .ref (u 4), .ref (u 13), .ref (u 14)]))])) "java/lang/IllegalArgumentException" 1 6 := by
  refine xt_entry (cc := c_K_end) (maxL := 2) (ret := (some .int)) (by decide) rfl (Nat.le_of_ble_eq_true rfl) ?_
  intro p e s m args below meth c ls F hr hlk htab hsz hP hD hX hA hl
  obtain ⟨hx, hb, hml, hown, hts⟩ := id F
  have hE := hX.1
  have hK := hE.1
  generalize va_A [(h0, .inr (0, [.ref (u 0), .int (nI 0), .ref (u 1), .int (nI 0), .ref (u 12), .int (nI 0), .ref (u 2), .ref (u 3), .ref (u 4), .ref (u 13), .ref (u 14)]))] sz = A at hD hX hE hA
  have hS : va_S A s.heap s.heap [] := va_S.rf
  have hl : lv_has ls 2 [(0, .ref h0), (1, .int v)] := hl
  refine lv_iload_n hx hb dK_end_0 rfl (lv_at hl 1 rfl) ?_
  refine lv_if_lt (tgt := 12) hx hb dK_end_1 (by decide) (fun h1 => ?_) (fun h1 => ?_)
  · exact xt_throw (own := "LatticeKeys") (cls := "java/lang/IllegalArgumentException") (text := "the tape is not so long") (names := ["java/lang/RuntimeException", "java/lang/Exception"]) (ik := 79) (is := 81) (ic := 83) hx hb htr ctr_IAE_0 ctr_IAE_1 ctr_IAE_2 ctr_IAE_5 hown (by decide) (by decide) (hts _ (wg_t kw_501)) (hts _ (wg_t kw_18)) (hX.2.2.2.2.2.1 1 ("LatticeKeys", 81, "the tape is not so long") rfl) (hat_IAE hts hX.2) hS.1 (hl.1.trans hml.symm) dK_end_12 dK_end_15 dK_end_16 dK_end_18 dK_end_21 htab (by decide) (by decide) (by decide) (by decide) hlk (by decide) (by decide)
  · refine lv_iload_n hx hb dK_end_4 rfl (lv_at hl 1 rfl) ?_
    refine lv_aload_n hx hb dK_end_5 rfl (lv_at hl 0 rfl) ?_
    refine va_get (D := g.1) (ci := 0) (C := "LatticeKeys") (T := T_K) (N := 11) hx hb hts (wg_ft i_K) hown hK hP 0 rfl rfl 1 (by decide) (hts _ (wg_t kw_375)) (fun _ h9 => h9) rfl dK_end_6 ?_
    refine lv_icmp_le (tgt := 22) hx hb dK_end_9 (by decide) (fun h2 => absurd h2 (int0 h1 hv)) (fun h2 => ?_)
    exact xt_throw (own := "LatticeKeys") (cls := "java/lang/IllegalArgumentException") (text := "the tape is not so long") (names := ["java/lang/RuntimeException", "java/lang/Exception"]) (ik := 79) (is := 81) (ic := 83) hx hb htr ctr_IAE_0 ctr_IAE_1 ctr_IAE_2 ctr_IAE_5 hown (by decide) (by decide) (hts _ (wg_t kw_501)) (hts _ (wg_t kw_18)) (hX.2.2.2.2.2.1 1 ("LatticeKeys", 81, "the tape is not so long") rfl) (hat_IAE hts hX.2) hS.1 (hl.1.trans hml.symm) dK_end_12 dK_end_15 dK_end_16 dK_end_18 dK_end_21 htab (by decide) (by decide) (by decide) (by decide) hlk (by decide) (by decide)
set_option maxHeartbeats 400000 in
set_option maxRecDepth 100000 in
theorem m_K_again (l : Launch) (g : Gd) (sz : Nat) (h0 : Nat) (u : Nat → Nat)  : Met l y_K_again w_K_again ({ frames := 2, cells := 0, slots := 0, locals := 60 } : Room) (va_Pc [.ref h0] (pr (en g) g.1 vcl sz [(h0, .inr (0, [.ref (u 0), .int (nI 0), .ref (u 1), .int (nI 0), .ref (u 12), .int (nI 0), .ref (u 2), .ref (u 3), .ref (u 4), .ref (u 13), .ref (u 14)])), (u 0, .inl (g.2.1 1, 16384, .inl ((fun _ => 0)))), (u 1, .inl (g.2.1 1, 8192, .inl ((fun _ => 0))))])) (va_Qi (fun (r : Int32) (u : Unit) => r = nI 0) (po g.1 vcl (va_A [(h0, .inr (0, [.ref (u 0), .int (nI 0), .ref (u 1), .int (nI 0), .ref (u 12), .int (nI 0), .ref (u 2), .ref (u 3), .ref (u 4), .ref (u 13), .ref (u 14)])), (u 0, .inl (g.2.1 1, 16384, .inl ((fun _ => 0)))), (u 1, .inl (g.2.1 1, 8192, .inl ((fun _ => 0))))] sz) (fun (u : Unit) => [])) (va_A [(h0, .inr (0, [.ref (u 0), .int (nI 0), .ref (u 1), .int (nI 0), .ref (u 12), .int (nI 0), .ref (u 2), .ref (u 3), .ref (u 4), .ref (u 13), .ref (u 14)])), (u 0, .inl (g.2.1 1, 16384, .inl ((fun _ => 0)))), (u 1, .inl (g.2.1 1, 8192, .inl ((fun _ => 0))))] sz)) 0 0 (va_A [(h0, .inr (0, [.ref (u 0), .int (nI 0), .ref (u 1), .int (nI 0), .ref (u 12), .int (nI 0), .ref (u 2), .ref (u 3), .ref (u 4), .ref (u 13), .ref (u 14)])), (u 0, .inl (g.2.1 1, 16384, .inl ((fun _ => 0)))), (u 1, .inl (g.2.1 1, 8192, .inl ((fun _ => 0))))] sz) := by
  refine mc_entry (cc := c_K_again) (maxL := 1) (ret := (some .int)) (by decide) rfl (Nat.le_of_ble_eq_true rfl) ?_
  intro p e s m args below meth c ls F hr hlk hnm hsz hP hD hE hA hl
  obtain ⟨hx, hb, hml, hown, hts⟩ := id F
  have hK := hE.1
  generalize va_A [(h0, .inr (0, [.ref (u 0), .int (nI 0), .ref (u 1), .int (nI 0), .ref (u 12), .int (nI 0), .ref (u 2), .ref (u 3), .ref (u 4), .ref (u 13), .ref (u 14)])), (u 0, .inl (g.2.1 1, 16384, .inl ((fun _ => 0)))), (u 1, .inl (g.2.1 1, 8192, .inl ((fun _ => 0))))] sz = A at hD hE hA ⊢
  have hS : va_S A s.heap s.heap [] := va_S.rf
  have hl : lv_has ls 1 [(0, .ref h0)] := hl
  refine lv_aload_n hx hb dK_again_0 rfl (lv_at hl 0 rfl) ?_
  refine va_get (D := g.1) (ci := 0) (C := "LatticeKeys") (T := T_K) (N := 11) hx hb hts (wg_ft i_K) hown hK hP 0 rfl rfl 3 (by decide) (hts _ (wg_t kw_377)) (fun _ h9 => h9) rfl dK_again_1 ?_
  refine lv_sipush (v := nI 16384) hx hb dK_again_4 (by decide) ?_
  refine lv_aload_n hx hb dK_again_7 rfl (lv_at hl 0 rfl) ?_
  refine va_get (D := g.1) (ci := 0) (C := "LatticeKeys") (T := T_K) (N := 11) hx hb hts (wg_ft i_K) hown hK hP 0 rfl rfl 1 (by decide) (hts _ (wg_t kw_375)) (fun _ h9 => h9) rfl dK_again_8 ?_
  refine mi_isub hx hb dK_again_11 (by omega) ?_
  refine mi_as (show nI (16384 - 0) = nI 16384 from rfl) ?_
  refine mi_le (tgt := 25) hx hb dK_again_12 (by decide) (by omega) (by omega) (fun h1 => ?_) (fun h1 => absurd h1 (by omega))
  refine lv_aload_n hx hb dK_again_25 rfl (lv_at hl 0 rfl) ?_
  refine va_get (D := g.1) (ci := 0) (C := "LatticeKeys") (T := T_K) (N := 11) hx hb hts (wg_ft i_K) hown hK hP 0 rfl rfl 2 (by decide) (hts _ (wg_t kw_376)) (fun _ h9 => h9) rfl dK_again_26 ?_
  refine lv_iconst (v := nI 0) hx hb dK_again_29 (by decide) ?_
  refine lv_aload_n hx hb dK_again_30 rfl (lv_at hl 0 rfl) ?_
  refine va_get (D := g.1) (ci := 0) (C := "LatticeKeys") (T := T_K) (N := 11) hx hb hts (wg_ft i_K) hown hK hP 0 rfl rfl 0 (by decide) (hts _ (wg_t kw_374)) (fun _ h9 => h9) rfl dK_again_31 ?_
  refine lv_aload_n hx hb dK_again_34 rfl (lv_at hl 0 rfl) ?_
  refine va_get (D := g.1) (ci := 0) (C := "LatticeKeys") (T := T_K) (N := 11) hx hb hts (wg_ft i_K) hown hK hP 0 rfl rfl 1 (by decide) (hts _ (wg_t kw_375)) (fun _ h9 => h9) rfl dK_again_35 ?_
  refine lv_aload_n hx hb dK_again_38 rfl (lv_at hl 0 rfl) ?_
  refine va_get (D := g.1) (ci := 0) (C := "LatticeKeys") (T := T_K) (N := 11) hx hb hts (wg_ft i_K) hown hK hP 0 rfl rfl 3 (by decide) (hts _ (wg_t kw_377)) (fun _ h9 => h9) rfl dK_again_39 ?_
  refine va_copyi (ty := .byte) hx hb (hml.trans hl.1.symm) hown (hts _ (wg_t kw_524)) (hts _ (wg_t kw_526)) (hts _ (wg_t kw_525)) (hts _ (wg_t kw_19)) hK hP hD hS 2 1 1 1 rfl rfl rfl rfl rfl (by decide) (by decide) (by decide) (by decide) (by decide) (fun i hi => absurd hi (Nat.not_lt_zero i)) (by decide) (by decide) dK_again_42 (fun H locs hP hD hS => ?_)
  generalize va_cpy _ _ _ _ _ = f1 at hP hD
  have hP : va_P g.1 vcl [(h0, .inr (0, [.ref (u 0), .int (nI 0), .ref (u 1), .int (nI 0), .ref (u 12), .int (nI 0), .ref (u 2), .ref (u 3), .ref (u 4), .ref (u 13), .ref (u 14)])), (u 0, .inl (g.2.1 1, 16384, .inl f1)), (u 1, .inl (g.2.1 1, 8192, .inl ((fun _ => 0))))] _ := hP
  have hD : va_D _ [(h0, .inr (0, [.ref (u 0), .int (nI 0), .ref (u 1), .int (nI 0), .ref (u 12), .int (nI 0), .ref (u 2), .ref (u 3), .ref (u 4), .ref (u 13), .ref (u 14)])), (u 0, .inl (g.2.1 1, 16384, .inl f1)), (u 1, .inl (g.2.1 1, 8192, .inl ((fun _ => 0))))] := hD
  refine lv_aload_n hx hb dK_again_45 rfl (lv_at hl 0 rfl) ?_
  refine lv_dup hx hb dK_again_46 rfl ?_
  refine va_get (D := g.1) (ci := 0) (C := "LatticeKeys") (T := T_K) (N := 11) hx hb hts (wg_ft i_K) hown hK hP 0 rfl rfl 1 (by decide) (hts _ (wg_t kw_375)) (fun _ h9 => h9) rfl dK_again_47 ?_
  refine lv_aload_n hx hb dK_again_50 rfl (lv_at hl 0 rfl) ?_
  refine va_get (D := g.1) (ci := 0) (C := "LatticeKeys") (T := T_K) (N := 11) hx hb hts (wg_ft i_K) hown hK hP 0 rfl rfl 3 (by decide) (hts _ (wg_t kw_377)) (fun _ h9 => h9) rfl dK_again_51 ?_
  refine mi_iadd hx hb dK_again_54 ?_
  refine mi_as (show nI (0 + 0) = nI 0 from rfl) ?_
  refine va_put (D := g.1) (ci := 0) (v := .int (nI 0)) (ty := .int) (C := "LatticeKeys") (T := T_K) (N := 11) hx hb hts (wg_ft i_K) ty_K k_K n_K hown hK hP hD hS 0 rfl rfl 1 (by decide) (hts _ (wg_t kw_375)) (fun _ h9 => h9) rfl (by decide +kernel) rfl rfl (Nat.le_of_ble_eq_true rfl) dK_again_55 (fun H locs hP hD hS => ?_)
  have hP : va_P g.1 vcl [(h0, .inr (0, [.ref (u 0), .int (nI 0), .ref (u 1), .int (nI 0), .ref (u 12), .int (nI 0), .ref (u 2), .ref (u 3), .ref (u 4), .ref (u 13), .ref (u 14)])), (u 0, .inl (g.2.1 1, 16384, .inl f1)), (u 1, .inl (g.2.1 1, 8192, .inl ((fun _ => 0))))] _ := hP
  have hD : va_D _ [(h0, .inr (0, [.ref (u 0), .int (nI 0), .ref (u 1), .int (nI 0), .ref (u 12), .int (nI 0), .ref (u 2), .ref (u 3), .ref (u 4), .ref (u 13), .ref (u 14)])), (u 0, .inl (g.2.1 1, 16384, .inl f1)), (u 1, .inl (g.2.1 1, 8192, .inl ((fun _ => 0))))] := hD
  refine lv_aload_n hx hb dK_again_58 rfl (lv_at hl 0 rfl) ?_
  refine va_get (D := g.1) (ci := 0) (C := "LatticeKeys") (T := T_K) (N := 11) hx hb hts (wg_ft i_K) hown hK hP 0 rfl rfl 1 (by decide) (hts _ (wg_t kw_375)) (fun _ h9 => h9) rfl dK_again_59 ?_
  exact mc_iret hx hb hr hlk hP hD hS () rfl [] rfl rfl (by omega) (by omega) dK_again_62
set_option maxHeartbeats 400000 in
set_option maxRecDepth 100000 in
theorem x_K_alter (l : Launch) (htr : l.stackTraces = false) (g : Gd) (sz : Nat) (h0 : Nat) (u : Nat → Nat) (v v2 : Int32)  : xtMet l y_K_alter w_K_alter ({ frames := 6, cells := 1, slots := 6, locals := 150 } : Room) (va_Pc [.ref h0, .int v, .int v2] (pr (ex g) g.1 vcl sz [(h0, .inr (0, [.ref (u 0), .int (nI 0), .ref (u 1), .int (nI 0), .ref (u 12), .int (nI 0), .ref (u 2), .ref (u 3), .ref (u 4), .ref (u 13), .ref (u 14)]))])) "java/lang/IndexOutOfBoundsException" 1 6 := by
  refine xt_entry (cc := c_K_alter) (maxL := 3) (ret := (some .int)) (by decide) rfl (Nat.le_of_ble_eq_true rfl) ?_
  intro p e s m args below meth c ls F hr hlk htab hsz hP hD hX hA hl
  obtain ⟨hx, hb, hml, hown, hts⟩ := id F
  have hE := hX.1
  have hK := hE.1
  generalize va_A [(h0, .inr (0, [.ref (u 0), .int (nI 0), .ref (u 1), .int (nI 0), .ref (u 12), .int (nI 0), .ref (u 2), .ref (u 3), .ref (u 4), .ref (u 13), .ref (u 14)]))] sz = A at hD hX hE hA
  have hS : va_S A s.heap s.heap [] := va_S.rf
  have hl : lv_has ls 3 [(0, .ref h0), (1, .int v), (2, .int v2)] := hl
  refine lv_iload_n hx hb dK_alter_0 rfl (lv_at hl 1 rfl) ?_
  refine lv_if_lt (tgt := 12) hx hb dK_alter_1 (by decide) (fun h1 => ?_) (fun h1 => ?_)
  · exact xt_throw (own := "LatticeKeys") (cls := "java/lang/IndexOutOfBoundsException") (text := "no such byte on the tape") (names := ["java/lang/RuntimeException", "java/lang/Exception"]) (ik := 90) (is := 92) (ic := 94) hx hb htr ctr_IOB_0 ctr_IOB_1 ctr_IOB_2 ctr_IOB_5 hown (by decide) (by decide) (hts _ (wg_t kw_535)) (hts _ (wg_t kw_20)) (hX.2.2.2.2.2.1 2 ("LatticeKeys", 92, "no such byte on the tape") rfl) (hat_IOB hts hX.2) hS.1 (hl.1.trans hml.symm) dK_alter_12 dK_alter_15 dK_alter_16 dK_alter_18 dK_alter_21 htab (by decide) (by decide) (by decide) (by decide) hlk (by decide) (by decide)
  · refine lv_iload_n hx hb dK_alter_4 rfl (lv_at hl 1 rfl) ?_
    refine lv_aload_n hx hb dK_alter_5 rfl (lv_at hl 0 rfl) ?_
    refine va_get (D := g.1) (ci := 0) (C := "LatticeKeys") (T := T_K) (N := 11) hx hb hts (wg_ft i_K) hown hK hP 0 rfl rfl 1 (by decide) (hts _ (wg_t kw_375)) (fun _ h9 => h9) rfl dK_alter_6 ?_
    refine lv_icmp_lt (tgt := 22) hx hb dK_alter_9 (by decide) (fun h2 => absurd h2 h1) (fun h2 => ?_)
    exact xt_throw (own := "LatticeKeys") (cls := "java/lang/IndexOutOfBoundsException") (text := "no such byte on the tape") (names := ["java/lang/RuntimeException", "java/lang/Exception"]) (ik := 90) (is := 92) (ic := 94) hx hb htr ctr_IOB_0 ctr_IOB_1 ctr_IOB_2 ctr_IOB_5 hown (by decide) (by decide) (hts _ (wg_t kw_535)) (hts _ (wg_t kw_20)) (hX.2.2.2.2.2.1 2 ("LatticeKeys", 92, "no such byte on the tape") rfl) (hat_IOB hts hX.2) hS.1 (hl.1.trans hml.symm) dK_alter_12 dK_alter_15 dK_alter_16 dK_alter_18 dK_alter_21 htab (by decide) (by decide) (by decide) (by decide) hlk (by decide) (by decide)
set_option maxHeartbeats 400000 in
set_option maxRecDepth 100000 in
theorem x_K_result (l : Launch) (htr : l.stackTraces = false) (g : Gd) (sz : Nat) (h0 : Nat) (u : Nat → Nat) (v : Int32)  : xtMet l y_K_result w_K_result ({ frames := 6, cells := 1, slots := 6, locals := 150 } : Room) (va_Pc [.ref h0, .int v] (pr (ex g) g.1 vcl sz [(h0, .inr (0, [.ref (u 0), .int (nI 0), .ref (u 1), .int (nI 0), .ref (u 12), .int (nI 0), .ref (u 2), .ref (u 3), .ref (u 4), .ref (u 13), .ref (u 14)]))])) "java/lang/IndexOutOfBoundsException" 1 6 := by
  refine xt_entry (cc := c_K_result) (maxL := 2) (ret := (some .int)) (by decide) rfl (Nat.le_of_ble_eq_true rfl) ?_
  intro p e s m args below meth c ls F hr hlk htab hsz hP hD hX hA hl
  obtain ⟨hx, hb, hml, hown, hts⟩ := id F
  have hE := hX.1
  have hK := hE.1
  generalize va_A [(h0, .inr (0, [.ref (u 0), .int (nI 0), .ref (u 1), .int (nI 0), .ref (u 12), .int (nI 0), .ref (u 2), .ref (u 3), .ref (u 4), .ref (u 13), .ref (u 14)]))] sz = A at hD hX hE hA
  have hS : va_S A s.heap s.heap [] := va_S.rf
  have hl : lv_has ls 2 [(0, .ref h0), (1, .int v)] := hl
  refine lv_iload_n hx hb dK_result_0 rfl (lv_at hl 1 rfl) ?_
  refine lv_if_lt (tgt := 12) hx hb dK_result_1 (by decide) (fun h1 => ?_) (fun h1 => ?_)
  · exact xt_throw (own := "LatticeKeys") (cls := "java/lang/IndexOutOfBoundsException") (text := "no such byte in the result") (names := ["java/lang/RuntimeException", "java/lang/Exception"]) (ik := 90) (is := 241) (ic := 94) hx hb htr ctr_IOB_0 ctr_IOB_1 ctr_IOB_2 ctr_IOB_5 hown (by decide) (by decide) (hts _ (wg_t kw_535)) (hts _ (wg_t kw_20)) (hX.2.2.2.2.2.1 20 ("LatticeKeys", 241, "no such byte in the result") rfl) (hat_IOB hts hX.2) hS.1 (hl.1.trans hml.symm) dK_result_12 dK_result_15 dK_result_16 dK_result_18 dK_result_21 htab (by decide) (by decide) (by decide) (by decide) hlk (by decide) (by decide)
  · refine lv_iload_n hx hb dK_result_4 rfl (lv_at hl 1 rfl) ?_
    refine lv_aload_n hx hb dK_result_5 rfl (lv_at hl 0 rfl) ?_
    refine va_get (D := g.1) (ci := 0) (C := "LatticeKeys") (T := T_K) (N := 11) hx hb hts (wg_ft i_K) hown hK hP 0 rfl rfl 3 (by decide) (hts _ (wg_t kw_377)) (fun _ h9 => h9) rfl dK_result_6 ?_
    refine lv_icmp_lt (tgt := 22) hx hb dK_result_9 (by decide) (fun h2 => absurd h2 h1) (fun h2 => ?_)
    exact xt_throw (own := "LatticeKeys") (cls := "java/lang/IndexOutOfBoundsException") (text := "no such byte in the result") (names := ["java/lang/RuntimeException", "java/lang/Exception"]) (ik := 90) (is := 241) (ic := 94) hx hb htr ctr_IOB_0 ctr_IOB_1 ctr_IOB_2 ctr_IOB_5 hown (by decide) (by decide) (hts _ (wg_t kw_535)) (hts _ (wg_t kw_20)) (hX.2.2.2.2.2.1 20 ("LatticeKeys", 241, "no such byte in the result") rfl) (hat_IOB hts hX.2) hS.1 (hl.1.trans hml.symm) dK_result_12 dK_result_15 dK_result_16 dK_result_18 dK_result_21 htab (by decide) (by decide) (by decide) (by decide) hlk (by decide) (by decide)
