set_option linter.all false
set_option maxRecDepth 100000 in
theorem kw_17 : (Jvm.Cond.initialized "java/lang/IllegalStateException") ∈ WG := wgr_1 17 (by rfl) (by rfl)
set_option maxRecDepth 100000 in
theorem kw_18 : (Jvm.Cond.initialized "java/lang/IllegalArgumentException") ∈ WG := wgr_1 18 (by rfl) (by rfl)
set_option maxRecDepth 100000 in
theorem kw_20 : (Jvm.Cond.initialized "java/lang/IndexOutOfBoundsException") ∈ WG := wgr_1 20 (by rfl) (by rfl)
abbrev c_K_feed : ByteArray := prog_1_method_2_code
abbrev y_K_feed : MethodName := ⟨"LatticeKeys", "feed", "(IIIII)I"⟩
abbrev w_K_feed : List Cond := Cond.code y_K_feed c_K_feed 6 (some .int) :: WG
theorem dK_feed_0 : decode c_K_feed 0 = .ok (.aload_n 0, 1) := by decide +kernel
theorem dK_feed_1 : decode c_K_feed 1 = .ok (.getfield 13, 3) := by decide +kernel
theorem dK_feed_4 : decode c_K_feed 4 = .ok (.sipush 16364, 3) := by decide +kernel
theorem dK_feed_7 : decode c_K_feed 7 = .ok (.if_icmp .le 13, 3) := by decide +kernel
theorem dK_feed_10 : decode c_K_feed 10 = .ok (.new 69, 3) := by decide +kernel
theorem dK_feed_13 : decode c_K_feed 13 = .ok (.dup, 1) := by decide +kernel
theorem dK_feed_14 : decode c_K_feed 14 = .ok (.ldc 71, 2) := by decide +kernel
theorem dK_feed_16 : decode c_K_feed 16 = .ok (.invokespecial 73, 3) := by decide +kernel
theorem dK_feed_19 : decode c_K_feed 19 = .ok (.athrow, 1) := by decide +kernel
theorem dK_feed_20 : decode c_K_feed 20 = .ok (.aload_n 0, 1) := by decide +kernel
theorem dK_feed_21 : decode c_K_feed 21 = .ok (.iload_n 1, 1) := by decide +kernel
theorem dK_feed_22 : decode c_K_feed 22 = .ok (.invokevirtual 76, 3) := by decide +kernel
theorem dK_feed_25 : decode c_K_feed 25 = .ok (.aload_n 0, 1) := by decide +kernel
theorem dK_feed_26 : decode c_K_feed 26 = .ok (.iload_n 2, 1) := by decide +kernel
theorem dK_feed_27 : decode c_K_feed 27 = .ok (.invokevirtual 76, 3) := by decide +kernel
theorem dK_feed_30 : decode c_K_feed 30 = .ok (.aload_n 0, 1) := by decide +kernel
theorem dK_feed_31 : decode c_K_feed 31 = .ok (.iload_n 3, 1) := by decide +kernel
theorem dK_feed_32 : decode c_K_feed 32 = .ok (.invokevirtual 76, 3) := by decide +kernel
theorem dK_feed_35 : decode c_K_feed 35 = .ok (.aload_n 0, 1) := by decide +kernel
theorem dK_feed_36 : decode c_K_feed 36 = .ok (.iload 4, 2) := by decide +kernel
theorem dK_feed_38 : decode c_K_feed 38 = .ok (.invokevirtual 76, 3) := by decide +kernel
theorem dK_feed_41 : decode c_K_feed 41 = .ok (.aload_n 0, 1) := by decide +kernel
theorem dK_feed_42 : decode c_K_feed 42 = .ok (.iload 5, 2) := by decide +kernel
theorem dK_feed_44 : decode c_K_feed 44 = .ok (.invokevirtual 76, 3) := by decide +kernel
theorem dK_feed_47 : decode c_K_feed 47 = .ok (.aload_n 0, 1) := by decide +kernel
theorem dK_feed_48 : decode c_K_feed 48 = .ok (.getfield 13, 3) := by decide +kernel
theorem dK_feed_51 : decode c_K_feed 51 = .ok (.ireturn, 1) := by decide +kernel
abbrev c_K_end : ByteArray := prog_1_method_3_code
abbrev y_K_end : MethodName := ⟨"LatticeKeys", "end", "(I)I"⟩
abbrev w_K_end : List Cond := Cond.code y_K_end c_K_end 2 (some .int) :: WG
theorem dK_end_0 : decode c_K_end 0 = .ok (.iload_n 1, 1) := by decide +kernel
theorem dK_end_1 : decode c_K_end 1 = .ok (.ifCond .lt 11, 3) := by decide +kernel
theorem dK_end_4 : decode c_K_end 4 = .ok (.iload_n 1, 1) := by decide +kernel
theorem dK_end_5 : decode c_K_end 5 = .ok (.aload_n 0, 1) := by decide +kernel
theorem dK_end_6 : decode c_K_end 6 = .ok (.getfield 13, 3) := by decide +kernel
theorem dK_end_9 : decode c_K_end 9 = .ok (.if_icmp .le 13, 3) := by decide +kernel
theorem dK_end_12 : decode c_K_end 12 = .ok (.new 79, 3) := by decide +kernel
theorem dK_end_15 : decode c_K_end 15 = .ok (.dup, 1) := by decide +kernel
theorem dK_end_16 : decode c_K_end 16 = .ok (.ldc 81, 2) := by decide +kernel
theorem dK_end_18 : decode c_K_end 18 = .ok (.invokespecial 83, 3) := by decide +kernel
theorem dK_end_21 : decode c_K_end 21 = .ok (.athrow, 1) := by decide +kernel
theorem dK_end_22 : decode c_K_end 22 = .ok (.aload_n 0, 1) := by decide +kernel
theorem dK_end_23 : decode c_K_end 23 = .ok (.iload_n 1, 1) := by decide +kernel
theorem dK_end_24 : decode c_K_end 24 = .ok (.putfield 13, 3) := by decide +kernel
theorem dK_end_27 : decode c_K_end 27 = .ok (.iload_n 1, 1) := by decide +kernel
theorem dK_end_28 : decode c_K_end 28 = .ok (.ireturn, 1) := by decide +kernel
abbrev c_K_again : ByteArray := prog_1_method_4_code
abbrev y_K_again : MethodName := ⟨"LatticeKeys", "again", "()I"⟩
abbrev w_K_again : List Cond := Cond.code y_K_again c_K_again 1 (some .int) :: WG
theorem dK_again_0 : decode c_K_again 0 = .ok (.aload_n 0, 1) := by decide +kernel
theorem dK_again_1 : decode c_K_again 1 = .ok (.getfield 20, 3) := by decide +kernel
theorem dK_again_4 : decode c_K_again 4 = .ok (.sipush 16384, 3) := by decide +kernel
theorem dK_again_7 : decode c_K_again 7 = .ok (.aload_n 0, 1) := by decide +kernel
theorem dK_again_8 : decode c_K_again 8 = .ok (.getfield 13, 3) := by decide +kernel
theorem dK_again_11 : decode c_K_again 11 = .ok (.isub, 1) := by decide +kernel
theorem dK_again_12 : decode c_K_again 12 = .ok (.if_icmp .le 13, 3) := by decide +kernel
theorem dK_again_15 : decode c_K_again 15 = .ok (.new 69, 3) := by decide +kernel
theorem dK_again_18 : decode c_K_again 18 = .ok (.dup, 1) := by decide +kernel
theorem dK_again_19 : decode c_K_again 19 = .ok (.ldc 71, 2) := by decide +kernel
theorem dK_again_21 : decode c_K_again 21 = .ok (.invokespecial 73, 3) := by decide +kernel
theorem dK_again_24 : decode c_K_again 24 = .ok (.athrow, 1) := by decide +kernel
theorem dK_again_25 : decode c_K_again 25 = .ok (.aload_n 0, 1) := by decide +kernel
theorem dK_again_26 : decode c_K_again 26 = .ok (.getfield 17, 3) := by decide +kernel
theorem dK_again_29 : decode c_K_again 29 = .ok (.iconst 0, 1) := by decide +kernel
theorem dK_again_30 : decode c_K_again 30 = .ok (.aload_n 0, 1) := by decide +kernel
theorem dK_again_31 : decode c_K_again 31 = .ok (.getfield 9, 3) := by decide +kernel
theorem dK_again_34 : decode c_K_again 34 = .ok (.aload_n 0, 1) := by decide +kernel
theorem dK_again_35 : decode c_K_again 35 = .ok (.getfield 13, 3) := by decide +kernel
theorem dK_again_38 : decode c_K_again 38 = .ok (.aload_n 0, 1) := by decide +kernel
theorem dK_again_39 : decode c_K_again 39 = .ok (.getfield 20, 3) := by decide +kernel
theorem dK_again_42 : decode c_K_again 42 = .ok (.invokestatic 84, 3) := by decide +kernel
theorem dK_again_45 : decode c_K_again 45 = .ok (.aload_n 0, 1) := by decide +kernel
theorem dK_again_46 : decode c_K_again 46 = .ok (.dup, 1) := by decide +kernel
theorem dK_again_47 : decode c_K_again 47 = .ok (.getfield 13, 3) := by decide +kernel
theorem dK_again_50 : decode c_K_again 50 = .ok (.aload_n 0, 1) := by decide +kernel
theorem dK_again_51 : decode c_K_again 51 = .ok (.getfield 20, 3) := by decide +kernel
theorem dK_again_54 : decode c_K_again 54 = .ok (.iadd, 1) := by decide +kernel
theorem dK_again_55 : decode c_K_again 55 = .ok (.putfield 13, 3) := by decide +kernel
theorem dK_again_58 : decode c_K_again 58 = .ok (.aload_n 0, 1) := by decide +kernel
theorem dK_again_59 : decode c_K_again 59 = .ok (.getfield 13, 3) := by decide +kernel
theorem dK_again_62 : decode c_K_again 62 = .ok (.ireturn, 1) := by decide +kernel
abbrev c_K_alter : ByteArray := prog_1_method_5_code
abbrev y_K_alter : MethodName := ⟨"LatticeKeys", "alter", "(II)I"⟩
abbrev w_K_alter : List Cond := Cond.code y_K_alter c_K_alter 3 (some .int) :: WG
theorem dK_alter_0 : decode c_K_alter 0 = .ok (.iload_n 1, 1) := by decide +kernel
theorem dK_alter_1 : decode c_K_alter 1 = .ok (.ifCond .lt 11, 3) := by decide +kernel
theorem dK_alter_4 : decode c_K_alter 4 = .ok (.iload_n 1, 1) := by decide +kernel
theorem dK_alter_5 : decode c_K_alter 5 = .ok (.aload_n 0, 1) := by decide +kernel
theorem dK_alter_6 : decode c_K_alter 6 = .ok (.getfield 13, 3) := by decide +kernel
theorem dK_alter_9 : decode c_K_alter 9 = .ok (.if_icmp .lt 13, 3) := by decide +kernel
theorem dK_alter_12 : decode c_K_alter 12 = .ok (.new 90, 3) := by decide +kernel
theorem dK_alter_15 : decode c_K_alter 15 = .ok (.dup, 1) := by decide +kernel
theorem dK_alter_16 : decode c_K_alter 16 = .ok (.ldc 92, 2) := by decide +kernel
theorem dK_alter_18 : decode c_K_alter 18 = .ok (.invokespecial 94, 3) := by decide +kernel
theorem dK_alter_21 : decode c_K_alter 21 = .ok (.athrow, 1) := by decide +kernel
theorem dK_alter_22 : decode c_K_alter 22 = .ok (.aload_n 0, 1) := by decide +kernel
theorem dK_alter_23 : decode c_K_alter 23 = .ok (.getfield 9, 3) := by decide +kernel
theorem dK_alter_26 : decode c_K_alter 26 = .ok (.iload_n 1, 1) := by decide +kernel
theorem dK_alter_27 : decode c_K_alter 27 = .ok (.dup2, 1) := by decide +kernel
theorem dK_alter_28 : decode c_K_alter 28 = .ok (.baload, 1) := by decide +kernel
theorem dK_alter_29 : decode c_K_alter 29 = .ok (.iload_n 2, 1) := by decide +kernel
theorem dK_alter_30 : decode c_K_alter 30 = .ok (.i2b, 1) := by decide +kernel
theorem dK_alter_31 : decode c_K_alter 31 = .ok (.ixor, 1) := by decide +kernel
theorem dK_alter_32 : decode c_K_alter 32 = .ok (.i2b, 1) := by decide +kernel
theorem dK_alter_33 : decode c_K_alter 33 = .ok (.bastore, 1) := by decide +kernel
theorem dK_alter_34 : decode c_K_alter 34 = .ok (.aload_n 0, 1) := by decide +kernel
theorem dK_alter_35 : decode c_K_alter 35 = .ok (.getfield 9, 3) := by decide +kernel
theorem dK_alter_38 : decode c_K_alter 38 = .ok (.iload_n 1, 1) := by decide +kernel
theorem dK_alter_39 : decode c_K_alter 39 = .ok (.baload, 1) := by decide +kernel
theorem dK_alter_40 : decode c_K_alter 40 = .ok (.sipush 255, 3) := by decide +kernel
theorem dK_alter_43 : decode c_K_alter 43 = .ok (.iand, 1) := by decide +kernel
theorem dK_alter_44 : decode c_K_alter 44 = .ok (.ireturn, 1) := by decide +kernel
abbrev c_K_result : ByteArray := prog_1_method_16_code
abbrev y_K_result : MethodName := ⟨"LatticeKeys", "result", "(I)I"⟩
abbrev w_K_result : List Cond := Cond.code y_K_result c_K_result 2 (some .int) :: WG
theorem dK_result_0 : decode c_K_result 0 = .ok (.iload_n 1, 1) := by decide +kernel
theorem dK_result_1 : decode c_K_result 1 = .ok (.ifCond .lt 11, 3) := by decide +kernel
theorem dK_result_4 : decode c_K_result 4 = .ok (.iload_n 1, 1) := by decide +kernel
theorem dK_result_5 : decode c_K_result 5 = .ok (.aload_n 0, 1) := by decide +kernel
theorem dK_result_6 : decode c_K_result 6 = .ok (.getfield 20, 3) := by decide +kernel
theorem dK_result_9 : decode c_K_result 9 = .ok (.if_icmp .lt 13, 3) := by decide +kernel
theorem dK_result_12 : decode c_K_result 12 = .ok (.new 90, 3) := by decide +kernel
theorem dK_result_15 : decode c_K_result 15 = .ok (.dup, 1) := by decide +kernel
theorem dK_result_16 : decode c_K_result 16 = .ok (.ldc 241, 2) := by decide +kernel
theorem dK_result_18 : decode c_K_result 18 = .ok (.invokespecial 94, 3) := by decide +kernel
theorem dK_result_21 : decode c_K_result 21 = .ok (.athrow, 1) := by decide +kernel
theorem dK_result_22 : decode c_K_result 22 = .ok (.aload_n 0, 1) := by decide +kernel
theorem dK_result_23 : decode c_K_result 23 = .ok (.getfield 17, 3) := by decide +kernel
theorem dK_result_26 : decode c_K_result 26 = .ok (.iload_n 1, 1) := by decide +kernel
theorem dK_result_27 : decode c_K_result 27 = .ok (.baload, 1) := by decide +kernel
theorem dK_result_28 : decode c_K_result 28 = .ok (.sipush 255, 3) := by decide +kernel
theorem dK_result_31 : decode c_K_result 31 = .ok (.iand, 1) := by decide +kernel
theorem dK_result_32 : decode c_K_result 32 = .ok (.ireturn, 1) := by decide +kernel
def M_K_feed (k : Nat) : Prop := k = 0 ∨ k = 1 ∨ (0 : Nat) = 1
noncomputable def F_K_feed (v1 : Int32) (v2 : Int32) (v3 : Int32) (v4 : Int32) (v5 : Int32) (s : Sto) : Int32 × Int32 × Sto := bnd ((s.1 0 1).toNatClampNeg) fun z21 => if z21 ≤ 16364 then bnd (F_K_writeNumber v1 s) fun s21 => bnd (F_K_writeNumber v2 s21) fun s22 => bnd (F_K_writeNumber v3 s22) fun s23 => bnd (F_K_writeNumber v4 s23) fun s24 => bnd (F_K_writeNumber v5 s24) fun s25 => bnd ((s25.1 0 1).toNatClampNeg) fun z22 => (nI 0, nI z22, s25) else (nI 1, nI 0, s)
set_option maxHeartbeats 2000000 in
set_option maxRecDepth 100000 in
theorem N_K_feed (l : Launch) (htr : l.stackTraces = false) (g : Gd) (sz : Nat) (T : TyN) (s : Sto) (pl : va_W) (hO : okn g T s pl) (hU : inj T) (h0 : Nat) (v1 : Int32) (v2 : Int32) (v3 : Int32) (v4 : Int32) (v5 : Int32) (tl : Nat) (al : Nat) (pn : Nat) (k_h0 : T h0 = some 0) (e_tl : s.1 0 1 = nI tl) (e_al : s.1 0 3 = nI al) (e_pn : s.1 0 5 = nI pn) (h1 : tl ≤ 16384) (h2 : al ≤ 8192) (h3 : pn ≤ 8)  : etMet l y_K_feed w_K_feed ({ frames := 6, cells := 1, slots := 6, locals := 90 } : Room) (va_Pc [.ref h0, .int v1, .int v2, .int v3, .int v4, .int v5] (pr (ex g) g.1 vcl sz ([] ++ pl))) (xls ["java/lang/IllegalStateException"] (F_K_feed v1 v2 v3 v4 v5 s).1) (va_Qi (fun (r : Int32) (u : (Int32 × Int32 × Sto) × va_W) => (u.1 = F_K_feed v1 v2 v3 v4 v5 s ∧ r = u.1.2.1 ∧ u.1.1 = nI 0 ∧ frm (M_K_feed) s u.1.2.2 ∧ (∃ x : Nat, u.1.2.2.1 0 1 = nI x ∧ x ≤ 16384) ∧ (∃ x : Nat, u.1.2.2.1 0 3 = nI x ∧ x ≤ 8192) ∧ (∃ x : Nat, u.1.2.2.1 0 5 = nI x ∧ x = pn) ∧ True) ∧ okn g T u.1.2.2 u.2) (po g.1 vcl (va_A ([] ++ pl) sz) (fun (u : (Int32 × Int32 × Sto) × va_W) => [] ++ u.2)) (va_A ([] ++ pl) sz)) (xtP (fun (u : (Int32 × Int32 × Sto) × va_W) => (u.1 = F_K_feed v1 v2 v3 v4 v5 s ∧ frm (M_K_feed) s u.1.2.2 ∧ (∃ x : Nat, u.1.2.2.1 0 1 = nI x ∧ x ≤ 16384) ∧ (∃ x : Nat, u.1.2.2.1 0 3 = nI x ∧ x ≤ 8192) ∧ (∃ x : Nat, u.1.2.2.1 0 5 = nI x ∧ x = pn) ∧ True) ∧ okn g T u.1.2.2 u.2) (po g.1 vcl (va_A ([] ++ pl) sz) (fun (u : (Int32 × Int32 × Sto) × va_W) => [] ++ u.2)) (va_A ([] ++ pl) sz)) 1 6 (va_A ([] ++ pl) sz) := by
  refine et_entry (cc := c_K_feed) (maxL := 6) (ret := (some .int)) (by decide) rfl (Nat.le_of_ble_eq_true rfl) ?_
  intro p e s0 m args below meth c ls F hr hlk htab hsz hP hD hX hA hl
  obtain ⟨hx, hb, hml, hown, hts⟩ := id F
  have hE := hX.1
  have hK := hE.1
  generalize va_A ([] ++ pl) sz = A at hD hX hE hA ⊢
  have hS : va_S A s0.heap s0.heap [] := va_S.rf
  have hl : lv_has ls 6 [(0, .ref h0), (1, .int v1), (2, .int v2), (3, .int v3), (4, .int v4), (5, .int v5)] := hl
  have hR : F_K_feed v1 v2 v3 v4 v5 s = F_K_feed v1 v2 v3 v4 v5 s := rfl
  have hF : frm (M_K_feed) s s := frm_rf
  refine lv_aload_n hx hb dK_feed_0 rfl (lv_at hl 0 rfl) ?_
  refine nw_get (C := "LatticeKeys") (TT := T_K) (N := 11) hx hb hts (wg_ft i_K) hown hK hO k_h0 (kn := 0) (ci := 0) (fl := [(3, 1), (0, 0), (3, 2), (0, 0), (3, 3), (0, 0), (3, 4), (3, 8), (3, 12), (3, 24), (3, 39)]) rfl hP rfl 1 (by decide) (hts _ (wg_t kw_375)) (fun _ h9 => h9) (cd := (0, 0)) rfl dK_feed_1 (fun v21 hv21 => ?_)
  obtain rfl := (show v21 = .int (s.1 0 1) from hv21)
  obtain ⟨z21, ez21, hz21, hz22⟩ := cl_of (b := 2147483648) e_tl (by omega) (by decide)
  replace hR := bnd_step hR ez21
  refine mi_as hz21 ?_
  refine lv_sipush (v := nI 16364) hx hb dK_feed_4 (by decide) ?_
  refine mi_le (tgt := 20) hx hb dK_feed_7 (by decide) (by omega) (by omega) (fun h21 => ?_) (fun h21 => ?_)
  · replace hR := hR.trans (if_pos h21)
    refine lv_aload_n hx hb dK_feed_20 rfl (lv_at hl 0 rfl) ?_
    refine lv_iload_n hx hb dK_feed_21 rfl (lv_at hl 1 rfl) ?_
    refine mp_v (cx := []) (wr := []) hP hD hS hA [] [] rfl rfl rfl (by decide) (va_runV (As := [.int v1]) (rest := []) F (N_K_writeNumber l g _ T s pl hO hU h0 v1 tl al pn k_h0 e_tl e_al e_pn (by omega)) (cwV 1 hts (wg_app (wg_c kw_489 (wg_c kw_491 (wg_c ks_1 (wg_c kw_1 wg_n)))) kw_492) rfl rfl rfl (by decide +kernel) ⟨by decide, by decide⟩) (pn_W "LatticeKeys" (en_ok g) (ci := 0) (kn := 0) (fl := [(3, 1), (0, 0), (3, 2), (0, 0), (3, 3), (0, 0), (3, 4), (3, 8), (3, 12), (3, 24), (3, 39)]) hK hO k_h0 rfl hP hD hS hA hE [] rfl rfl rfl) rfl rfl hl.1 rfl (lv_room (Nat.le_of_ble_eq_true rfl)) dK_feed_22 ⟨Nat.le_of_ble_eq_true rfl, Nat.le_of_ble_eq_true rfl⟩) (fun  u21 H locs hu21 hP hD hS => ?_)
    obtain ⟨s21, pl⟩ := u21
    obtain ⟨⟨eq21, hFc21, ⟨x21, hx_21, hb_21⟩, ⟨x22, hx_22, hb_22⟩, ⟨x23, hx_23, hb_23⟩, -⟩, hO⟩ := hu21
    have hO : okn g T s21 pl := hO
    have hP : va_P g.1 vcl ([] ++ pl) _ := hP
    have hD : va_D _ ([] ++ pl) := hD
    have hFc21 : frm (M_K_writeNumber) s s21 := hFc21
    have hb_21 : x21 = tl + 4 := hb_21
    have hb_22 : x22 = al := hb_22
    have hb_23 : x23 = pn := hb_23
    replace hR := bnd_step hR eq21
    have hF := frm_tr hF hFc21 (fun k hk => by unfold M_K_writeNumber at hk; unfold M_K_feed; omega)
    refine W.widen (k := 0) (n := 0) (by omega) (by omega) ?_
    refine lv_aload_n hx hb dK_feed_25 rfl (lv_at hl 0 rfl) ?_
    refine lv_iload_n hx hb dK_feed_26 rfl (lv_at hl 2 rfl) ?_
    refine mp_v (cx := []) (wr := []) hP hD hS hA [] [] rfl rfl rfl (by decide) (va_runV (As := [.int v2]) (rest := []) F (N_K_writeNumber l g _ T s21 pl hO hU h0 v2 x21 x22 x23 k_h0 hx_21 hx_22 hx_23 (by omega)) (cwV 1 hts (wg_app (wg_c kw_489 (wg_c kw_491 (wg_c ks_1 (wg_c kw_1 wg_n)))) kw_492) rfl rfl rfl (by decide +kernel) ⟨by decide, by decide⟩) (pn_W "LatticeKeys" (en_ok g) (ci := 0) (kn := 0) (fl := [(3, 1), (0, 0), (3, 2), (0, 0), (3, 3), (0, 0), (3, 4), (3, 8), (3, 12), (3, 24), (3, 39)]) hK hO k_h0 rfl hP hD hS hA hE [] rfl rfl rfl) rfl rfl hl.1 rfl (lv_room (Nat.le_of_ble_eq_true rfl)) dK_feed_27 ⟨Nat.le_of_ble_eq_true rfl, Nat.le_of_ble_eq_true rfl⟩) (fun  u22 H locs hu22 hP hD hS => ?_)
    obtain ⟨s22, pl⟩ := u22
    obtain ⟨⟨eq22, hFc22, ⟨x25, hx_25, hb_25⟩, ⟨x26, hx_26, hb_26⟩, ⟨x27, hx_27, hb_27⟩, -⟩, hO⟩ := hu22
    have hO : okn g T s22 pl := hO
    have hP : va_P g.1 vcl ([] ++ pl) _ := hP
    have hD : va_D _ ([] ++ pl) := hD
    have hFc22 : frm (M_K_writeNumber) s21 s22 := hFc22
    have hb_25 : x25 = x21 + 4 := hb_25
    have hb_26 : x26 = x22 := hb_26
    have hb_27 : x27 = x23 := hb_27
    replace hR := bnd_step hR eq22
    have hF := frm_tr hF hFc22 (fun k hk => by unfold M_K_writeNumber at hk; unfold M_K_feed; omega)
    refine W.widen (k := 0) (n := 0) (by omega) (by omega) ?_
    refine lv_aload_n hx hb dK_feed_30 rfl (lv_at hl 0 rfl) ?_
    refine lv_iload_n hx hb dK_feed_31 rfl (lv_at hl 3 rfl) ?_
    refine mp_v (cx := []) (wr := []) hP hD hS hA [] [] rfl rfl rfl (by decide) (va_runV (As := [.int v3]) (rest := []) F (N_K_writeNumber l g _ T s22 pl hO hU h0 v3 x25 x26 x27 k_h0 hx_25 hx_26 hx_27 (by omega)) (cwV 1 hts (wg_app (wg_c kw_489 (wg_c kw_491 (wg_c ks_1 (wg_c kw_1 wg_n)))) kw_492) rfl rfl rfl (by decide +kernel) ⟨by decide, by decide⟩) (pn_W "LatticeKeys" (en_ok g) (ci := 0) (kn := 0) (fl := [(3, 1), (0, 0), (3, 2), (0, 0), (3, 3), (0, 0), (3, 4), (3, 8), (3, 12), (3, 24), (3, 39)]) hK hO k_h0 rfl hP hD hS hA hE [] rfl rfl rfl) rfl rfl hl.1 rfl (lv_room (Nat.le_of_ble_eq_true rfl)) dK_feed_32 ⟨Nat.le_of_ble_eq_true rfl, Nat.le_of_ble_eq_true rfl⟩) (fun  u23 H locs hu23 hP hD hS => ?_)
    obtain ⟨s23, pl⟩ := u23
    obtain ⟨⟨eq23, hFc23, ⟨x29, hx_29, hb_29⟩, ⟨x30, hx_30, hb_30⟩, ⟨x31, hx_31, hb_31⟩, -⟩, hO⟩ := hu23
    have hO : okn g T s23 pl := hO
    have hP : va_P g.1 vcl ([] ++ pl) _ := hP
    have hD : va_D _ ([] ++ pl) := hD
    have hFc23 : frm (M_K_writeNumber) s22 s23 := hFc23
    have hb_29 : x29 = x25 + 4 := hb_29
    have hb_30 : x30 = x26 := hb_30
    have hb_31 : x31 = x27 := hb_31
    replace hR := bnd_step hR eq23
    have hF := frm_tr hF hFc23 (fun k hk => by unfold M_K_writeNumber at hk; unfold M_K_feed; omega)
    refine W.widen (k := 0) (n := 0) (by omega) (by omega) ?_
    refine lv_aload_n hx hb dK_feed_35 rfl (lv_at hl 0 rfl) ?_
    refine lv_iload hx hb dK_feed_36 (lv_at hl 4 rfl) ?_
    refine mp_v (cx := []) (wr := []) hP hD hS hA [] [] rfl rfl rfl (by decide) (va_runV (As := [.int v4]) (rest := []) F (N_K_writeNumber l g _ T s23 pl hO hU h0 v4 x29 x30 x31 k_h0 hx_29 hx_30 hx_31 (by omega)) (cwV 1 hts (wg_app (wg_c kw_489 (wg_c kw_491 (wg_c ks_1 (wg_c kw_1 wg_n)))) kw_492) rfl rfl rfl (by decide +kernel) ⟨by decide, by decide⟩) (pn_W "LatticeKeys" (en_ok g) (ci := 0) (kn := 0) (fl := [(3, 1), (0, 0), (3, 2), (0, 0), (3, 3), (0, 0), (3, 4), (3, 8), (3, 12), (3, 24), (3, 39)]) hK hO k_h0 rfl hP hD hS hA hE [] rfl rfl rfl) rfl rfl hl.1 rfl (lv_room (Nat.le_of_ble_eq_true rfl)) dK_feed_38 ⟨Nat.le_of_ble_eq_true rfl, Nat.le_of_ble_eq_true rfl⟩) (fun  u24 H locs hu24 hP hD hS => ?_)
    obtain ⟨s24, pl⟩ := u24
    obtain ⟨⟨eq24, hFc24, ⟨x33, hx_33, hb_33⟩, ⟨x34, hx_34, hb_34⟩, ⟨x35, hx_35, hb_35⟩, -⟩, hO⟩ := hu24
    have hO : okn g T s24 pl := hO
    have hP : va_P g.1 vcl ([] ++ pl) _ := hP
    have hD : va_D _ ([] ++ pl) := hD
    have hFc24 : frm (M_K_writeNumber) s23 s24 := hFc24
    have hb_33 : x33 = x29 + 4 := hb_33
    have hb_34 : x34 = x30 := hb_34
    have hb_35 : x35 = x31 := hb_35
    replace hR := bnd_step hR eq24
    have hF := frm_tr hF hFc24 (fun k hk => by unfold M_K_writeNumber at hk; unfold M_K_feed; omega)
    refine W.widen (k := 0) (n := 0) (by omega) (by omega) ?_
    refine lv_aload_n hx hb dK_feed_41 rfl (lv_at hl 0 rfl) ?_
    refine lv_iload hx hb dK_feed_42 (lv_at hl 5 rfl) ?_
    refine mp_v (cx := []) (wr := []) hP hD hS hA [] [] rfl rfl rfl (by decide) (va_runV (As := [.int v5]) (rest := []) F (N_K_writeNumber l g _ T s24 pl hO hU h0 v5 x33 x34 x35 k_h0 hx_33 hx_34 hx_35 (by omega)) (cwV 1 hts (wg_app (wg_c kw_489 (wg_c kw_491 (wg_c ks_1 (wg_c kw_1 wg_n)))) kw_492) rfl rfl rfl (by decide +kernel) ⟨by decide, by decide⟩) (pn_W "LatticeKeys" (en_ok g) (ci := 0) (kn := 0) (fl := [(3, 1), (0, 0), (3, 2), (0, 0), (3, 3), (0, 0), (3, 4), (3, 8), (3, 12), (3, 24), (3, 39)]) hK hO k_h0 rfl hP hD hS hA hE [] rfl rfl rfl) rfl rfl hl.1 rfl (lv_room (Nat.le_of_ble_eq_true rfl)) dK_feed_44 ⟨Nat.le_of_ble_eq_true rfl, Nat.le_of_ble_eq_true rfl⟩) (fun  u25 H locs hu25 hP hD hS => ?_)
    obtain ⟨s25, pl⟩ := u25
    obtain ⟨⟨eq25, hFc25, ⟨x37, hx_37, hb_37⟩, ⟨x38, hx_38, hb_38⟩, ⟨x39, hx_39, hb_39⟩, -⟩, hO⟩ := hu25
    have hO : okn g T s25 pl := hO
    have hP : va_P g.1 vcl ([] ++ pl) _ := hP
    have hD : va_D _ ([] ++ pl) := hD
    have hFc25 : frm (M_K_writeNumber) s24 s25 := hFc25
    have hb_37 : x37 = x33 + 4 := hb_37
    have hb_38 : x38 = x34 := hb_38
    have hb_39 : x39 = x35 := hb_39
    replace hR := bnd_step hR eq25
    have hF := frm_tr hF hFc25 (fun k hk => by unfold M_K_writeNumber at hk; unfold M_K_feed; omega)
    refine W.widen (k := 0) (n := 0) (by omega) (by omega) ?_
    refine lv_aload_n hx hb dK_feed_47 rfl (lv_at hl 0 rfl) ?_
    refine nw_get (C := "LatticeKeys") (TT := T_K) (N := 11) hx hb hts (wg_ft i_K) hown hK hO k_h0 (kn := 0) (ci := 0) (fl := [(3, 1), (0, 0), (3, 2), (0, 0), (3, 3), (0, 0), (3, 4), (3, 8), (3, 12), (3, 24), (3, 39)]) rfl hP rfl 1 (by decide) (hts _ (wg_t kw_375)) (fun _ h9 => h9) (cd := (0, 0)) rfl dK_feed_48 (fun v22 hv22 => ?_)
    obtain rfl := (show v22 = .int (s25.1 0 1) from hv22)
    obtain ⟨z22, ez22, hz23, hz24⟩ := cl_of (b := 2147483648) hx_37 (by omega) (by decide)
    replace hR := bnd_step hR ez22
    refine mi_as hz23 ?_
    refine et_ret ?_
    exact mp_iret hx hb hr hlk hP hD hS ((nI 0, nI z22, s25), pl) ⟨⟨hR.symm, rfl, rfl, hF, ⟨x37, hx_37, by omega⟩, ⟨x38, hx_38, by omega⟩, ⟨x39, hx_39, by omega⟩, trivial⟩, hO⟩ [] rfl rfl rfl (by omega) (by omega) dK_feed_51
  · replace hR := hR.trans (if_neg (Nat.not_le.mpr h21))
    exact et_throw (own := "LatticeKeys") (cls := "java/lang/IllegalStateException") (text := "no room on the tape") (names := ["java/lang/RuntimeException", "java/lang/Exception"]) (ik := 69) (is := 71) (ic := 73) hx hb htr ctr_ISE_0 ctr_ISE_1 ctr_ISE_2 ctr_ISE_5 hown (by decide) (by decide) (hts _ (wg_t kw_420)) (hts _ (wg_t kw_17)) (hX.2.2.2.2.2.1 0 ("LatticeKeys", 71, "no room on the tape") rfl) (hat_ISE hts hX.2) hS.1 (hl.1.trans hml.symm) dK_feed_10 dK_feed_13 dK_feed_14 dK_feed_16 dK_feed_19 htab (Nat.le_of_ble_eq_true rfl) (Nat.le_of_ble_eq_true rfl) (Nat.le_of_ble_eq_true rfl) (Nat.le_of_ble_eq_true rfl) hlk (Nat.le_of_ble_eq_true rfl) (Nat.le_of_ble_eq_true rfl) (xls_at 0 (congrArg Prod.fst hR) (by decide) rfl) hS.2.2 (thr_st hX.2) (fun t hz9 hk9 => ⟨⟨((nI 1, nI 0, s), pl), ⟨⟨hR.symm, hF, ⟨tl, e_tl, by omega⟩, ⟨al, e_al, by omega⟩, ⟨pn, e_pn, by omega⟩, trivial⟩, hO⟩, lc_P hP hk9, hD⟩, (lc_S hS hz9 hk9).F rfl⟩)
def M_K_end (k : Nat) : Prop := k = 0 ∨ (0 : Nat) = 1
noncomputable def F_K_end (v : Int32) (s : Sto) : Int32 × Int32 × Sto := if v < 0 then (nI 1, nI 0, s) else bnd ((s.1 0 1).toNatClampNeg) fun z21 => if v ≤ (nI z21) then bnd (v.toNatClampNeg) fun z22 => bnd (sI s 0 1 (nI z22)) fun s21 => (nI 0, nI z22, s21) else (nI 1, nI 0, s)
set_option maxHeartbeats 2000000 in
set_option maxRecDepth 100000 in
theorem N_K_end (l : Launch) (htr : l.stackTraces = false) (g : Gd) (sz : Nat) (T : TyN) (s : Sto) (pl : va_W) (hO : okn g T s pl) (hU : inj T) (h0 : Nat) (v : Int32) (tl : Nat) (al : Nat) (pn : Nat) (k_h0 : T h0 = some 0) (e_tl : s.1 0 1 = nI tl) (e_al : s.1 0 3 = nI al) (e_pn : s.1 0 5 = nI pn) (h1 : tl ≤ 16384) (h2 : al ≤ 8192) (h3 : pn ≤ 8)  : etMet l y_K_end w_K_end ({ frames := 6, cells := 1, slots := 6, locals := 90 } : Room) (va_Pc [.ref h0, .int v] (pr (ex g) g.1 vcl sz ([] ++ pl))) (xls ["java/lang/IllegalArgumentException"] (F_K_end v s).1) (va_Qi (fun (r : Int32) (u : (Int32 × Int32 × Sto) × va_W) => (u.1 = F_K_end v s ∧ r = u.1.2.1 ∧ u.1.1 = nI 0 ∧ frm (M_K_end) s u.1.2.2 ∧ (∃ x : Nat, u.1.2.2.1 0 1 = nI x ∧ x ≤ 16384) ∧ (∃ x : Nat, u.1.2.2.1 0 3 = nI x ∧ x ≤ 8192) ∧ (∃ x : Nat, u.1.2.2.1 0 5 = nI x ∧ x = pn) ∧ True) ∧ okn g T u.1.2.2 u.2) (po g.1 vcl (va_A ([] ++ pl) sz) (fun (u : (Int32 × Int32 × Sto) × va_W) => [] ++ u.2)) (va_A ([] ++ pl) sz)) (xtP (fun (u : (Int32 × Int32 × Sto) × va_W) => (u.1 = F_K_end v s ∧ frm (M_K_end) s u.1.2.2 ∧ (∃ x : Nat, u.1.2.2.1 0 1 = nI x ∧ x ≤ 16384) ∧ (∃ x : Nat, u.1.2.2.1 0 3 = nI x ∧ x ≤ 8192) ∧ (∃ x : Nat, u.1.2.2.1 0 5 = nI x ∧ x = pn) ∧ True) ∧ okn g T u.1.2.2 u.2) (po g.1 vcl (va_A ([] ++ pl) sz) (fun (u : (Int32 × Int32 × Sto) × va_W) => [] ++ u.2)) (va_A ([] ++ pl) sz)) 1 6 (va_A ([] ++ pl) sz) := by
  refine et_entry (cc := c_K_end) (maxL := 2) (ret := (some .int)) (by decide) rfl (Nat.le_of_ble_eq_true rfl) ?_
  intro p e s0 m args below meth c ls F hr hlk htab hsz hP hD hX hA hl
  obtain ⟨hx, hb, hml, hown, hts⟩ := id F
  have hE := hX.1
  have hK := hE.1
  generalize va_A ([] ++ pl) sz = A at hD hX hE hA ⊢
  have hS : va_S A s0.heap s0.heap [] := va_S.rf
  have hl : lv_has ls 2 [(0, .ref h0), (1, .int v)] := hl
  have hR : F_K_end v s = F_K_end v s := rfl
  have hF : frm (M_K_end) s s := frm_rf
  refine lv_iload_n hx hb dK_end_0 rfl (lv_at hl 1 rfl) ?_
  refine lv_if_lt (tgt := 12) hx hb dK_end_1 (by decide) (fun h21 => ?_) (fun h21 => ?_)
  · replace hR := hR.trans (if_pos h21)
    exact et_throw (own := "LatticeKeys") (cls := "java/lang/IllegalArgumentException") (text := "the tape is not so long") (names := ["java/lang/RuntimeException", "java/lang/Exception"]) (ik := 79) (is := 81) (ic := 83) hx hb htr ctr_IAE_0 ctr_IAE_1 ctr_IAE_2 ctr_IAE_5 hown (by decide) (by decide) (hts _ (wg_t kw_501)) (hts _ (wg_t kw_18)) (hX.2.2.2.2.2.1 1 ("LatticeKeys", 81, "the tape is not so long") rfl) (hat_IAE hts hX.2) hS.1 (hl.1.trans hml.symm) dK_end_12 dK_end_15 dK_end_16 dK_end_18 dK_end_21 htab (Nat.le_of_ble_eq_true rfl) (Nat.le_of_ble_eq_true rfl) (Nat.le_of_ble_eq_true rfl) (Nat.le_of_ble_eq_true rfl) hlk (Nat.le_of_ble_eq_true rfl) (Nat.le_of_ble_eq_true rfl) (xls_at 0 (congrArg Prod.fst hR) (by decide) rfl) hS.2.2 (thr_st hX.2) (fun t hz9 hk9 => ⟨⟨((nI 1, nI 0, s), pl), ⟨⟨hR.symm, hF, ⟨tl, e_tl, by omega⟩, ⟨al, e_al, by omega⟩, ⟨pn, e_pn, by omega⟩, trivial⟩, hO⟩, lc_P hP hk9, hD⟩, (lc_S hS hz9 hk9).F rfl⟩)
  · replace hR := hR.trans (if_neg h21)
    refine lv_iload_n hx hb dK_end_4 rfl (lv_at hl 1 rfl) ?_
    refine lv_aload_n hx hb dK_end_5 rfl (lv_at hl 0 rfl) ?_
    refine nw_get (C := "LatticeKeys") (TT := T_K) (N := 11) hx hb hts (wg_ft i_K) hown hK hO k_h0 (kn := 0) (ci := 0) (fl := [(3, 1), (0, 0), (3, 2), (0, 0), (3, 3), (0, 0), (3, 4), (3, 8), (3, 12), (3, 24), (3, 39)]) rfl hP rfl 1 (by decide) (hts _ (wg_t kw_375)) (fun _ h9 => h9) (cd := (0, 0)) rfl dK_end_6 (fun v21 hv21 => ?_)
    obtain rfl := (show v21 = .int (s.1 0 1) from hv21)
    obtain ⟨z21, ez21, hz21, hz22⟩ := cl_of (b := 2147483648) e_tl (by omega) (by decide)
    replace hR := bnd_step hR ez21
    refine mi_as hz21 ?_
    refine lv_icmp_le (tgt := 22) hx hb dK_end_9 (by decide) (fun h22 => ?_) (fun h22 => ?_)
    · replace hR := hR.trans (if_pos h22)
      obtain ⟨z22, hz23, hv22⟩ := i32_le h21 (by omega) h22
      have ez22 : z22 = v.toNatClampNeg := by rw [hv22]; exact (nI_clamp (by omega)).symm
      replace hR := bnd_step hR ez22
      rw [hv22] at hl
      refine lv_aload_n hx hb dK_end_22 rfl (lv_at hl 0 rfl) ?_
      refine lv_iload_n hx hb dK_end_23 rfl (lv_at hl 1 rfl) ?_
      refine nw_put (C := "LatticeKeys") (TT := T_K) (N := 11) hx hb hts (wg_ft i_K) ty_K k_K n_K hown hK hO hU k_h0 (kn := 0) (ci := 0) (fl := [(3, 1), (0, 0), (3, 2), (0, 0), (3, 3), (0, 0), (3, 4), (3, 8), (3, 12), (3, 24), (3, 39)]) rfl hP hD hS rfl 1 (by decide) (hts _ (wg_t kw_375)) (fun _ h9 => h9) rfl (by decide +kernel) rfl dK_end_24 (fun s21 pl H locs es21 hO hP hD hS => ?_)
      replace hR := bnd_step hR es21
      have hF := frm_sI hF es21 (by unfold M_K_end; omega)
      have hf22 : s21.1 0 3 = nI al := fc_ne e_al es21 (by omega)
      have hf23 : s21.1 0 5 = nI pn := fc_ne e_pn es21 (by omega)
      have hf24 : s21.1 0 1 = nI z22 := fc_eq es21
      refine lv_iload_n hx hb dK_end_27 rfl (lv_at hl 1 rfl) ?_
      refine et_ret ?_
      exact mp_iret hx hb hr hlk hP hD hS ((nI 0, nI z22, s21), pl) ⟨⟨hR.symm, rfl, rfl, hF, ⟨z22, hf24, by omega⟩, ⟨al, hf22, by omega⟩, ⟨pn, hf23, by omega⟩, trivial⟩, hO⟩ [] rfl rfl rfl (by omega) (by omega) dK_end_28
    · replace hR := hR.trans (if_neg h22)
      exact et_throw (own := "LatticeKeys") (cls := "java/lang/IllegalArgumentException") (text := "the tape is not so long") (names := ["java/lang/RuntimeException", "java/lang/Exception"]) (ik := 79) (is := 81) (ic := 83) hx hb htr ctr_IAE_0 ctr_IAE_1 ctr_IAE_2 ctr_IAE_5 hown (by decide) (by decide) (hts _ (wg_t kw_501)) (hts _ (wg_t kw_18)) (hX.2.2.2.2.2.1 1 ("LatticeKeys", 81, "the tape is not so long") rfl) (hat_IAE hts hX.2) hS.1 (hl.1.trans hml.symm) dK_end_12 dK_end_15 dK_end_16 dK_end_18 dK_end_21 htab (Nat.le_of_ble_eq_true rfl) (Nat.le_of_ble_eq_true rfl) (Nat.le_of_ble_eq_true rfl) (Nat.le_of_ble_eq_true rfl) hlk (Nat.le_of_ble_eq_true rfl) (Nat.le_of_ble_eq_true rfl) (xls_at 0 (congrArg Prod.fst hR) (by decide) rfl) hS.2.2 (thr_st hX.2) (fun t hz9 hk9 => ⟨⟨((nI 1, nI 0, s), pl), ⟨⟨hR.symm, hF, ⟨tl, e_tl, by omega⟩, ⟨al, e_al, by omega⟩, ⟨pn, e_pn, by omega⟩, trivial⟩, hO⟩, lc_P hP hk9, hD⟩, (lc_S hS hz9 hk9).F rfl⟩)
def M_K_again (k : Nat) : Prop := k = 0 ∨ k = 1 ∨ (0 : Nat) = 1
noncomputable def F_K_again (s : Sto) : Int32 × Int32 × Sto := bnd ((s.1 0 3).toNatClampNeg) fun z21 => bnd ((s.1 0 1).toNatClampNeg) fun z22 => if z21 ≤ 16384 - z22 then bnd ((s.1 0 1).toNatClampNeg) fun z23 => bnd ((s.1 0 3).toNatClampNeg) fun z24 => bnd (sC s 2 1 0 z23 z24) fun s21 => bnd ((s21.1 0 1).toNatClampNeg) fun z25 => bnd ((s21.1 0 3).toNatClampNeg) fun z26 => bnd (sI s21 0 1 (nI (z25 + z26))) fun s22 => bnd ((s22.1 0 1).toNatClampNeg) fun z27 => (nI 0, nI z27, s22) else (nI 1, nI 0, s)
set_option maxHeartbeats 2000000 in
set_option maxRecDepth 100000 in
theorem N_K_again (l : Launch) (htr : l.stackTraces = false) (g : Gd) (sz : Nat) (T : TyN) (s : Sto) (pl : va_W) (hO : okn g T s pl) (hU : inj T) (h0 : Nat) (tl : Nat) (al : Nat) (pn : Nat) (k_h0 : T h0 = some 0) (e_tl : s.1 0 1 = nI tl) (e_al : s.1 0 3 = nI al) (e_pn : s.1 0 5 = nI pn) (h1 : tl ≤ 16384) (h2 : al ≤ 8192) (h3 : pn ≤ 8)  : etMet l y_K_again w_K_again ({ frames := 6, cells := 1, slots := 6, locals := 90 } : Room) (va_Pc [.ref h0] (pr (ex g) g.1 vcl sz ([] ++ pl))) (xls ["java/lang/IllegalStateException"] (F_K_again s).1) (va_Qi (fun (r : Int32) (u : (Int32 × Int32 × Sto) × va_W) => (u.1 = F_K_again s ∧ r = u.1.2.1 ∧ u.1.1 = nI 0 ∧ frm (M_K_again) s u.1.2.2 ∧ (∃ x : Nat, u.1.2.2.1 0 1 = nI x ∧ x ≤ 16384) ∧ (∃ x : Nat, u.1.2.2.1 0 3 = nI x ∧ x ≤ 8192) ∧ (∃ x : Nat, u.1.2.2.1 0 5 = nI x ∧ x = pn) ∧ True) ∧ okn g T u.1.2.2 u.2) (po g.1 vcl (va_A ([] ++ pl) sz) (fun (u : (Int32 × Int32 × Sto) × va_W) => [] ++ u.2)) (va_A ([] ++ pl) sz)) (xtP (fun (u : (Int32 × Int32 × Sto) × va_W) => (u.1 = F_K_again s ∧ frm (M_K_again) s u.1.2.2 ∧ (∃ x : Nat, u.1.2.2.1 0 1 = nI x ∧ x ≤ 16384) ∧ (∃ x : Nat, u.1.2.2.1 0 3 = nI x ∧ x ≤ 8192) ∧ (∃ x : Nat, u.1.2.2.1 0 5 = nI x ∧ x = pn) ∧ True) ∧ okn g T u.1.2.2 u.2) (po g.1 vcl (va_A ([] ++ pl) sz) (fun (u : (Int32 × Int32 × Sto) × va_W) => [] ++ u.2)) (va_A ([] ++ pl) sz)) 1 6 (va_A ([] ++ pl) sz) := by
  refine et_entry (cc := c_K_again) (maxL := 1) (ret := (some .int)) (by decide) rfl (Nat.le_of_ble_eq_true rfl) ?_
  intro p e s0 m args below meth c ls F hr hlk htab hsz hP hD hX hA hl
  obtain ⟨hx, hb, hml, hown, hts⟩ := id F
  have hE := hX.1
  have hK := hE.1
  generalize va_A ([] ++ pl) sz = A at hD hX hE hA ⊢
  have hS : va_S A s0.heap s0.heap [] := va_S.rf
  have hl : lv_has ls 1 [(0, .ref h0)] := hl
  have hR : F_K_again s = F_K_again s := rfl
  have hF : frm (M_K_again) s s := frm_rf
  refine lv_aload_n hx hb dK_again_0 rfl (lv_at hl 0 rfl) ?_
  refine nw_get (C := "LatticeKeys") (TT := T_K) (N := 11) hx hb hts (wg_ft i_K) hown hK hO k_h0 (kn := 0) (ci := 0) (fl := [(3, 1), (0, 0), (3, 2), (0, 0), (3, 3), (0, 0), (3, 4), (3, 8), (3, 12), (3, 24), (3, 39)]) rfl hP rfl 3 (by decide) (hts _ (wg_t kw_377)) (fun _ h9 => h9) (cd := (0, 0)) rfl dK_again_1 (fun v21 hv21 => ?_)
  obtain rfl := (show v21 = .int (s.1 0 3) from hv21)
  obtain ⟨z21, ez21, hz21, hz22⟩ := cl_of (b := 2147483648) e_al (by omega) (by decide)
  replace hR := bnd_step hR ez21
  refine mi_as hz21 ?_
  refine lv_sipush (v := nI 16384) hx hb dK_again_4 (by decide) ?_
  refine lv_aload_n hx hb dK_again_7 rfl (lv_at hl 0 rfl) ?_
  refine nw_get (C := "LatticeKeys") (TT := T_K) (N := 11) hx hb hts (wg_ft i_K) hown hK hO k_h0 (kn := 0) (ci := 0) (fl := [(3, 1), (0, 0), (3, 2), (0, 0), (3, 3), (0, 0), (3, 4), (3, 8), (3, 12), (3, 24), (3, 39)]) rfl hP rfl 1 (by decide) (hts _ (wg_t kw_375)) (fun _ h9 => h9) (cd := (0, 0)) rfl dK_again_8 (fun v22 hv22 => ?_)
  obtain rfl := (show v22 = .int (s.1 0 1) from hv22)
  obtain ⟨z22, ez22, hz23, hz24⟩ := cl_of (b := 2147483648) e_tl (by omega) (by decide)
  replace hR := bnd_step hR ez22
  refine mi_as hz23 ?_
  refine mi_isub hx hb dK_again_11 (by omega) ?_
  refine mi_le (tgt := 25) hx hb dK_again_12 (by decide) (by omega) (by omega) (fun h21 => ?_) (fun h21 => ?_)
  · replace hR := hR.trans (if_pos h21)
    refine lv_aload_n hx hb dK_again_25 rfl (lv_at hl 0 rfl) ?_
    refine nw_get (C := "LatticeKeys") (TT := T_K) (N := 11) hx hb hts (wg_ft i_K) hown hK hO k_h0 (kn := 0) (ci := 0) (fl := [(3, 1), (0, 0), (3, 2), (0, 0), (3, 3), (0, 0), (3, 4), (3, 8), (3, 12), (3, 24), (3, 39)]) rfl hP rfl 2 (by decide) (hts _ (wg_t kw_376)) (fun _ h9 => h9) (cd := (3, 2)) rfl dK_again_26 (fun v23 hv23 => ?_)
    obtain ⟨r21, rfl, kr21⟩ := (show ∃ r : Nat, v23 = .ref r ∧ T r = some 2 from hv23)
    refine lv_iconst (v := nI 0) hx hb dK_again_29 (by decide) ?_
    refine lv_aload_n hx hb dK_again_30 rfl (lv_at hl 0 rfl) ?_
    refine nw_get (C := "LatticeKeys") (TT := T_K) (N := 11) hx hb hts (wg_ft i_K) hown hK hO k_h0 (kn := 0) (ci := 0) (fl := [(3, 1), (0, 0), (3, 2), (0, 0), (3, 3), (0, 0), (3, 4), (3, 8), (3, 12), (3, 24), (3, 39)]) rfl hP rfl 0 (by decide) (hts _ (wg_t kw_374)) (fun _ h9 => h9) (cd := (3, 1)) rfl dK_again_31 (fun v24 hv24 => ?_)
    obtain ⟨r22, rfl, kr22⟩ := (show ∃ r : Nat, v24 = .ref r ∧ T r = some 1 from hv24)
    refine lv_aload_n hx hb dK_again_34 rfl (lv_at hl 0 rfl) ?_
    refine nw_get (C := "LatticeKeys") (TT := T_K) (N := 11) hx hb hts (wg_ft i_K) hown hK hO k_h0 (kn := 0) (ci := 0) (fl := [(3, 1), (0, 0), (3, 2), (0, 0), (3, 3), (0, 0), (3, 4), (3, 8), (3, 12), (3, 24), (3, 39)]) rfl hP rfl 1 (by decide) (hts _ (wg_t kw_375)) (fun _ h9 => h9) (cd := (0, 0)) rfl dK_again_35 (fun v25 hv25 => ?_)
    obtain rfl := (show v25 = .int (s.1 0 1) from hv25)
    obtain ⟨z23, ez23, hz25, hz26⟩ := cl_of (b := 2147483648) e_tl (by omega) (by decide)
    replace hR := bnd_step hR ez23
    refine mi_as hz25 ?_
    refine lv_aload_n hx hb dK_again_38 rfl (lv_at hl 0 rfl) ?_
    refine nw_get (C := "LatticeKeys") (TT := T_K) (N := 11) hx hb hts (wg_ft i_K) hown hK hO k_h0 (kn := 0) (ci := 0) (fl := [(3, 1), (0, 0), (3, 2), (0, 0), (3, 3), (0, 0), (3, 4), (3, 8), (3, 12), (3, 24), (3, 39)]) rfl hP rfl 3 (by decide) (hts _ (wg_t kw_377)) (fun _ h9 => h9) (cd := (0, 0)) rfl dK_again_39 (fun v26 hv26 => ?_)
    obtain rfl := (show v26 = .int (s.1 0 3) from hv26)
    obtain ⟨z24, ez24, hz27, hz28⟩ := cl_of (b := 2147483648) e_al (by omega) (by decide)
    replace hR := bnd_step hR ez24
    refine mi_as hz27 ?_
    refine nw_copyb hx hb (hml.trans hl.1.symm) hown (hts _ (wg_t kw_524)) (hts _ (wg_t kw_526)) (hts _ (wg_t kw_525)) (hts _ (wg_t kw_19)) hK hO hU kr21 (k0 := 2) rfl kr22 (k1 := 1) rfl hP hD hS (sp := 0) (dp := z23) (n := z24) (by omega) (by omega) (by omega) (by decide) (Nat.le_of_ble_eq_true rfl) dK_again_42 (fun s21 pl H locs es21 hO hP hD hS => ?_)
    replace hR := bnd_step hR es21
    have hF := frm_sC hF es21 (by unfold M_K_again; omega)
    have hf21 : s21.1 0 1 = nI tl := fc_C e_tl es21 (by omega)
    have hf22 : s21.1 0 3 = nI al := fc_C e_al es21 (by omega)
    have hf23 : s21.1 0 5 = nI pn := fc_C e_pn es21 (by omega)
    refine lv_aload_n hx hb dK_again_45 rfl (lv_at hl 0 rfl) ?_
    refine lv_dup hx hb dK_again_46 rfl ?_
    refine nw_get (C := "LatticeKeys") (TT := T_K) (N := 11) hx hb hts (wg_ft i_K) hown hK hO k_h0 (kn := 0) (ci := 0) (fl := [(3, 1), (0, 0), (3, 2), (0, 0), (3, 3), (0, 0), (3, 4), (3, 8), (3, 12), (3, 24), (3, 39)]) rfl hP rfl 1 (by decide) (hts _ (wg_t kw_375)) (fun _ h9 => h9) (cd := (0, 0)) rfl dK_again_47 (fun v27 hv27 => ?_)
    obtain rfl := (show v27 = .int (s21.1 0 1) from hv27)
    obtain ⟨z25, ez25, hz29, hz30⟩ := cl_of (b := 2147483648) hf21 (by omega) (by decide)
    replace hR := bnd_step hR ez25
    refine mi_as hz29 ?_
    refine lv_aload_n hx hb dK_again_50 rfl (lv_at hl 0 rfl) ?_
    refine nw_get (C := "LatticeKeys") (TT := T_K) (N := 11) hx hb hts (wg_ft i_K) hown hK hO k_h0 (kn := 0) (ci := 0) (fl := [(3, 1), (0, 0), (3, 2), (0, 0), (3, 3), (0, 0), (3, 4), (3, 8), (3, 12), (3, 24), (3, 39)]) rfl hP rfl 3 (by decide) (hts _ (wg_t kw_377)) (fun _ h9 => h9) (cd := (0, 0)) rfl dK_again_51 (fun v28 hv28 => ?_)
    obtain rfl := (show v28 = .int (s21.1 0 3) from hv28)
    obtain ⟨z26, ez26, hz31, hz32⟩ := cl_of (b := 2147483648) hf22 (by omega) (by decide)
    replace hR := bnd_step hR ez26
    refine mi_as hz31 ?_
    refine mi_iadd hx hb dK_again_54 ?_
    refine nw_put (C := "LatticeKeys") (TT := T_K) (N := 11) hx hb hts (wg_ft i_K) ty_K k_K n_K hown hK hO hU k_h0 (kn := 0) (ci := 0) (fl := [(3, 1), (0, 0), (3, 2), (0, 0), (3, 3), (0, 0), (3, 4), (3, 8), (3, 12), (3, 24), (3, 39)]) rfl hP hD hS rfl 1 (by decide) (hts _ (wg_t kw_375)) (fun _ h9 => h9) rfl (by decide +kernel) rfl dK_again_55 (fun s22 pl H locs es22 hO hP hD hS => ?_)
    replace hR := bnd_step hR es22
    have hF := frm_sI hF es22 (by unfold M_K_again; omega)
    have hf25 : s22.1 0 3 = nI al := fc_ne hf22 es22 (by omega)
    have hf26 : s22.1 0 5 = nI pn := fc_ne hf23 es22 (by omega)
    have hf27 : s22.1 0 1 = nI (z25 + z26) := fc_eq es22
    refine lv_aload_n hx hb dK_again_58 rfl (lv_at hl 0 rfl) ?_
    refine nw_get (C := "LatticeKeys") (TT := T_K) (N := 11) hx hb hts (wg_ft i_K) hown hK hO k_h0 (kn := 0) (ci := 0) (fl := [(3, 1), (0, 0), (3, 2), (0, 0), (3, 3), (0, 0), (3, 4), (3, 8), (3, 12), (3, 24), (3, 39)]) rfl hP rfl 1 (by decide) (hts _ (wg_t kw_375)) (fun _ h9 => h9) (cd := (0, 0)) rfl dK_again_59 (fun v29 hv29 => ?_)
    obtain rfl := (show v29 = .int (s22.1 0 1) from hv29)
    obtain ⟨z27, ez27, hz33, hz34⟩ := cl_of (b := 2147483648) hf27 (by omega) (by decide)
    replace hR := bnd_step hR ez27
    refine mi_as hz33 ?_
    refine et_ret ?_
    exact mp_iret hx hb hr hlk hP hD hS ((nI 0, nI z27, s22), pl) ⟨⟨hR.symm, rfl, rfl, hF, ⟨z25 + z26, hf27, by omega⟩, ⟨al, hf25, by omega⟩, ⟨pn, hf26, by omega⟩, trivial⟩, hO⟩ [] rfl rfl rfl (by omega) (by omega) dK_again_62
  · replace hR := hR.trans (if_neg (Nat.not_le.mpr h21))
    exact et_throw (own := "LatticeKeys") (cls := "java/lang/IllegalStateException") (text := "no room on the tape") (names := ["java/lang/RuntimeException", "java/lang/Exception"]) (ik := 69) (is := 71) (ic := 73) hx hb htr ctr_ISE_0 ctr_ISE_1 ctr_ISE_2 ctr_ISE_5 hown (by decide) (by decide) (hts _ (wg_t kw_420)) (hts _ (wg_t kw_17)) (hX.2.2.2.2.2.1 0 ("LatticeKeys", 71, "no room on the tape") rfl) (hat_ISE hts hX.2) hS.1 (hl.1.trans hml.symm) dK_again_15 dK_again_18 dK_again_19 dK_again_21 dK_again_24 htab (Nat.le_of_ble_eq_true rfl) (Nat.le_of_ble_eq_true rfl) (Nat.le_of_ble_eq_true rfl) (Nat.le_of_ble_eq_true rfl) hlk (Nat.le_of_ble_eq_true rfl) (Nat.le_of_ble_eq_true rfl) (xls_at 0 (congrArg Prod.fst hR) (by decide) rfl) hS.2.2 (thr_st hX.2) (fun t hz9 hk9 => ⟨⟨((nI 1, nI 0, s), pl), ⟨⟨hR.symm, hF, ⟨tl, e_tl, by omega⟩, ⟨al, e_al, by omega⟩, ⟨pn, e_pn, by omega⟩, trivial⟩, hO⟩, lc_P hP hk9, hD⟩, (lc_S hS hz9 hk9).F rfl⟩)
def M_K_alter (k : Nat) : Prop := k = 1 ∨ (0 : Nat) = 1
noncomputable def F_K_alter (v : Int32) (v2 : Int32) (s : Sto) : Int32 × Int32 × Sto := if v < 0 then (nI 1, nI 0, s) else bnd ((s.1 0 1).toNatClampNeg) fun z21 => if v < (nI z21) then bnd (v.toNatClampNeg) fun z22 => bnd (sB s 1 z22 (((s.1 1 z22) ^^^ (v2.toInt8.toInt32)).toInt8.toInt32)) fun s21 => (nI 0, ((s21.1 1 z22) &&& (nI 255)), s21) else (nI 1, nI 0, s)
set_option maxHeartbeats 2000000 in
set_option maxRecDepth 100000 in
theorem N_K_alter (l : Launch) (htr : l.stackTraces = false) (g : Gd) (sz : Nat) (T : TyN) (s : Sto) (pl : va_W) (hO : okn g T s pl) (hU : inj T) (h0 : Nat) (v : Int32) (v2 : Int32) (tl : Nat) (al : Nat) (pn : Nat) (k_h0 : T h0 = some 0) (e_tl : s.1 0 1 = nI tl) (e_al : s.1 0 3 = nI al) (e_pn : s.1 0 5 = nI pn) (h1 : tl ≤ 16384) (h2 : al ≤ 8192) (h3 : pn ≤ 8)  : etMet l y_K_alter w_K_alter ({ frames := 6, cells := 1, slots := 6, locals := 90 } : Room) (va_Pc [.ref h0, .int v, .int v2] (pr (ex g) g.1 vcl sz ([] ++ pl))) (xls ["java/lang/IndexOutOfBoundsException"] (F_K_alter v v2 s).1) (va_Qi (fun (r : Int32) (u : (Int32 × Int32 × Sto) × va_W) => (u.1 = F_K_alter v v2 s ∧ r = u.1.2.1 ∧ u.1.1 = nI 0 ∧ frm (M_K_alter) s u.1.2.2 ∧ (∃ x : Nat, u.1.2.2.1 0 1 = nI x ∧ x ≤ 16384) ∧ (∃ x : Nat, u.1.2.2.1 0 3 = nI x ∧ x ≤ 8192) ∧ (∃ x : Nat, u.1.2.2.1 0 5 = nI x ∧ x = pn) ∧ True) ∧ okn g T u.1.2.2 u.2) (po g.1 vcl (va_A ([] ++ pl) sz) (fun (u : (Int32 × Int32 × Sto) × va_W) => [] ++ u.2)) (va_A ([] ++ pl) sz)) (xtP (fun (u : (Int32 × Int32 × Sto) × va_W) => (u.1 = F_K_alter v v2 s ∧ frm (M_K_alter) s u.1.2.2 ∧ (∃ x : Nat, u.1.2.2.1 0 1 = nI x ∧ x ≤ 16384) ∧ (∃ x : Nat, u.1.2.2.1 0 3 = nI x ∧ x ≤ 8192) ∧ (∃ x : Nat, u.1.2.2.1 0 5 = nI x ∧ x = pn) ∧ True) ∧ okn g T u.1.2.2 u.2) (po g.1 vcl (va_A ([] ++ pl) sz) (fun (u : (Int32 × Int32 × Sto) × va_W) => [] ++ u.2)) (va_A ([] ++ pl) sz)) 1 6 (va_A ([] ++ pl) sz) := by
  refine et_entry (cc := c_K_alter) (maxL := 3) (ret := (some .int)) (by decide) rfl (Nat.le_of_ble_eq_true rfl) ?_
  intro p e s0 m args below meth c ls F hr hlk htab hsz hP hD hX hA hl
  obtain ⟨hx, hb, hml, hown, hts⟩ := id F
  have hE := hX.1
  have hK := hE.1
  generalize va_A ([] ++ pl) sz = A at hD hX hE hA ⊢
  have hS : va_S A s0.heap s0.heap [] := va_S.rf
  have hl : lv_has ls 3 [(0, .ref h0), (1, .int v), (2, .int v2)] := hl
  have hR : F_K_alter v v2 s = F_K_alter v v2 s := rfl
  have hF : frm (M_K_alter) s s := frm_rf
  refine lv_iload_n hx hb dK_alter_0 rfl (lv_at hl 1 rfl) ?_
  refine lv_if_lt (tgt := 12) hx hb dK_alter_1 (by decide) (fun h21 => ?_) (fun h21 => ?_)
  · replace hR := hR.trans (if_pos h21)
    exact et_throw (own := "LatticeKeys") (cls := "java/lang/IndexOutOfBoundsException") (text := "no such byte on the tape") (names := ["java/lang/RuntimeException", "java/lang/Exception"]) (ik := 90) (is := 92) (ic := 94) hx hb htr ctr_IOB_0 ctr_IOB_1 ctr_IOB_2 ctr_IOB_5 hown (by decide) (by decide) (hts _ (wg_t kw_535)) (hts _ (wg_t kw_20)) (hX.2.2.2.2.2.1 2 ("LatticeKeys", 92, "no such byte on the tape") rfl) (hat_IOB hts hX.2) hS.1 (hl.1.trans hml.symm) dK_alter_12 dK_alter_15 dK_alter_16 dK_alter_18 dK_alter_21 htab (Nat.le_of_ble_eq_true rfl) (Nat.le_of_ble_eq_true rfl) (Nat.le_of_ble_eq_true rfl) (Nat.le_of_ble_eq_true rfl) hlk (Nat.le_of_ble_eq_true rfl) (Nat.le_of_ble_eq_true rfl) (xls_at 0 (congrArg Prod.fst hR) (by decide) rfl) hS.2.2 (thr_st hX.2) (fun t hz9 hk9 => ⟨⟨((nI 1, nI 0, s), pl), ⟨⟨hR.symm, hF, ⟨tl, e_tl, by omega⟩, ⟨al, e_al, by omega⟩, ⟨pn, e_pn, by omega⟩, trivial⟩, hO⟩, lc_P hP hk9, hD⟩, (lc_S hS hz9 hk9).F rfl⟩)
  · replace hR := hR.trans (if_neg h21)
    refine lv_iload_n hx hb dK_alter_4 rfl (lv_at hl 1 rfl) ?_
    refine lv_aload_n hx hb dK_alter_5 rfl (lv_at hl 0 rfl) ?_
    refine nw_get (C := "LatticeKeys") (TT := T_K) (N := 11) hx hb hts (wg_ft i_K) hown hK hO k_h0 (kn := 0) (ci := 0) (fl := [(3, 1), (0, 0), (3, 2), (0, 0), (3, 3), (0, 0), (3, 4), (3, 8), (3, 12), (3, 24), (3, 39)]) rfl hP rfl 1 (by decide) (hts _ (wg_t kw_375)) (fun _ h9 => h9) (cd := (0, 0)) rfl dK_alter_6 (fun v21 hv21 => ?_)
    obtain rfl := (show v21 = .int (s.1 0 1) from hv21)
    obtain ⟨z21, ez21, hz21, hz22⟩ := cl_of (b := 2147483648) e_tl (by omega) (by decide)
    replace hR := bnd_step hR ez21
    refine mi_as hz21 ?_
    refine lv_icmp_lt (tgt := 22) hx hb dK_alter_9 (by decide) (fun h22 => ?_) (fun h22 => ?_)
    · replace hR := hR.trans (if_pos h22)
      obtain ⟨z22, hz23, hv22⟩ := i32_ltc h21 (by omega) h22
      have ez22 : z22 = v.toNatClampNeg := by rw [hv22]; exact (nI_clamp (by omega)).symm
      replace hR := bnd_step hR ez22
      rw [hv22] at hl
      refine lv_aload_n hx hb dK_alter_22 rfl (lv_at hl 0 rfl) ?_
      refine nw_get (C := "LatticeKeys") (TT := T_K) (N := 11) hx hb hts (wg_ft i_K) hown hK hO k_h0 (kn := 0) (ci := 0) (fl := [(3, 1), (0, 0), (3, 2), (0, 0), (3, 3), (0, 0), (3, 4), (3, 8), (3, 12), (3, 24), (3, 39)]) rfl hP rfl 0 (by decide) (hts _ (wg_t kw_374)) (fun _ h9 => h9) (cd := (3, 1)) rfl dK_alter_23 (fun v22 hv23 => ?_)
      obtain ⟨r21, rfl, kr21⟩ := (show ∃ r : Nat, v22 = .ref r ∧ T r = some 1 from hv23)
      refine lv_iload_n hx hb dK_alter_26 rfl (lv_at hl 1 rfl) ?_
      refine lv_dup2_11 hx hb dK_alter_27 rfl rfl ?_
      refine nw_bald hx hb hK hO kr21 (k := 1) rfl hP (by omega) (by omega) dK_alter_28 ?_
      refine lv_iload_n hx hb dK_alter_29 rfl (lv_at hl 2 rfl) ?_
      refine lv_i2b hx hb dK_alter_30 rfl ?_
      refine lv_ixor hx hb dK_alter_31 ?_
      refine lv_i2b hx hb dK_alter_32 rfl ?_
      refine nw_bast hx hb hK hO hU kr21 (k := 1) rfl hP hD hS (by omega) (by omega) dK_alter_33 (fun s21 pl H locs es21 hO hP hD hS => ?_)
      replace hR := bnd_step hR es21
      have hF := frm_sB hF es21 (by unfold M_K_alter; omega)
      have hf21 : s21.1 0 1 = nI tl := fc_B e_tl es21 (by omega)
      have hf22 : s21.1 0 3 = nI al := fc_B e_al es21 (by omega)
      have hf23 : s21.1 0 5 = nI pn := fc_B e_pn es21 (by omega)
      refine lv_aload_n hx hb dK_alter_34 rfl (lv_at hl 0 rfl) ?_
      refine nw_get (C := "LatticeKeys") (TT := T_K) (N := 11) hx hb hts (wg_ft i_K) hown hK hO k_h0 (kn := 0) (ci := 0) (fl := [(3, 1), (0, 0), (3, 2), (0, 0), (3, 3), (0, 0), (3, 4), (3, 8), (3, 12), (3, 24), (3, 39)]) rfl hP rfl 0 (by decide) (hts _ (wg_t kw_374)) (fun _ h9 => h9) (cd := (3, 1)) rfl dK_alter_35 (fun v23 hv24 => ?_)
      obtain ⟨r22, rfl, kr22⟩ := (show ∃ r : Nat, v23 = .ref r ∧ T r = some 1 from hv24)
      refine lv_iload_n hx hb dK_alter_38 rfl (lv_at hl 1 rfl) ?_
      refine nw_bald hx hb hK hO kr22 (k := 1) rfl hP (by omega) (by omega) dK_alter_39 ?_
      refine lv_sipush (v := nI 255) hx hb dK_alter_40 (by decide) ?_
      refine lv_iand hx hb dK_alter_43 ?_
      refine et_ret ?_
      exact mp_iret hx hb hr hlk hP hD hS ((nI 0, ((s21.1 1 z22) &&& (nI 255)), s21), pl) ⟨⟨hR.symm, rfl, rfl, hF, ⟨tl, hf21, by omega⟩, ⟨al, hf22, by omega⟩, ⟨pn, hf23, by omega⟩, trivial⟩, hO⟩ [] rfl rfl rfl (by omega) (by omega) dK_alter_44
    · replace hR := hR.trans (if_neg h22)
      exact et_throw (own := "LatticeKeys") (cls := "java/lang/IndexOutOfBoundsException") (text := "no such byte on the tape") (names := ["java/lang/RuntimeException", "java/lang/Exception"]) (ik := 90) (is := 92) (ic := 94) hx hb htr ctr_IOB_0 ctr_IOB_1 ctr_IOB_2 ctr_IOB_5 hown (by decide) (by decide) (hts _ (wg_t kw_535)) (hts _ (wg_t kw_20)) (hX.2.2.2.2.2.1 2 ("LatticeKeys", 92, "no such byte on the tape") rfl) (hat_IOB hts hX.2) hS.1 (hl.1.trans hml.symm) dK_alter_12 dK_alter_15 dK_alter_16 dK_alter_18 dK_alter_21 htab (Nat.le_of_ble_eq_true rfl) (Nat.le_of_ble_eq_true rfl) (Nat.le_of_ble_eq_true rfl) (Nat.le_of_ble_eq_true rfl) hlk (Nat.le_of_ble_eq_true rfl) (Nat.le_of_ble_eq_true rfl) (xls_at 0 (congrArg Prod.fst hR) (by decide) rfl) hS.2.2 (thr_st hX.2) (fun t hz9 hk9 => ⟨⟨((nI 1, nI 0, s), pl), ⟨⟨hR.symm, hF, ⟨tl, e_tl, by omega⟩, ⟨al, e_al, by omega⟩, ⟨pn, e_pn, by omega⟩, trivial⟩, hO⟩, lc_P hP hk9, hD⟩, (lc_S hS hz9 hk9).F rfl⟩)
def M_K_result (k : Nat) : Prop := (0 : Nat) = 1
noncomputable def F_K_result (v : Int32) (s : Sto) : Int32 × Int32 × Sto := if v < 0 then (nI 1, nI 0, s) else bnd ((s.1 0 3).toNatClampNeg) fun z21 => if v < (nI z21) then bnd (v.toNatClampNeg) fun z22 => (nI 0, ((s.1 2 z22) &&& (nI 255)), s) else (nI 1, nI 0, s)
set_option maxHeartbeats 2000000 in
set_option maxRecDepth 100000 in
theorem N_K_result (l : Launch) (htr : l.stackTraces = false) (g : Gd) (sz : Nat) (T : TyN) (s : Sto) (pl : va_W) (hO : okn g T s pl) (hU : inj T) (h0 : Nat) (v : Int32) (tl : Nat) (al : Nat) (pn : Nat) (k_h0 : T h0 = some 0) (e_tl : s.1 0 1 = nI tl) (e_al : s.1 0 3 = nI al) (e_pn : s.1 0 5 = nI pn) (h1 : tl ≤ 16384) (h2 : al ≤ 8192) (h3 : pn ≤ 8)  : etMet l y_K_result w_K_result ({ frames := 6, cells := 1, slots := 6, locals := 90 } : Room) (va_Pc [.ref h0, .int v] (pr (ex g) g.1 vcl sz ([] ++ pl))) (xls ["java/lang/IndexOutOfBoundsException"] (F_K_result v s).1) (va_Qi (fun (r : Int32) (u : (Int32 × Int32 × Sto) × va_W) => (u.1 = F_K_result v s ∧ r = u.1.2.1 ∧ u.1.1 = nI 0 ∧ frm (M_K_result) s u.1.2.2 ∧ (∃ x : Nat, u.1.2.2.1 0 1 = nI x ∧ x ≤ 16384) ∧ (∃ x : Nat, u.1.2.2.1 0 3 = nI x ∧ x ≤ 8192) ∧ (∃ x : Nat, u.1.2.2.1 0 5 = nI x ∧ x = pn) ∧ True) ∧ okn g T u.1.2.2 u.2) (po g.1 vcl (va_A ([] ++ pl) sz) (fun (u : (Int32 × Int32 × Sto) × va_W) => [] ++ u.2)) (va_A ([] ++ pl) sz)) (xtP (fun (u : (Int32 × Int32 × Sto) × va_W) => (u.1 = F_K_result v s ∧ frm (M_K_result) s u.1.2.2 ∧ (∃ x : Nat, u.1.2.2.1 0 1 = nI x ∧ x ≤ 16384) ∧ (∃ x : Nat, u.1.2.2.1 0 3 = nI x ∧ x ≤ 8192) ∧ (∃ x : Nat, u.1.2.2.1 0 5 = nI x ∧ x = pn) ∧ True) ∧ okn g T u.1.2.2 u.2) (po g.1 vcl (va_A ([] ++ pl) sz) (fun (u : (Int32 × Int32 × Sto) × va_W) => [] ++ u.2)) (va_A ([] ++ pl) sz)) 1 6 (va_A ([] ++ pl) sz) := by
  refine et_entry (cc := c_K_result) (maxL := 2) (ret := (some .int)) (by decide) rfl (Nat.le_of_ble_eq_true rfl) ?_
  intro p e s0 m args below meth c ls F hr hlk htab hsz hP hD hX hA hl
  obtain ⟨hx, hb, hml, hown, hts⟩ := id F
  have hE := hX.1
  have hK := hE.1
  generalize va_A ([] ++ pl) sz = A at hD hX hE hA ⊢
  have hS : va_S A s0.heap s0.heap [] := va_S.rf
  have hl : lv_has ls 2 [(0, .ref h0), (1, .int v)] := hl
  have hR : F_K_result v s = F_K_result v s := rfl
  have hF : frm (M_K_result) s s := frm_rf
  refine lv_iload_n hx hb dK_result_0 rfl (lv_at hl 1 rfl) ?_
  refine lv_if_lt (tgt := 12) hx hb dK_result_1 (by decide) (fun h21 => ?_) (fun h21 => ?_)
  · replace hR := hR.trans (if_pos h21)
    exact et_throw (own := "LatticeKeys") (cls := "java/lang/IndexOutOfBoundsException") (text := "no such byte in the result") (names := ["java/lang/RuntimeException", "java/lang/Exception"]) (ik := 90) (is := 241) (ic := 94) hx hb htr ctr_IOB_0 ctr_IOB_1 ctr_IOB_2 ctr_IOB_5 hown (by decide) (by decide) (hts _ (wg_t kw_535)) (hts _ (wg_t kw_20)) (hX.2.2.2.2.2.1 20 ("LatticeKeys", 241, "no such byte in the result") rfl) (hat_IOB hts hX.2) hS.1 (hl.1.trans hml.symm) dK_result_12 dK_result_15 dK_result_16 dK_result_18 dK_result_21 htab (Nat.le_of_ble_eq_true rfl) (Nat.le_of_ble_eq_true rfl) (Nat.le_of_ble_eq_true rfl) (Nat.le_of_ble_eq_true rfl) hlk (Nat.le_of_ble_eq_true rfl) (Nat.le_of_ble_eq_true rfl) (xls_at 0 (congrArg Prod.fst hR) (by decide) rfl) hS.2.2 (thr_st hX.2) (fun t hz9 hk9 => ⟨⟨((nI 1, nI 0, s), pl), ⟨⟨hR.symm, hF, ⟨tl, e_tl, by omega⟩, ⟨al, e_al, by omega⟩, ⟨pn, e_pn, by omega⟩, trivial⟩, hO⟩, lc_P hP hk9, hD⟩, (lc_S hS hz9 hk9).F rfl⟩)
  · replace hR := hR.trans (if_neg h21)
    refine lv_iload_n hx hb dK_result_4 rfl (lv_at hl 1 rfl) ?_
    refine lv_aload_n hx hb dK_result_5 rfl (lv_at hl 0 rfl) ?_
    refine nw_get (C := "LatticeKeys") (TT := T_K) (N := 11) hx hb hts (wg_ft i_K) hown hK hO k_h0 (kn := 0) (ci := 0) (fl := [(3, 1), (0, 0), (3, 2), (0, 0), (3, 3), (0, 0), (3, 4), (3, 8), (3, 12), (3, 24), (3, 39)]) rfl hP rfl 3 (by decide) (hts _ (wg_t kw_377)) (fun _ h9 => h9) (cd := (0, 0)) rfl dK_result_6 (fun v21 hv21 => ?_)
    obtain rfl := (show v21 = .int (s.1 0 3) from hv21)
    obtain ⟨z21, ez21, hz21, hz22⟩ := cl_of (b := 2147483648) e_al (by omega) (by decide)
    replace hR := bnd_step hR ez21
    refine mi_as hz21 ?_
    refine lv_icmp_lt (tgt := 22) hx hb dK_result_9 (by decide) (fun h22 => ?_) (fun h22 => ?_)
    · replace hR := hR.trans (if_pos h22)
      obtain ⟨z22, hz23, hv22⟩ := i32_ltc h21 (by omega) h22
      have ez22 : z22 = v.toNatClampNeg := by rw [hv22]; exact (nI_clamp (by omega)).symm
      replace hR := bnd_step hR ez22
      rw [hv22] at hl
      refine lv_aload_n hx hb dK_result_22 rfl (lv_at hl 0 rfl) ?_
      refine nw_get (C := "LatticeKeys") (TT := T_K) (N := 11) hx hb hts (wg_ft i_K) hown hK hO k_h0 (kn := 0) (ci := 0) (fl := [(3, 1), (0, 0), (3, 2), (0, 0), (3, 3), (0, 0), (3, 4), (3, 8), (3, 12), (3, 24), (3, 39)]) rfl hP rfl 2 (by decide) (hts _ (wg_t kw_376)) (fun _ h9 => h9) (cd := (3, 2)) rfl dK_result_23 (fun v22 hv23 => ?_)
      obtain ⟨r21, rfl, kr21⟩ := (show ∃ r : Nat, v22 = .ref r ∧ T r = some 2 from hv23)
      refine lv_iload_n hx hb dK_result_26 rfl (lv_at hl 1 rfl) ?_
      refine nw_bald hx hb hK hO kr21 (k := 2) rfl hP (by omega) (by omega) dK_result_27 ?_
      refine lv_sipush (v := nI 255) hx hb dK_result_28 (by decide) ?_
      refine lv_iand hx hb dK_result_31 ?_
      refine et_ret ?_
      exact mp_iret hx hb hr hlk hP hD hS ((nI 0, ((s.1 2 z22) &&& (nI 255)), s), pl) ⟨⟨hR.symm, rfl, rfl, hF, ⟨tl, e_tl, by omega⟩, ⟨al, e_al, by omega⟩, ⟨pn, e_pn, by omega⟩, trivial⟩, hO⟩ [] rfl rfl rfl (by omega) (by omega) dK_result_32
    · replace hR := hR.trans (if_neg h22)
      exact et_throw (own := "LatticeKeys") (cls := "java/lang/IndexOutOfBoundsException") (text := "no such byte in the result") (names := ["java/lang/RuntimeException", "java/lang/Exception"]) (ik := 90) (is := 241) (ic := 94) hx hb htr ctr_IOB_0 ctr_IOB_1 ctr_IOB_2 ctr_IOB_5 hown (by decide) (by decide) (hts _ (wg_t kw_535)) (hts _ (wg_t kw_20)) (hX.2.2.2.2.2.1 20 ("LatticeKeys", 241, "no such byte in the result") rfl) (hat_IOB hts hX.2) hS.1 (hl.1.trans hml.symm) dK_result_12 dK_result_15 dK_result_16 dK_result_18 dK_result_21 htab (Nat.le_of_ble_eq_true rfl) (Nat.le_of_ble_eq_true rfl) (Nat.le_of_ble_eq_true rfl) (Nat.le_of_ble_eq_true rfl) hlk (Nat.le_of_ble_eq_true rfl) (Nat.le_of_ble_eq_true rfl) (xls_at 0 (congrArg Prod.fst hR) (by decide) rfl) hS.2.2 (thr_st hX.2) (fun t hz9 hk9 => ⟨⟨((nI 1, nI 0, s), pl), ⟨⟨hR.symm, hF, ⟨tl, e_tl, by omega⟩, ⟨al, e_al, by omega⟩, ⟨pn, e_pn, by omega⟩, trivial⟩, hO⟩, lc_P hP hk9, hD⟩, (lc_S hS hz9 hk9).F rfl⟩)
