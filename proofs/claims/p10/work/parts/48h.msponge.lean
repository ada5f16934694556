set_option linter.all false
abbrev c_MS_begin : ByteArray := prog_16_method_4_code
abbrev y_MS_begin : MethodName := ⟨"LatticeKeysModel$Sponge", "begin", "(II)V"⟩
abbrev w_MS_begin : List Cond := Cond.code y_MS_begin c_MS_begin 4 none :: WG
theorem dMS_begin_0 : decode c_MS_begin 0 = .ok (.aload_n 0, 1) := by decide +kernel
theorem dMS_begin_1 : decode c_MS_begin 1 = .ok (.iload_n 1, 1) := by decide +kernel
theorem dMS_begin_2 : decode c_MS_begin 2 = .ok (.putfield 32, 3) := by decide +kernel
theorem dMS_begin_5 : decode c_MS_begin 5 = .ok (.aload_n 0, 1) := by decide +kernel
theorem dMS_begin_6 : decode c_MS_begin 6 = .ok (.iload_n 2, 1) := by decide +kernel
theorem dMS_begin_7 : decode c_MS_begin 7 = .ok (.putfield 36, 3) := by decide +kernel
theorem dMS_begin_10 : decode c_MS_begin 10 = .ok (.aload_n 0, 1) := by decide +kernel
theorem dMS_begin_11 : decode c_MS_begin 11 = .ok (.iconst 0, 1) := by decide +kernel
theorem dMS_begin_12 : decode c_MS_begin 12 = .ok (.putfield 39, 3) := by decide +kernel
theorem dMS_begin_15 : decode c_MS_begin 15 = .ok (.iconst 0, 1) := by decide +kernel
theorem dMS_begin_16 : decode c_MS_begin 16 = .ok (.istore_n 3, 1) := by decide +kernel
theorem dMS_begin_17 : decode c_MS_begin 17 = .ok (.iload_n 3, 1) := by decide +kernel
theorem dMS_begin_18 : decode c_MS_begin 18 = .ok (.bipush 25, 2) := by decide +kernel
theorem dMS_begin_20 : decode c_MS_begin 20 = .ok (.if_icmp .ge 16, 3) := by decide +kernel
theorem dMS_begin_23 : decode c_MS_begin 23 = .ok (.aload_n 0, 1) := by decide +kernel
theorem dMS_begin_24 : decode c_MS_begin 24 = .ok (.getfield 7, 3) := by decide +kernel
theorem dMS_begin_27 : decode c_MS_begin 27 = .ok (.iload_n 3, 1) := by decide +kernel
theorem dMS_begin_28 : decode c_MS_begin 28 = .ok (.lconst 0, 1) := by decide +kernel
theorem dMS_begin_29 : decode c_MS_begin 29 = .ok (.lastore, 1) := by decide +kernel
theorem dMS_begin_30 : decode c_MS_begin 30 = .ok (.iinc 3 1, 3) := by decide +kernel
theorem dMS_begin_33 : decode c_MS_begin 33 = .ok (.goto (-16), 3) := by decide +kernel
theorem dMS_begin_36 : decode c_MS_begin 36 = .ok (.return_, 1) := by decide +kernel
abbrev c_MS_put : ByteArray := prog_16_method_6_code
abbrev y_MS_put : MethodName := ⟨"LatticeKeysModel$Sponge", "put", "(I)V"⟩
abbrev w_MS_put : List Cond := Cond.code y_MS_put c_MS_put 2 none :: WG
theorem dMS_put_0 : decode c_MS_put 0 = .ok (.aload_n 0, 1) := by decide +kernel
theorem dMS_put_1 : decode c_MS_put 1 = .ok (.aload_n 0, 1) := by decide +kernel
theorem dMS_put_2 : decode c_MS_put 2 = .ok (.getfield 39, 3) := by decide +kernel
theorem dMS_put_5 : decode c_MS_put 5 = .ok (.iload_n 1, 1) := by decide +kernel
theorem dMS_put_6 : decode c_MS_put 6 = .ok (.invokevirtual 44, 3) := by decide +kernel
theorem dMS_put_9 : decode c_MS_put 9 = .ok (.aload_n 0, 1) := by decide +kernel
theorem dMS_put_10 : decode c_MS_put 10 = .ok (.dup, 1) := by decide +kernel
theorem dMS_put_11 : decode c_MS_put 11 = .ok (.getfield 39, 3) := by decide +kernel
theorem dMS_put_14 : decode c_MS_put 14 = .ok (.iconst 1, 1) := by decide +kernel
theorem dMS_put_15 : decode c_MS_put 15 = .ok (.iadd, 1) := by decide +kernel
theorem dMS_put_16 : decode c_MS_put 16 = .ok (.putfield 39, 3) := by decide +kernel
theorem dMS_put_19 : decode c_MS_put 19 = .ok (.aload_n 0, 1) := by decide +kernel
theorem dMS_put_20 : decode c_MS_put 20 = .ok (.getfield 39, 3) := by decide +kernel
theorem dMS_put_23 : decode c_MS_put 23 = .ok (.aload_n 0, 1) := by decide +kernel
theorem dMS_put_24 : decode c_MS_put 24 = .ok (.getfield 32, 3) := by decide +kernel
theorem dMS_put_27 : decode c_MS_put 27 = .ok (.if_icmp .ge 4, 3) := by decide +kernel
theorem dMS_put_30 : decode c_MS_put 30 = .ok (.return_, 1) := by decide +kernel
theorem dMS_put_31 : decode c_MS_put 31 = .ok (.aload_n 0, 1) := by decide +kernel
theorem dMS_put_32 : decode c_MS_put 32 = .ok (.invokevirtual 48, 3) := by decide +kernel
theorem dMS_put_35 : decode c_MS_put 35 = .ok (.aload_n 0, 1) := by decide +kernel
theorem dMS_put_36 : decode c_MS_put 36 = .ok (.iconst 0, 1) := by decide +kernel
theorem dMS_put_37 : decode c_MS_put 37 = .ok (.putfield 39, 3) := by decide +kernel
theorem dMS_put_40 : decode c_MS_put 40 = .ok (.return_, 1) := by decide +kernel
abbrev c_MS_puts : ByteArray := prog_16_method_7_code
abbrev y_MS_puts : MethodName := ⟨"LatticeKeysModel$Sponge", "put", "([BII)V"⟩
abbrev w_MS_puts : List Cond := Cond.code y_MS_puts c_MS_puts 5 none :: WG
theorem dMS_puts_0 : decode c_MS_puts 0 = .ok (.iconst 0, 1) := by decide +kernel
theorem dMS_puts_1 : decode c_MS_puts 1 = .ok (.istore 4, 2) := by decide +kernel
theorem dMS_puts_3 : decode c_MS_puts 3 = .ok (.iload 4, 2) := by decide +kernel
theorem dMS_puts_5 : decode c_MS_puts 5 = .ok (.iload_n 3, 1) := by decide +kernel
theorem dMS_puts_6 : decode c_MS_puts 6 = .ok (.if_icmp .ge 19, 3) := by decide +kernel
theorem dMS_puts_9 : decode c_MS_puts 9 = .ok (.aload_n 0, 1) := by decide +kernel
theorem dMS_puts_10 : decode c_MS_puts 10 = .ok (.aload_n 1, 1) := by decide +kernel
theorem dMS_puts_11 : decode c_MS_puts 11 = .ok (.iload_n 2, 1) := by decide +kernel
theorem dMS_puts_12 : decode c_MS_puts 12 = .ok (.iload 4, 2) := by decide +kernel
theorem dMS_puts_14 : decode c_MS_puts 14 = .ok (.iadd, 1) := by decide +kernel
theorem dMS_puts_15 : decode c_MS_puts 15 = .ok (.baload, 1) := by decide +kernel
theorem dMS_puts_16 : decode c_MS_puts 16 = .ok (.invokevirtual 51, 3) := by decide +kernel
theorem dMS_puts_19 : decode c_MS_puts 19 = .ok (.iinc 4 1, 3) := by decide +kernel
theorem dMS_puts_22 : decode c_MS_puts 22 = .ok (.goto (-19), 3) := by decide +kernel
theorem dMS_puts_25 : decode c_MS_puts 25 = .ok (.return_, 1) := by decide +kernel
abbrev c_MS_end : ByteArray := prog_16_method_8_code
abbrev y_MS_end : MethodName := ⟨"LatticeKeysModel$Sponge", "end", "()V"⟩
abbrev w_MS_end : List Cond := Cond.code y_MS_end c_MS_end 1 none :: WG
theorem dMS_end_0 : decode c_MS_end 0 = .ok (.aload_n 0, 1) := by decide +kernel
theorem dMS_end_1 : decode c_MS_end 1 = .ok (.aload_n 0, 1) := by decide +kernel
theorem dMS_end_2 : decode c_MS_end 2 = .ok (.getfield 39, 3) := by decide +kernel
theorem dMS_end_5 : decode c_MS_end 5 = .ok (.aload_n 0, 1) := by decide +kernel
theorem dMS_end_6 : decode c_MS_end 6 = .ok (.getfield 36, 3) := by decide +kernel
theorem dMS_end_9 : decode c_MS_end 9 = .ok (.invokevirtual 44, 3) := by decide +kernel
theorem dMS_end_12 : decode c_MS_end 12 = .ok (.aload_n 0, 1) := by decide +kernel
theorem dMS_end_13 : decode c_MS_end 13 = .ok (.aload_n 0, 1) := by decide +kernel
theorem dMS_end_14 : decode c_MS_end 14 = .ok (.getfield 32, 3) := by decide +kernel
theorem dMS_end_17 : decode c_MS_end 17 = .ok (.iconst 1, 1) := by decide +kernel
theorem dMS_end_18 : decode c_MS_end 18 = .ok (.isub, 1) := by decide +kernel
theorem dMS_end_19 : decode c_MS_end 19 = .ok (.sipush 128, 3) := by decide +kernel
theorem dMS_end_22 : decode c_MS_end 22 = .ok (.invokevirtual 44, 3) := by decide +kernel
theorem dMS_end_25 : decode c_MS_end 25 = .ok (.aload_n 0, 1) := by decide +kernel
theorem dMS_end_26 : decode c_MS_end 26 = .ok (.invokevirtual 48, 3) := by decide +kernel
theorem dMS_end_29 : decode c_MS_end 29 = .ok (.aload_n 0, 1) := by decide +kernel
theorem dMS_end_30 : decode c_MS_end 30 = .ok (.iconst 0, 1) := by decide +kernel
theorem dMS_end_31 : decode c_MS_end 31 = .ok (.putfield 39, 3) := by decide +kernel
theorem dMS_end_34 : decode c_MS_end 34 = .ok (.return_, 1) := by decide +kernel
abbrev c_MS_next : ByteArray := prog_16_method_9_code
abbrev y_MS_next : MethodName := ⟨"LatticeKeysModel$Sponge", "next", "()I"⟩
abbrev w_MS_next : List Cond := Cond.code y_MS_next c_MS_next 2 (some .int) :: WG
theorem dMS_next_0 : decode c_MS_next 0 = .ok (.aload_n 0, 1) := by decide +kernel
theorem dMS_next_1 : decode c_MS_next 1 = .ok (.getfield 39, 3) := by decide +kernel
theorem dMS_next_4 : decode c_MS_next 4 = .ok (.aload_n 0, 1) := by decide +kernel
theorem dMS_next_5 : decode c_MS_next 5 = .ok (.getfield 32, 3) := by decide +kernel
theorem dMS_next_8 : decode c_MS_next 8 = .ok (.if_icmp .ne 12, 3) := by decide +kernel
theorem dMS_next_11 : decode c_MS_next 11 = .ok (.aload_n 0, 1) := by decide +kernel
theorem dMS_next_12 : decode c_MS_next 12 = .ok (.invokevirtual 48, 3) := by decide +kernel
theorem dMS_next_15 : decode c_MS_next 15 = .ok (.aload_n 0, 1) := by decide +kernel
theorem dMS_next_16 : decode c_MS_next 16 = .ok (.iconst 0, 1) := by decide +kernel
theorem dMS_next_17 : decode c_MS_next 17 = .ok (.putfield 39, 3) := by decide +kernel
theorem dMS_next_20 : decode c_MS_next 20 = .ok (.aload_n 0, 1) := by decide +kernel
theorem dMS_next_21 : decode c_MS_next 21 = .ok (.getfield 7, 3) := by decide +kernel
theorem dMS_next_24 : decode c_MS_next 24 = .ok (.aload_n 0, 1) := by decide +kernel
theorem dMS_next_25 : decode c_MS_next 25 = .ok (.getfield 39, 3) := by decide +kernel
theorem dMS_next_28 : decode c_MS_next 28 = .ok (.bipush 8, 2) := by decide +kernel
theorem dMS_next_30 : decode c_MS_next 30 = .ok (.idiv, 1) := by decide +kernel
theorem dMS_next_31 : decode c_MS_next 31 = .ok (.laload, 1) := by decide +kernel
theorem dMS_next_32 : decode c_MS_next 32 = .ok (.bipush 8, 2) := by decide +kernel
theorem dMS_next_34 : decode c_MS_next 34 = .ok (.aload_n 0, 1) := by decide +kernel
theorem dMS_next_35 : decode c_MS_next 35 = .ok (.getfield 39, 3) := by decide +kernel
theorem dMS_next_38 : decode c_MS_next 38 = .ok (.bipush 8, 2) := by decide +kernel
theorem dMS_next_40 : decode c_MS_next 40 = .ok (.irem, 1) := by decide +kernel
theorem dMS_next_41 : decode c_MS_next 41 = .ok (.imul, 1) := by decide +kernel
theorem dMS_next_42 : decode c_MS_next 42 = .ok (.lushr, 1) := by decide +kernel
theorem dMS_next_43 : decode c_MS_next 43 = .ok (.l2i, 1) := by decide +kernel
theorem dMS_next_44 : decode c_MS_next 44 = .ok (.sipush 255, 3) := by decide +kernel
theorem dMS_next_47 : decode c_MS_next 47 = .ok (.iand, 1) := by decide +kernel
theorem dMS_next_48 : decode c_MS_next 48 = .ok (.istore_n 1, 1) := by decide +kernel
theorem dMS_next_49 : decode c_MS_next 49 = .ok (.aload_n 0, 1) := by decide +kernel
theorem dMS_next_50 : decode c_MS_next 50 = .ok (.dup, 1) := by decide +kernel
theorem dMS_next_51 : decode c_MS_next 51 = .ok (.getfield 39, 3) := by decide +kernel
theorem dMS_next_54 : decode c_MS_next 54 = .ok (.iconst 1, 1) := by decide +kernel
theorem dMS_next_55 : decode c_MS_next 55 = .ok (.iadd, 1) := by decide +kernel
theorem dMS_next_56 : decode c_MS_next 56 = .ok (.putfield 39, 3) := by decide +kernel
theorem dMS_next_59 : decode c_MS_next 59 = .ok (.iload_n 1, 1) := by decide +kernel
theorem dMS_next_60 : decode c_MS_next 60 = .ok (.ireturn, 1) := by decide +kernel
abbrev c_MS_take : ByteArray := prog_16_method_10_code
abbrev y_MS_take : MethodName := ⟨"LatticeKeysModel$Sponge", "take", "([BII)V"⟩
abbrev w_MS_take : List Cond := Cond.code y_MS_take c_MS_take 5 none :: WG
theorem dMS_take_0 : decode c_MS_take 0 = .ok (.iconst 0, 1) := by decide +kernel
theorem dMS_take_1 : decode c_MS_take 1 = .ok (.istore 4, 2) := by decide +kernel
theorem dMS_take_3 : decode c_MS_take 3 = .ok (.iload 4, 2) := by decide +kernel
theorem dMS_take_5 : decode c_MS_take 5 = .ok (.iload_n 3, 1) := by decide +kernel
theorem dMS_take_6 : decode c_MS_take 6 = .ok (.if_icmp .ge 20, 3) := by decide +kernel
theorem dMS_take_9 : decode c_MS_take 9 = .ok (.aload_n 1, 1) := by decide +kernel
theorem dMS_take_10 : decode c_MS_take 10 = .ok (.iload_n 2, 1) := by decide +kernel
theorem dMS_take_11 : decode c_MS_take 11 = .ok (.iload 4, 2) := by decide +kernel
theorem dMS_take_13 : decode c_MS_take 13 = .ok (.iadd, 1) := by decide +kernel
theorem dMS_take_14 : decode c_MS_take 14 = .ok (.aload_n 0, 1) := by decide +kernel
theorem dMS_take_15 : decode c_MS_take 15 = .ok (.invokevirtual 55, 3) := by decide +kernel
theorem dMS_take_18 : decode c_MS_take 18 = .ok (.i2b, 1) := by decide +kernel
theorem dMS_take_19 : decode c_MS_take 19 = .ok (.bastore, 1) := by decide +kernel
theorem dMS_take_20 : decode c_MS_take 20 = .ok (.iinc 4 1, 3) := by decide +kernel
theorem dMS_take_23 : decode c_MS_take 23 = .ok (.goto (-20), 3) := by decide +kernel
theorem dMS_take_26 : decode c_MS_take 26 = .ok (.return_, 1) := by decide +kernel
abbrev c_MS_shake : ByteArray := prog_16_method_11_code
abbrev y_MS_shake : MethodName := ⟨"LatticeKeysModel$Sponge", "shake", "()V"⟩
abbrev w_MS_shake : List Cond := Cond.code y_MS_shake c_MS_shake 1 none :: WG
theorem dMS_shake_0 : decode c_MS_shake 0 = .ok (.aload_n 0, 1) := by decide +kernel
theorem dMS_shake_1 : decode c_MS_shake 1 = .ok (.sipush 136, 3) := by decide +kernel
theorem dMS_shake_4 : decode c_MS_shake 4 = .ok (.bipush 31, 2) := by decide +kernel
theorem dMS_shake_6 : decode c_MS_shake 6 = .ok (.invokevirtual 59, 3) := by decide +kernel
theorem dMS_shake_9 : decode c_MS_shake 9 = .ok (.return_, 1) := by decide +kernel
set_option maxHeartbeats 400000 in
set_option maxRecDepth 100000 in
theorem x_MS_add (l : Launch) (g : Gd) (sz : Nat) (T : Ty) (xs : List Nat) (pl : va_W) (hO : okx g T xs pl) (hU : uni T) (k : Nat) (v : Int32) (h0 sa ta ca ra ua rt ps : Nat) (x3 : Int32) (fs ft fc : Nat → Int64) (hk : k < 200)  : Met l y_MS_add w_MS_add ({ frames := 0, cells := 0, slots := 0, locals := 0 } : Room) (va_Pc [.ref h0, .int (nI k), .int v] (pr (en g) g.1 vcl sz (([(h0, .inr (9, [.ref sa, .ref ta, .ref ca, .ref ra, .ref ua, .int (nI rt), .int (nI ps), .int x3])), (sa, .inl (g.2.1 2, 25, .inr (.inl fs))), (ta, .inl (g.2.1 2, 25, .inr (.inl ft))), (ca, .inl (g.2.1 2, 5, .inr (.inl fc))), (ra, .inl (g.2.1 2, 24, .inr (.inl RCS))), (ua, .inl (g.2.1 0, 25, .inl TUR))] : va_W) ++ pl))) (va_Qv (fun (u : va_W) => (True) ∧ okx g T xs u) (po g.1 vcl (va_A (([(h0, .inr (9, [.ref sa, .ref ta, .ref ca, .ref ra, .ref ua, .int (nI rt), .int (nI ps), .int x3])), (sa, .inl (g.2.1 2, 25, .inr (.inl fs))), (ta, .inl (g.2.1 2, 25, .inr (.inl ft))), (ca, .inl (g.2.1 2, 5, .inr (.inl fc))), (ra, .inl (g.2.1 2, 24, .inr (.inl RCS))), (ua, .inl (g.2.1 0, 25, .inl TUR))] : va_W) ++ pl) sz) (fun (u : va_W) => ([(h0, .inr (9, [.ref sa, .ref ta, .ref ca, .ref ra, .ref ua, .int (nI rt), .int (nI ps), .int x3])), (sa, .inl (g.2.1 2, 25, .inr (.inl ((mxB fs k v))))), (ta, .inl (g.2.1 2, 25, .inr (.inl ft))), (ca, .inl (g.2.1 2, 5, .inr (.inl fc))), (ra, .inl (g.2.1 2, 24, .inr (.inl RCS))), (ua, .inl (g.2.1 0, 25, .inl TUR))] : va_W) ++ u)) (va_A (([(h0, .inr (9, [.ref sa, .ref ta, .ref ca, .ref ra, .ref ua, .int (nI rt), .int (nI ps), .int x3])), (sa, .inl (g.2.1 2, 25, .inr (.inl fs))), (ta, .inl (g.2.1 2, 25, .inr (.inl ft))), (ca, .inl (g.2.1 2, 5, .inr (.inl fc))), (ra, .inl (g.2.1 2, 24, .inr (.inl RCS))), (ua, .inl (g.2.1 0, 25, .inl TUR))] : va_W) ++ pl) sz)) 0 0 (va_A (([(h0, .inr (9, [.ref sa, .ref ta, .ref ca, .ref ra, .ref ua, .int (nI rt), .int (nI ps), .int x3])), (sa, .inl (g.2.1 2, 25, .inr (.inl fs))), (ta, .inl (g.2.1 2, 25, .inr (.inl ft))), (ca, .inl (g.2.1 2, 5, .inr (.inl fc))), (ra, .inl (g.2.1 2, 24, .inr (.inl RCS))), (ua, .inl (g.2.1 0, 25, .inl TUR))] : va_W) ++ pl) sz) := by
  refine mc_entry (cc := c_MS_add) (maxL := 3) (ret := none) (by decide) rfl (Nat.le_of_ble_eq_true rfl) ?_
  intro p e s m args below meth c ls F hr hlk hnm hsz hP hD hE hA hl
  obtain ⟨hx, hb, hml, hown, hts⟩ := id F
  have hK := hE.1
  generalize va_A (([(h0, .inr (9, [.ref sa, .ref ta, .ref ca, .ref ra, .ref ua, .int (nI rt), .int (nI ps), .int x3])), (sa, .inl (g.2.1 2, 25, .inr (.inl fs))), (ta, .inl (g.2.1 2, 25, .inr (.inl ft))), (ca, .inl (g.2.1 2, 5, .inr (.inl fc))), (ra, .inl (g.2.1 2, 24, .inr (.inl RCS))), (ua, .inl (g.2.1 0, 25, .inl TUR))] : va_W) ++ pl) sz = A at hD hE hA ⊢
  have hS : va_S A s.heap s.heap [] := va_S.rf
  have hl : lv_has ls 3 [(0, .ref h0), (1, .int (nI k)), (2, .int v)] := hl
  refine lv_aload_n hx hb dMS_add_0 rfl (lv_at hl 0 rfl) ?_
  refine va_get (D := g.1) (ci := 9) (C := "LatticeKeysModel$Sponge") (T := T_MS) (N := 8) hx hb hts (wg_ft i_MS) hown hK hP 0 rfl rfl 0 (by decide) (hts _ (wg_t kw_1325)) (fun _ h9 => h9) rfl dMS_add_1 ?_
  refine lv_iload_n hx hb dMS_add_4 rfl (lv_at hl 1 rfl) ?_
  refine lv_bipush (v := nI 8) hx hb dMS_add_5 (by decide) ?_
  refine mi_idiv hx hb dMS_add_7 (by omega) (by omega) (by omega) ?_
  refine lv_dup2_11 hx hb dMS_add_8 rfl rfl ?_
  refine mp_lald hx hb hK hP 1 2 rfl rfl (by omega) (by decide) dMS_add_9 ?_
  refine lv_iload_n hx hb dMS_add_10 rfl (lv_at hl 2 rfl) ?_
  refine lv_i2l hx hb dMS_add_11 rfl ?_
  refine lv_ldc2 (v := (255)) hx hb hown (hts _ (wg_t kw_1623)) dMS_add_12 ?_
  refine lv_land hx hb dMS_add_15 ?_
  refine lv_bipush (v := nI 8) hx hb dMS_add_16 (by decide) ?_
  refine lv_iload_n hx hb dMS_add_18 rfl (lv_at hl 1 rfl) ?_
  refine lv_bipush (v := nI 8) hx hb dMS_add_19 (by decide) ?_
  refine mi_irem hx hb dMS_add_21 (by omega) (by omega) (by omega) ?_
  refine mi_imul hx hb dMS_add_22 ?_
  refine lv_lshl hx hb dMS_add_23 rfl ?_
  refine lv_lxor hx hb dMS_add_24 ?_
  refine mp_last hx hb hK hP hD hS 1 2 rfl rfl (by omega) (by decide) dMS_add_25 (fun H locs hP hD hS => ?_)
  have hP : va_P g.1 vcl (([(h0, .inr (9, [.ref sa, .ref ta, .ref ca, .ref ra, .ref ua, .int (nI rt), .int (nI ps), .int x3])), (sa, .inl (g.2.1 2, 25, .inr (.inl ((vp_updL fs (k / 8) ((fs (k / 8)) ^^^ (((v).toInt64 &&& (255)) <<< ((nI (8 * (k % 8))).toInt64 &&& 63)))))))), (ta, .inl (g.2.1 2, 25, .inr (.inl ft))), (ca, .inl (g.2.1 2, 5, .inr (.inl fc))), (ra, .inl (g.2.1 2, 24, .inr (.inl RCS))), (ua, .inl (g.2.1 0, 25, .inl TUR))] : va_W) ++ pl) _ := hP
  have hD : va_D _ (([(h0, .inr (9, [.ref sa, .ref ta, .ref ca, .ref ra, .ref ua, .int (nI rt), .int (nI ps), .int x3])), (sa, .inl (g.2.1 2, 25, .inr (.inl ((vp_updL fs (k / 8) ((fs (k / 8)) ^^^ (((v).toInt64 &&& (255)) <<< ((nI (8 * (k % 8))).toInt64 &&& 63)))))))), (ta, .inl (g.2.1 2, 25, .inr (.inl ft))), (ca, .inl (g.2.1 2, 5, .inr (.inl fc))), (ra, .inl (g.2.1 2, 24, .inr (.inl RCS))), (ua, .inl (g.2.1 0, 25, .inl TUR))] : va_W) ++ pl) := hD
  have hP : va_P g.1 vcl (([(h0, .inr (9, [.ref sa, .ref ta, .ref ca, .ref ra, .ref ua, .int (nI rt), .int (nI ps), .int x3])), (sa, .inl (g.2.1 2, 25, .inr (.inl ((mxB fs k v))))), (ta, .inl (g.2.1 2, 25, .inr (.inl ft))), (ca, .inl (g.2.1 2, 5, .inr (.inl fc))), (ra, .inl (g.2.1 2, 24, .inr (.inl RCS))), (ua, .inl (g.2.1 0, 25, .inl TUR))] : va_W) ++ pl) _ := hP
  have hD : va_D _ (([(h0, .inr (9, [.ref sa, .ref ta, .ref ca, .ref ra, .ref ua, .int (nI rt), .int (nI ps), .int x3])), (sa, .inl (g.2.1 2, 25, .inr (.inl ((mxB fs k v))))), (ta, .inl (g.2.1 2, 25, .inr (.inl ft))), (ca, .inl (g.2.1 2, 5, .inr (.inl fc))), (ra, .inl (g.2.1 2, 24, .inr (.inl RCS))), (ua, .inl (g.2.1 0, 25, .inl TUR))] : va_W) ++ pl) := hD
  exact mp_vret hx hb hr hlk hP hD hS pl ⟨trivial, hO⟩ [0, 1, 2, 3, 4, 5] rfl rfl rfl (by omega) (by omega) dMS_add_26
set_option maxHeartbeats 400000 in
set_option maxRecDepth 100000 in
theorem x_MS_begin (l : Launch) (g : Gd) (sz : Nat) (T : Ty) (xs : List Nat) (pl : va_W) (hO : okx g T xs pl) (hU : uni T) (nr : Nat) (sf : Int32) (h0 sa ta ca ra ua rt ps : Nat) (x3 : Int32) (fs ft fc : Nat → Int64)  : Met l y_MS_begin w_MS_begin ({ frames := 0, cells := 0, slots := 0, locals := 0 } : Room) (va_Pc [.ref h0, .int (nI nr), .int sf] (pr (en g) g.1 vcl sz (([(h0, .inr (9, [.ref sa, .ref ta, .ref ca, .ref ra, .ref ua, .int (nI rt), .int (nI ps), .int x3])), (sa, .inl (g.2.1 2, 25, .inr (.inl fs))), (ta, .inl (g.2.1 2, 25, .inr (.inl ft))), (ca, .inl (g.2.1 2, 5, .inr (.inl fc))), (ra, .inl (g.2.1 2, 24, .inr (.inl RCS))), (ua, .inl (g.2.1 0, 25, .inl TUR))] : va_W) ++ pl))) (va_Qv (fun (u : va_W) => (True) ∧ okx g T xs u) (po g.1 vcl (va_A (([(h0, .inr (9, [.ref sa, .ref ta, .ref ca, .ref ra, .ref ua, .int (nI rt), .int (nI ps), .int x3])), (sa, .inl (g.2.1 2, 25, .inr (.inl fs))), (ta, .inl (g.2.1 2, 25, .inr (.inl ft))), (ca, .inl (g.2.1 2, 5, .inr (.inl fc))), (ra, .inl (g.2.1 2, 24, .inr (.inl RCS))), (ua, .inl (g.2.1 0, 25, .inl TUR))] : va_W) ++ pl) sz) (fun (u : va_W) => ([(h0, .inr (9, [.ref sa, .ref ta, .ref ca, .ref ra, .ref ua, .int (nI nr), .int (nI 0), .int sf])), (sa, .inl (g.2.1 2, 25, .inr (.inl ((fun _ => 0))))), (ta, .inl (g.2.1 2, 25, .inr (.inl ft))), (ca, .inl (g.2.1 2, 5, .inr (.inl fc))), (ra, .inl (g.2.1 2, 24, .inr (.inl RCS))), (ua, .inl (g.2.1 0, 25, .inl TUR))] : va_W) ++ u)) (va_A (([(h0, .inr (9, [.ref sa, .ref ta, .ref ca, .ref ra, .ref ua, .int (nI rt), .int (nI ps), .int x3])), (sa, .inl (g.2.1 2, 25, .inr (.inl fs))), (ta, .inl (g.2.1 2, 25, .inr (.inl ft))), (ca, .inl (g.2.1 2, 5, .inr (.inl fc))), (ra, .inl (g.2.1 2, 24, .inr (.inl RCS))), (ua, .inl (g.2.1 0, 25, .inl TUR))] : va_W) ++ pl) sz)) 0 0 (va_A (([(h0, .inr (9, [.ref sa, .ref ta, .ref ca, .ref ra, .ref ua, .int (nI rt), .int (nI ps), .int x3])), (sa, .inl (g.2.1 2, 25, .inr (.inl fs))), (ta, .inl (g.2.1 2, 25, .inr (.inl ft))), (ca, .inl (g.2.1 2, 5, .inr (.inl fc))), (ra, .inl (g.2.1 2, 24, .inr (.inl RCS))), (ua, .inl (g.2.1 0, 25, .inl TUR))] : va_W) ++ pl) sz) := by
  refine mc_entry (cc := c_MS_begin) (maxL := 4) (ret := none) (by decide) rfl (Nat.le_of_ble_eq_true rfl) ?_
  intro p e s m args below meth c ls F hr hlk hnm hsz hP hD hE hA hl
  obtain ⟨hx, hb, hml, hown, hts⟩ := id F
  have hK := hE.1
  generalize va_A (([(h0, .inr (9, [.ref sa, .ref ta, .ref ca, .ref ra, .ref ua, .int (nI rt), .int (nI ps), .int x3])), (sa, .inl (g.2.1 2, 25, .inr (.inl fs))), (ta, .inl (g.2.1 2, 25, .inr (.inl ft))), (ca, .inl (g.2.1 2, 5, .inr (.inl fc))), (ra, .inl (g.2.1 2, 24, .inr (.inl RCS))), (ua, .inl (g.2.1 0, 25, .inl TUR))] : va_W) ++ pl) sz = A at hD hE hA ⊢
  have hS : va_S A s.heap s.heap [] := va_S.rf
  have hl : lv_has ls 4 [(0, .ref h0), (1, .int (nI nr)), (2, .int sf)] := hl
  refine lv_aload_n hx hb dMS_begin_0 rfl (lv_at hl 0 rfl) ?_
  refine lv_iload_n hx hb dMS_begin_1 rfl (lv_at hl 1 rfl) ?_
  refine va_put (D := g.1) (ci := 9) (v := .int (nI nr)) (ty := .int) (C := "LatticeKeysModel$Sponge") (T := T_MS) (N := 8) hx hb hts (wg_ft i_MS) ty_MS k_MS n_MS hown hK hP hD hS 0 rfl rfl 5 (by decide) (hts _ (wg_t kw_1330)) (fun _ h9 => h9) rfl (by decide +kernel) rfl rfl (Nat.le_of_ble_eq_true rfl) dMS_begin_2 (fun H locs hP hD hS => ?_)
  have hP : va_P g.1 vcl (([(h0, .inr (9, [.ref sa, .ref ta, .ref ca, .ref ra, .ref ua, .int (nI nr), .int (nI ps), .int x3])), (sa, .inl (g.2.1 2, 25, .inr (.inl fs))), (ta, .inl (g.2.1 2, 25, .inr (.inl ft))), (ca, .inl (g.2.1 2, 5, .inr (.inl fc))), (ra, .inl (g.2.1 2, 24, .inr (.inl RCS))), (ua, .inl (g.2.1 0, 25, .inl TUR))] : va_W) ++ pl) _ := hP
  have hD : va_D _ (([(h0, .inr (9, [.ref sa, .ref ta, .ref ca, .ref ra, .ref ua, .int (nI nr), .int (nI ps), .int x3])), (sa, .inl (g.2.1 2, 25, .inr (.inl fs))), (ta, .inl (g.2.1 2, 25, .inr (.inl ft))), (ca, .inl (g.2.1 2, 5, .inr (.inl fc))), (ra, .inl (g.2.1 2, 24, .inr (.inl RCS))), (ua, .inl (g.2.1 0, 25, .inl TUR))] : va_W) ++ pl) := hD
  refine lv_aload_n hx hb dMS_begin_5 rfl (lv_at hl 0 rfl) ?_
  refine lv_iload_n hx hb dMS_begin_6 rfl (lv_at hl 2 rfl) ?_
  refine va_put (D := g.1) (ci := 9) (v := .int sf) (ty := .int) (C := "LatticeKeysModel$Sponge") (T := T_MS) (N := 8) hx hb hts (wg_ft i_MS) ty_MS k_MS n_MS hown hK hP hD hS 0 rfl rfl 7 (by decide) (hts _ (wg_t kw_1332)) (fun _ h9 => h9) rfl (by decide +kernel) rfl rfl (Nat.le_of_ble_eq_true rfl) dMS_begin_7 (fun H locs hP hD hS => ?_)
  have hP : va_P g.1 vcl (([(h0, .inr (9, [.ref sa, .ref ta, .ref ca, .ref ra, .ref ua, .int (nI nr), .int (nI ps), .int sf])), (sa, .inl (g.2.1 2, 25, .inr (.inl fs))), (ta, .inl (g.2.1 2, 25, .inr (.inl ft))), (ca, .inl (g.2.1 2, 5, .inr (.inl fc))), (ra, .inl (g.2.1 2, 24, .inr (.inl RCS))), (ua, .inl (g.2.1 0, 25, .inl TUR))] : va_W) ++ pl) _ := hP
  have hD : va_D _ (([(h0, .inr (9, [.ref sa, .ref ta, .ref ca, .ref ra, .ref ua, .int (nI nr), .int (nI ps), .int sf])), (sa, .inl (g.2.1 2, 25, .inr (.inl fs))), (ta, .inl (g.2.1 2, 25, .inr (.inl ft))), (ca, .inl (g.2.1 2, 5, .inr (.inl fc))), (ra, .inl (g.2.1 2, 24, .inr (.inl RCS))), (ua, .inl (g.2.1 0, 25, .inl TUR))] : va_W) ++ pl) := hD
  refine lv_aload_n hx hb dMS_begin_10 rfl (lv_at hl 0 rfl) ?_
  refine lv_iconst (v := nI 0) hx hb dMS_begin_11 (by decide) ?_
  refine va_put (D := g.1) (ci := 9) (v := .int (nI 0)) (ty := .int) (C := "LatticeKeysModel$Sponge") (T := T_MS) (N := 8) hx hb hts (wg_ft i_MS) ty_MS k_MS n_MS hown hK hP hD hS 0 rfl rfl 6 (by decide) (hts _ (wg_t kw_1331)) (fun _ h9 => h9) rfl (by decide +kernel) rfl rfl (Nat.le_of_ble_eq_true rfl) dMS_begin_12 (fun H locs hP hD hS => ?_)
  have hP : va_P g.1 vcl (([(h0, .inr (9, [.ref sa, .ref ta, .ref ca, .ref ra, .ref ua, .int (nI nr), .int (nI 0), .int sf])), (sa, .inl (g.2.1 2, 25, .inr (.inl fs))), (ta, .inl (g.2.1 2, 25, .inr (.inl ft))), (ca, .inl (g.2.1 2, 5, .inr (.inl fc))), (ra, .inl (g.2.1 2, 24, .inr (.inl RCS))), (ua, .inl (g.2.1 0, 25, .inl TUR))] : va_W) ++ pl) _ := hP
  have hD : va_D _ (([(h0, .inr (9, [.ref sa, .ref ta, .ref ca, .ref ra, .ref ua, .int (nI nr), .int (nI 0), .int sf])), (sa, .inl (g.2.1 2, 25, .inr (.inl fs))), (ta, .inl (g.2.1 2, 25, .inr (.inl ft))), (ca, .inl (g.2.1 2, 5, .inr (.inl fc))), (ra, .inl (g.2.1 2, 24, .inr (.inl RCS))), (ua, .inl (g.2.1 0, 25, .inl TUR))] : va_W) ++ pl) := hD
  refine lv_iconst (v := nI 0) hx hb dMS_begin_15 (by decide) ?_
  refine lv_istore_n (lv' := [(3, .int (nI 0)), (0, .ref h0), (1, .int (nI nr)), (2, .int sf)]) hx hb dMS_begin_16 rfl hl (by decide) rfl (fun ls hl => ?_)
  have lp21 : ∀ (n21 : Nat) (i21 : Nat) (f21 : Nat → Int64) (pl : va_W) (ls : Array Slot) (H : Heap) (locs : List Loc), n21 + i21 = 25 → (∀ j, j < i21 → f21 j = (fun _ => 0) j) → lv_has ls 4 [(3, .int (nI i21)), (0, .ref h0)] → okx g T xs pl → va_P g.1 vcl (([(h0, .inr (9, [.ref sa, .ref ta, .ref ca, .ref ra, .ref ua, .int (nI nr), .int (nI 0), .int sf])), (sa, .inl (g.2.1 2, 25, .inr (.inl f21))), (ta, .inl (g.2.1 2, 25, .inr (.inl ft))), (ca, .inl (g.2.1 2, 5, .inr (.inl fc))), (ra, .inl (g.2.1 2, 24, .inr (.inl RCS))), (ua, .inl (g.2.1 0, 25, .inl TUR))] : va_W) ++ pl) H → va_D A (([(h0, .inr (9, [.ref sa, .ref ta, .ref ca, .ref ra, .ref ua, .int (nI nr), .int (nI 0), .int sf])), (sa, .inl (g.2.1 2, 25, .inr (.inl f21))), (ta, .inl (g.2.1 2, 25, .inr (.inl ft))), (ca, .inl (g.2.1 2, 5, .inr (.inl fc))), (ra, .inl (g.2.1 2, 24, .inr (.inl RCS))), (ua, .inl (g.2.1 0, 25, .inl TUR))] : va_W) ++ pl) → va_S A s.heap H locs → W p l e ({ frames := 0, cells := 0, slots := 0, locals := 0 } : Room) s m args below meth c H locs 0 0 (MQ below (va_Qv (fun (u : va_W) => (True) ∧ okx g T xs u) (po g.1 vcl A (fun (u : va_W) => ([(h0, .inr (9, [.ref sa, .ref ta, .ref ca, .ref ra, .ref ua, .int (nI nr), .int (nI 0), .int sf])), (sa, .inl (g.2.1 2, 25, .inr (.inl ((fun _ => 0))))), (ta, .inl (g.2.1 2, 25, .inr (.inl ft))), (ca, .inl (g.2.1 2, 5, .inr (.inl fc))), (ra, .inl (g.2.1 2, 24, .inr (.inl RCS))), (ua, .inl (g.2.1 0, 25, .inl TUR))] : va_W) ++ u)) A) args s 0 0 A) (F0 m 17 ls []) := by
    intro n21
    induction n21 with
    | zero =>
      intro i21 f21 pl ls H locs hm21 hz0 hl hO hP hD hS
      refine lv_iload_n hx hb dMS_begin_17 rfl (lv_at hl 0 rfl) ?_
      refine lv_bipush (v := nI 25) hx hb dMS_begin_18 (by decide) ?_
      refine mi_ge (tgt := 36) hx hb dMS_begin_20 (by decide) (by omega) (by omega) (fun h21 => ?_) (fun h21 => absurd h21 (by omega))
      have hP := pc_l hP 1 (fun _ => 0) rfl (fun j h9 => hz0 j (by omega))
      have hD := dc_e hD 1 (.inl (g.2.1 2, 25, .inr (.inl (fun _ => 0)))) rfl
      have hP : va_P g.1 vcl (([(h0, .inr (9, [.ref sa, .ref ta, .ref ca, .ref ra, .ref ua, .int (nI nr), .int (nI 0), .int sf])), (sa, .inl (g.2.1 2, 25, .inr (.inl ((fun _ => 0))))), (ta, .inl (g.2.1 2, 25, .inr (.inl ft))), (ca, .inl (g.2.1 2, 5, .inr (.inl fc))), (ra, .inl (g.2.1 2, 24, .inr (.inl RCS))), (ua, .inl (g.2.1 0, 25, .inl TUR))] : va_W) ++ pl) _ := hP
      have hD : va_D _ (([(h0, .inr (9, [.ref sa, .ref ta, .ref ca, .ref ra, .ref ua, .int (nI nr), .int (nI 0), .int sf])), (sa, .inl (g.2.1 2, 25, .inr (.inl ((fun _ => 0))))), (ta, .inl (g.2.1 2, 25, .inr (.inl ft))), (ca, .inl (g.2.1 2, 5, .inr (.inl fc))), (ra, .inl (g.2.1 2, 24, .inr (.inl RCS))), (ua, .inl (g.2.1 0, 25, .inl TUR))] : va_W) ++ pl) := hD
      exact mp_vret hx hb hr hlk hP hD hS pl ⟨trivial, hO⟩ [0, 1, 2, 3, 4, 5] rfl rfl rfl (by omega) (by omega) dMS_begin_36
    | succ n21 ih21 =>
      intro i21 f21 pl ls H locs hm21 hz0 hl hO hP hD hS
      refine lv_iload_n hx hb dMS_begin_17 rfl (lv_at hl 0 rfl) ?_
      refine lv_bipush (v := nI 25) hx hb dMS_begin_18 (by decide) ?_
      refine mi_ge (tgt := 36) hx hb dMS_begin_20 (by decide) (by omega) (by omega) (fun h22 => absurd h22 (by omega)) (fun h22 => ?_)
      refine lv_aload_n hx hb dMS_begin_23 rfl (lv_at hl 1 rfl) ?_
      refine va_get (D := g.1) (ci := 9) (C := "LatticeKeysModel$Sponge") (T := T_MS) (N := 8) hx hb hts (wg_ft i_MS) hown hK hP 0 rfl rfl 0 (by decide) (hts _ (wg_t kw_1325)) (fun _ h9 => h9) rfl dMS_begin_24 ?_
      refine lv_iload_n hx hb dMS_begin_27 rfl (lv_at hl 0 rfl) ?_
      refine lv_lconst (v := 0) hx hb dMS_begin_28 (by decide) ?_
      refine mp_last hx hb hK hP hD hS 1 2 rfl rfl (by omega) (by decide) dMS_begin_29 (fun H locs hP hD hS => ?_)
      have hP : va_P g.1 vcl (([(h0, .inr (9, [.ref sa, .ref ta, .ref ca, .ref ra, .ref ua, .int (nI nr), .int (nI 0), .int sf])), (sa, .inl (g.2.1 2, 25, .inr (.inl ((vp_updL f21 i21 0))))), (ta, .inl (g.2.1 2, 25, .inr (.inl ft))), (ca, .inl (g.2.1 2, 5, .inr (.inl fc))), (ra, .inl (g.2.1 2, 24, .inr (.inl RCS))), (ua, .inl (g.2.1 0, 25, .inl TUR))] : va_W) ++ pl) _ := hP
      have hD : va_D _ (([(h0, .inr (9, [.ref sa, .ref ta, .ref ca, .ref ra, .ref ua, .int (nI nr), .int (nI 0), .int sf])), (sa, .inl (g.2.1 2, 25, .inr (.inl ((vp_updL f21 i21 0))))), (ta, .inl (g.2.1 2, 25, .inr (.inl ft))), (ca, .inl (g.2.1 2, 5, .inr (.inl fc))), (ra, .inl (g.2.1 2, 24, .inr (.inl RCS))), (ua, .inl (g.2.1 0, 25, .inl TUR))] : va_W) ++ pl) := hD
      refine mi_iinc (k := 0) (x := i21) (d := 1) (y := i21 + 1) (lv' := [(3, .int (nI (i21 + 1))), (0, .ref h0)]) hx hb dMS_begin_30 hl rfl (by decide) rfl (by decide) rfl (fun ls hl => ?_)
      refine lv_goto (tgt := 17) hx hb dMS_begin_33 (by decide) ?_
      exact ih21 (i21 + 1) (vp_updL f21 i21 0) pl ls H locs (by omega) (up_step (G := fun _ => 0) hz0 rfl) (lv_sub hl [0, 1] rfl) hO hP hD hS
  exact lp21 25 0 fs pl ls _ _ (by omega) (fun j h9 => absurd h9 (Nat.not_lt_zero _)) (lv_sub hl [0, 1] rfl) hO hP hD hS
set_option maxHeartbeats 400000 in
set_option maxRecDepth 100000 in
theorem x_MS_shake (l : Launch) (g : Gd) (sz : Nat) (T : Ty) (xs : List Nat) (pl : va_W) (hO : okx g T xs pl) (hU : uni T) (h0 sa ta ca ra ua rt ps : Nat) (x3 : Int32) (fs ft fc : Nat → Int64)  : Met l y_MS_shake w_MS_shake ({ frames := 1, cells := 0, slots := 0, locals := 23 } : Room) (va_Pc [.ref h0] (pr (en g) g.1 vcl sz (([(h0, .inr (9, [.ref sa, .ref ta, .ref ca, .ref ra, .ref ua, .int (nI rt), .int (nI ps), .int x3])), (sa, .inl (g.2.1 2, 25, .inr (.inl fs))), (ta, .inl (g.2.1 2, 25, .inr (.inl ft))), (ca, .inl (g.2.1 2, 5, .inr (.inl fc))), (ra, .inl (g.2.1 2, 24, .inr (.inl RCS))), (ua, .inl (g.2.1 0, 25, .inl TUR))] : va_W) ++ pl))) (va_Qv (fun (u : va_W) => (True) ∧ okx g T xs u) (po g.1 vcl (va_A (([(h0, .inr (9, [.ref sa, .ref ta, .ref ca, .ref ra, .ref ua, .int (nI rt), .int (nI ps), .int x3])), (sa, .inl (g.2.1 2, 25, .inr (.inl fs))), (ta, .inl (g.2.1 2, 25, .inr (.inl ft))), (ca, .inl (g.2.1 2, 5, .inr (.inl fc))), (ra, .inl (g.2.1 2, 24, .inr (.inl RCS))), (ua, .inl (g.2.1 0, 25, .inl TUR))] : va_W) ++ pl) sz) (fun (u : va_W) => ([(h0, .inr (9, [.ref sa, .ref ta, .ref ca, .ref ra, .ref ua, .int (nI 136), .int (nI 0), .int (nI 31)])), (sa, .inl (g.2.1 2, 25, .inr (.inl ((fun _ => 0))))), (ta, .inl (g.2.1 2, 25, .inr (.inl ft))), (ca, .inl (g.2.1 2, 5, .inr (.inl fc))), (ra, .inl (g.2.1 2, 24, .inr (.inl RCS))), (ua, .inl (g.2.1 0, 25, .inl TUR))] : va_W) ++ u)) (va_A (([(h0, .inr (9, [.ref sa, .ref ta, .ref ca, .ref ra, .ref ua, .int (nI rt), .int (nI ps), .int x3])), (sa, .inl (g.2.1 2, 25, .inr (.inl fs))), (ta, .inl (g.2.1 2, 25, .inr (.inl ft))), (ca, .inl (g.2.1 2, 5, .inr (.inl fc))), (ra, .inl (g.2.1 2, 24, .inr (.inl RCS))), (ua, .inl (g.2.1 0, 25, .inl TUR))] : va_W) ++ pl) sz)) 0 0 (va_A (([(h0, .inr (9, [.ref sa, .ref ta, .ref ca, .ref ra, .ref ua, .int (nI rt), .int (nI ps), .int x3])), (sa, .inl (g.2.1 2, 25, .inr (.inl fs))), (ta, .inl (g.2.1 2, 25, .inr (.inl ft))), (ca, .inl (g.2.1 2, 5, .inr (.inl fc))), (ra, .inl (g.2.1 2, 24, .inr (.inl RCS))), (ua, .inl (g.2.1 0, 25, .inl TUR))] : va_W) ++ pl) sz) := by
  refine mc_entry (cc := c_MS_shake) (maxL := 1) (ret := none) (by decide) rfl (Nat.le_of_ble_eq_true rfl) ?_
  intro p e s m args below meth c ls F hr hlk hnm hsz hP hD hE hA hl
  obtain ⟨hx, hb, hml, hown, hts⟩ := id F
  have hK := hE.1
  generalize va_A (([(h0, .inr (9, [.ref sa, .ref ta, .ref ca, .ref ra, .ref ua, .int (nI rt), .int (nI ps), .int x3])), (sa, .inl (g.2.1 2, 25, .inr (.inl fs))), (ta, .inl (g.2.1 2, 25, .inr (.inl ft))), (ca, .inl (g.2.1 2, 5, .inr (.inl fc))), (ra, .inl (g.2.1 2, 24, .inr (.inl RCS))), (ua, .inl (g.2.1 0, 25, .inl TUR))] : va_W) ++ pl) sz = A at hD hE hA ⊢
  have hS : va_S A s.heap s.heap [] := va_S.rf
  have hl : lv_has ls 1 [(0, .ref h0)] := hl
  refine lv_aload_n hx hb dMS_shake_0 rfl (lv_at hl 0 rfl) ?_
  refine lv_sipush (v := nI 136) hx hb dMS_shake_1 (by decide) ?_
  refine lv_bipush (v := nI 31) hx hb dMS_shake_4 (by decide) ?_
  refine mp_v (cx := [(h0, .inr (9, [.ref sa, .ref ta, .ref ca, .ref ra, .ref ua, .int (nI rt), .int (nI ps), .int x3])), (sa, .inl (g.2.1 2, 25, .inr (.inl fs))), (ta, .inl (g.2.1 2, 25, .inr (.inl ft))), (ca, .inl (g.2.1 2, 5, .inr (.inl fc))), (ra, .inl (g.2.1 2, 24, .inr (.inl RCS))), (ua, .inl (g.2.1 0, 25, .inl TUR))]) (wr := []) hP hD hS hA [0, 1, 2, 3, 4, 5] [] rfl rfl rfl (by decide) (va_runV (As := [.int (nI 136), .int (nI 31)]) (rest := []) F (x_MS_begin l g _ T xs pl hO hU  136 (nI 31) h0 sa ta ca ra ua rt ps x3 fs ft fc) (cwV 2 hts (wg_app (wg_c kw_1664 (wg_c kw_1608 (wg_c kw_1609 (wg_c kw_10 wg_n)))) kw_1610) rfl rfl rfl (by decide +kernel) ⟨by decide, by decide⟩) (pp_W "LatticeKeysModel$Sponge" (en_ok g) (q0 := 0) hK hP hD hS hA hE [0, 1, 2, 3, 4, 5] rfl rfl rfl rfl) rfl rfl hl.1 rfl (lv_room (Nat.le_of_ble_eq_true rfl)) dMS_shake_6 ⟨by omega, by omega⟩) (fun  pl H locs hu21 hP hD hS => ?_)
  obtain ⟨hq21, hO⟩ := hu21
  have hP : va_P g.1 vcl (([(h0, .inr (9, [.ref sa, .ref ta, .ref ca, .ref ra, .ref ua, .int (nI 136), .int (nI 0), .int (nI 31)])), (sa, .inl (g.2.1 2, 25, .inr (.inl ((fun _ => 0))))), (ta, .inl (g.2.1 2, 25, .inr (.inl ft))), (ca, .inl (g.2.1 2, 5, .inr (.inl fc))), (ra, .inl (g.2.1 2, 24, .inr (.inl RCS))), (ua, .inl (g.2.1 0, 25, .inl TUR))] : va_W) ++ pl) _ := hP
  have hD : va_D _ (([(h0, .inr (9, [.ref sa, .ref ta, .ref ca, .ref ra, .ref ua, .int (nI 136), .int (nI 0), .int (nI 31)])), (sa, .inl (g.2.1 2, 25, .inr (.inl ((fun _ => 0))))), (ta, .inl (g.2.1 2, 25, .inr (.inl ft))), (ca, .inl (g.2.1 2, 5, .inr (.inl fc))), (ra, .inl (g.2.1 2, 24, .inr (.inl RCS))), (ua, .inl (g.2.1 0, 25, .inl TUR))] : va_W) ++ pl) := hD
  refine W.widen (k := 0) (n := 0) (by omega) (by omega) ?_
  exact mp_vret hx hb hr hlk hP hD hS pl ⟨trivial, hO⟩ [0, 1, 2, 3, 4, 5] rfl rfl rfl (by omega) (by omega) dMS_shake_9
set_option maxHeartbeats 400000 in
set_option maxRecDepth 100000 in
theorem x_MS_put (l : Launch) (g : Gd) (sz : Nat) (T : Ty) (xs : List Nat) (pl : va_W) (hO : okx g T xs pl) (hU : uni T) (v : Int32) (h0 sa ta ca ra ua rt ps : Nat) (x3 : Int32) (fs ft fc : Nat → Int64) (hrt : 0 < rt ∧ rt < 200) (hps : ps < rt)  : Met l y_MS_put w_MS_put ({ frames := 2, cells := 0, slots := 0, locals := 45 } : Room) (va_Pc [.ref h0, .int v] (pr (en g) g.1 vcl sz (([(h0, .inr (9, [.ref sa, .ref ta, .ref ca, .ref ra, .ref ua, .int (nI rt), .int (nI ps), .int x3])), (sa, .inl (g.2.1 2, 25, .inr (.inl fs))), (ta, .inl (g.2.1 2, 25, .inr (.inl ft))), (ca, .inl (g.2.1 2, 5, .inr (.inl fc))), (ra, .inl (g.2.1 2, 24, .inr (.inl RCS))), (ua, .inl (g.2.1 0, 25, .inl TUR))] : va_W) ++ pl))) (va_Qv (fun (u : ((Nat → Int64) × (Nat → Int64)) × va_W) => (True) ∧ okx g T xs u.2) (po g.1 vcl (va_A (([(h0, .inr (9, [.ref sa, .ref ta, .ref ca, .ref ra, .ref ua, .int (nI rt), .int (nI ps), .int x3])), (sa, .inl (g.2.1 2, 25, .inr (.inl fs))), (ta, .inl (g.2.1 2, 25, .inr (.inl ft))), (ca, .inl (g.2.1 2, 5, .inr (.inl fc))), (ra, .inl (g.2.1 2, 24, .inr (.inl RCS))), (ua, .inl (g.2.1 0, 25, .inl TUR))] : va_W) ++ pl) sz) (fun (u : ((Nat → Int64) × (Nat → Int64)) × va_W) => ([(h0, .inr (9, [.ref sa, .ref ta, .ref ca, .ref ra, .ref ua, .int (nI rt), .int (nI ((abF rt (fs, ps) v).2)), .int x3])), (sa, .inl (g.2.1 2, 25, .inr (.inl (((abF rt (fs, ps) v).1))))), (ta, .inl (g.2.1 2, 25, .inr (.inl ((u.1.1))))), (ca, .inl (g.2.1 2, 5, .inr (.inl ((u.1.2))))), (ra, .inl (g.2.1 2, 24, .inr (.inl RCS))), (ua, .inl (g.2.1 0, 25, .inl TUR))] : va_W) ++ u.2)) (va_A (([(h0, .inr (9, [.ref sa, .ref ta, .ref ca, .ref ra, .ref ua, .int (nI rt), .int (nI ps), .int x3])), (sa, .inl (g.2.1 2, 25, .inr (.inl fs))), (ta, .inl (g.2.1 2, 25, .inr (.inl ft))), (ca, .inl (g.2.1 2, 5, .inr (.inl fc))), (ra, .inl (g.2.1 2, 24, .inr (.inl RCS))), (ua, .inl (g.2.1 0, 25, .inl TUR))] : va_W) ++ pl) sz)) 0 0 (va_A (([(h0, .inr (9, [.ref sa, .ref ta, .ref ca, .ref ra, .ref ua, .int (nI rt), .int (nI ps), .int x3])), (sa, .inl (g.2.1 2, 25, .inr (.inl fs))), (ta, .inl (g.2.1 2, 25, .inr (.inl ft))), (ca, .inl (g.2.1 2, 5, .inr (.inl fc))), (ra, .inl (g.2.1 2, 24, .inr (.inl RCS))), (ua, .inl (g.2.1 0, 25, .inl TUR))] : va_W) ++ pl) sz) := by
  refine mc_entry (cc := c_MS_put) (maxL := 2) (ret := none) (by decide) rfl (Nat.le_of_ble_eq_true rfl) ?_
  intro p e s m args below meth c ls F hr hlk hnm hsz hP hD hE hA hl
  obtain ⟨hx, hb, hml, hown, hts⟩ := id F
  have hK := hE.1
  generalize va_A (([(h0, .inr (9, [.ref sa, .ref ta, .ref ca, .ref ra, .ref ua, .int (nI rt), .int (nI ps), .int x3])), (sa, .inl (g.2.1 2, 25, .inr (.inl fs))), (ta, .inl (g.2.1 2, 25, .inr (.inl ft))), (ca, .inl (g.2.1 2, 5, .inr (.inl fc))), (ra, .inl (g.2.1 2, 24, .inr (.inl RCS))), (ua, .inl (g.2.1 0, 25, .inl TUR))] : va_W) ++ pl) sz = A at hD hE hA ⊢
  have hS : va_S A s.heap s.heap [] := va_S.rf
  have hl : lv_has ls 2 [(0, .ref h0), (1, .int v)] := hl
  refine lv_aload_n hx hb dMS_put_0 rfl (lv_at hl 0 rfl) ?_
  refine lv_aload_n hx hb dMS_put_1 rfl (lv_at hl 0 rfl) ?_
  refine va_get (D := g.1) (ci := 9) (C := "LatticeKeysModel$Sponge") (T := T_MS) (N := 8) hx hb hts (wg_ft i_MS) hown hK hP 0 rfl rfl 6 (by decide) (hts _ (wg_t kw_1331)) (fun _ h9 => h9) rfl dMS_put_2 ?_
  refine lv_iload_n hx hb dMS_put_5 rfl (lv_at hl 1 rfl) ?_
  refine mp_v (cx := [(h0, .inr (9, [.ref sa, .ref ta, .ref ca, .ref ra, .ref ua, .int (nI rt), .int (nI ps), .int x3])), (sa, .inl (g.2.1 2, 25, .inr (.inl fs))), (ta, .inl (g.2.1 2, 25, .inr (.inl ft))), (ca, .inl (g.2.1 2, 5, .inr (.inl fc))), (ra, .inl (g.2.1 2, 24, .inr (.inl RCS))), (ua, .inl (g.2.1 0, 25, .inl TUR))]) (wr := []) hP hD hS hA [0, 1, 2, 3, 4, 5] [] rfl rfl rfl (by decide) (va_runV (As := [.int (nI ps), .int v]) (rest := []) F (x_MS_add l g _ T xs pl hO hU  ps v h0 sa ta ca ra ua rt ps x3 fs ft fc (by omega)) (cwV 2 hts (wg_app (wg_c kw_1619 (wg_c kw_1621 (wg_c ks_52 (wg_c kw_10 wg_n)))) kw_1622) rfl rfl rfl (by decide +kernel) ⟨by decide, by decide⟩) (pp_W "LatticeKeysModel$Sponge" (en_ok g) (q0 := 0) hK hP hD hS hA hE [0, 1, 2, 3, 4, 5] rfl rfl rfl rfl) rfl rfl hl.1 rfl (lv_room (Nat.le_of_ble_eq_true rfl)) dMS_put_6 ⟨by omega, by omega⟩) (fun  pl H locs hu21 hP hD hS => ?_)
  obtain ⟨hq21, hO⟩ := hu21
  have hP : va_P g.1 vcl (([(h0, .inr (9, [.ref sa, .ref ta, .ref ca, .ref ra, .ref ua, .int (nI rt), .int (nI ps), .int x3])), (sa, .inl (g.2.1 2, 25, .inr (.inl ((mxB fs ps v))))), (ta, .inl (g.2.1 2, 25, .inr (.inl ft))), (ca, .inl (g.2.1 2, 5, .inr (.inl fc))), (ra, .inl (g.2.1 2, 24, .inr (.inl RCS))), (ua, .inl (g.2.1 0, 25, .inl TUR))] : va_W) ++ pl) _ := hP
  have hD : va_D _ (([(h0, .inr (9, [.ref sa, .ref ta, .ref ca, .ref ra, .ref ua, .int (nI rt), .int (nI ps), .int x3])), (sa, .inl (g.2.1 2, 25, .inr (.inl ((mxB fs ps v))))), (ta, .inl (g.2.1 2, 25, .inr (.inl ft))), (ca, .inl (g.2.1 2, 5, .inr (.inl fc))), (ra, .inl (g.2.1 2, 24, .inr (.inl RCS))), (ua, .inl (g.2.1 0, 25, .inl TUR))] : va_W) ++ pl) := hD
  refine W.widen (k := 0) (n := 0) (by omega) (by omega) ?_
  refine lv_aload_n hx hb dMS_put_9 rfl (lv_at hl 0 rfl) ?_
  refine lv_dup hx hb dMS_put_10 rfl ?_
  refine va_get (D := g.1) (ci := 9) (C := "LatticeKeysModel$Sponge") (T := T_MS) (N := 8) hx hb hts (wg_ft i_MS) hown hK hP 0 rfl rfl 6 (by decide) (hts _ (wg_t kw_1331)) (fun _ h9 => h9) rfl dMS_put_11 ?_
  refine lv_iconst (v := nI 1) hx hb dMS_put_14 (by decide) ?_
  refine mi_iadd hx hb dMS_put_15 ?_
  refine va_put (D := g.1) (ci := 9) (v := .int (nI (ps + 1))) (ty := .int) (C := "LatticeKeysModel$Sponge") (T := T_MS) (N := 8) hx hb hts (wg_ft i_MS) ty_MS k_MS n_MS hown hK hP hD hS 0 rfl rfl 6 (by decide) (hts _ (wg_t kw_1331)) (fun _ h9 => h9) rfl (by decide +kernel) rfl rfl (Nat.le_of_ble_eq_true rfl) dMS_put_16 (fun H locs hP hD hS => ?_)
  have hP : va_P g.1 vcl (([(h0, .inr (9, [.ref sa, .ref ta, .ref ca, .ref ra, .ref ua, .int (nI rt), .int (nI (ps + 1)), .int x3])), (sa, .inl (g.2.1 2, 25, .inr (.inl ((mxB fs ps v))))), (ta, .inl (g.2.1 2, 25, .inr (.inl ft))), (ca, .inl (g.2.1 2, 5, .inr (.inl fc))), (ra, .inl (g.2.1 2, 24, .inr (.inl RCS))), (ua, .inl (g.2.1 0, 25, .inl TUR))] : va_W) ++ pl) _ := hP
  have hD : va_D _ (([(h0, .inr (9, [.ref sa, .ref ta, .ref ca, .ref ra, .ref ua, .int (nI rt), .int (nI (ps + 1)), .int x3])), (sa, .inl (g.2.1 2, 25, .inr (.inl ((mxB fs ps v))))), (ta, .inl (g.2.1 2, 25, .inr (.inl ft))), (ca, .inl (g.2.1 2, 5, .inr (.inl fc))), (ra, .inl (g.2.1 2, 24, .inr (.inl RCS))), (ua, .inl (g.2.1 0, 25, .inl TUR))] : va_W) ++ pl) := hD
  refine lv_aload_n hx hb dMS_put_19 rfl (lv_at hl 0 rfl) ?_
  refine va_get (D := g.1) (ci := 9) (C := "LatticeKeysModel$Sponge") (T := T_MS) (N := 8) hx hb hts (wg_ft i_MS) hown hK hP 0 rfl rfl 6 (by decide) (hts _ (wg_t kw_1331)) (fun _ h9 => h9) rfl dMS_put_20 ?_
  refine lv_aload_n hx hb dMS_put_23 rfl (lv_at hl 0 rfl) ?_
  refine va_get (D := g.1) (ci := 9) (C := "LatticeKeysModel$Sponge") (T := T_MS) (N := 8) hx hb hts (wg_ft i_MS) hown hK hP 0 rfl rfl 5 (by decide) (hts _ (wg_t kw_1330)) (fun _ h9 => h9) rfl dMS_put_24 ?_
  refine mi_ge (tgt := 31) hx hb dMS_put_27 (by decide) (by omega) (by omega) (fun h21 => ?_) (fun h21 => ?_)
  · rw [show abF rt (fs, ps) v = (prm (mxB fs ps v), 0) from if_pos (show ps + 1 = rt by omega)]
    refine lv_aload_n hx hb dMS_put_31 rfl (lv_at hl 0 rfl) ?_
    refine mp_v (cx := [(h0, .inr (9, [.ref sa, .ref ta, .ref ca, .ref ra, .ref ua, .int (nI rt), .int (nI (ps + 1)), .int x3])), (sa, .inl (g.2.1 2, 25, .inr (.inl ((mxB fs ps v))))), (ta, .inl (g.2.1 2, 25, .inr (.inl ft))), (ca, .inl (g.2.1 2, 5, .inr (.inl fc))), (ra, .inl (g.2.1 2, 24, .inr (.inl RCS))), (ua, .inl (g.2.1 0, 25, .inl TUR))]) (wr := []) hP hD hS hA [0, 1, 2, 3, 4, 5] [] rfl rfl rfl (by decide) (va_runV (As := []) (rest := []) F (x_MS_mix l g _ T xs pl hO hU  h0 sa ta ca ra ua (nI rt) (nI (ps + 1)) x3 (mxB fs ps v) ft fc) (cwV 0 hts (wg_app (wg_c kw_1624 (wg_c kw_1626 (wg_c ks_53 (wg_c kw_10 wg_n)))) kw_1627) rfl rfl rfl (by decide +kernel) ⟨by decide, by decide⟩) (pp_W "LatticeKeysModel$Sponge" (en_ok g) (q0 := 0) hK hP hD hS hA hE [0, 1, 2, 3, 4, 5] rfl rfl rfl rfl) rfl rfl hl.1 rfl (lv_room (Nat.le_of_ble_eq_true rfl)) dMS_put_32 ⟨by omega, by omega⟩) (fun  u21 H locs hu22 hP hD hS => ?_)
    obtain ⟨u22, pl⟩ := u21
    obtain ⟨hq22, hO⟩ := hu22
    obtain ⟨fj21, fj22⟩ := u22
    have hP : va_P g.1 vcl (([(h0, .inr (9, [.ref sa, .ref ta, .ref ca, .ref ra, .ref ua, .int (nI rt), .int (nI (ps + 1)), .int x3])), (sa, .inl (g.2.1 2, 25, .inr (.inl ((prm (mxB fs ps v)))))), (ta, .inl (g.2.1 2, 25, .inr (.inl fj21))), (ca, .inl (g.2.1 2, 5, .inr (.inl fj22))), (ra, .inl (g.2.1 2, 24, .inr (.inl RCS))), (ua, .inl (g.2.1 0, 25, .inl TUR))] : va_W) ++ pl) _ := hP
    have hD : va_D _ (([(h0, .inr (9, [.ref sa, .ref ta, .ref ca, .ref ra, .ref ua, .int (nI rt), .int (nI (ps + 1)), .int x3])), (sa, .inl (g.2.1 2, 25, .inr (.inl ((prm (mxB fs ps v)))))), (ta, .inl (g.2.1 2, 25, .inr (.inl fj21))), (ca, .inl (g.2.1 2, 5, .inr (.inl fj22))), (ra, .inl (g.2.1 2, 24, .inr (.inl RCS))), (ua, .inl (g.2.1 0, 25, .inl TUR))] : va_W) ++ pl) := hD
    refine W.widen (k := 0) (n := 0) (by omega) (by omega) ?_
    refine lv_aload_n hx hb dMS_put_35 rfl (lv_at hl 0 rfl) ?_
    refine lv_iconst (v := nI 0) hx hb dMS_put_36 (by decide) ?_
    refine va_put (D := g.1) (ci := 9) (v := .int (nI 0)) (ty := .int) (C := "LatticeKeysModel$Sponge") (T := T_MS) (N := 8) hx hb hts (wg_ft i_MS) ty_MS k_MS n_MS hown hK hP hD hS 0 rfl rfl 6 (by decide) (hts _ (wg_t kw_1331)) (fun _ h9 => h9) rfl (by decide +kernel) rfl rfl (Nat.le_of_ble_eq_true rfl) dMS_put_37 (fun H locs hP hD hS => ?_)
    have hP : va_P g.1 vcl (([(h0, .inr (9, [.ref sa, .ref ta, .ref ca, .ref ra, .ref ua, .int (nI rt), .int (nI 0), .int x3])), (sa, .inl (g.2.1 2, 25, .inr (.inl ((prm (mxB fs ps v)))))), (ta, .inl (g.2.1 2, 25, .inr (.inl fj21))), (ca, .inl (g.2.1 2, 5, .inr (.inl fj22))), (ra, .inl (g.2.1 2, 24, .inr (.inl RCS))), (ua, .inl (g.2.1 0, 25, .inl TUR))] : va_W) ++ pl) _ := hP
    have hD : va_D _ (([(h0, .inr (9, [.ref sa, .ref ta, .ref ca, .ref ra, .ref ua, .int (nI rt), .int (nI 0), .int x3])), (sa, .inl (g.2.1 2, 25, .inr (.inl ((prm (mxB fs ps v)))))), (ta, .inl (g.2.1 2, 25, .inr (.inl fj21))), (ca, .inl (g.2.1 2, 5, .inr (.inl fj22))), (ra, .inl (g.2.1 2, 24, .inr (.inl RCS))), (ua, .inl (g.2.1 0, 25, .inl TUR))] : va_W) ++ pl) := hD
    exact mp_vret hx hb hr hlk hP hD hS ((fj21, fj22), pl) ⟨trivial, hO⟩ [0, 1, 2, 3, 4, 5] rfl rfl rfl (by omega) (by omega) dMS_put_40
  · rw [show abF rt (fs, ps) v = (mxB fs ps v, ps + 1) from if_neg (show ¬ ps + 1 = rt by omega)]
    exact mp_vret hx hb hr hlk hP hD hS ((ft, fc), pl) ⟨trivial, hO⟩ [0, 1, 2, 3, 4, 5] rfl rfl rfl (by omega) (by omega) dMS_put_30
set_option maxHeartbeats 400000 in
set_option maxRecDepth 100000 in
theorem x_MS_puts (l : Launch) (g : Gd) (sz : Nat) (T : Ty) (xs : List Nat) (pl : va_W) (hO : okx g T xs pl) (hU : uni T) (at_ len : Nat) (h0 sa ta ca ra ua rt ps : Nat) (x3 : Int32) (fs ft fc : Nat → Int64) (b nb : Nat) (fb : Nat → Int32) (hrt : 0 < rt ∧ rt < 200) (hps : ps < rt) (h1 : at_ + len ≤ nb) (h2 : nb < 65536)  : Met l y_MS_puts w_MS_puts ({ frames := 3, cells := 0, slots := 0, locals := 66 } : Room) (va_Pc [.ref h0, .ref b, .int (nI at_), .int (nI len)] (pr (en g) g.1 vcl sz (([(h0, .inr (9, [.ref sa, .ref ta, .ref ca, .ref ra, .ref ua, .int (nI rt), .int (nI ps), .int x3])), (sa, .inl (g.2.1 2, 25, .inr (.inl fs))), (ta, .inl (g.2.1 2, 25, .inr (.inl ft))), (ca, .inl (g.2.1 2, 5, .inr (.inl fc))), (ra, .inl (g.2.1 2, 24, .inr (.inl RCS))), (ua, .inl (g.2.1 0, 25, .inl TUR)), (b, .inl (g.2.1 1, nb, .inl fb))] : va_W) ++ pl))) (va_Qv (fun (u : ((Nat → Int64) × (Nat → Int64)) × va_W) => (True) ∧ okx g T xs u.2) (po g.1 vcl (va_A (([(h0, .inr (9, [.ref sa, .ref ta, .ref ca, .ref ra, .ref ua, .int (nI rt), .int (nI ps), .int x3])), (sa, .inl (g.2.1 2, 25, .inr (.inl fs))), (ta, .inl (g.2.1 2, 25, .inr (.inl ft))), (ca, .inl (g.2.1 2, 5, .inr (.inl fc))), (ra, .inl (g.2.1 2, 24, .inr (.inl RCS))), (ua, .inl (g.2.1 0, 25, .inl TUR)), (b, .inl (g.2.1 1, nb, .inl fb))] : va_W) ++ pl) sz) (fun (u : ((Nat → Int64) × (Nat → Int64)) × va_W) => ([(h0, .inr (9, [.ref sa, .ref ta, .ref ca, .ref ra, .ref ua, .int (nI rt), .int (nI ((abN rt (fs, ps) fb at_ len).2)), .int x3])), (sa, .inl (g.2.1 2, 25, .inr (.inl (((abN rt (fs, ps) fb at_ len).1))))), (ta, .inl (g.2.1 2, 25, .inr (.inl ((u.1.1))))), (ca, .inl (g.2.1 2, 5, .inr (.inl ((u.1.2))))), (ra, .inl (g.2.1 2, 24, .inr (.inl RCS))), (ua, .inl (g.2.1 0, 25, .inl TUR)), (b, .inl (g.2.1 1, nb, .inl fb))] : va_W) ++ u.2)) (va_A (([(h0, .inr (9, [.ref sa, .ref ta, .ref ca, .ref ra, .ref ua, .int (nI rt), .int (nI ps), .int x3])), (sa, .inl (g.2.1 2, 25, .inr (.inl fs))), (ta, .inl (g.2.1 2, 25, .inr (.inl ft))), (ca, .inl (g.2.1 2, 5, .inr (.inl fc))), (ra, .inl (g.2.1 2, 24, .inr (.inl RCS))), (ua, .inl (g.2.1 0, 25, .inl TUR)), (b, .inl (g.2.1 1, nb, .inl fb))] : va_W) ++ pl) sz)) 0 0 (va_A (([(h0, .inr (9, [.ref sa, .ref ta, .ref ca, .ref ra, .ref ua, .int (nI rt), .int (nI ps), .int x3])), (sa, .inl (g.2.1 2, 25, .inr (.inl fs))), (ta, .inl (g.2.1 2, 25, .inr (.inl ft))), (ca, .inl (g.2.1 2, 5, .inr (.inl fc))), (ra, .inl (g.2.1 2, 24, .inr (.inl RCS))), (ua, .inl (g.2.1 0, 25, .inl TUR)), (b, .inl (g.2.1 1, nb, .inl fb))] : va_W) ++ pl) sz) := by
  refine mc_entry (cc := c_MS_puts) (maxL := 5) (ret := none) (by decide) rfl (Nat.le_of_ble_eq_true rfl) ?_
  intro p e s m args below meth c ls F hr hlk hnm hsz hP hD hE hA hl
  obtain ⟨hx, hb, hml, hown, hts⟩ := id F
  have hK := hE.1
  generalize va_A (([(h0, .inr (9, [.ref sa, .ref ta, .ref ca, .ref ra, .ref ua, .int (nI rt), .int (nI ps), .int x3])), (sa, .inl (g.2.1 2, 25, .inr (.inl fs))), (ta, .inl (g.2.1 2, 25, .inr (.inl ft))), (ca, .inl (g.2.1 2, 5, .inr (.inl fc))), (ra, .inl (g.2.1 2, 24, .inr (.inl RCS))), (ua, .inl (g.2.1 0, 25, .inl TUR)), (b, .inl (g.2.1 1, nb, .inl fb))] : va_W) ++ pl) sz = A at hD hE hA ⊢
  have hS : va_S A s.heap s.heap [] := va_S.rf
  have hl : lv_has ls 5 [(0, .ref h0), (1, .ref b), (2, .int (nI at_)), (3, .int (nI len))] := hl
  refine lv_iconst (v := nI 0) hx hb dMS_puts_0 (by decide) ?_
  refine lv_istore (lv' := [(4, .int (nI 0)), (0, .ref h0), (1, .ref b), (2, .int (nI at_)), (3, .int (nI len))]) hx hb dMS_puts_1 hl (by decide) rfl (fun ls hl => ?_)
  have lp21 : ∀ (n21 : Nat) (i21 : Nat) (f21 : Nat → Int64) (f22 : Nat → Int64) (pl : va_W) (ls : Array Slot) (H : Heap) (locs : List Loc), n21 + i21 = len → lv_has ls 5 [(4, .int (nI i21)), (0, .ref h0), (1, .ref b), (2, .int (nI at_)), (3, .int (nI len))] → okx g T xs pl → va_P g.1 vcl (([(h0, .inr (9, [.ref sa, .ref ta, .ref ca, .ref ra, .ref ua, .int (nI rt), .int (nI ((abN rt (fs, ps) fb at_ i21).2)), .int x3])), (sa, .inl (g.2.1 2, 25, .inr (.inl (((abN rt (fs, ps) fb at_ i21).1))))), (ta, .inl (g.2.1 2, 25, .inr (.inl f21))), (ca, .inl (g.2.1 2, 5, .inr (.inl f22))), (ra, .inl (g.2.1 2, 24, .inr (.inl RCS))), (ua, .inl (g.2.1 0, 25, .inl TUR)), (b, .inl (g.2.1 1, nb, .inl fb))] : va_W) ++ pl) H → va_D A (([(h0, .inr (9, [.ref sa, .ref ta, .ref ca, .ref ra, .ref ua, .int (nI rt), .int (nI ((abN rt (fs, ps) fb at_ i21).2)), .int x3])), (sa, .inl (g.2.1 2, 25, .inr (.inl (((abN rt (fs, ps) fb at_ i21).1))))), (ta, .inl (g.2.1 2, 25, .inr (.inl f21))), (ca, .inl (g.2.1 2, 5, .inr (.inl f22))), (ra, .inl (g.2.1 2, 24, .inr (.inl RCS))), (ua, .inl (g.2.1 0, 25, .inl TUR)), (b, .inl (g.2.1 1, nb, .inl fb))] : va_W) ++ pl) → va_S A s.heap H locs → W p l e ({ frames := 3, cells := 0, slots := 0, locals := 66 } : Room) s m args below meth c H locs 0 0 (MQ below (va_Qv (fun (u : ((Nat → Int64) × (Nat → Int64)) × va_W) => (True) ∧ okx g T xs u.2) (po g.1 vcl A (fun (u : ((Nat → Int64) × (Nat → Int64)) × va_W) => ([(h0, .inr (9, [.ref sa, .ref ta, .ref ca, .ref ra, .ref ua, .int (nI rt), .int (nI ((abN rt (fs, ps) fb at_ len).2)), .int x3])), (sa, .inl (g.2.1 2, 25, .inr (.inl (((abN rt (fs, ps) fb at_ len).1))))), (ta, .inl (g.2.1 2, 25, .inr (.inl ((u.1.1))))), (ca, .inl (g.2.1 2, 5, .inr (.inl ((u.1.2))))), (ra, .inl (g.2.1 2, 24, .inr (.inl RCS))), (ua, .inl (g.2.1 0, 25, .inl TUR)), (b, .inl (g.2.1 1, nb, .inl fb))] : va_W) ++ u.2)) A) args s 0 0 A) (F0 m 3 ls []) := by
    intro n21
    induction n21 with
    | zero =>
      intro i21 f21 f22 pl ls H locs hm21  hl hO hP hD hS
      have hlt := abN_lt (rt := rt) (st := (fs, ps)) (b := fb) (at_ := at_) hps i21
      refine lv_iload hx hb dMS_puts_3 (lv_at hl 0 rfl) ?_
      refine lv_iload_n hx hb dMS_puts_5 rfl (lv_at hl 4 rfl) ?_
      refine mi_ge (tgt := 25) hx hb dMS_puts_6 (by decide) (by omega) (by omega) (fun h21 => ?_) (fun h21 => absurd h21 (by omega))
      obtain rfl : i21 = len := by omega
      exact mp_vret hx hb hr hlk hP hD hS ((f21, f22), pl) ⟨trivial, hO⟩ [0, 1, 2, 3, 4, 5, 6] rfl rfl rfl (by omega) (by omega) dMS_puts_25
    | succ n21 ih21 =>
      intro i21 f21 f22 pl ls H locs hm21  hl hO hP hD hS
      have hlt := abN_lt (rt := rt) (st := (fs, ps)) (b := fb) (at_ := at_) hps i21
      refine lv_iload hx hb dMS_puts_3 (lv_at hl 0 rfl) ?_
      refine lv_iload_n hx hb dMS_puts_5 rfl (lv_at hl 4 rfl) ?_
      refine mi_ge (tgt := 25) hx hb dMS_puts_6 (by decide) (by omega) (by omega) (fun h22 => absurd h22 (by omega)) (fun h22 => ?_)
      refine lv_aload_n hx hb dMS_puts_9 rfl (lv_at hl 1 rfl) ?_
      refine lv_aload_n hx hb dMS_puts_10 rfl (lv_at hl 2 rfl) ?_
      refine lv_iload_n hx hb dMS_puts_11 rfl (lv_at hl 3 rfl) ?_
      refine lv_iload hx hb dMS_puts_12 (lv_at hl 0 rfl) ?_
      refine mi_iadd hx hb dMS_puts_14 ?_
      refine mp_bald hx hb hK hP 6 1 rfl rfl (by omega) (by omega) dMS_puts_15 ?_
      refine mp_v (cx := [(h0, .inr (9, [.ref sa, .ref ta, .ref ca, .ref ra, .ref ua, .int (nI rt), .int (nI ((abN rt (fs, ps) fb at_ i21).2)), .int x3])), (sa, .inl (g.2.1 2, 25, .inr (.inl (((abN rt (fs, ps) fb at_ i21).1))))), (ta, .inl (g.2.1 2, 25, .inr (.inl f21))), (ca, .inl (g.2.1 2, 5, .inr (.inl f22))), (ra, .inl (g.2.1 2, 24, .inr (.inl RCS))), (ua, .inl (g.2.1 0, 25, .inl TUR))]) (wr := [(b, .inl (g.2.1 1, nb, .inl fb))]) hP hD hS hA [0, 1, 2, 3, 4, 5] [6] rfl rfl rfl (by decide) (va_runV (As := [.int ((fb (at_ + i21)))]) (rest := []) F (x_MS_put l g _ T xs pl hO hU  ((fb (at_ + i21))) h0 sa ta ca ra ua rt ((abN rt (fs, ps) fb at_ i21).2) x3 ((abN rt (fs, ps) fb at_ i21).1) f21 f22 (by omega) (by omega)) (cwV 1 hts (wg_app (wg_c kw_1615 (wg_c kw_1616 (wg_c kw_1617 (wg_c kw_10 wg_n)))) kw_1618) rfl rfl rfl (by decide +kernel) ⟨by decide, by decide⟩) (pp_W "LatticeKeysModel$Sponge" (en_ok g) (q0 := 0) hK hP hD hS hA hE [0, 1, 2, 3, 4, 5] rfl rfl rfl rfl) rfl rfl hl.1 rfl (lv_room (Nat.le_of_ble_eq_true rfl)) dMS_puts_16 ⟨by omega, by omega⟩) (fun  u21 H locs hu21 hP hD hS => ?_)
      obtain ⟨u22, pl⟩ := u21
      obtain ⟨hq21, hO⟩ := hu21
      obtain ⟨fj21, fj22⟩ := u22
      have hP : va_P g.1 vcl (([(b, .inl (g.2.1 1, nb, .inl fb)), (h0, .inr (9, [.ref sa, .ref ta, .ref ca, .ref ra, .ref ua, .int (nI rt), .int (nI ((abF rt (((abN rt (fs, ps) fb at_ i21).1), (abN rt (fs, ps) fb at_ i21).2) ((fb (at_ + i21)))).2)), .int x3])), (sa, .inl (g.2.1 2, 25, .inr (.inl (((abF rt (((abN rt (fs, ps) fb at_ i21).1), (abN rt (fs, ps) fb at_ i21).2) ((fb (at_ + i21)))).1))))), (ta, .inl (g.2.1 2, 25, .inr (.inl fj21))), (ca, .inl (g.2.1 2, 5, .inr (.inl fj22))), (ra, .inl (g.2.1 2, 24, .inr (.inl RCS))), (ua, .inl (g.2.1 0, 25, .inl TUR))] : va_W) ++ pl) _ := hP
      have hD : va_D _ (([(b, .inl (g.2.1 1, nb, .inl fb)), (h0, .inr (9, [.ref sa, .ref ta, .ref ca, .ref ra, .ref ua, .int (nI rt), .int (nI ((abF rt (((abN rt (fs, ps) fb at_ i21).1), (abN rt (fs, ps) fb at_ i21).2) ((fb (at_ + i21)))).2)), .int x3])), (sa, .inl (g.2.1 2, 25, .inr (.inl (((abF rt (((abN rt (fs, ps) fb at_ i21).1), (abN rt (fs, ps) fb at_ i21).2) ((fb (at_ + i21)))).1))))), (ta, .inl (g.2.1 2, 25, .inr (.inl fj21))), (ca, .inl (g.2.1 2, 5, .inr (.inl fj22))), (ra, .inl (g.2.1 2, 24, .inr (.inl RCS))), (ua, .inl (g.2.1 0, 25, .inl TUR))] : va_W) ++ pl) := hD
      refine W.widen (k := 0) (n := 0) (by omega) (by omega) ?_
      refine mi_iinc (k := 0) (x := i21) (d := 1) (y := i21 + 1) (lv' := [(4, .int (nI (i21 + 1))), (0, .ref h0), (1, .ref b), (2, .int (nI at_)), (3, .int (nI len))]) hx hb dMS_puts_19 hl rfl (by decide) rfl (by decide) rfl (fun ls hl => ?_)
      refine lv_goto (tgt := 3) hx hb dMS_puts_22 (by decide) ?_
      have hP : va_P g.1 vcl (([(b, .inl (g.2.1 1, nb, .inl fb)), (h0, .inr (9, [.ref sa, .ref ta, .ref ca, .ref ra, .ref ua, .int (nI rt), .int (nI ((abN rt (fs, ps) fb at_ (i21 + 1)).2)), .int x3])), (sa, .inl (g.2.1 2, 25, .inr (.inl (((abN rt (fs, ps) fb at_ (i21 + 1)).1))))), (ta, .inl (g.2.1 2, 25, .inr (.inl fj21))), (ca, .inl (g.2.1 2, 5, .inr (.inl fj22))), (ra, .inl (g.2.1 2, 24, .inr (.inl RCS))), (ua, .inl (g.2.1 0, 25, .inl TUR))] : va_W) ++ pl) _ := hP
      have hD : va_D _ (([(b, .inl (g.2.1 1, nb, .inl fb)), (h0, .inr (9, [.ref sa, .ref ta, .ref ca, .ref ra, .ref ua, .int (nI rt), .int (nI ((abN rt (fs, ps) fb at_ (i21 + 1)).2)), .int x3])), (sa, .inl (g.2.1 2, 25, .inr (.inl (((abN rt (fs, ps) fb at_ (i21 + 1)).1))))), (ta, .inl (g.2.1 2, 25, .inr (.inl fj21))), (ca, .inl (g.2.1 2, 5, .inr (.inl fj22))), (ra, .inl (g.2.1 2, 24, .inr (.inl RCS))), (ua, .inl (g.2.1 0, 25, .inl TUR))] : va_W) ++ pl) := hD
      have hP : va_P g.1 vcl (([(h0, .inr (9, [.ref sa, .ref ta, .ref ca, .ref ra, .ref ua, .int (nI rt), .int (nI ((abN rt (fs, ps) fb at_ (i21 + 1)).2)), .int x3])), (sa, .inl (g.2.1 2, 25, .inr (.inl (((abN rt (fs, ps) fb at_ (i21 + 1)).1))))), (ta, .inl (g.2.1 2, 25, .inr (.inl fj21))), (ca, .inl (g.2.1 2, 5, .inr (.inl fj22))), (ra, .inl (g.2.1 2, 24, .inr (.inl RCS))), (ua, .inl (g.2.1 0, 25, .inl TUR)), (b, .inl (g.2.1 1, nb, .inl fb))] : va_W) ++ pl) _ := hP.part [1, 2, 3, 4, 5, 6, 0] rfl
      have hD : va_D _ (([(h0, .inr (9, [.ref sa, .ref ta, .ref ca, .ref ra, .ref ua, .int (nI rt), .int (nI ((abN rt (fs, ps) fb at_ (i21 + 1)).2)), .int x3])), (sa, .inl (g.2.1 2, 25, .inr (.inl (((abN rt (fs, ps) fb at_ (i21 + 1)).1))))), (ta, .inl (g.2.1 2, 25, .inr (.inl fj21))), (ca, .inl (g.2.1 2, 5, .inr (.inl fj22))), (ra, .inl (g.2.1 2, 24, .inr (.inl RCS))), (ua, .inl (g.2.1 0, 25, .inl TUR)), (b, .inl (g.2.1 1, nb, .inl fb))] : va_W) ++ pl) := hD.part [1, 2, 3, 4, 5, 6, 0] (by decide) rfl
      exact ih21 (i21 + 1) fj21 fj22 pl ls H locs (by omega) (lv_sub hl [0, 1, 2, 3, 4] rfl) hO hP hD hS
  exact lp21 len 0 ft fc pl ls _ _ (by omega) (lv_sub hl [0, 1, 2, 3, 4] rfl) hO hP hD hS
set_option maxHeartbeats 400000 in
set_option maxRecDepth 100000 in
theorem x_MS_end (l : Launch) (g : Gd) (sz : Nat) (T : Ty) (xs : List Nat) (pl : va_W) (hO : okx g T xs pl) (hU : uni T) (h0 sa ta ca ra ua rt ps : Nat) (x3 : Int32) (fs ft fc : Nat → Int64) (hrt : 0 < rt ∧ rt < 200) (hps : ps < rt)  : Met l y_MS_end w_MS_end ({ frames := 2, cells := 0, slots := 0, locals := 45 } : Room) (va_Pc [.ref h0] (pr (en g) g.1 vcl sz (([(h0, .inr (9, [.ref sa, .ref ta, .ref ca, .ref ra, .ref ua, .int (nI rt), .int (nI ps), .int x3])), (sa, .inl (g.2.1 2, 25, .inr (.inl fs))), (ta, .inl (g.2.1 2, 25, .inr (.inl ft))), (ca, .inl (g.2.1 2, 5, .inr (.inl fc))), (ra, .inl (g.2.1 2, 24, .inr (.inl RCS))), (ua, .inl (g.2.1 0, 25, .inl TUR))] : va_W) ++ pl))) (va_Qv (fun (u : ((Nat → Int64) × (Nat → Int64)) × va_W) => (True) ∧ okx g T xs u.2) (po g.1 vcl (va_A (([(h0, .inr (9, [.ref sa, .ref ta, .ref ca, .ref ra, .ref ua, .int (nI rt), .int (nI ps), .int x3])), (sa, .inl (g.2.1 2, 25, .inr (.inl fs))), (ta, .inl (g.2.1 2, 25, .inr (.inl ft))), (ca, .inl (g.2.1 2, 5, .inr (.inl fc))), (ra, .inl (g.2.1 2, 24, .inr (.inl RCS))), (ua, .inl (g.2.1 0, 25, .inl TUR))] : va_W) ++ pl) sz) (fun (u : ((Nat → Int64) × (Nat → Int64)) × va_W) => ([(h0, .inr (9, [.ref sa, .ref ta, .ref ca, .ref ra, .ref ua, .int (nI rt), .int (nI 0), .int x3])), (sa, .inl (g.2.1 2, 25, .inr (.inl ((prm (pdF rt (fs, ps) x3)))))), (ta, .inl (g.2.1 2, 25, .inr (.inl ((u.1.1))))), (ca, .inl (g.2.1 2, 5, .inr (.inl ((u.1.2))))), (ra, .inl (g.2.1 2, 24, .inr (.inl RCS))), (ua, .inl (g.2.1 0, 25, .inl TUR))] : va_W) ++ u.2)) (va_A (([(h0, .inr (9, [.ref sa, .ref ta, .ref ca, .ref ra, .ref ua, .int (nI rt), .int (nI ps), .int x3])), (sa, .inl (g.2.1 2, 25, .inr (.inl fs))), (ta, .inl (g.2.1 2, 25, .inr (.inl ft))), (ca, .inl (g.2.1 2, 5, .inr (.inl fc))), (ra, .inl (g.2.1 2, 24, .inr (.inl RCS))), (ua, .inl (g.2.1 0, 25, .inl TUR))] : va_W) ++ pl) sz)) 0 0 (va_A (([(h0, .inr (9, [.ref sa, .ref ta, .ref ca, .ref ra, .ref ua, .int (nI rt), .int (nI ps), .int x3])), (sa, .inl (g.2.1 2, 25, .inr (.inl fs))), (ta, .inl (g.2.1 2, 25, .inr (.inl ft))), (ca, .inl (g.2.1 2, 5, .inr (.inl fc))), (ra, .inl (g.2.1 2, 24, .inr (.inl RCS))), (ua, .inl (g.2.1 0, 25, .inl TUR))] : va_W) ++ pl) sz) := by
  refine mc_entry (cc := c_MS_end) (maxL := 1) (ret := none) (by decide) rfl (Nat.le_of_ble_eq_true rfl) ?_
  intro p e s m args below meth c ls F hr hlk hnm hsz hP hD hE hA hl
  obtain ⟨hx, hb, hml, hown, hts⟩ := id F
  have hK := hE.1
  generalize va_A (([(h0, .inr (9, [.ref sa, .ref ta, .ref ca, .ref ra, .ref ua, .int (nI rt), .int (nI ps), .int x3])), (sa, .inl (g.2.1 2, 25, .inr (.inl fs))), (ta, .inl (g.2.1 2, 25, .inr (.inl ft))), (ca, .inl (g.2.1 2, 5, .inr (.inl fc))), (ra, .inl (g.2.1 2, 24, .inr (.inl RCS))), (ua, .inl (g.2.1 0, 25, .inl TUR))] : va_W) ++ pl) sz = A at hD hE hA ⊢
  have hS : va_S A s.heap s.heap [] := va_S.rf
  have hl : lv_has ls 1 [(0, .ref h0)] := hl
  refine lv_aload_n hx hb dMS_end_0 rfl (lv_at hl 0 rfl) ?_
  refine lv_aload_n hx hb dMS_end_1 rfl (lv_at hl 0 rfl) ?_
  refine va_get (D := g.1) (ci := 9) (C := "LatticeKeysModel$Sponge") (T := T_MS) (N := 8) hx hb hts (wg_ft i_MS) hown hK hP 0 rfl rfl 6 (by decide) (hts _ (wg_t kw_1331)) (fun _ h9 => h9) rfl dMS_end_2 ?_
  refine lv_aload_n hx hb dMS_end_5 rfl (lv_at hl 0 rfl) ?_
  refine va_get (D := g.1) (ci := 9) (C := "LatticeKeysModel$Sponge") (T := T_MS) (N := 8) hx hb hts (wg_ft i_MS) hown hK hP 0 rfl rfl 7 (by decide) (hts _ (wg_t kw_1332)) (fun _ h9 => h9) rfl dMS_end_6 ?_
  refine mp_v (cx := [(h0, .inr (9, [.ref sa, .ref ta, .ref ca, .ref ra, .ref ua, .int (nI rt), .int (nI ps), .int x3])), (sa, .inl (g.2.1 2, 25, .inr (.inl fs))), (ta, .inl (g.2.1 2, 25, .inr (.inl ft))), (ca, .inl (g.2.1 2, 5, .inr (.inl fc))), (ra, .inl (g.2.1 2, 24, .inr (.inl RCS))), (ua, .inl (g.2.1 0, 25, .inl TUR))]) (wr := []) hP hD hS hA [0, 1, 2, 3, 4, 5] [] rfl rfl rfl (by decide) (va_runV (As := [.int (nI ps), .int x3]) (rest := []) F (x_MS_add l g _ T xs pl hO hU  ps x3 h0 sa ta ca ra ua rt ps x3 fs ft fc (by omega)) (cwV 2 hts (wg_app (wg_c kw_1619 (wg_c kw_1621 (wg_c ks_52 (wg_c kw_10 wg_n)))) kw_1622) rfl rfl rfl (by decide +kernel) ⟨by decide, by decide⟩) (pp_W "LatticeKeysModel$Sponge" (en_ok g) (q0 := 0) hK hP hD hS hA hE [0, 1, 2, 3, 4, 5] rfl rfl rfl rfl) rfl rfl hl.1 rfl (lv_room (Nat.le_of_ble_eq_true rfl)) dMS_end_9 ⟨by omega, by omega⟩) (fun  pl H locs hu21 hP hD hS => ?_)
  obtain ⟨hq21, hO⟩ := hu21
  have hP : va_P g.1 vcl (([(h0, .inr (9, [.ref sa, .ref ta, .ref ca, .ref ra, .ref ua, .int (nI rt), .int (nI ps), .int x3])), (sa, .inl (g.2.1 2, 25, .inr (.inl ((mxB fs ps x3))))), (ta, .inl (g.2.1 2, 25, .inr (.inl ft))), (ca, .inl (g.2.1 2, 5, .inr (.inl fc))), (ra, .inl (g.2.1 2, 24, .inr (.inl RCS))), (ua, .inl (g.2.1 0, 25, .inl TUR))] : va_W) ++ pl) _ := hP
  have hD : va_D _ (([(h0, .inr (9, [.ref sa, .ref ta, .ref ca, .ref ra, .ref ua, .int (nI rt), .int (nI ps), .int x3])), (sa, .inl (g.2.1 2, 25, .inr (.inl ((mxB fs ps x3))))), (ta, .inl (g.2.1 2, 25, .inr (.inl ft))), (ca, .inl (g.2.1 2, 5, .inr (.inl fc))), (ra, .inl (g.2.1 2, 24, .inr (.inl RCS))), (ua, .inl (g.2.1 0, 25, .inl TUR))] : va_W) ++ pl) := hD
  refine W.widen (k := 0) (n := 0) (by omega) (by omega) ?_
  refine lv_aload_n hx hb dMS_end_12 rfl (lv_at hl 0 rfl) ?_
  refine lv_aload_n hx hb dMS_end_13 rfl (lv_at hl 0 rfl) ?_
  refine va_get (D := g.1) (ci := 9) (C := "LatticeKeysModel$Sponge") (T := T_MS) (N := 8) hx hb hts (wg_ft i_MS) hown hK hP 0 rfl rfl 5 (by decide) (hts _ (wg_t kw_1330)) (fun _ h9 => h9) rfl dMS_end_14 ?_
  refine lv_iconst (v := nI 1) hx hb dMS_end_17 (by decide) ?_
  refine mi_isub hx hb dMS_end_18 (by omega) ?_
  refine lv_sipush (v := nI 128) hx hb dMS_end_19 (by decide) ?_
  refine mp_v (cx := [(h0, .inr (9, [.ref sa, .ref ta, .ref ca, .ref ra, .ref ua, .int (nI rt), .int (nI ps), .int x3])), (sa, .inl (g.2.1 2, 25, .inr (.inl ((mxB fs ps x3))))), (ta, .inl (g.2.1 2, 25, .inr (.inl ft))), (ca, .inl (g.2.1 2, 5, .inr (.inl fc))), (ra, .inl (g.2.1 2, 24, .inr (.inl RCS))), (ua, .inl (g.2.1 0, 25, .inl TUR))]) (wr := []) hP hD hS hA [0, 1, 2, 3, 4, 5] [] rfl rfl rfl (by decide) (va_runV (As := [.int (nI (rt - 1)), .int (nI 128)]) (rest := []) F (x_MS_add l g _ T xs pl hO hU  (rt - 1) (nI 128) h0 sa ta ca ra ua rt ps x3 (mxB fs ps x3) ft fc (by omega)) (cwV 2 hts (wg_app (wg_c kw_1619 (wg_c kw_1621 (wg_c ks_52 (wg_c kw_10 wg_n)))) kw_1622) rfl rfl rfl (by decide +kernel) ⟨by decide, by decide⟩) (pp_W "LatticeKeysModel$Sponge" (en_ok g) (q0 := 0) hK hP hD hS hA hE [0, 1, 2, 3, 4, 5] rfl rfl rfl rfl) rfl rfl hl.1 rfl (lv_room (Nat.le_of_ble_eq_true rfl)) dMS_end_22 ⟨by omega, by omega⟩) (fun  pl H locs hu22 hP hD hS => ?_)
  obtain ⟨hq22, hO⟩ := hu22
  have hP : va_P g.1 vcl (([(h0, .inr (9, [.ref sa, .ref ta, .ref ca, .ref ra, .ref ua, .int (nI rt), .int (nI ps), .int x3])), (sa, .inl (g.2.1 2, 25, .inr (.inl ((mxB (mxB fs ps x3) (rt - 1) (nI 128)))))), (ta, .inl (g.2.1 2, 25, .inr (.inl ft))), (ca, .inl (g.2.1 2, 5, .inr (.inl fc))), (ra, .inl (g.2.1 2, 24, .inr (.inl RCS))), (ua, .inl (g.2.1 0, 25, .inl TUR))] : va_W) ++ pl) _ := hP
  have hD : va_D _ (([(h0, .inr (9, [.ref sa, .ref ta, .ref ca, .ref ra, .ref ua, .int (nI rt), .int (nI ps), .int x3])), (sa, .inl (g.2.1 2, 25, .inr (.inl ((mxB (mxB fs ps x3) (rt - 1) (nI 128)))))), (ta, .inl (g.2.1 2, 25, .inr (.inl ft))), (ca, .inl (g.2.1 2, 5, .inr (.inl fc))), (ra, .inl (g.2.1 2, 24, .inr (.inl RCS))), (ua, .inl (g.2.1 0, 25, .inl TUR))] : va_W) ++ pl) := hD
  refine W.widen (k := 0) (n := 0) (by omega) (by omega) ?_
  refine lv_aload_n hx hb dMS_end_25 rfl (lv_at hl 0 rfl) ?_
  refine mp_v (cx := [(h0, .inr (9, [.ref sa, .ref ta, .ref ca, .ref ra, .ref ua, .int (nI rt), .int (nI ps), .int x3])), (sa, .inl (g.2.1 2, 25, .inr (.inl ((mxB (mxB fs ps x3) (rt - 1) (nI 128)))))), (ta, .inl (g.2.1 2, 25, .inr (.inl ft))), (ca, .inl (g.2.1 2, 5, .inr (.inl fc))), (ra, .inl (g.2.1 2, 24, .inr (.inl RCS))), (ua, .inl (g.2.1 0, 25, .inl TUR))]) (wr := []) hP hD hS hA [0, 1, 2, 3, 4, 5] [] rfl rfl rfl (by decide) (va_runV (As := []) (rest := []) F (x_MS_mix l g _ T xs pl hO hU  h0 sa ta ca ra ua (nI rt) (nI ps) x3 (mxB (mxB fs ps x3) (rt - 1) (nI 128)) ft fc) (cwV 0 hts (wg_app (wg_c kw_1624 (wg_c kw_1626 (wg_c ks_53 (wg_c kw_10 wg_n)))) kw_1627) rfl rfl rfl (by decide +kernel) ⟨by decide, by decide⟩) (pp_W "LatticeKeysModel$Sponge" (en_ok g) (q0 := 0) hK hP hD hS hA hE [0, 1, 2, 3, 4, 5] rfl rfl rfl rfl) rfl rfl hl.1 rfl (lv_room (Nat.le_of_ble_eq_true rfl)) dMS_end_26 ⟨by omega, by omega⟩) (fun  u21 H locs hu23 hP hD hS => ?_)
  obtain ⟨u22, pl⟩ := u21
  obtain ⟨hq23, hO⟩ := hu23
  obtain ⟨fj21, fj22⟩ := u22
  have hP : va_P g.1 vcl (([(h0, .inr (9, [.ref sa, .ref ta, .ref ca, .ref ra, .ref ua, .int (nI rt), .int (nI ps), .int x3])), (sa, .inl (g.2.1 2, 25, .inr (.inl ((prm (mxB (mxB fs ps x3) (rt - 1) (nI 128))))))), (ta, .inl (g.2.1 2, 25, .inr (.inl fj21))), (ca, .inl (g.2.1 2, 5, .inr (.inl fj22))), (ra, .inl (g.2.1 2, 24, .inr (.inl RCS))), (ua, .inl (g.2.1 0, 25, .inl TUR))] : va_W) ++ pl) _ := hP
  have hD : va_D _ (([(h0, .inr (9, [.ref sa, .ref ta, .ref ca, .ref ra, .ref ua, .int (nI rt), .int (nI ps), .int x3])), (sa, .inl (g.2.1 2, 25, .inr (.inl ((prm (mxB (mxB fs ps x3) (rt - 1) (nI 128))))))), (ta, .inl (g.2.1 2, 25, .inr (.inl fj21))), (ca, .inl (g.2.1 2, 5, .inr (.inl fj22))), (ra, .inl (g.2.1 2, 24, .inr (.inl RCS))), (ua, .inl (g.2.1 0, 25, .inl TUR))] : va_W) ++ pl) := hD
  refine W.widen (k := 0) (n := 0) (by omega) (by omega) ?_
  refine lv_aload_n hx hb dMS_end_29 rfl (lv_at hl 0 rfl) ?_
  refine lv_iconst (v := nI 0) hx hb dMS_end_30 (by decide) ?_
  refine va_put (D := g.1) (ci := 9) (v := .int (nI 0)) (ty := .int) (C := "LatticeKeysModel$Sponge") (T := T_MS) (N := 8) hx hb hts (wg_ft i_MS) ty_MS k_MS n_MS hown hK hP hD hS 0 rfl rfl 6 (by decide) (hts _ (wg_t kw_1331)) (fun _ h9 => h9) rfl (by decide +kernel) rfl rfl (Nat.le_of_ble_eq_true rfl) dMS_end_31 (fun H locs hP hD hS => ?_)
  have hP : va_P g.1 vcl (([(h0, .inr (9, [.ref sa, .ref ta, .ref ca, .ref ra, .ref ua, .int (nI rt), .int (nI 0), .int x3])), (sa, .inl (g.2.1 2, 25, .inr (.inl ((prm (mxB (mxB fs ps x3) (rt - 1) (nI 128))))))), (ta, .inl (g.2.1 2, 25, .inr (.inl fj21))), (ca, .inl (g.2.1 2, 5, .inr (.inl fj22))), (ra, .inl (g.2.1 2, 24, .inr (.inl RCS))), (ua, .inl (g.2.1 0, 25, .inl TUR))] : va_W) ++ pl) _ := hP
  have hD : va_D _ (([(h0, .inr (9, [.ref sa, .ref ta, .ref ca, .ref ra, .ref ua, .int (nI rt), .int (nI 0), .int x3])), (sa, .inl (g.2.1 2, 25, .inr (.inl ((prm (mxB (mxB fs ps x3) (rt - 1) (nI 128))))))), (ta, .inl (g.2.1 2, 25, .inr (.inl fj21))), (ca, .inl (g.2.1 2, 5, .inr (.inl fj22))), (ra, .inl (g.2.1 2, 24, .inr (.inl RCS))), (ua, .inl (g.2.1 0, 25, .inl TUR))] : va_W) ++ pl) := hD
  have hP : va_P g.1 vcl (([(h0, .inr (9, [.ref sa, .ref ta, .ref ca, .ref ra, .ref ua, .int (nI rt), .int (nI 0), .int x3])), (sa, .inl (g.2.1 2, 25, .inr (.inl ((prm (pdF rt (fs, ps) x3)))))), (ta, .inl (g.2.1 2, 25, .inr (.inl fj21))), (ca, .inl (g.2.1 2, 5, .inr (.inl fj22))), (ra, .inl (g.2.1 2, 24, .inr (.inl RCS))), (ua, .inl (g.2.1 0, 25, .inl TUR))] : va_W) ++ pl) _ := hP
  have hD : va_D _ (([(h0, .inr (9, [.ref sa, .ref ta, .ref ca, .ref ra, .ref ua, .int (nI rt), .int (nI 0), .int x3])), (sa, .inl (g.2.1 2, 25, .inr (.inl ((prm (pdF rt (fs, ps) x3)))))), (ta, .inl (g.2.1 2, 25, .inr (.inl fj21))), (ca, .inl (g.2.1 2, 5, .inr (.inl fj22))), (ra, .inl (g.2.1 2, 24, .inr (.inl RCS))), (ua, .inl (g.2.1 0, 25, .inl TUR))] : va_W) ++ pl) := hD
  exact mp_vret hx hb hr hlk hP hD hS ((fj21, fj22), pl) ⟨trivial, hO⟩ [0, 1, 2, 3, 4, 5] rfl rfl rfl (by omega) (by omega) dMS_end_34
set_option maxHeartbeats 400000 in
set_option maxRecDepth 100000 in
theorem x_MS_next (l : Launch) (g : Gd) (sz : Nat) (T : Ty) (xs : List Nat) (pl : va_W) (hO : okx g T xs pl) (hU : uni T) (h0 sa ta ca ra ua rt ps : Nat) (x3 : Int32) (fs ft fc : Nat → Int64) (hrt : 0 < rt ∧ rt < 200) (hps : ps ≤ rt)  : Met l y_MS_next w_MS_next ({ frames := 2, cells := 0, slots := 0, locals := 45 } : Room) (va_Pc [.ref h0] (pr (en g) g.1 vcl sz (([(h0, .inr (9, [.ref sa, .ref ta, .ref ca, .ref ra, .ref ua, .int (nI rt), .int (nI ps), .int x3])), (sa, .inl (g.2.1 2, 25, .inr (.inl fs))), (ta, .inl (g.2.1 2, 25, .inr (.inl ft))), (ca, .inl (g.2.1 2, 5, .inr (.inl fc))), (ra, .inl (g.2.1 2, 24, .inr (.inl RCS))), (ua, .inl (g.2.1 0, 25, .inl TUR))] : va_W) ++ pl))) (va_Qi (fun (r : Int32) (u : ((Nat → Int64) × (Nat → Int64)) × va_W) => (r = gtI (nxS rt (fs, ps)).1 ((nxS rt (fs, ps)).2 - 1)) ∧ okx g T xs u.2) (po g.1 vcl (va_A (([(h0, .inr (9, [.ref sa, .ref ta, .ref ca, .ref ra, .ref ua, .int (nI rt), .int (nI ps), .int x3])), (sa, .inl (g.2.1 2, 25, .inr (.inl fs))), (ta, .inl (g.2.1 2, 25, .inr (.inl ft))), (ca, .inl (g.2.1 2, 5, .inr (.inl fc))), (ra, .inl (g.2.1 2, 24, .inr (.inl RCS))), (ua, .inl (g.2.1 0, 25, .inl TUR))] : va_W) ++ pl) sz) (fun (u : ((Nat → Int64) × (Nat → Int64)) × va_W) => ([(h0, .inr (9, [.ref sa, .ref ta, .ref ca, .ref ra, .ref ua, .int (nI rt), .int (nI ((nxS rt (fs, ps)).2)), .int x3])), (sa, .inl (g.2.1 2, 25, .inr (.inl (((nxS rt (fs, ps)).1))))), (ta, .inl (g.2.1 2, 25, .inr (.inl ((u.1.1))))), (ca, .inl (g.2.1 2, 5, .inr (.inl ((u.1.2))))), (ra, .inl (g.2.1 2, 24, .inr (.inl RCS))), (ua, .inl (g.2.1 0, 25, .inl TUR))] : va_W) ++ u.2)) (va_A (([(h0, .inr (9, [.ref sa, .ref ta, .ref ca, .ref ra, .ref ua, .int (nI rt), .int (nI ps), .int x3])), (sa, .inl (g.2.1 2, 25, .inr (.inl fs))), (ta, .inl (g.2.1 2, 25, .inr (.inl ft))), (ca, .inl (g.2.1 2, 5, .inr (.inl fc))), (ra, .inl (g.2.1 2, 24, .inr (.inl RCS))), (ua, .inl (g.2.1 0, 25, .inl TUR))] : va_W) ++ pl) sz)) 0 0 (va_A (([(h0, .inr (9, [.ref sa, .ref ta, .ref ca, .ref ra, .ref ua, .int (nI rt), .int (nI ps), .int x3])), (sa, .inl (g.2.1 2, 25, .inr (.inl fs))), (ta, .inl (g.2.1 2, 25, .inr (.inl ft))), (ca, .inl (g.2.1 2, 5, .inr (.inl fc))), (ra, .inl (g.2.1 2, 24, .inr (.inl RCS))), (ua, .inl (g.2.1 0, 25, .inl TUR))] : va_W) ++ pl) sz) := by
  refine mc_entry (cc := c_MS_next) (maxL := 2) (ret := (some .int)) (by decide) rfl (Nat.le_of_ble_eq_true rfl) ?_
  intro p e s m args below meth c ls F hr hlk hnm hsz hP hD hE hA hl
  obtain ⟨hx, hb, hml, hown, hts⟩ := id F
  have hK := hE.1
  generalize va_A (([(h0, .inr (9, [.ref sa, .ref ta, .ref ca, .ref ra, .ref ua, .int (nI rt), .int (nI ps), .int x3])), (sa, .inl (g.2.1 2, 25, .inr (.inl fs))), (ta, .inl (g.2.1 2, 25, .inr (.inl ft))), (ca, .inl (g.2.1 2, 5, .inr (.inl fc))), (ra, .inl (g.2.1 2, 24, .inr (.inl RCS))), (ua, .inl (g.2.1 0, 25, .inl TUR))] : va_W) ++ pl) sz = A at hD hE hA ⊢
  have hS : va_S A s.heap s.heap [] := va_S.rf
  have hl : lv_has ls 2 [(0, .ref h0)] := hl
  refine lv_aload_n hx hb dMS_next_0 rfl (lv_at hl 0 rfl) ?_
  refine va_get (D := g.1) (ci := 9) (C := "LatticeKeysModel$Sponge") (T := T_MS) (N := 8) hx hb hts (wg_ft i_MS) hown hK hP 0 rfl rfl 6 (by decide) (hts _ (wg_t kw_1331)) (fun _ h9 => h9) rfl dMS_next_1 ?_
  refine lv_aload_n hx hb dMS_next_4 rfl (lv_at hl 0 rfl) ?_
  refine va_get (D := g.1) (ci := 9) (C := "LatticeKeysModel$Sponge") (T := T_MS) (N := 8) hx hb hts (wg_ft i_MS) hown hK hP 0 rfl rfl 5 (by decide) (hts _ (wg_t kw_1330)) (fun _ h9 => h9) rfl dMS_next_5 ?_
  refine mi_ne (tgt := 20) hx hb dMS_next_8 (by decide) (by omega) (by omega) (fun h21 => ?_) (fun h21 => ?_)
  · rw [show nxS rt (fs, ps) = (fs, ps + 1) from if_neg (show ¬ ps = rt by omega)]
    refine lv_aload_n hx hb dMS_next_20 rfl (lv_at hl 0 rfl) ?_
    refine va_get (D := g.1) (ci := 9) (C := "LatticeKeysModel$Sponge") (T := T_MS) (N := 8) hx hb hts (wg_ft i_MS) hown hK hP 0 rfl rfl 0 (by decide) (hts _ (wg_t kw_1325)) (fun _ h9 => h9) rfl dMS_next_21 ?_
    refine lv_aload_n hx hb dMS_next_24 rfl (lv_at hl 0 rfl) ?_
    refine va_get (D := g.1) (ci := 9) (C := "LatticeKeysModel$Sponge") (T := T_MS) (N := 8) hx hb hts (wg_ft i_MS) hown hK hP 0 rfl rfl 6 (by decide) (hts _ (wg_t kw_1331)) (fun _ h9 => h9) rfl dMS_next_25 ?_
    refine lv_bipush (v := nI 8) hx hb dMS_next_28 (by decide) ?_
    refine mi_idiv hx hb dMS_next_30 (by omega) (by omega) (by omega) ?_
    refine mp_lald hx hb hK hP 1 2 rfl rfl (by omega) (by decide) dMS_next_31 ?_
    refine lv_bipush (v := nI 8) hx hb dMS_next_32 (by decide) ?_
    refine lv_aload_n hx hb dMS_next_34 rfl (lv_at hl 0 rfl) ?_
    refine va_get (D := g.1) (ci := 9) (C := "LatticeKeysModel$Sponge") (T := T_MS) (N := 8) hx hb hts (wg_ft i_MS) hown hK hP 0 rfl rfl 6 (by decide) (hts _ (wg_t kw_1331)) (fun _ h9 => h9) rfl dMS_next_35 ?_
    refine lv_bipush (v := nI 8) hx hb dMS_next_38 (by decide) ?_
    refine mi_irem hx hb dMS_next_40 (by omega) (by omega) (by omega) ?_
    refine mi_imul hx hb dMS_next_41 ?_
    refine lv_lushr hx hb dMS_next_42 rfl ?_
    refine lv_l2i hx hb dMS_next_43 rfl ?_
    refine lv_sipush (v := nI 255) hx hb dMS_next_44 (by decide) ?_
    refine lv_iand hx hb dMS_next_47 ?_
    refine mi_as (show _ = gtI fs ps from rfl) ?_
    refine lv_istore_n (lv' := [(1, .int ((gtI fs ps))), (0, .ref h0)]) hx hb dMS_next_48 rfl hl (by decide) rfl (fun ls hl => ?_)
    refine lv_aload_n hx hb dMS_next_49 rfl (lv_at hl 1 rfl) ?_
    refine lv_dup hx hb dMS_next_50 rfl ?_
    refine va_get (D := g.1) (ci := 9) (C := "LatticeKeysModel$Sponge") (T := T_MS) (N := 8) hx hb hts (wg_ft i_MS) hown hK hP 0 rfl rfl 6 (by decide) (hts _ (wg_t kw_1331)) (fun _ h9 => h9) rfl dMS_next_51 ?_
    refine lv_iconst (v := nI 1) hx hb dMS_next_54 (by decide) ?_
    refine mi_iadd hx hb dMS_next_55 ?_
    refine va_put (D := g.1) (ci := 9) (v := .int (nI (ps + 1))) (ty := .int) (C := "LatticeKeysModel$Sponge") (T := T_MS) (N := 8) hx hb hts (wg_ft i_MS) ty_MS k_MS n_MS hown hK hP hD hS 0 rfl rfl 6 (by decide) (hts _ (wg_t kw_1331)) (fun _ h9 => h9) rfl (by decide +kernel) rfl rfl (Nat.le_of_ble_eq_true rfl) dMS_next_56 (fun H locs hP hD hS => ?_)
    have hP : va_P g.1 vcl (([(h0, .inr (9, [.ref sa, .ref ta, .ref ca, .ref ra, .ref ua, .int (nI rt), .int (nI (ps + 1)), .int x3])), (sa, .inl (g.2.1 2, 25, .inr (.inl fs))), (ta, .inl (g.2.1 2, 25, .inr (.inl ft))), (ca, .inl (g.2.1 2, 5, .inr (.inl fc))), (ra, .inl (g.2.1 2, 24, .inr (.inl RCS))), (ua, .inl (g.2.1 0, 25, .inl TUR))] : va_W) ++ pl) _ := hP
    have hD : va_D _ (([(h0, .inr (9, [.ref sa, .ref ta, .ref ca, .ref ra, .ref ua, .int (nI rt), .int (nI (ps + 1)), .int x3])), (sa, .inl (g.2.1 2, 25, .inr (.inl fs))), (ta, .inl (g.2.1 2, 25, .inr (.inl ft))), (ca, .inl (g.2.1 2, 5, .inr (.inl fc))), (ra, .inl (g.2.1 2, 24, .inr (.inl RCS))), (ua, .inl (g.2.1 0, 25, .inl TUR))] : va_W) ++ pl) := hD
    refine lv_iload_n hx hb dMS_next_59 rfl (lv_at hl 0 rfl) ?_
    exact mp_iret hx hb hr hlk hP hD hS ((ft, fc), pl) ⟨rfl, hO⟩ [0, 1, 2, 3, 4, 5] rfl rfl rfl (by omega) (by omega) dMS_next_60
  · rw [show nxS rt (fs, ps) = (prm fs, 1) from if_pos (show ps = rt by omega)]
    refine lv_aload_n hx hb dMS_next_11 rfl (lv_at hl 0 rfl) ?_
    refine mp_v (cx := [(h0, .inr (9, [.ref sa, .ref ta, .ref ca, .ref ra, .ref ua, .int (nI rt), .int (nI ps), .int x3])), (sa, .inl (g.2.1 2, 25, .inr (.inl fs))), (ta, .inl (g.2.1 2, 25, .inr (.inl ft))), (ca, .inl (g.2.1 2, 5, .inr (.inl fc))), (ra, .inl (g.2.1 2, 24, .inr (.inl RCS))), (ua, .inl (g.2.1 0, 25, .inl TUR))]) (wr := []) hP hD hS hA [0, 1, 2, 3, 4, 5] [] rfl rfl rfl (by decide) (va_runV (As := []) (rest := []) F (x_MS_mix l g _ T xs pl hO hU  h0 sa ta ca ra ua (nI rt) (nI ps) x3 fs ft fc) (cwV 0 hts (wg_app (wg_c kw_1624 (wg_c kw_1626 (wg_c ks_53 (wg_c kw_10 wg_n)))) kw_1627) rfl rfl rfl (by decide +kernel) ⟨by decide, by decide⟩) (pp_W "LatticeKeysModel$Sponge" (en_ok g) (q0 := 0) hK hP hD hS hA hE [0, 1, 2, 3, 4, 5] rfl rfl rfl rfl) rfl rfl hl.1 rfl (lv_room (Nat.le_of_ble_eq_true rfl)) dMS_next_12 ⟨by omega, by omega⟩) (fun  u21 H locs hu21 hP hD hS => ?_)
    obtain ⟨u22, pl⟩ := u21
    obtain ⟨hq21, hO⟩ := hu21
    obtain ⟨fj21, fj22⟩ := u22
    have hP : va_P g.1 vcl (([(h0, .inr (9, [.ref sa, .ref ta, .ref ca, .ref ra, .ref ua, .int (nI rt), .int (nI ps), .int x3])), (sa, .inl (g.2.1 2, 25, .inr (.inl ((prm fs))))), (ta, .inl (g.2.1 2, 25, .inr (.inl fj21))), (ca, .inl (g.2.1 2, 5, .inr (.inl fj22))), (ra, .inl (g.2.1 2, 24, .inr (.inl RCS))), (ua, .inl (g.2.1 0, 25, .inl TUR))] : va_W) ++ pl) _ := hP
    have hD : va_D _ (([(h0, .inr (9, [.ref sa, .ref ta, .ref ca, .ref ra, .ref ua, .int (nI rt), .int (nI ps), .int x3])), (sa, .inl (g.2.1 2, 25, .inr (.inl ((prm fs))))), (ta, .inl (g.2.1 2, 25, .inr (.inl fj21))), (ca, .inl (g.2.1 2, 5, .inr (.inl fj22))), (ra, .inl (g.2.1 2, 24, .inr (.inl RCS))), (ua, .inl (g.2.1 0, 25, .inl TUR))] : va_W) ++ pl) := hD
    refine W.widen (k := 0) (n := 0) (by omega) (by omega) ?_
    refine lv_aload_n hx hb dMS_next_15 rfl (lv_at hl 0 rfl) ?_
    refine lv_iconst (v := nI 0) hx hb dMS_next_16 (by decide) ?_
    refine va_put (D := g.1) (ci := 9) (v := .int (nI 0)) (ty := .int) (C := "LatticeKeysModel$Sponge") (T := T_MS) (N := 8) hx hb hts (wg_ft i_MS) ty_MS k_MS n_MS hown hK hP hD hS 0 rfl rfl 6 (by decide) (hts _ (wg_t kw_1331)) (fun _ h9 => h9) rfl (by decide +kernel) rfl rfl (Nat.le_of_ble_eq_true rfl) dMS_next_17 (fun H locs hP hD hS => ?_)
    have hP : va_P g.1 vcl (([(h0, .inr (9, [.ref sa, .ref ta, .ref ca, .ref ra, .ref ua, .int (nI rt), .int (nI 0), .int x3])), (sa, .inl (g.2.1 2, 25, .inr (.inl ((prm fs))))), (ta, .inl (g.2.1 2, 25, .inr (.inl fj21))), (ca, .inl (g.2.1 2, 5, .inr (.inl fj22))), (ra, .inl (g.2.1 2, 24, .inr (.inl RCS))), (ua, .inl (g.2.1 0, 25, .inl TUR))] : va_W) ++ pl) _ := hP
    have hD : va_D _ (([(h0, .inr (9, [.ref sa, .ref ta, .ref ca, .ref ra, .ref ua, .int (nI rt), .int (nI 0), .int x3])), (sa, .inl (g.2.1 2, 25, .inr (.inl ((prm fs))))), (ta, .inl (g.2.1 2, 25, .inr (.inl fj21))), (ca, .inl (g.2.1 2, 5, .inr (.inl fj22))), (ra, .inl (g.2.1 2, 24, .inr (.inl RCS))), (ua, .inl (g.2.1 0, 25, .inl TUR))] : va_W) ++ pl) := hD
    refine lv_aload_n hx hb dMS_next_20 rfl (lv_at hl 0 rfl) ?_
    refine va_get (D := g.1) (ci := 9) (C := "LatticeKeysModel$Sponge") (T := T_MS) (N := 8) hx hb hts (wg_ft i_MS) hown hK hP 0 rfl rfl 0 (by decide) (hts _ (wg_t kw_1325)) (fun _ h9 => h9) rfl dMS_next_21 ?_
    refine lv_aload_n hx hb dMS_next_24 rfl (lv_at hl 0 rfl) ?_
    refine va_get (D := g.1) (ci := 9) (C := "LatticeKeysModel$Sponge") (T := T_MS) (N := 8) hx hb hts (wg_ft i_MS) hown hK hP 0 rfl rfl 6 (by decide) (hts _ (wg_t kw_1331)) (fun _ h9 => h9) rfl dMS_next_25 ?_
    refine lv_bipush (v := nI 8) hx hb dMS_next_28 (by decide) ?_
    refine mi_idiv hx hb dMS_next_30 (by omega) (by omega) (by omega) ?_
    refine mi_as (show nI (0 / 8) = nI 0 from rfl) ?_
    refine mp_lald hx hb hK hP 1 2 rfl rfl (by omega) (by decide) dMS_next_31 ?_
    refine lv_bipush (v := nI 8) hx hb dMS_next_32 (by decide) ?_
    refine lv_aload_n hx hb dMS_next_34 rfl (lv_at hl 0 rfl) ?_
    refine va_get (D := g.1) (ci := 9) (C := "LatticeKeysModel$Sponge") (T := T_MS) (N := 8) hx hb hts (wg_ft i_MS) hown hK hP 0 rfl rfl 6 (by decide) (hts _ (wg_t kw_1331)) (fun _ h9 => h9) rfl dMS_next_35 ?_
    refine lv_bipush (v := nI 8) hx hb dMS_next_38 (by decide) ?_
    refine mi_irem hx hb dMS_next_40 (by omega) (by omega) (by omega) ?_
    refine mi_as (show nI (0 % 8) = nI 0 from rfl) ?_
    refine mi_imul hx hb dMS_next_41 ?_
    refine mi_as (show nI (8 * 0) = nI 0 from rfl) ?_
    refine lv_lushr hx hb dMS_next_42 rfl ?_
    refine lv_l2i hx hb dMS_next_43 rfl ?_
    refine lv_sipush (v := nI 255) hx hb dMS_next_44 (by decide) ?_
    refine lv_iand hx hb dMS_next_47 ?_
    refine mi_as (show _ = gtI (prm fs) 0 from rfl) ?_
    refine lv_istore_n (lv' := [(1, .int ((gtI (prm fs) 0))), (0, .ref h0)]) hx hb dMS_next_48 rfl hl (by decide) rfl (fun ls hl => ?_)
    refine lv_aload_n hx hb dMS_next_49 rfl (lv_at hl 1 rfl) ?_
    refine lv_dup hx hb dMS_next_50 rfl ?_
    refine va_get (D := g.1) (ci := 9) (C := "LatticeKeysModel$Sponge") (T := T_MS) (N := 8) hx hb hts (wg_ft i_MS) hown hK hP 0 rfl rfl 6 (by decide) (hts _ (wg_t kw_1331)) (fun _ h9 => h9) rfl dMS_next_51 ?_
    refine lv_iconst (v := nI 1) hx hb dMS_next_54 (by decide) ?_
    refine mi_iadd hx hb dMS_next_55 ?_
    refine mi_as (show nI (0 + 1) = nI 1 from rfl) ?_
    refine va_put (D := g.1) (ci := 9) (v := .int (nI 1)) (ty := .int) (C := "LatticeKeysModel$Sponge") (T := T_MS) (N := 8) hx hb hts (wg_ft i_MS) ty_MS k_MS n_MS hown hK hP hD hS 0 rfl rfl 6 (by decide) (hts _ (wg_t kw_1331)) (fun _ h9 => h9) rfl (by decide +kernel) rfl rfl (Nat.le_of_ble_eq_true rfl) dMS_next_56 (fun H locs hP hD hS => ?_)
    have hP : va_P g.1 vcl (([(h0, .inr (9, [.ref sa, .ref ta, .ref ca, .ref ra, .ref ua, .int (nI rt), .int (nI 1), .int x3])), (sa, .inl (g.2.1 2, 25, .inr (.inl ((prm fs))))), (ta, .inl (g.2.1 2, 25, .inr (.inl fj21))), (ca, .inl (g.2.1 2, 5, .inr (.inl fj22))), (ra, .inl (g.2.1 2, 24, .inr (.inl RCS))), (ua, .inl (g.2.1 0, 25, .inl TUR))] : va_W) ++ pl) _ := hP
    have hD : va_D _ (([(h0, .inr (9, [.ref sa, .ref ta, .ref ca, .ref ra, .ref ua, .int (nI rt), .int (nI 1), .int x3])), (sa, .inl (g.2.1 2, 25, .inr (.inl ((prm fs))))), (ta, .inl (g.2.1 2, 25, .inr (.inl fj21))), (ca, .inl (g.2.1 2, 5, .inr (.inl fj22))), (ra, .inl (g.2.1 2, 24, .inr (.inl RCS))), (ua, .inl (g.2.1 0, 25, .inl TUR))] : va_W) ++ pl) := hD
    refine lv_iload_n hx hb dMS_next_59 rfl (lv_at hl 0 rfl) ?_
    exact mp_iret hx hb hr hlk hP hD hS ((fj21, fj22), pl) ⟨rfl, hO⟩ [0, 1, 2, 3, 4, 5] rfl rfl rfl (by omega) (by omega) dMS_next_60
set_option maxHeartbeats 400000 in
set_option maxRecDepth 100000 in
theorem x_MS_take (l : Launch) (g : Gd) (sz : Nat) (T : Ty) (xs : List Nat) (pl : va_W) (hO : okx g T xs pl) (hU : uni T) (at_ len : Nat) (h0 sa ta ca ra ua rt ps : Nat) (x3 : Int32) (fs ft fc : Nat → Int64) (b nb : Nat) (fb : Nat → Int32) (hrt : 0 < rt ∧ rt < 200) (hps : ps ≤ rt) (h1 : at_ + len ≤ nb) (h2 : nb < 65536)  : Met l y_MS_take w_MS_take ({ frames := 3, cells := 0, slots := 0, locals := 66 } : Room) (va_Pc [.ref h0, .ref b, .int (nI at_), .int (nI len)] (pr (en g) g.1 vcl sz (([(h0, .inr (9, [.ref sa, .ref ta, .ref ca, .ref ra, .ref ua, .int (nI rt), .int (nI ps), .int x3])), (sa, .inl (g.2.1 2, 25, .inr (.inl fs))), (ta, .inl (g.2.1 2, 25, .inr (.inl ft))), (ca, .inl (g.2.1 2, 5, .inr (.inl fc))), (ra, .inl (g.2.1 2, 24, .inr (.inl RCS))), (ua, .inl (g.2.1 0, 25, .inl TUR)), (b, .inl (g.2.1 1, nb, .inl fb))] : va_W) ++ pl))) (va_Qv (fun (u : ((Nat → Int64) × (Nat → Int64)) × va_W) => (True) ∧ okx g T xs u.2) (po g.1 vcl (va_A (([(h0, .inr (9, [.ref sa, .ref ta, .ref ca, .ref ra, .ref ua, .int (nI rt), .int (nI ps), .int x3])), (sa, .inl (g.2.1 2, 25, .inr (.inl fs))), (ta, .inl (g.2.1 2, 25, .inr (.inl ft))), (ca, .inl (g.2.1 2, 5, .inr (.inl fc))), (ra, .inl (g.2.1 2, 24, .inr (.inl RCS))), (ua, .inl (g.2.1 0, 25, .inl TUR)), (b, .inl (g.2.1 1, nb, .inl fb))] : va_W) ++ pl) sz) (fun (u : ((Nat → Int64) × (Nat → Int64)) × va_W) => ([(h0, .inr (9, [.ref sa, .ref ta, .ref ca, .ref ra, .ref ua, .int (nI rt), .int (nI ((itN rt (fs, ps) len).2)), .int x3])), (sa, .inl (g.2.1 2, 25, .inr (.inl (((itN rt (fs, ps) len).1))))), (ta, .inl (g.2.1 2, 25, .inr (.inl ((u.1.1))))), (ca, .inl (g.2.1 2, 5, .inr (.inl ((u.1.2))))), (ra, .inl (g.2.1 2, 24, .inr (.inl RCS))), (ua, .inl (g.2.1 0, 25, .inl TUR)), (b, .inl (g.2.1 1, nb, .inl ((sqF rt (fs, ps) fb at_ len))))] : va_W) ++ u.2)) (va_A (([(h0, .inr (9, [.ref sa, .ref ta, .ref ca, .ref ra, .ref ua, .int (nI rt), .int (nI ps), .int x3])), (sa, .inl (g.2.1 2, 25, .inr (.inl fs))), (ta, .inl (g.2.1 2, 25, .inr (.inl ft))), (ca, .inl (g.2.1 2, 5, .inr (.inl fc))), (ra, .inl (g.2.1 2, 24, .inr (.inl RCS))), (ua, .inl (g.2.1 0, 25, .inl TUR)), (b, .inl (g.2.1 1, nb, .inl fb))] : va_W) ++ pl) sz)) 0 0 (va_A (([(h0, .inr (9, [.ref sa, .ref ta, .ref ca, .ref ra, .ref ua, .int (nI rt), .int (nI ps), .int x3])), (sa, .inl (g.2.1 2, 25, .inr (.inl fs))), (ta, .inl (g.2.1 2, 25, .inr (.inl ft))), (ca, .inl (g.2.1 2, 5, .inr (.inl fc))), (ra, .inl (g.2.1 2, 24, .inr (.inl RCS))), (ua, .inl (g.2.1 0, 25, .inl TUR)), (b, .inl (g.2.1 1, nb, .inl fb))] : va_W) ++ pl) sz) := by
  refine mc_entry (cc := c_MS_take) (maxL := 5) (ret := none) (by decide) rfl (Nat.le_of_ble_eq_true rfl) ?_
  intro p e s m args below meth c ls F hr hlk hnm hsz hP hD hE hA hl
  obtain ⟨hx, hb, hml, hown, hts⟩ := id F
  have hK := hE.1
  generalize va_A (([(h0, .inr (9, [.ref sa, .ref ta, .ref ca, .ref ra, .ref ua, .int (nI rt), .int (nI ps), .int x3])), (sa, .inl (g.2.1 2, 25, .inr (.inl fs))), (ta, .inl (g.2.1 2, 25, .inr (.inl ft))), (ca, .inl (g.2.1 2, 5, .inr (.inl fc))), (ra, .inl (g.2.1 2, 24, .inr (.inl RCS))), (ua, .inl (g.2.1 0, 25, .inl TUR)), (b, .inl (g.2.1 1, nb, .inl fb))] : va_W) ++ pl) sz = A at hD hE hA ⊢
  have hS : va_S A s.heap s.heap [] := va_S.rf
  have hl : lv_has ls 5 [(0, .ref h0), (1, .ref b), (2, .int (nI at_)), (3, .int (nI len))] := hl
  refine lv_iconst (v := nI 0) hx hb dMS_take_0 (by decide) ?_
  refine lv_istore (lv' := [(4, .int (nI 0)), (0, .ref h0), (1, .ref b), (2, .int (nI at_)), (3, .int (nI len))]) hx hb dMS_take_1 hl (by decide) rfl (fun ls hl => ?_)
  have lp21 : ∀ (n21 : Nat) (i21 : Nat) (f21 : Nat → Int64) (f22 : Nat → Int64) (pl : va_W) (ls : Array Slot) (H : Heap) (locs : List Loc), n21 + i21 = len → lv_has ls 5 [(4, .int (nI i21)), (0, .ref h0), (1, .ref b), (2, .int (nI at_)), (3, .int (nI len))] → okx g T xs pl → va_P g.1 vcl (([(h0, .inr (9, [.ref sa, .ref ta, .ref ca, .ref ra, .ref ua, .int (nI rt), .int (nI ((itN rt (fs, ps) i21).2)), .int x3])), (sa, .inl (g.2.1 2, 25, .inr (.inl (((itN rt (fs, ps) i21).1))))), (ta, .inl (g.2.1 2, 25, .inr (.inl f21))), (ca, .inl (g.2.1 2, 5, .inr (.inl f22))), (ra, .inl (g.2.1 2, 24, .inr (.inl RCS))), (ua, .inl (g.2.1 0, 25, .inl TUR)), (b, .inl (g.2.1 1, nb, .inl ((sqF rt (fs, ps) fb at_ i21))))] : va_W) ++ pl) H → va_D A (([(h0, .inr (9, [.ref sa, .ref ta, .ref ca, .ref ra, .ref ua, .int (nI rt), .int (nI ((itN rt (fs, ps) i21).2)), .int x3])), (sa, .inl (g.2.1 2, 25, .inr (.inl (((itN rt (fs, ps) i21).1))))), (ta, .inl (g.2.1 2, 25, .inr (.inl f21))), (ca, .inl (g.2.1 2, 5, .inr (.inl f22))), (ra, .inl (g.2.1 2, 24, .inr (.inl RCS))), (ua, .inl (g.2.1 0, 25, .inl TUR)), (b, .inl (g.2.1 1, nb, .inl ((sqF rt (fs, ps) fb at_ i21))))] : va_W) ++ pl) → va_S A s.heap H locs → W p l e ({ frames := 3, cells := 0, slots := 0, locals := 66 } : Room) s m args below meth c H locs 0 0 (MQ below (va_Qv (fun (u : ((Nat → Int64) × (Nat → Int64)) × va_W) => (True) ∧ okx g T xs u.2) (po g.1 vcl A (fun (u : ((Nat → Int64) × (Nat → Int64)) × va_W) => ([(h0, .inr (9, [.ref sa, .ref ta, .ref ca, .ref ra, .ref ua, .int (nI rt), .int (nI ((itN rt (fs, ps) len).2)), .int x3])), (sa, .inl (g.2.1 2, 25, .inr (.inl (((itN rt (fs, ps) len).1))))), (ta, .inl (g.2.1 2, 25, .inr (.inl ((u.1.1))))), (ca, .inl (g.2.1 2, 5, .inr (.inl ((u.1.2))))), (ra, .inl (g.2.1 2, 24, .inr (.inl RCS))), (ua, .inl (g.2.1 0, 25, .inl TUR)), (b, .inl (g.2.1 1, nb, .inl ((sqF rt (fs, ps) fb at_ len))))] : va_W) ++ u.2)) A) args s 0 0 A) (F0 m 3 ls []) := by
    intro n21
    induction n21 with
    | zero =>
      intro i21 f21 f22 pl ls H locs hm21  hl hO hP hD hS
      have hle := itN_le (rt := rt) (st := (fs, ps)) hrt.1 hps i21
      refine lv_iload hx hb dMS_take_3 (lv_at hl 0 rfl) ?_
      refine lv_iload_n hx hb dMS_take_5 rfl (lv_at hl 4 rfl) ?_
      refine mi_ge (tgt := 26) hx hb dMS_take_6 (by decide) (by omega) (by omega) (fun h21 => ?_) (fun h21 => absurd h21 (by omega))
      obtain rfl : i21 = len := by omega
      exact mp_vret hx hb hr hlk hP hD hS ((f21, f22), pl) ⟨trivial, hO⟩ [0, 1, 2, 3, 4, 5, 6] rfl rfl rfl (by omega) (by omega) dMS_take_26
    | succ n21 ih21 =>
      intro i21 f21 f22 pl ls H locs hm21  hl hO hP hD hS
      have hle := itN_le (rt := rt) (st := (fs, ps)) hrt.1 hps i21
      refine lv_iload hx hb dMS_take_3 (lv_at hl 0 rfl) ?_
      refine lv_iload_n hx hb dMS_take_5 rfl (lv_at hl 4 rfl) ?_
      refine mi_ge (tgt := 26) hx hb dMS_take_6 (by decide) (by omega) (by omega) (fun h22 => absurd h22 (by omega)) (fun h22 => ?_)
      refine lv_aload_n hx hb dMS_take_9 rfl (lv_at hl 2 rfl) ?_
      refine lv_iload_n hx hb dMS_take_10 rfl (lv_at hl 3 rfl) ?_
      refine lv_iload hx hb dMS_take_11 (lv_at hl 0 rfl) ?_
      refine mi_iadd hx hb dMS_take_13 ?_
      refine lv_aload_n hx hb dMS_take_14 rfl (lv_at hl 1 rfl) ?_
      refine mp_i (cx := [(h0, .inr (9, [.ref sa, .ref ta, .ref ca, .ref ra, .ref ua, .int (nI rt), .int (nI ((itN rt (fs, ps) i21).2)), .int x3])), (sa, .inl (g.2.1 2, 25, .inr (.inl (((itN rt (fs, ps) i21).1))))), (ta, .inl (g.2.1 2, 25, .inr (.inl f21))), (ca, .inl (g.2.1 2, 5, .inr (.inl f22))), (ra, .inl (g.2.1 2, 24, .inr (.inl RCS))), (ua, .inl (g.2.1 0, 25, .inl TUR))]) (wr := [(b, .inl (g.2.1 1, nb, .inl ((sqF rt (fs, ps) fb at_ i21))))]) hP hD hS hA [0, 1, 2, 3, 4, 5] [6] rfl rfl rfl (by decide) (va_runV (As := []) (rest := [.int (nI (at_ + i21)), .ref b]) F (x_MS_next l g _ T xs pl hO hU  h0 sa ta ca ra ua rt ((itN rt (fs, ps) i21).2) x3 ((itN rt (fs, ps) i21).1) f21 f22 (by omega) (by omega)) (cwV 0 hts (wg_app (wg_c kw_1641 (wg_c kw_1642 (wg_c kw_1643 (wg_c kw_10 wg_n)))) kw_1644) rfl rfl rfl (by decide +kernel) ⟨by decide, by decide⟩) (pp_W "LatticeKeysModel$Sponge" (en_ok g) (q0 := 0) hK hP hD hS hA hE [0, 1, 2, 3, 4, 5] rfl rfl rfl rfl) rfl rfl hl.1 rfl (lv_room (Nat.le_of_ble_eq_true rfl)) dMS_take_15 ⟨by omega, by omega⟩) (fun r21 u21 H locs hu21 hP hD hS => ?_)
      obtain ⟨u22, pl⟩ := u21
      obtain ⟨hq21, hO⟩ := hu21
      obtain ⟨fj21, fj22⟩ := u22
      have hP : va_P g.1 vcl (([(b, .inl (g.2.1 1, nb, .inl ((sqF rt (fs, ps) fb at_ i21)))), (h0, .inr (9, [.ref sa, .ref ta, .ref ca, .ref ra, .ref ua, .int (nI rt), .int (nI ((nxS rt (((itN rt (fs, ps) i21).1), (itN rt (fs, ps) i21).2)).2)), .int x3])), (sa, .inl (g.2.1 2, 25, .inr (.inl (((nxS rt (((itN rt (fs, ps) i21).1), (itN rt (fs, ps) i21).2)).1))))), (ta, .inl (g.2.1 2, 25, .inr (.inl fj21))), (ca, .inl (g.2.1 2, 5, .inr (.inl fj22))), (ra, .inl (g.2.1 2, 24, .inr (.inl RCS))), (ua, .inl (g.2.1 0, 25, .inl TUR))] : va_W) ++ pl) _ := hP
      have hD : va_D _ (([(b, .inl (g.2.1 1, nb, .inl ((sqF rt (fs, ps) fb at_ i21)))), (h0, .inr (9, [.ref sa, .ref ta, .ref ca, .ref ra, .ref ua, .int (nI rt), .int (nI ((nxS rt (((itN rt (fs, ps) i21).1), (itN rt (fs, ps) i21).2)).2)), .int x3])), (sa, .inl (g.2.1 2, 25, .inr (.inl (((nxS rt (((itN rt (fs, ps) i21).1), (itN rt (fs, ps) i21).2)).1))))), (ta, .inl (g.2.1 2, 25, .inr (.inl fj21))), (ca, .inl (g.2.1 2, 5, .inr (.inl fj22))), (ra, .inl (g.2.1 2, 24, .inr (.inl RCS))), (ua, .inl (g.2.1 0, 25, .inl TUR))] : va_W) ++ pl) := hD
      obtain rfl := hq21
      refine W.widen (k := 0) (n := 0) (by omega) (by omega) ?_
      refine lv_i2b hx hb dMS_take_18 rfl ?_
      refine mp_bast hx hb hK hP hD hS 0 1 rfl rfl (by omega) (by omega) dMS_take_19 (fun H locs hP hD hS => ?_)
      have hP : va_P g.1 vcl (([(b, .inl (g.2.1 1, nb, .inl ((upd (sqF rt (fs, ps) fb at_ i21) (at_ + i21) (vp_nar .byte ((gtI (nxS rt (((itN rt (fs, ps) i21).1), (itN rt (fs, ps) i21).2)).1 ((nxS rt (((itN rt (fs, ps) i21).1), (itN rt (fs, ps) i21).2)).2 - 1)).toInt8.toInt32)))))), (h0, .inr (9, [.ref sa, .ref ta, .ref ca, .ref ra, .ref ua, .int (nI rt), .int (nI ((nxS rt (((itN rt (fs, ps) i21).1), (itN rt (fs, ps) i21).2)).2)), .int x3])), (sa, .inl (g.2.1 2, 25, .inr (.inl (((nxS rt (((itN rt (fs, ps) i21).1), (itN rt (fs, ps) i21).2)).1))))), (ta, .inl (g.2.1 2, 25, .inr (.inl fj21))), (ca, .inl (g.2.1 2, 5, .inr (.inl fj22))), (ra, .inl (g.2.1 2, 24, .inr (.inl RCS))), (ua, .inl (g.2.1 0, 25, .inl TUR))] : va_W) ++ pl) _ := hP
      have hD : va_D _ (([(b, .inl (g.2.1 1, nb, .inl ((upd (sqF rt (fs, ps) fb at_ i21) (at_ + i21) (vp_nar .byte ((gtI (nxS rt (((itN rt (fs, ps) i21).1), (itN rt (fs, ps) i21).2)).1 ((nxS rt (((itN rt (fs, ps) i21).1), (itN rt (fs, ps) i21).2)).2 - 1)).toInt8.toInt32)))))), (h0, .inr (9, [.ref sa, .ref ta, .ref ca, .ref ra, .ref ua, .int (nI rt), .int (nI ((nxS rt (((itN rt (fs, ps) i21).1), (itN rt (fs, ps) i21).2)).2)), .int x3])), (sa, .inl (g.2.1 2, 25, .inr (.inl (((nxS rt (((itN rt (fs, ps) i21).1), (itN rt (fs, ps) i21).2)).1))))), (ta, .inl (g.2.1 2, 25, .inr (.inl fj21))), (ca, .inl (g.2.1 2, 5, .inr (.inl fj22))), (ra, .inl (g.2.1 2, 24, .inr (.inl RCS))), (ua, .inl (g.2.1 0, 25, .inl TUR))] : va_W) ++ pl) := hD
      refine mi_iinc (k := 0) (x := i21) (d := 1) (y := i21 + 1) (lv' := [(4, .int (nI (i21 + 1))), (0, .ref h0), (1, .ref b), (2, .int (nI at_)), (3, .int (nI len))]) hx hb dMS_take_20 hl rfl (by decide) rfl (by decide) rfl (fun ls hl => ?_)
      refine lv_goto (tgt := 3) hx hb dMS_take_23 (by decide) ?_
      have hP : va_P g.1 vcl (([(b, .inl (g.2.1 1, nb, .inl ((sqF rt (fs, ps) fb at_ (i21 + 1))))), (h0, .inr (9, [.ref sa, .ref ta, .ref ca, .ref ra, .ref ua, .int (nI rt), .int (nI ((itN rt (fs, ps) (i21 + 1)).2)), .int x3])), (sa, .inl (g.2.1 2, 25, .inr (.inl (((itN rt (fs, ps) (i21 + 1)).1))))), (ta, .inl (g.2.1 2, 25, .inr (.inl fj21))), (ca, .inl (g.2.1 2, 5, .inr (.inl fj22))), (ra, .inl (g.2.1 2, 24, .inr (.inl RCS))), (ua, .inl (g.2.1 0, 25, .inl TUR))] : va_W) ++ pl) _ := hP
      have hD : va_D _ (([(b, .inl (g.2.1 1, nb, .inl ((sqF rt (fs, ps) fb at_ (i21 + 1))))), (h0, .inr (9, [.ref sa, .ref ta, .ref ca, .ref ra, .ref ua, .int (nI rt), .int (nI ((itN rt (fs, ps) (i21 + 1)).2)), .int x3])), (sa, .inl (g.2.1 2, 25, .inr (.inl (((itN rt (fs, ps) (i21 + 1)).1))))), (ta, .inl (g.2.1 2, 25, .inr (.inl fj21))), (ca, .inl (g.2.1 2, 5, .inr (.inl fj22))), (ra, .inl (g.2.1 2, 24, .inr (.inl RCS))), (ua, .inl (g.2.1 0, 25, .inl TUR))] : va_W) ++ pl) := hD
      have hP : va_P g.1 vcl (([(h0, .inr (9, [.ref sa, .ref ta, .ref ca, .ref ra, .ref ua, .int (nI rt), .int (nI ((itN rt (fs, ps) (i21 + 1)).2)), .int x3])), (sa, .inl (g.2.1 2, 25, .inr (.inl (((itN rt (fs, ps) (i21 + 1)).1))))), (ta, .inl (g.2.1 2, 25, .inr (.inl fj21))), (ca, .inl (g.2.1 2, 5, .inr (.inl fj22))), (ra, .inl (g.2.1 2, 24, .inr (.inl RCS))), (ua, .inl (g.2.1 0, 25, .inl TUR)), (b, .inl (g.2.1 1, nb, .inl ((sqF rt (fs, ps) fb at_ (i21 + 1)))))] : va_W) ++ pl) _ := hP.part [1, 2, 3, 4, 5, 6, 0] rfl
      have hD : va_D _ (([(h0, .inr (9, [.ref sa, .ref ta, .ref ca, .ref ra, .ref ua, .int (nI rt), .int (nI ((itN rt (fs, ps) (i21 + 1)).2)), .int x3])), (sa, .inl (g.2.1 2, 25, .inr (.inl (((itN rt (fs, ps) (i21 + 1)).1))))), (ta, .inl (g.2.1 2, 25, .inr (.inl fj21))), (ca, .inl (g.2.1 2, 5, .inr (.inl fj22))), (ra, .inl (g.2.1 2, 24, .inr (.inl RCS))), (ua, .inl (g.2.1 0, 25, .inl TUR)), (b, .inl (g.2.1 1, nb, .inl ((sqF rt (fs, ps) fb at_ (i21 + 1)))))] : va_W) ++ pl) := hD.part [1, 2, 3, 4, 5, 6, 0] (by decide) rfl
      exact ih21 (i21 + 1) fj21 fj22 pl ls H locs (by omega) (lv_sub hl [0, 1, 2, 3, 4] rfl) hO hP hD hS
  exact lp21 len 0 ft fc pl ls _ _ (by omega) (lv_sub hl [0, 1, 2, 3, 4] rfl) hO hP hD hS
