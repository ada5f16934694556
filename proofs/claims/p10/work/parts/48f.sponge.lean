set_option linter.all false
abbrev c_SP_start : ByteArray := prog_10_method_2_code
abbrev y_SP_start : MethodName := ⟨"LatticeKeys$Sponge", "start", "(I)V"⟩
abbrev w_SP_start : List Cond := Cond.code y_SP_start c_SP_start 2 none :: WG
theorem dSP_start_0 : decode c_SP_start 0 = .ok (.aload_n 0, 1) := by decide +kernel
theorem dSP_start_1 : decode c_SP_start 1 = .ok (.getfield 7, 3) := by decide +kernel
theorem dSP_start_4 : decode c_SP_start 4 = .ok (.lconst 0, 1) := by decide +kernel
theorem dSP_start_5 : decode c_SP_start 5 = .ok (.invokestatic 30, 3) := by decide +kernel
theorem dSP_start_8 : decode c_SP_start 8 = .ok (.aload_n 0, 1) := by decide +kernel
theorem dSP_start_9 : decode c_SP_start 9 = .ok (.getstatic 13, 3) := by decide +kernel
theorem dSP_start_12 : decode c_SP_start 12 = .ok (.iload_n 1, 1) := by decide +kernel
theorem dSP_start_13 : decode c_SP_start 13 = .ok (.iaload, 1) := by decide +kernel
theorem dSP_start_14 : decode c_SP_start 14 = .ok (.putfield 17, 3) := by decide +kernel
theorem dSP_start_17 : decode c_SP_start 17 = .ok (.aload_n 0, 1) := by decide +kernel
theorem dSP_start_18 : decode c_SP_start 18 = .ok (.getstatic 21, 3) := by decide +kernel
theorem dSP_start_21 : decode c_SP_start 21 = .ok (.iload_n 1, 1) := by decide +kernel
theorem dSP_start_22 : decode c_SP_start 22 = .ok (.iaload, 1) := by decide +kernel
theorem dSP_start_23 : decode c_SP_start 23 = .ok (.putfield 24, 3) := by decide +kernel
theorem dSP_start_26 : decode c_SP_start 26 = .ok (.aload_n 0, 1) := by decide +kernel
theorem dSP_start_27 : decode c_SP_start 27 = .ok (.iconst 0, 1) := by decide +kernel
theorem dSP_start_28 : decode c_SP_start 28 = .ok (.putfield 27, 3) := by decide +kernel
theorem dSP_start_31 : decode c_SP_start 31 = .ok (.return_, 1) := by decide +kernel
abbrev c_SP_absorbByte : ByteArray := prog_10_method_4_code
abbrev y_SP_absorbByte : MethodName := ⟨"LatticeKeys$Sponge", "absorbByte", "(I)V"⟩
abbrev w_SP_absorbByte : List Cond := Cond.code y_SP_absorbByte c_SP_absorbByte 2 none :: WG
theorem dSP_absorbByte_0 : decode c_SP_absorbByte 0 = .ok (.aload_n 0, 1) := by decide +kernel
theorem dSP_absorbByte_1 : decode c_SP_absorbByte 1 = .ok (.aload_n 0, 1) := by decide +kernel
theorem dSP_absorbByte_2 : decode c_SP_absorbByte 2 = .ok (.getfield 27, 3) := by decide +kernel
theorem dSP_absorbByte_5 : decode c_SP_absorbByte 5 = .ok (.iload_n 1, 1) := by decide +kernel
theorem dSP_absorbByte_6 : decode c_SP_absorbByte 6 = .ok (.invokevirtual 40, 3) := by decide +kernel
theorem dSP_absorbByte_9 : decode c_SP_absorbByte 9 = .ok (.aload_n 0, 1) := by decide +kernel
theorem dSP_absorbByte_10 : decode c_SP_absorbByte 10 = .ok (.dup, 1) := by decide +kernel
theorem dSP_absorbByte_11 : decode c_SP_absorbByte 11 = .ok (.getfield 27, 3) := by decide +kernel
theorem dSP_absorbByte_14 : decode c_SP_absorbByte 14 = .ok (.iconst 1, 1) := by decide +kernel
theorem dSP_absorbByte_15 : decode c_SP_absorbByte 15 = .ok (.iadd, 1) := by decide +kernel
theorem dSP_absorbByte_16 : decode c_SP_absorbByte 16 = .ok (.putfield 27, 3) := by decide +kernel
theorem dSP_absorbByte_19 : decode c_SP_absorbByte 19 = .ok (.aload_n 0, 1) := by decide +kernel
theorem dSP_absorbByte_20 : decode c_SP_absorbByte 20 = .ok (.getfield 27, 3) := by decide +kernel
theorem dSP_absorbByte_23 : decode c_SP_absorbByte 23 = .ok (.aload_n 0, 1) := by decide +kernel
theorem dSP_absorbByte_24 : decode c_SP_absorbByte 24 = .ok (.getfield 17, 3) := by decide +kernel
theorem dSP_absorbByte_27 : decode c_SP_absorbByte 27 = .ok (.if_icmp .ne 12, 3) := by decide +kernel
theorem dSP_absorbByte_30 : decode c_SP_absorbByte 30 = .ok (.aload_n 0, 1) := by decide +kernel
theorem dSP_absorbByte_31 : decode c_SP_absorbByte 31 = .ok (.invokevirtual 44, 3) := by decide +kernel
theorem dSP_absorbByte_34 : decode c_SP_absorbByte 34 = .ok (.aload_n 0, 1) := by decide +kernel
theorem dSP_absorbByte_35 : decode c_SP_absorbByte 35 = .ok (.iconst 0, 1) := by decide +kernel
theorem dSP_absorbByte_36 : decode c_SP_absorbByte 36 = .ok (.putfield 27, 3) := by decide +kernel
theorem dSP_absorbByte_39 : decode c_SP_absorbByte 39 = .ok (.return_, 1) := by decide +kernel
abbrev c_SP_finish : ByteArray := prog_10_method_5_code
abbrev y_SP_finish : MethodName := ⟨"LatticeKeys$Sponge", "finish", "()V"⟩
abbrev w_SP_finish : List Cond := Cond.code y_SP_finish c_SP_finish 1 none :: WG
theorem dSP_finish_0 : decode c_SP_finish 0 = .ok (.aload_n 0, 1) := by decide +kernel
theorem dSP_finish_1 : decode c_SP_finish 1 = .ok (.aload_n 0, 1) := by decide +kernel
theorem dSP_finish_2 : decode c_SP_finish 2 = .ok (.getfield 27, 3) := by decide +kernel
theorem dSP_finish_5 : decode c_SP_finish 5 = .ok (.aload_n 0, 1) := by decide +kernel
theorem dSP_finish_6 : decode c_SP_finish 6 = .ok (.getfield 24, 3) := by decide +kernel
theorem dSP_finish_9 : decode c_SP_finish 9 = .ok (.invokevirtual 40, 3) := by decide +kernel
theorem dSP_finish_12 : decode c_SP_finish 12 = .ok (.aload_n 0, 1) := by decide +kernel
theorem dSP_finish_13 : decode c_SP_finish 13 = .ok (.aload_n 0, 1) := by decide +kernel
theorem dSP_finish_14 : decode c_SP_finish 14 = .ok (.getfield 17, 3) := by decide +kernel
theorem dSP_finish_17 : decode c_SP_finish 17 = .ok (.iconst 1, 1) := by decide +kernel
theorem dSP_finish_18 : decode c_SP_finish 18 = .ok (.isub, 1) := by decide +kernel
theorem dSP_finish_19 : decode c_SP_finish 19 = .ok (.sipush 128, 3) := by decide +kernel
theorem dSP_finish_22 : decode c_SP_finish 22 = .ok (.invokevirtual 40, 3) := by decide +kernel
theorem dSP_finish_25 : decode c_SP_finish 25 = .ok (.aload_n 0, 1) := by decide +kernel
theorem dSP_finish_26 : decode c_SP_finish 26 = .ok (.aload_n 0, 1) := by decide +kernel
theorem dSP_finish_27 : decode c_SP_finish 27 = .ok (.getfield 17, 3) := by decide +kernel
theorem dSP_finish_30 : decode c_SP_finish 30 = .ok (.putfield 27, 3) := by decide +kernel
theorem dSP_finish_33 : decode c_SP_finish 33 = .ok (.return_, 1) := by decide +kernel
abbrev c_SP_nextByte : ByteArray := prog_10_method_7_code
abbrev y_SP_nextByte : MethodName := ⟨"LatticeKeys$Sponge", "nextByte", "()I"⟩
abbrev w_SP_nextByte : List Cond := Cond.code y_SP_nextByte c_SP_nextByte 2 (some .int) :: WG
theorem dSP_nextByte_0 : decode c_SP_nextByte 0 = .ok (.aload_n 0, 1) := by decide +kernel
theorem dSP_nextByte_1 : decode c_SP_nextByte 1 = .ok (.getfield 27, 3) := by decide +kernel
theorem dSP_nextByte_4 : decode c_SP_nextByte 4 = .ok (.aload_n 0, 1) := by decide +kernel
theorem dSP_nextByte_5 : decode c_SP_nextByte 5 = .ok (.getfield 17, 3) := by decide +kernel
theorem dSP_nextByte_8 : decode c_SP_nextByte 8 = .ok (.if_icmp .ne 12, 3) := by decide +kernel
theorem dSP_nextByte_11 : decode c_SP_nextByte 11 = .ok (.aload_n 0, 1) := by decide +kernel
theorem dSP_nextByte_12 : decode c_SP_nextByte 12 = .ok (.invokevirtual 44, 3) := by decide +kernel
theorem dSP_nextByte_15 : decode c_SP_nextByte 15 = .ok (.aload_n 0, 1) := by decide +kernel
theorem dSP_nextByte_16 : decode c_SP_nextByte 16 = .ok (.iconst 0, 1) := by decide +kernel
theorem dSP_nextByte_17 : decode c_SP_nextByte 17 = .ok (.putfield 27, 3) := by decide +kernel
theorem dSP_nextByte_20 : decode c_SP_nextByte 20 = .ok (.aload_n 0, 1) := by decide +kernel
theorem dSP_nextByte_21 : decode c_SP_nextByte 21 = .ok (.getfield 7, 3) := by decide +kernel
theorem dSP_nextByte_24 : decode c_SP_nextByte 24 = .ok (.aload_n 0, 1) := by decide +kernel
theorem dSP_nextByte_25 : decode c_SP_nextByte 25 = .ok (.getfield 27, 3) := by decide +kernel
theorem dSP_nextByte_28 : decode c_SP_nextByte 28 = .ok (.iconst 3, 1) := by decide +kernel
theorem dSP_nextByte_29 : decode c_SP_nextByte 29 = .ok (.ishr, 1) := by decide +kernel
theorem dSP_nextByte_30 : decode c_SP_nextByte 30 = .ok (.laload, 1) := by decide +kernel
theorem dSP_nextByte_31 : decode c_SP_nextByte 31 = .ok (.aload_n 0, 1) := by decide +kernel
theorem dSP_nextByte_32 : decode c_SP_nextByte 32 = .ok (.getfield 27, 3) := by decide +kernel
theorem dSP_nextByte_35 : decode c_SP_nextByte 35 = .ok (.bipush 7, 2) := by decide +kernel
theorem dSP_nextByte_37 : decode c_SP_nextByte 37 = .ok (.iand, 1) := by decide +kernel
theorem dSP_nextByte_38 : decode c_SP_nextByte 38 = .ok (.iconst 3, 1) := by decide +kernel
theorem dSP_nextByte_39 : decode c_SP_nextByte 39 = .ok (.ishl, 1) := by decide +kernel
theorem dSP_nextByte_40 : decode c_SP_nextByte 40 = .ok (.lushr, 1) := by decide +kernel
theorem dSP_nextByte_41 : decode c_SP_nextByte 41 = .ok (.l2i, 1) := by decide +kernel
theorem dSP_nextByte_42 : decode c_SP_nextByte 42 = .ok (.sipush 255, 3) := by decide +kernel
theorem dSP_nextByte_45 : decode c_SP_nextByte 45 = .ok (.iand, 1) := by decide +kernel
theorem dSP_nextByte_46 : decode c_SP_nextByte 46 = .ok (.istore_n 1, 1) := by decide +kernel
theorem dSP_nextByte_47 : decode c_SP_nextByte 47 = .ok (.aload_n 0, 1) := by decide +kernel
theorem dSP_nextByte_48 : decode c_SP_nextByte 48 = .ok (.dup, 1) := by decide +kernel
theorem dSP_nextByte_49 : decode c_SP_nextByte 49 = .ok (.getfield 27, 3) := by decide +kernel
theorem dSP_nextByte_52 : decode c_SP_nextByte 52 = .ok (.iconst 1, 1) := by decide +kernel
theorem dSP_nextByte_53 : decode c_SP_nextByte 53 = .ok (.iadd, 1) := by decide +kernel
theorem dSP_nextByte_54 : decode c_SP_nextByte 54 = .ok (.putfield 27, 3) := by decide +kernel
theorem dSP_nextByte_57 : decode c_SP_nextByte 57 = .ok (.iload_n 1, 1) := by decide +kernel
theorem dSP_nextByte_58 : decode c_SP_nextByte 58 = .ok (.ireturn, 1) := by decide +kernel
abbrev c_SP_absorb : ByteArray := prog_10_method_3_code
abbrev y_SP_absorb : MethodName := ⟨"LatticeKeys$Sponge", "absorb", "([BII)V"⟩
abbrev w_SP_absorb : List Cond := Cond.code y_SP_absorb c_SP_absorb 5 none :: WG
theorem dSP_absorb_0 : decode c_SP_absorb 0 = .ok (.iconst 0, 1) := by decide +kernel
theorem dSP_absorb_1 : decode c_SP_absorb 1 = .ok (.istore 4, 2) := by decide +kernel
theorem dSP_absorb_3 : decode c_SP_absorb 3 = .ok (.iload 4, 2) := by decide +kernel
theorem dSP_absorb_5 : decode c_SP_absorb 5 = .ok (.iload_n 3, 1) := by decide +kernel
theorem dSP_absorb_6 : decode c_SP_absorb 6 = .ok (.if_icmp .ge 19, 3) := by decide +kernel
theorem dSP_absorb_9 : decode c_SP_absorb 9 = .ok (.aload_n 0, 1) := by decide +kernel
theorem dSP_absorb_10 : decode c_SP_absorb 10 = .ok (.aload_n 1, 1) := by decide +kernel
theorem dSP_absorb_11 : decode c_SP_absorb 11 = .ok (.iload_n 2, 1) := by decide +kernel
theorem dSP_absorb_12 : decode c_SP_absorb 12 = .ok (.iload 4, 2) := by decide +kernel
theorem dSP_absorb_14 : decode c_SP_absorb 14 = .ok (.iadd, 1) := by decide +kernel
theorem dSP_absorb_15 : decode c_SP_absorb 15 = .ok (.baload, 1) := by decide +kernel
theorem dSP_absorb_16 : decode c_SP_absorb 16 = .ok (.invokevirtual 36, 3) := by decide +kernel
theorem dSP_absorb_19 : decode c_SP_absorb 19 = .ok (.iinc 4 1, 3) := by decide +kernel
theorem dSP_absorb_22 : decode c_SP_absorb 22 = .ok (.goto (-19), 3) := by decide +kernel
theorem dSP_absorb_25 : decode c_SP_absorb 25 = .ok (.return_, 1) := by decide +kernel
abbrev c_SP_squeeze : ByteArray := prog_10_method_6_code
abbrev y_SP_squeeze : MethodName := ⟨"LatticeKeys$Sponge", "squeeze", "([BII)V"⟩
abbrev w_SP_squeeze : List Cond := Cond.code y_SP_squeeze c_SP_squeeze 5 none :: WG
theorem dSP_squeeze_0 : decode c_SP_squeeze 0 = .ok (.iconst 0, 1) := by decide +kernel
theorem dSP_squeeze_1 : decode c_SP_squeeze 1 = .ok (.istore 4, 2) := by decide +kernel
theorem dSP_squeeze_3 : decode c_SP_squeeze 3 = .ok (.iload 4, 2) := by decide +kernel
theorem dSP_squeeze_5 : decode c_SP_squeeze 5 = .ok (.iload_n 3, 1) := by decide +kernel
theorem dSP_squeeze_6 : decode c_SP_squeeze 6 = .ok (.if_icmp .ge 20, 3) := by decide +kernel
theorem dSP_squeeze_9 : decode c_SP_squeeze 9 = .ok (.aload_n 1, 1) := by decide +kernel
theorem dSP_squeeze_10 : decode c_SP_squeeze 10 = .ok (.iload_n 2, 1) := by decide +kernel
theorem dSP_squeeze_11 : decode c_SP_squeeze 11 = .ok (.iload 4, 2) := by decide +kernel
theorem dSP_squeeze_13 : decode c_SP_squeeze 13 = .ok (.iadd, 1) := by decide +kernel
theorem dSP_squeeze_14 : decode c_SP_squeeze 14 = .ok (.aload_n 0, 1) := by decide +kernel
theorem dSP_squeeze_15 : decode c_SP_squeeze 15 = .ok (.invokevirtual 47, 3) := by decide +kernel
theorem dSP_squeeze_18 : decode c_SP_squeeze 18 = .ok (.i2b, 1) := by decide +kernel
theorem dSP_squeeze_19 : decode c_SP_squeeze 19 = .ok (.bastore, 1) := by decide +kernel
theorem dSP_squeeze_20 : decode c_SP_squeeze 20 = .ok (.iinc 4 1, 3) := by decide +kernel
theorem dSP_squeeze_23 : decode c_SP_squeeze 23 = .ok (.goto (-20), 3) := by decide +kernel
theorem dSP_squeeze_26 : decode c_SP_squeeze 26 = .ok (.return_, 1) := by decide +kernel
set_option maxHeartbeats 400000 in
set_option maxRecDepth 100000 in
theorem x_SP_start_0 (l : Launch) (g : Gd) (sz : Nat) (T : Ty) (xs : List Nat) (pl : va_W) (hO : okx g T xs pl) (hU : uni T) (h0 ln rt ps : Nat) (x2 : Int32) (f : Nat → Int64)  : Met l y_SP_start w_SP_start ({ frames := 1, cells := 0, slots := 0, locals := 24 } : Room) (va_Pc [.ref h0, .int (nI 0)] (pr (en g) g.1 vcl sz (([(h0, .inr (3, [.ref ln, .int (nI rt), .int x2, .int (nI ps)])), (ln, .inl (g.2.1 2, 25, .inr (.inl f)))] : va_W) ++ pl))) (va_Qv (fun (u : va_W) => (True) ∧ okx g T xs u) (po g.1 vcl (va_A (([(h0, .inr (3, [.ref ln, .int (nI rt), .int x2, .int (nI ps)])), (ln, .inl (g.2.1 2, 25, .inr (.inl f)))] : va_W) ++ pl) sz) (fun (u : va_W) => ([(h0, .inr (3, [.ref ln, .int (nI 136), .int (nI 6), .int (nI 0)])), (ln, .inl (g.2.1 2, 25, .inr (.inl ((fun _ => 0)))))] : va_W) ++ u)) (va_A (([(h0, .inr (3, [.ref ln, .int (nI rt), .int x2, .int (nI ps)])), (ln, .inl (g.2.1 2, 25, .inr (.inl f)))] : va_W) ++ pl) sz)) 0 0 (va_A (([(h0, .inr (3, [.ref ln, .int (nI rt), .int x2, .int (nI ps)])), (ln, .inl (g.2.1 2, 25, .inr (.inl f)))] : va_W) ++ pl) sz) := by
  refine mc_entry (cc := c_SP_start) (maxL := 2) (ret := none) (by decide) rfl (Nat.le_of_ble_eq_true rfl) ?_
  intro p e s m args below meth c ls F hr hlk hnm hsz hP hD hE hA hl
  obtain ⟨hx, hb, hml, hown, hts⟩ := id F
  have hK := hE.1
  generalize va_A (([(h0, .inr (3, [.ref ln, .int (nI rt), .int x2, .int (nI ps)])), (ln, .inl (g.2.1 2, 25, .inr (.inl f)))] : va_W) ++ pl) sz = A at hD hE hA ⊢
  have hS : va_S A s.heap s.heap [] := va_S.rf
  have hl : lv_has ls 2 [(0, .ref h0), (1, .int (nI 0))] := hl
  refine lv_aload_n hx hb dSP_start_0 rfl (lv_at hl 0 rfl) ?_
  refine va_get (D := g.1) (ci := 3) (C := "LatticeKeys$Sponge") (T := T_SP) (N := 4) hx hb hts (wg_ft i_SP) hown hK hP 0 rfl rfl 0 (by decide) (hts _ (wg_t kw_59)) (fun _ h9 => h9) rfl dSP_start_1 ?_
  refine lv_lconst (v := 0) hx hb dSP_start_4 (by decide) ?_
  refine mp_v (cx := [(ln, .inl (g.2.1 2, 25, .inr (.inl f)))]) (wr := [(h0, .inr (3, [.ref ln, .int (nI rt), .int x2, .int (nI ps)]))]) hP hD hS hA [1] [0] rfl rfl rfl (by decide) (va_runS (As := [.ref ln, .long 0]) (rest := []) F (x_AR_fillJ l g _ T xs pl hO hU  0 ln f) (va_cwS 2 hts (wg_app (wg_c kw_582 (wg_c kw_583 (wg_c kw_21 wg_n))) kw_584) rfl rfl rfl (by decide +kernel) ⟨by decide, by decide⟩) (pp_S (en_ok g) hP hD hS hA hE [1] rfl rfl) rfl rfl hl.1 rfl (lv_room (Nat.le_of_ble_eq_true rfl)) dSP_start_5 ⟨by omega, by omega⟩) (fun  pl H locs hu21 hP hD hS => ?_)
  obtain ⟨hq21, hO⟩ := hu21
  have hP : va_P g.1 vcl (([(h0, .inr (3, [.ref ln, .int (nI rt), .int x2, .int (nI ps)])), (ln, .inl (g.2.1 2, 25, .inr (.inl ((fun _ => 0)))))] : va_W) ++ pl) _ := hP
  have hD : va_D _ (([(h0, .inr (3, [.ref ln, .int (nI rt), .int x2, .int (nI ps)])), (ln, .inl (g.2.1 2, 25, .inr (.inl ((fun _ => 0)))))] : va_W) ++ pl) := hD
  refine W.widen (k := 0) (n := 0) (by omega) (by omega) ?_
  refine lv_aload_n hx hb dSP_start_8 rfl (lv_at hl 0 rfl) ?_
  refine va_gets hx hb (hE.2.1 0 _ rfl).1 hS hown (hts _ (wg_t kw_55)) (fun _ h9 => h9) dSP_start_9 ?_
  refine lv_iload_n hx hb dSP_start_12 rfl (lv_at hl 1 rfl) ?_
  refine va_ti (v := .int (nI 136)) hx hb (hE.2.1 0 _ rfl).2 hS (vp_in_nI (by decide) (by decide)) (by decide +kernel) dSP_start_13 ?_
  refine va_put (D := g.1) (ci := 3) (v := .int (nI 136)) (ty := .int) (C := "LatticeKeys$Sponge") (T := T_SP) (N := 4) hx hb hts (wg_ft i_SP) ty_SP k_SP n_SP hown hK hP hD hS 0 rfl rfl 1 (by decide) (hts _ (wg_t kw_60)) (fun _ h9 => h9) rfl (by decide +kernel) rfl rfl (Nat.le_of_ble_eq_true rfl) dSP_start_14 (fun H locs hP hD hS => ?_)
  have hP : va_P g.1 vcl (([(h0, .inr (3, [.ref ln, .int (nI 136), .int x2, .int (nI ps)])), (ln, .inl (g.2.1 2, 25, .inr (.inl ((fun _ => 0)))))] : va_W) ++ pl) _ := hP
  have hD : va_D _ (([(h0, .inr (3, [.ref ln, .int (nI 136), .int x2, .int (nI ps)])), (ln, .inl (g.2.1 2, 25, .inr (.inl ((fun _ => 0)))))] : va_W) ++ pl) := hD
  refine lv_aload_n hx hb dSP_start_17 rfl (lv_at hl 0 rfl) ?_
  refine va_gets hx hb (hE.2.1 1 _ rfl).1 hS hown (hts _ (wg_t kw_57)) (fun _ h9 => h9) dSP_start_18 ?_
  refine lv_iload_n hx hb dSP_start_21 rfl (lv_at hl 1 rfl) ?_
  refine va_ti (v := .int (nI 6)) hx hb (hE.2.1 1 _ rfl).2 hS (vp_in_nI (by decide) (by decide)) (by decide +kernel) dSP_start_22 ?_
  refine va_put (D := g.1) (ci := 3) (v := .int (nI 6)) (ty := .int) (C := "LatticeKeys$Sponge") (T := T_SP) (N := 4) hx hb hts (wg_ft i_SP) ty_SP k_SP n_SP hown hK hP hD hS 0 rfl rfl 2 (by decide) (hts _ (wg_t kw_61)) (fun _ h9 => h9) rfl (by decide +kernel) rfl rfl (Nat.le_of_ble_eq_true rfl) dSP_start_23 (fun H locs hP hD hS => ?_)
  have hP : va_P g.1 vcl (([(h0, .inr (3, [.ref ln, .int (nI 136), .int (nI 6), .int (nI ps)])), (ln, .inl (g.2.1 2, 25, .inr (.inl ((fun _ => 0)))))] : va_W) ++ pl) _ := hP
  have hD : va_D _ (([(h0, .inr (3, [.ref ln, .int (nI 136), .int (nI 6), .int (nI ps)])), (ln, .inl (g.2.1 2, 25, .inr (.inl ((fun _ => 0)))))] : va_W) ++ pl) := hD
  refine lv_aload_n hx hb dSP_start_26 rfl (lv_at hl 0 rfl) ?_
  refine lv_iconst (v := nI 0) hx hb dSP_start_27 (by decide) ?_
  refine va_put (D := g.1) (ci := 3) (v := .int (nI 0)) (ty := .int) (C := "LatticeKeys$Sponge") (T := T_SP) (N := 4) hx hb hts (wg_ft i_SP) ty_SP k_SP n_SP hown hK hP hD hS 0 rfl rfl 3 (by decide) (hts _ (wg_t kw_62)) (fun _ h9 => h9) rfl (by decide +kernel) rfl rfl (Nat.le_of_ble_eq_true rfl) dSP_start_28 (fun H locs hP hD hS => ?_)
  have hP : va_P g.1 vcl (([(h0, .inr (3, [.ref ln, .int (nI 136), .int (nI 6), .int (nI 0)])), (ln, .inl (g.2.1 2, 25, .inr (.inl ((fun _ => 0)))))] : va_W) ++ pl) _ := hP
  have hD : va_D _ (([(h0, .inr (3, [.ref ln, .int (nI 136), .int (nI 6), .int (nI 0)])), (ln, .inl (g.2.1 2, 25, .inr (.inl ((fun _ => 0)))))] : va_W) ++ pl) := hD
  exact mp_vret hx hb hr hlk hP hD hS pl ⟨trivial, hO⟩ [0, 1] rfl rfl rfl (by omega) (by omega) dSP_start_31
set_option maxHeartbeats 400000 in
set_option maxRecDepth 100000 in
theorem x_SP_start_1 (l : Launch) (g : Gd) (sz : Nat) (T : Ty) (xs : List Nat) (pl : va_W) (hO : okx g T xs pl) (hU : uni T) (h0 ln rt ps : Nat) (x2 : Int32) (f : Nat → Int64)  : Met l y_SP_start w_SP_start ({ frames := 1, cells := 0, slots := 0, locals := 24 } : Room) (va_Pc [.ref h0, .int (nI 1)] (pr (en g) g.1 vcl sz (([(h0, .inr (3, [.ref ln, .int (nI rt), .int x2, .int (nI ps)])), (ln, .inl (g.2.1 2, 25, .inr (.inl f)))] : va_W) ++ pl))) (va_Qv (fun (u : va_W) => (True) ∧ okx g T xs u) (po g.1 vcl (va_A (([(h0, .inr (3, [.ref ln, .int (nI rt), .int x2, .int (nI ps)])), (ln, .inl (g.2.1 2, 25, .inr (.inl f)))] : va_W) ++ pl) sz) (fun (u : va_W) => ([(h0, .inr (3, [.ref ln, .int (nI 72), .int (nI 6), .int (nI 0)])), (ln, .inl (g.2.1 2, 25, .inr (.inl ((fun _ => 0)))))] : va_W) ++ u)) (va_A (([(h0, .inr (3, [.ref ln, .int (nI rt), .int x2, .int (nI ps)])), (ln, .inl (g.2.1 2, 25, .inr (.inl f)))] : va_W) ++ pl) sz)) 0 0 (va_A (([(h0, .inr (3, [.ref ln, .int (nI rt), .int x2, .int (nI ps)])), (ln, .inl (g.2.1 2, 25, .inr (.inl f)))] : va_W) ++ pl) sz) := by
  refine mc_entry (cc := c_SP_start) (maxL := 2) (ret := none) (by decide) rfl (Nat.le_of_ble_eq_true rfl) ?_
  intro p e s m args below meth c ls F hr hlk hnm hsz hP hD hE hA hl
  obtain ⟨hx, hb, hml, hown, hts⟩ := id F
  have hK := hE.1
  generalize va_A (([(h0, .inr (3, [.ref ln, .int (nI rt), .int x2, .int (nI ps)])), (ln, .inl (g.2.1 2, 25, .inr (.inl f)))] : va_W) ++ pl) sz = A at hD hE hA ⊢
  have hS : va_S A s.heap s.heap [] := va_S.rf
  have hl : lv_has ls 2 [(0, .ref h0), (1, .int (nI 1))] := hl
  refine lv_aload_n hx hb dSP_start_0 rfl (lv_at hl 0 rfl) ?_
  refine va_get (D := g.1) (ci := 3) (C := "LatticeKeys$Sponge") (T := T_SP) (N := 4) hx hb hts (wg_ft i_SP) hown hK hP 0 rfl rfl 0 (by decide) (hts _ (wg_t kw_59)) (fun _ h9 => h9) rfl dSP_start_1 ?_
  refine lv_lconst (v := 0) hx hb dSP_start_4 (by decide) ?_
  refine mp_v (cx := [(ln, .inl (g.2.1 2, 25, .inr (.inl f)))]) (wr := [(h0, .inr (3, [.ref ln, .int (nI rt), .int x2, .int (nI ps)]))]) hP hD hS hA [1] [0] rfl rfl rfl (by decide) (va_runS (As := [.ref ln, .long 0]) (rest := []) F (x_AR_fillJ l g _ T xs pl hO hU  0 ln f) (va_cwS 2 hts (wg_app (wg_c kw_582 (wg_c kw_583 (wg_c kw_21 wg_n))) kw_584) rfl rfl rfl (by decide +kernel) ⟨by decide, by decide⟩) (pp_S (en_ok g) hP hD hS hA hE [1] rfl rfl) rfl rfl hl.1 rfl (lv_room (Nat.le_of_ble_eq_true rfl)) dSP_start_5 ⟨by omega, by omega⟩) (fun  pl H locs hu21 hP hD hS => ?_)
  obtain ⟨hq21, hO⟩ := hu21
  have hP : va_P g.1 vcl (([(h0, .inr (3, [.ref ln, .int (nI rt), .int x2, .int (nI ps)])), (ln, .inl (g.2.1 2, 25, .inr (.inl ((fun _ => 0)))))] : va_W) ++ pl) _ := hP
  have hD : va_D _ (([(h0, .inr (3, [.ref ln, .int (nI rt), .int x2, .int (nI ps)])), (ln, .inl (g.2.1 2, 25, .inr (.inl ((fun _ => 0)))))] : va_W) ++ pl) := hD
  refine W.widen (k := 0) (n := 0) (by omega) (by omega) ?_
  refine lv_aload_n hx hb dSP_start_8 rfl (lv_at hl 0 rfl) ?_
  refine va_gets hx hb (hE.2.1 0 _ rfl).1 hS hown (hts _ (wg_t kw_55)) (fun _ h9 => h9) dSP_start_9 ?_
  refine lv_iload_n hx hb dSP_start_12 rfl (lv_at hl 1 rfl) ?_
  refine va_ti (v := .int (nI 72)) hx hb (hE.2.1 0 _ rfl).2 hS (vp_in_nI (by decide) (by decide)) (by decide +kernel) dSP_start_13 ?_
  refine va_put (D := g.1) (ci := 3) (v := .int (nI 72)) (ty := .int) (C := "LatticeKeys$Sponge") (T := T_SP) (N := 4) hx hb hts (wg_ft i_SP) ty_SP k_SP n_SP hown hK hP hD hS 0 rfl rfl 1 (by decide) (hts _ (wg_t kw_60)) (fun _ h9 => h9) rfl (by decide +kernel) rfl rfl (Nat.le_of_ble_eq_true rfl) dSP_start_14 (fun H locs hP hD hS => ?_)
  have hP : va_P g.1 vcl (([(h0, .inr (3, [.ref ln, .int (nI 72), .int x2, .int (nI ps)])), (ln, .inl (g.2.1 2, 25, .inr (.inl ((fun _ => 0)))))] : va_W) ++ pl) _ := hP
  have hD : va_D _ (([(h0, .inr (3, [.ref ln, .int (nI 72), .int x2, .int (nI ps)])), (ln, .inl (g.2.1 2, 25, .inr (.inl ((fun _ => 0)))))] : va_W) ++ pl) := hD
  refine lv_aload_n hx hb dSP_start_17 rfl (lv_at hl 0 rfl) ?_
  refine va_gets hx hb (hE.2.1 1 _ rfl).1 hS hown (hts _ (wg_t kw_57)) (fun _ h9 => h9) dSP_start_18 ?_
  refine lv_iload_n hx hb dSP_start_21 rfl (lv_at hl 1 rfl) ?_
  refine va_ti (v := .int (nI 6)) hx hb (hE.2.1 1 _ rfl).2 hS (vp_in_nI (by decide) (by decide)) (by decide +kernel) dSP_start_22 ?_
  refine va_put (D := g.1) (ci := 3) (v := .int (nI 6)) (ty := .int) (C := "LatticeKeys$Sponge") (T := T_SP) (N := 4) hx hb hts (wg_ft i_SP) ty_SP k_SP n_SP hown hK hP hD hS 0 rfl rfl 2 (by decide) (hts _ (wg_t kw_61)) (fun _ h9 => h9) rfl (by decide +kernel) rfl rfl (Nat.le_of_ble_eq_true rfl) dSP_start_23 (fun H locs hP hD hS => ?_)
  have hP : va_P g.1 vcl (([(h0, .inr (3, [.ref ln, .int (nI 72), .int (nI 6), .int (nI ps)])), (ln, .inl (g.2.1 2, 25, .inr (.inl ((fun _ => 0)))))] : va_W) ++ pl) _ := hP
  have hD : va_D _ (([(h0, .inr (3, [.ref ln, .int (nI 72), .int (nI 6), .int (nI ps)])), (ln, .inl (g.2.1 2, 25, .inr (.inl ((fun _ => 0)))))] : va_W) ++ pl) := hD
  refine lv_aload_n hx hb dSP_start_26 rfl (lv_at hl 0 rfl) ?_
  refine lv_iconst (v := nI 0) hx hb dSP_start_27 (by decide) ?_
  refine va_put (D := g.1) (ci := 3) (v := .int (nI 0)) (ty := .int) (C := "LatticeKeys$Sponge") (T := T_SP) (N := 4) hx hb hts (wg_ft i_SP) ty_SP k_SP n_SP hown hK hP hD hS 0 rfl rfl 3 (by decide) (hts _ (wg_t kw_62)) (fun _ h9 => h9) rfl (by decide +kernel) rfl rfl (Nat.le_of_ble_eq_true rfl) dSP_start_28 (fun H locs hP hD hS => ?_)
  have hP : va_P g.1 vcl (([(h0, .inr (3, [.ref ln, .int (nI 72), .int (nI 6), .int (nI 0)])), (ln, .inl (g.2.1 2, 25, .inr (.inl ((fun _ => 0)))))] : va_W) ++ pl) _ := hP
  have hD : va_D _ (([(h0, .inr (3, [.ref ln, .int (nI 72), .int (nI 6), .int (nI 0)])), (ln, .inl (g.2.1 2, 25, .inr (.inl ((fun _ => 0)))))] : va_W) ++ pl) := hD
  exact mp_vret hx hb hr hlk hP hD hS pl ⟨trivial, hO⟩ [0, 1] rfl rfl rfl (by omega) (by omega) dSP_start_31
set_option maxHeartbeats 400000 in
set_option maxRecDepth 100000 in
theorem x_SP_start_2 (l : Launch) (g : Gd) (sz : Nat) (T : Ty) (xs : List Nat) (pl : va_W) (hO : okx g T xs pl) (hU : uni T) (h0 ln rt ps : Nat) (x2 : Int32) (f : Nat → Int64)  : Met l y_SP_start w_SP_start ({ frames := 1, cells := 0, slots := 0, locals := 24 } : Room) (va_Pc [.ref h0, .int (nI 2)] (pr (en g) g.1 vcl sz (([(h0, .inr (3, [.ref ln, .int (nI rt), .int x2, .int (nI ps)])), (ln, .inl (g.2.1 2, 25, .inr (.inl f)))] : va_W) ++ pl))) (va_Qv (fun (u : va_W) => (True) ∧ okx g T xs u) (po g.1 vcl (va_A (([(h0, .inr (3, [.ref ln, .int (nI rt), .int x2, .int (nI ps)])), (ln, .inl (g.2.1 2, 25, .inr (.inl f)))] : va_W) ++ pl) sz) (fun (u : va_W) => ([(h0, .inr (3, [.ref ln, .int (nI 168), .int (nI 31), .int (nI 0)])), (ln, .inl (g.2.1 2, 25, .inr (.inl ((fun _ => 0)))))] : va_W) ++ u)) (va_A (([(h0, .inr (3, [.ref ln, .int (nI rt), .int x2, .int (nI ps)])), (ln, .inl (g.2.1 2, 25, .inr (.inl f)))] : va_W) ++ pl) sz)) 0 0 (va_A (([(h0, .inr (3, [.ref ln, .int (nI rt), .int x2, .int (nI ps)])), (ln, .inl (g.2.1 2, 25, .inr (.inl f)))] : va_W) ++ pl) sz) := by
  refine mc_entry (cc := c_SP_start) (maxL := 2) (ret := none) (by decide) rfl (Nat.le_of_ble_eq_true rfl) ?_
  intro p e s m args below meth c ls F hr hlk hnm hsz hP hD hE hA hl
  obtain ⟨hx, hb, hml, hown, hts⟩ := id F
  have hK := hE.1
  generalize va_A (([(h0, .inr (3, [.ref ln, .int (nI rt), .int x2, .int (nI ps)])), (ln, .inl (g.2.1 2, 25, .inr (.inl f)))] : va_W) ++ pl) sz = A at hD hE hA ⊢
  have hS : va_S A s.heap s.heap [] := va_S.rf
  have hl : lv_has ls 2 [(0, .ref h0), (1, .int (nI 2))] := hl
  refine lv_aload_n hx hb dSP_start_0 rfl (lv_at hl 0 rfl) ?_
  refine va_get (D := g.1) (ci := 3) (C := "LatticeKeys$Sponge") (T := T_SP) (N := 4) hx hb hts (wg_ft i_SP) hown hK hP 0 rfl rfl 0 (by decide) (hts _ (wg_t kw_59)) (fun _ h9 => h9) rfl dSP_start_1 ?_
  refine lv_lconst (v := 0) hx hb dSP_start_4 (by decide) ?_
  refine mp_v (cx := [(ln, .inl (g.2.1 2, 25, .inr (.inl f)))]) (wr := [(h0, .inr (3, [.ref ln, .int (nI rt), .int x2, .int (nI ps)]))]) hP hD hS hA [1] [0] rfl rfl rfl (by decide) (va_runS (As := [.ref ln, .long 0]) (rest := []) F (x_AR_fillJ l g _ T xs pl hO hU  0 ln f) (va_cwS 2 hts (wg_app (wg_c kw_582 (wg_c kw_583 (wg_c kw_21 wg_n))) kw_584) rfl rfl rfl (by decide +kernel) ⟨by decide, by decide⟩) (pp_S (en_ok g) hP hD hS hA hE [1] rfl rfl) rfl rfl hl.1 rfl (lv_room (Nat.le_of_ble_eq_true rfl)) dSP_start_5 ⟨by omega, by omega⟩) (fun  pl H locs hu21 hP hD hS => ?_)
  obtain ⟨hq21, hO⟩ := hu21
  have hP : va_P g.1 vcl (([(h0, .inr (3, [.ref ln, .int (nI rt), .int x2, .int (nI ps)])), (ln, .inl (g.2.1 2, 25, .inr (.inl ((fun _ => 0)))))] : va_W) ++ pl) _ := hP
  have hD : va_D _ (([(h0, .inr (3, [.ref ln, .int (nI rt), .int x2, .int (nI ps)])), (ln, .inl (g.2.1 2, 25, .inr (.inl ((fun _ => 0)))))] : va_W) ++ pl) := hD
  refine W.widen (k := 0) (n := 0) (by omega) (by omega) ?_
  refine lv_aload_n hx hb dSP_start_8 rfl (lv_at hl 0 rfl) ?_
  refine va_gets hx hb (hE.2.1 0 _ rfl).1 hS hown (hts _ (wg_t kw_55)) (fun _ h9 => h9) dSP_start_9 ?_
  refine lv_iload_n hx hb dSP_start_12 rfl (lv_at hl 1 rfl) ?_
  refine va_ti (v := .int (nI 168)) hx hb (hE.2.1 0 _ rfl).2 hS (vp_in_nI (by decide) (by decide)) (by decide +kernel) dSP_start_13 ?_
  refine va_put (D := g.1) (ci := 3) (v := .int (nI 168)) (ty := .int) (C := "LatticeKeys$Sponge") (T := T_SP) (N := 4) hx hb hts (wg_ft i_SP) ty_SP k_SP n_SP hown hK hP hD hS 0 rfl rfl 1 (by decide) (hts _ (wg_t kw_60)) (fun _ h9 => h9) rfl (by decide +kernel) rfl rfl (Nat.le_of_ble_eq_true rfl) dSP_start_14 (fun H locs hP hD hS => ?_)
  have hP : va_P g.1 vcl (([(h0, .inr (3, [.ref ln, .int (nI 168), .int x2, .int (nI ps)])), (ln, .inl (g.2.1 2, 25, .inr (.inl ((fun _ => 0)))))] : va_W) ++ pl) _ := hP
  have hD : va_D _ (([(h0, .inr (3, [.ref ln, .int (nI 168), .int x2, .int (nI ps)])), (ln, .inl (g.2.1 2, 25, .inr (.inl ((fun _ => 0)))))] : va_W) ++ pl) := hD
  refine lv_aload_n hx hb dSP_start_17 rfl (lv_at hl 0 rfl) ?_
  refine va_gets hx hb (hE.2.1 1 _ rfl).1 hS hown (hts _ (wg_t kw_57)) (fun _ h9 => h9) dSP_start_18 ?_
  refine lv_iload_n hx hb dSP_start_21 rfl (lv_at hl 1 rfl) ?_
  refine va_ti (v := .int (nI 31)) hx hb (hE.2.1 1 _ rfl).2 hS (vp_in_nI (by decide) (by decide)) (by decide +kernel) dSP_start_22 ?_
  refine va_put (D := g.1) (ci := 3) (v := .int (nI 31)) (ty := .int) (C := "LatticeKeys$Sponge") (T := T_SP) (N := 4) hx hb hts (wg_ft i_SP) ty_SP k_SP n_SP hown hK hP hD hS 0 rfl rfl 2 (by decide) (hts _ (wg_t kw_61)) (fun _ h9 => h9) rfl (by decide +kernel) rfl rfl (Nat.le_of_ble_eq_true rfl) dSP_start_23 (fun H locs hP hD hS => ?_)
  have hP : va_P g.1 vcl (([(h0, .inr (3, [.ref ln, .int (nI 168), .int (nI 31), .int (nI ps)])), (ln, .inl (g.2.1 2, 25, .inr (.inl ((fun _ => 0)))))] : va_W) ++ pl) _ := hP
  have hD : va_D _ (([(h0, .inr (3, [.ref ln, .int (nI 168), .int (nI 31), .int (nI ps)])), (ln, .inl (g.2.1 2, 25, .inr (.inl ((fun _ => 0)))))] : va_W) ++ pl) := hD
  refine lv_aload_n hx hb dSP_start_26 rfl (lv_at hl 0 rfl) ?_
  refine lv_iconst (v := nI 0) hx hb dSP_start_27 (by decide) ?_
  refine va_put (D := g.1) (ci := 3) (v := .int (nI 0)) (ty := .int) (C := "LatticeKeys$Sponge") (T := T_SP) (N := 4) hx hb hts (wg_ft i_SP) ty_SP k_SP n_SP hown hK hP hD hS 0 rfl rfl 3 (by decide) (hts _ (wg_t kw_62)) (fun _ h9 => h9) rfl (by decide +kernel) rfl rfl (Nat.le_of_ble_eq_true rfl) dSP_start_28 (fun H locs hP hD hS => ?_)
  have hP : va_P g.1 vcl (([(h0, .inr (3, [.ref ln, .int (nI 168), .int (nI 31), .int (nI 0)])), (ln, .inl (g.2.1 2, 25, .inr (.inl ((fun _ => 0)))))] : va_W) ++ pl) _ := hP
  have hD : va_D _ (([(h0, .inr (3, [.ref ln, .int (nI 168), .int (nI 31), .int (nI 0)])), (ln, .inl (g.2.1 2, 25, .inr (.inl ((fun _ => 0)))))] : va_W) ++ pl) := hD
  exact mp_vret hx hb hr hlk hP hD hS pl ⟨trivial, hO⟩ [0, 1] rfl rfl rfl (by omega) (by omega) dSP_start_31
set_option maxHeartbeats 400000 in
set_option maxRecDepth 100000 in
theorem x_SP_start_3 (l : Launch) (g : Gd) (sz : Nat) (T : Ty) (xs : List Nat) (pl : va_W) (hO : okx g T xs pl) (hU : uni T) (h0 ln rt ps : Nat) (x2 : Int32) (f : Nat → Int64)  : Met l y_SP_start w_SP_start ({ frames := 1, cells := 0, slots := 0, locals := 24 } : Room) (va_Pc [.ref h0, .int (nI 3)] (pr (en g) g.1 vcl sz (([(h0, .inr (3, [.ref ln, .int (nI rt), .int x2, .int (nI ps)])), (ln, .inl (g.2.1 2, 25, .inr (.inl f)))] : va_W) ++ pl))) (va_Qv (fun (u : va_W) => (True) ∧ okx g T xs u) (po g.1 vcl (va_A (([(h0, .inr (3, [.ref ln, .int (nI rt), .int x2, .int (nI ps)])), (ln, .inl (g.2.1 2, 25, .inr (.inl f)))] : va_W) ++ pl) sz) (fun (u : va_W) => ([(h0, .inr (3, [.ref ln, .int (nI 136), .int (nI 31), .int (nI 0)])), (ln, .inl (g.2.1 2, 25, .inr (.inl ((fun _ => 0)))))] : va_W) ++ u)) (va_A (([(h0, .inr (3, [.ref ln, .int (nI rt), .int x2, .int (nI ps)])), (ln, .inl (g.2.1 2, 25, .inr (.inl f)))] : va_W) ++ pl) sz)) 0 0 (va_A (([(h0, .inr (3, [.ref ln, .int (nI rt), .int x2, .int (nI ps)])), (ln, .inl (g.2.1 2, 25, .inr (.inl f)))] : va_W) ++ pl) sz) := by
  refine mc_entry (cc := c_SP_start) (maxL := 2) (ret := none) (by decide) rfl (Nat.le_of_ble_eq_true rfl) ?_
  intro p e s m args below meth c ls F hr hlk hnm hsz hP hD hE hA hl
  obtain ⟨hx, hb, hml, hown, hts⟩ := id F
  have hK := hE.1
  generalize va_A (([(h0, .inr (3, [.ref ln, .int (nI rt), .int x2, .int (nI ps)])), (ln, .inl (g.2.1 2, 25, .inr (.inl f)))] : va_W) ++ pl) sz = A at hD hE hA ⊢
  have hS : va_S A s.heap s.heap [] := va_S.rf
  have hl : lv_has ls 2 [(0, .ref h0), (1, .int (nI 3))] := hl
  refine lv_aload_n hx hb dSP_start_0 rfl (lv_at hl 0 rfl) ?_
  refine va_get (D := g.1) (ci := 3) (C := "LatticeKeys$Sponge") (T := T_SP) (N := 4) hx hb hts (wg_ft i_SP) hown hK hP 0 rfl rfl 0 (by decide) (hts _ (wg_t kw_59)) (fun _ h9 => h9) rfl dSP_start_1 ?_
  refine lv_lconst (v := 0) hx hb dSP_start_4 (by decide) ?_
  refine mp_v (cx := [(ln, .inl (g.2.1 2, 25, .inr (.inl f)))]) (wr := [(h0, .inr (3, [.ref ln, .int (nI rt), .int x2, .int (nI ps)]))]) hP hD hS hA [1] [0] rfl rfl rfl (by decide) (va_runS (As := [.ref ln, .long 0]) (rest := []) F (x_AR_fillJ l g _ T xs pl hO hU  0 ln f) (va_cwS 2 hts (wg_app (wg_c kw_582 (wg_c kw_583 (wg_c kw_21 wg_n))) kw_584) rfl rfl rfl (by decide +kernel) ⟨by decide, by decide⟩) (pp_S (en_ok g) hP hD hS hA hE [1] rfl rfl) rfl rfl hl.1 rfl (lv_room (Nat.le_of_ble_eq_true rfl)) dSP_start_5 ⟨by omega, by omega⟩) (fun  pl H locs hu21 hP hD hS => ?_)
  obtain ⟨hq21, hO⟩ := hu21
  have hP : va_P g.1 vcl (([(h0, .inr (3, [.ref ln, .int (nI rt), .int x2, .int (nI ps)])), (ln, .inl (g.2.1 2, 25, .inr (.inl ((fun _ => 0)))))] : va_W) ++ pl) _ := hP
  have hD : va_D _ (([(h0, .inr (3, [.ref ln, .int (nI rt), .int x2, .int (nI ps)])), (ln, .inl (g.2.1 2, 25, .inr (.inl ((fun _ => 0)))))] : va_W) ++ pl) := hD
  refine W.widen (k := 0) (n := 0) (by omega) (by omega) ?_
  refine lv_aload_n hx hb dSP_start_8 rfl (lv_at hl 0 rfl) ?_
  refine va_gets hx hb (hE.2.1 0 _ rfl).1 hS hown (hts _ (wg_t kw_55)) (fun _ h9 => h9) dSP_start_9 ?_
  refine lv_iload_n hx hb dSP_start_12 rfl (lv_at hl 1 rfl) ?_
  refine va_ti (v := .int (nI 136)) hx hb (hE.2.1 0 _ rfl).2 hS (vp_in_nI (by decide) (by decide)) (by decide +kernel) dSP_start_13 ?_
  refine va_put (D := g.1) (ci := 3) (v := .int (nI 136)) (ty := .int) (C := "LatticeKeys$Sponge") (T := T_SP) (N := 4) hx hb hts (wg_ft i_SP) ty_SP k_SP n_SP hown hK hP hD hS 0 rfl rfl 1 (by decide) (hts _ (wg_t kw_60)) (fun _ h9 => h9) rfl (by decide +kernel) rfl rfl (Nat.le_of_ble_eq_true rfl) dSP_start_14 (fun H locs hP hD hS => ?_)
  have hP : va_P g.1 vcl (([(h0, .inr (3, [.ref ln, .int (nI 136), .int x2, .int (nI ps)])), (ln, .inl (g.2.1 2, 25, .inr (.inl ((fun _ => 0)))))] : va_W) ++ pl) _ := hP
  have hD : va_D _ (([(h0, .inr (3, [.ref ln, .int (nI 136), .int x2, .int (nI ps)])), (ln, .inl (g.2.1 2, 25, .inr (.inl ((fun _ => 0)))))] : va_W) ++ pl) := hD
  refine lv_aload_n hx hb dSP_start_17 rfl (lv_at hl 0 rfl) ?_
  refine va_gets hx hb (hE.2.1 1 _ rfl).1 hS hown (hts _ (wg_t kw_57)) (fun _ h9 => h9) dSP_start_18 ?_
  refine lv_iload_n hx hb dSP_start_21 rfl (lv_at hl 1 rfl) ?_
  refine va_ti (v := .int (nI 31)) hx hb (hE.2.1 1 _ rfl).2 hS (vp_in_nI (by decide) (by decide)) (by decide +kernel) dSP_start_22 ?_
  refine va_put (D := g.1) (ci := 3) (v := .int (nI 31)) (ty := .int) (C := "LatticeKeys$Sponge") (T := T_SP) (N := 4) hx hb hts (wg_ft i_SP) ty_SP k_SP n_SP hown hK hP hD hS 0 rfl rfl 2 (by decide) (hts _ (wg_t kw_61)) (fun _ h9 => h9) rfl (by decide +kernel) rfl rfl (Nat.le_of_ble_eq_true rfl) dSP_start_23 (fun H locs hP hD hS => ?_)
  have hP : va_P g.1 vcl (([(h0, .inr (3, [.ref ln, .int (nI 136), .int (nI 31), .int (nI ps)])), (ln, .inl (g.2.1 2, 25, .inr (.inl ((fun _ => 0)))))] : va_W) ++ pl) _ := hP
  have hD : va_D _ (([(h0, .inr (3, [.ref ln, .int (nI 136), .int (nI 31), .int (nI ps)])), (ln, .inl (g.2.1 2, 25, .inr (.inl ((fun _ => 0)))))] : va_W) ++ pl) := hD
  refine lv_aload_n hx hb dSP_start_26 rfl (lv_at hl 0 rfl) ?_
  refine lv_iconst (v := nI 0) hx hb dSP_start_27 (by decide) ?_
  refine va_put (D := g.1) (ci := 3) (v := .int (nI 0)) (ty := .int) (C := "LatticeKeys$Sponge") (T := T_SP) (N := 4) hx hb hts (wg_ft i_SP) ty_SP k_SP n_SP hown hK hP hD hS 0 rfl rfl 3 (by decide) (hts _ (wg_t kw_62)) (fun _ h9 => h9) rfl (by decide +kernel) rfl rfl (Nat.le_of_ble_eq_true rfl) dSP_start_28 (fun H locs hP hD hS => ?_)
  have hP : va_P g.1 vcl (([(h0, .inr (3, [.ref ln, .int (nI 136), .int (nI 31), .int (nI 0)])), (ln, .inl (g.2.1 2, 25, .inr (.inl ((fun _ => 0)))))] : va_W) ++ pl) _ := hP
  have hD : va_D _ (([(h0, .inr (3, [.ref ln, .int (nI 136), .int (nI 31), .int (nI 0)])), (ln, .inl (g.2.1 2, 25, .inr (.inl ((fun _ => 0)))))] : va_W) ++ pl) := hD
  exact mp_vret hx hb hr hlk hP hD hS pl ⟨trivial, hO⟩ [0, 1] rfl rfl rfl (by omega) (by omega) dSP_start_31
set_option maxHeartbeats 400000 in
set_option maxRecDepth 100000 in
theorem x_SP_absorbByte (l : Launch) (g : Gd) (sz : Nat) (T : Ty) (xs : List Nat) (pl : va_W) (hO : okx g T xs pl) (hU : uni T) (v : Int32) (h0 ln rt ps : Nat) (x2 : Int32) (f : Nat → Int64) (hrt : 0 < rt ∧ rt < 200) (hps : ps < rt)  : Met l y_SP_absorbByte w_SP_absorbByte ({ frames := 1, cells := 0, slots := 0, locals := 55 } : Room) (va_Pc [.ref h0, .int v] (pr (en g) g.1 vcl sz (([(h0, .inr (3, [.ref ln, .int (nI rt), .int x2, .int (nI ps)])), (ln, .inl (g.2.1 2, 25, .inr (.inl f)))] : va_W) ++ pl))) (va_Qv (fun (u : va_W) => (True) ∧ okx g T xs u) (po g.1 vcl (va_A (([(h0, .inr (3, [.ref ln, .int (nI rt), .int x2, .int (nI ps)])), (ln, .inl (g.2.1 2, 25, .inr (.inl f)))] : va_W) ++ pl) sz) (fun (u : va_W) => ([(h0, .inr (3, [.ref ln, .int (nI rt), .int x2, .int (nI ((abF rt (f, ps) v).2))])), (ln, .inl (g.2.1 2, 25, .inr (.inl (((abF rt (f, ps) v).1)))))] : va_W) ++ u)) (va_A (([(h0, .inr (3, [.ref ln, .int (nI rt), .int x2, .int (nI ps)])), (ln, .inl (g.2.1 2, 25, .inr (.inl f)))] : va_W) ++ pl) sz)) 0 0 (va_A (([(h0, .inr (3, [.ref ln, .int (nI rt), .int x2, .int (nI ps)])), (ln, .inl (g.2.1 2, 25, .inr (.inl f)))] : va_W) ++ pl) sz) := by
  refine mc_entry (cc := c_SP_absorbByte) (maxL := 2) (ret := none) (by decide) rfl (Nat.le_of_ble_eq_true rfl) ?_
  intro p e s m args below meth c ls F hr hlk hnm hsz hP hD hE hA hl
  obtain ⟨hx, hb, hml, hown, hts⟩ := id F
  have hK := hE.1
  generalize va_A (([(h0, .inr (3, [.ref ln, .int (nI rt), .int x2, .int (nI ps)])), (ln, .inl (g.2.1 2, 25, .inr (.inl f)))] : va_W) ++ pl) sz = A at hD hE hA ⊢
  have hS : va_S A s.heap s.heap [] := va_S.rf
  have hl : lv_has ls 2 [(0, .ref h0), (1, .int v)] := hl
  refine lv_aload_n hx hb dSP_absorbByte_0 rfl (lv_at hl 0 rfl) ?_
  refine lv_aload_n hx hb dSP_absorbByte_1 rfl (lv_at hl 0 rfl) ?_
  refine va_get (D := g.1) (ci := 3) (C := "LatticeKeys$Sponge") (T := T_SP) (N := 4) hx hb hts (wg_ft i_SP) hown hK hP 0 rfl rfl 3 (by decide) (hts _ (wg_t kw_62)) (fun _ h9 => h9) rfl dSP_absorbByte_2 ?_
  refine lv_iload_n hx hb dSP_absorbByte_5 rfl (lv_at hl 1 rfl) ?_
  refine mp_v (cx := [(h0, .inr (3, [.ref ln, .int (nI rt), .int x2, .int (nI ps)])), (ln, .inl (g.2.1 2, 25, .inr (.inl f)))]) (wr := []) hP hD hS hA [0, 1] [] rfl rfl rfl (by decide) (va_runV (As := [.int (nI ps), .int v]) (rest := []) F (x_SP_mixIn l g _ T xs pl hO hU  ps v h0 ln (nI rt) x2 (nI ps) f (by omega)) (cwV 2 hts (wg_app (wg_c kw_593 (wg_c kw_595 (wg_c ks_4 (wg_c kw_2 wg_n)))) kw_596) rfl rfl rfl (by decide +kernel) ⟨by decide, by decide⟩) (pp_W "LatticeKeys$Sponge" (en_ok g) (q0 := 0) hK hP hD hS hA hE [0, 1] rfl rfl rfl rfl) rfl rfl hl.1 rfl (lv_room (Nat.le_of_ble_eq_true rfl)) dSP_absorbByte_6 ⟨by omega, by omega⟩) (fun  pl H locs hu21 hP hD hS => ?_)
  obtain ⟨hq21, hO⟩ := hu21
  have hP : va_P g.1 vcl (([(h0, .inr (3, [.ref ln, .int (nI rt), .int x2, .int (nI ps)])), (ln, .inl (g.2.1 2, 25, .inr (.inl ((mxB f ps v)))))] : va_W) ++ pl) _ := hP
  have hD : va_D _ (([(h0, .inr (3, [.ref ln, .int (nI rt), .int x2, .int (nI ps)])), (ln, .inl (g.2.1 2, 25, .inr (.inl ((mxB f ps v)))))] : va_W) ++ pl) := hD
  refine W.widen (k := 0) (n := 0) (by omega) (by omega) ?_
  refine lv_aload_n hx hb dSP_absorbByte_9 rfl (lv_at hl 0 rfl) ?_
  refine lv_dup hx hb dSP_absorbByte_10 rfl ?_
  refine va_get (D := g.1) (ci := 3) (C := "LatticeKeys$Sponge") (T := T_SP) (N := 4) hx hb hts (wg_ft i_SP) hown hK hP 0 rfl rfl 3 (by decide) (hts _ (wg_t kw_62)) (fun _ h9 => h9) rfl dSP_absorbByte_11 ?_
  refine lv_iconst (v := nI 1) hx hb dSP_absorbByte_14 (by decide) ?_
  refine mi_iadd hx hb dSP_absorbByte_15 ?_
  refine va_put (D := g.1) (ci := 3) (v := .int (nI (ps + 1))) (ty := .int) (C := "LatticeKeys$Sponge") (T := T_SP) (N := 4) hx hb hts (wg_ft i_SP) ty_SP k_SP n_SP hown hK hP hD hS 0 rfl rfl 3 (by decide) (hts _ (wg_t kw_62)) (fun _ h9 => h9) rfl (by decide +kernel) rfl rfl (Nat.le_of_ble_eq_true rfl) dSP_absorbByte_16 (fun H locs hP hD hS => ?_)
  have hP : va_P g.1 vcl (([(h0, .inr (3, [.ref ln, .int (nI rt), .int x2, .int (nI (ps + 1))])), (ln, .inl (g.2.1 2, 25, .inr (.inl ((mxB f ps v)))))] : va_W) ++ pl) _ := hP
  have hD : va_D _ (([(h0, .inr (3, [.ref ln, .int (nI rt), .int x2, .int (nI (ps + 1))])), (ln, .inl (g.2.1 2, 25, .inr (.inl ((mxB f ps v)))))] : va_W) ++ pl) := hD
  refine lv_aload_n hx hb dSP_absorbByte_19 rfl (lv_at hl 0 rfl) ?_
  refine va_get (D := g.1) (ci := 3) (C := "LatticeKeys$Sponge") (T := T_SP) (N := 4) hx hb hts (wg_ft i_SP) hown hK hP 0 rfl rfl 3 (by decide) (hts _ (wg_t kw_62)) (fun _ h9 => h9) rfl dSP_absorbByte_20 ?_
  refine lv_aload_n hx hb dSP_absorbByte_23 rfl (lv_at hl 0 rfl) ?_
  refine va_get (D := g.1) (ci := 3) (C := "LatticeKeys$Sponge") (T := T_SP) (N := 4) hx hb hts (wg_ft i_SP) hown hK hP 0 rfl rfl 1 (by decide) (hts _ (wg_t kw_60)) (fun _ h9 => h9) rfl dSP_absorbByte_24 ?_
  refine mi_ne (tgt := 39) hx hb dSP_absorbByte_27 (by decide) (by omega) (by omega) (fun h21 => ?_) (fun h21 => ?_)
  · rw [show abF rt (f, ps) v = (mxB f ps v, ps + 1) from if_neg (show ¬ ps + 1 = rt by omega)]
    exact mp_vret hx hb hr hlk hP hD hS pl ⟨trivial, hO⟩ [0, 1] rfl rfl rfl (by omega) (by omega) dSP_absorbByte_39
  · rw [show abF rt (f, ps) v = (prm (mxB f ps v), 0) from if_pos (show ps + 1 = rt by omega)]
    refine lv_aload_n hx hb dSP_absorbByte_30 rfl (lv_at hl 0 rfl) ?_
    refine mp_v (cx := [(h0, .inr (3, [.ref ln, .int (nI rt), .int x2, .int (nI (ps + 1))])), (ln, .inl (g.2.1 2, 25, .inr (.inl ((mxB f ps v)))))]) (wr := []) hP hD hS hA [0, 1] [] rfl rfl rfl (by decide) (va_runV (As := []) (rest := []) F (x_SP_permute l g _ T xs pl hO hU  h0 ln (nI rt) x2 (nI (ps + 1)) (mxB f ps v)) (cwV 0 hts (wg_app (wg_c kw_598 (wg_c kw_600 (wg_c ks_5 (wg_c kw_2 wg_n)))) kw_601) rfl rfl rfl (by decide +kernel) ⟨by decide, by decide⟩) (pp_W "LatticeKeys$Sponge" (en_ok g) (q0 := 0) hK hP hD hS hA hE [0, 1] rfl rfl rfl rfl) rfl rfl hl.1 rfl (lv_room (Nat.le_of_ble_eq_true rfl)) dSP_absorbByte_31 ⟨by omega, by omega⟩) (fun  pl H locs hu22 hP hD hS => ?_)
    obtain ⟨hq22, hO⟩ := hu22
    have hP : va_P g.1 vcl (([(h0, .inr (3, [.ref ln, .int (nI rt), .int x2, .int (nI (ps + 1))])), (ln, .inl (g.2.1 2, 25, .inr (.inl ((prm (mxB f ps v))))))] : va_W) ++ pl) _ := hP
    have hD : va_D _ (([(h0, .inr (3, [.ref ln, .int (nI rt), .int x2, .int (nI (ps + 1))])), (ln, .inl (g.2.1 2, 25, .inr (.inl ((prm (mxB f ps v))))))] : va_W) ++ pl) := hD
    refine W.widen (k := 0) (n := 0) (by omega) (by omega) ?_
    refine lv_aload_n hx hb dSP_absorbByte_34 rfl (lv_at hl 0 rfl) ?_
    refine lv_iconst (v := nI 0) hx hb dSP_absorbByte_35 (by decide) ?_
    refine va_put (D := g.1) (ci := 3) (v := .int (nI 0)) (ty := .int) (C := "LatticeKeys$Sponge") (T := T_SP) (N := 4) hx hb hts (wg_ft i_SP) ty_SP k_SP n_SP hown hK hP hD hS 0 rfl rfl 3 (by decide) (hts _ (wg_t kw_62)) (fun _ h9 => h9) rfl (by decide +kernel) rfl rfl (Nat.le_of_ble_eq_true rfl) dSP_absorbByte_36 (fun H locs hP hD hS => ?_)
    have hP : va_P g.1 vcl (([(h0, .inr (3, [.ref ln, .int (nI rt), .int x2, .int (nI 0)])), (ln, .inl (g.2.1 2, 25, .inr (.inl ((prm (mxB f ps v))))))] : va_W) ++ pl) _ := hP
    have hD : va_D _ (([(h0, .inr (3, [.ref ln, .int (nI rt), .int x2, .int (nI 0)])), (ln, .inl (g.2.1 2, 25, .inr (.inl ((prm (mxB f ps v))))))] : va_W) ++ pl) := hD
    exact mp_vret hx hb hr hlk hP hD hS pl ⟨trivial, hO⟩ [0, 1] rfl rfl rfl (by omega) (by omega) dSP_absorbByte_39
set_option maxHeartbeats 400000 in
set_option maxRecDepth 100000 in
theorem x_SP_absorb (l : Launch) (g : Gd) (sz : Nat) (T : Ty) (xs : List Nat) (pl : va_W) (hO : okx g T xs pl) (hU : uni T) (at_ len : Nat) (h0 ln rt ps b nb : Nat) (x2 : Int32) (f : Nat → Int64) (fb : Nat → Int32) (hrt : 0 < rt ∧ rt < 200) (hps : ps < rt) (h1 : at_ + len ≤ nb) (h2 : nb < 65536)  : Met l y_SP_absorb w_SP_absorb ({ frames := 2, cells := 0, slots := 0, locals := 76 } : Room) (va_Pc [.ref h0, .ref b, .int (nI at_), .int (nI len)] (pr (en g) g.1 vcl sz (([(h0, .inr (3, [.ref ln, .int (nI rt), .int x2, .int (nI ps)])), (ln, .inl (g.2.1 2, 25, .inr (.inl f))), (b, .inl (g.2.1 1, nb, .inl fb))] : va_W) ++ pl))) (va_Qv (fun (u : va_W) => (True) ∧ okx g T xs u) (po g.1 vcl (va_A (([(h0, .inr (3, [.ref ln, .int (nI rt), .int x2, .int (nI ps)])), (ln, .inl (g.2.1 2, 25, .inr (.inl f))), (b, .inl (g.2.1 1, nb, .inl fb))] : va_W) ++ pl) sz) (fun (u : va_W) => ([(h0, .inr (3, [.ref ln, .int (nI rt), .int x2, .int (nI ((abN rt (f, ps) fb at_ len).2))])), (ln, .inl (g.2.1 2, 25, .inr (.inl (((abN rt (f, ps) fb at_ len).1))))), (b, .inl (g.2.1 1, nb, .inl fb))] : va_W) ++ u)) (va_A (([(h0, .inr (3, [.ref ln, .int (nI rt), .int x2, .int (nI ps)])), (ln, .inl (g.2.1 2, 25, .inr (.inl f))), (b, .inl (g.2.1 1, nb, .inl fb))] : va_W) ++ pl) sz)) 0 0 (va_A (([(h0, .inr (3, [.ref ln, .int (nI rt), .int x2, .int (nI ps)])), (ln, .inl (g.2.1 2, 25, .inr (.inl f))), (b, .inl (g.2.1 1, nb, .inl fb))] : va_W) ++ pl) sz) := by
  refine mc_entry (cc := c_SP_absorb) (maxL := 5) (ret := none) (by decide) rfl (Nat.le_of_ble_eq_true rfl) ?_
  intro p e s m args below meth c ls F hr hlk hnm hsz hP hD hE hA hl
  obtain ⟨hx, hb, hml, hown, hts⟩ := id F
  have hK := hE.1
  generalize va_A (([(h0, .inr (3, [.ref ln, .int (nI rt), .int x2, .int (nI ps)])), (ln, .inl (g.2.1 2, 25, .inr (.inl f))), (b, .inl (g.2.1 1, nb, .inl fb))] : va_W) ++ pl) sz = A at hD hE hA ⊢
  have hS : va_S A s.heap s.heap [] := va_S.rf
  have hl : lv_has ls 5 [(0, .ref h0), (1, .ref b), (2, .int (nI at_)), (3, .int (nI len))] := hl
  refine lv_iconst (v := nI 0) hx hb dSP_absorb_0 (by decide) ?_
  refine lv_istore (lv' := [(4, .int (nI 0)), (0, .ref h0), (1, .ref b), (2, .int (nI at_)), (3, .int (nI len))]) hx hb dSP_absorb_1 hl (by decide) rfl (fun ls hl => ?_)
  have lp21 : ∀ (n21 : Nat) (i21 : Nat) (pl : va_W) (ls : Array Slot) (H : Heap) (locs : List Loc), n21 + i21 = len → lv_has ls 5 [(4, .int (nI i21)), (0, .ref h0), (1, .ref b), (2, .int (nI at_)), (3, .int (nI len))] → okx g T xs pl → va_P g.1 vcl (([(h0, .inr (3, [.ref ln, .int (nI rt), .int x2, .int (nI ((abN rt (f, ps) fb at_ i21).2))])), (ln, .inl (g.2.1 2, 25, .inr (.inl (((abN rt (f, ps) fb at_ i21).1))))), (b, .inl (g.2.1 1, nb, .inl fb))] : va_W) ++ pl) H → va_D A (([(h0, .inr (3, [.ref ln, .int (nI rt), .int x2, .int (nI ((abN rt (f, ps) fb at_ i21).2))])), (ln, .inl (g.2.1 2, 25, .inr (.inl (((abN rt (f, ps) fb at_ i21).1))))), (b, .inl (g.2.1 1, nb, .inl fb))] : va_W) ++ pl) → va_S A s.heap H locs → W p l e ({ frames := 2, cells := 0, slots := 0, locals := 76 } : Room) s m args below meth c H locs 0 0 (MQ below (va_Qv (fun (u : va_W) => (True) ∧ okx g T xs u) (po g.1 vcl A (fun (u : va_W) => ([(h0, .inr (3, [.ref ln, .int (nI rt), .int x2, .int (nI ((abN rt (f, ps) fb at_ len).2))])), (ln, .inl (g.2.1 2, 25, .inr (.inl (((abN rt (f, ps) fb at_ len).1))))), (b, .inl (g.2.1 1, nb, .inl fb))] : va_W) ++ u)) A) args s 0 0 A) (F0 m 3 ls []) := by
    intro n21
    induction n21 with
    | zero =>
      intro i21 pl ls H locs hm21  hl hO hP hD hS
      have hlt := abN_lt (rt := rt) (st := (f, ps)) (b := fb) (at_ := at_) hps i21
      refine lv_iload hx hb dSP_absorb_3 (lv_at hl 0 rfl) ?_
      refine lv_iload_n hx hb dSP_absorb_5 rfl (lv_at hl 4 rfl) ?_
      refine mi_ge (tgt := 25) hx hb dSP_absorb_6 (by decide) (by omega) (by omega) (fun h21 => ?_) (fun h21 => absurd h21 (by omega))
      obtain rfl : i21 = len := by omega
      exact mp_vret hx hb hr hlk hP hD hS pl ⟨trivial, hO⟩ [0, 1, 2] rfl rfl rfl (by omega) (by omega) dSP_absorb_25
    | succ n21 ih21 =>
      intro i21 pl ls H locs hm21  hl hO hP hD hS
      have hlt := abN_lt (rt := rt) (st := (f, ps)) (b := fb) (at_ := at_) hps i21
      refine lv_iload hx hb dSP_absorb_3 (lv_at hl 0 rfl) ?_
      refine lv_iload_n hx hb dSP_absorb_5 rfl (lv_at hl 4 rfl) ?_
      refine mi_ge (tgt := 25) hx hb dSP_absorb_6 (by decide) (by omega) (by omega) (fun h22 => absurd h22 (by omega)) (fun h22 => ?_)
      refine lv_aload_n hx hb dSP_absorb_9 rfl (lv_at hl 1 rfl) ?_
      refine lv_aload_n hx hb dSP_absorb_10 rfl (lv_at hl 2 rfl) ?_
      refine lv_iload_n hx hb dSP_absorb_11 rfl (lv_at hl 3 rfl) ?_
      refine lv_iload hx hb dSP_absorb_12 (lv_at hl 0 rfl) ?_
      refine mi_iadd hx hb dSP_absorb_14 ?_
      refine mp_bald hx hb hK hP 2 1 rfl rfl (by omega) (by omega) dSP_absorb_15 ?_
      refine mp_v (cx := [(h0, .inr (3, [.ref ln, .int (nI rt), .int x2, .int (nI ((abN rt (f, ps) fb at_ i21).2))])), (ln, .inl (g.2.1 2, 25, .inr (.inl (((abN rt (f, ps) fb at_ i21).1)))))]) (wr := [(b, .inl (g.2.1 1, nb, .inl fb))]) hP hD hS hA [0, 1] [2] rfl rfl rfl (by decide) (va_runV (As := [.int ((fb (at_ + i21)))]) (rest := []) F (x_SP_absorbByte l g _ T xs pl hO hU  ((fb (at_ + i21))) h0 ln rt ((abN rt (f, ps) fb at_ i21).2) x2 ((abN rt (f, ps) fb at_ i21).1) (by omega) (by omega)) (cwV 1 hts (wg_app (wg_c kw_589 (wg_c kw_590 (wg_c kw_591 (wg_c kw_2 wg_n)))) kw_592) rfl rfl rfl (by decide +kernel) ⟨by decide, by decide⟩) (pp_W "LatticeKeys$Sponge" (en_ok g) (q0 := 0) hK hP hD hS hA hE [0, 1] rfl rfl rfl rfl) rfl rfl hl.1 rfl (lv_room (Nat.le_of_ble_eq_true rfl)) dSP_absorb_16 ⟨by omega, by omega⟩) (fun  pl H locs hu21 hP hD hS => ?_)
      obtain ⟨hq21, hO⟩ := hu21
      have hP : va_P g.1 vcl (([(b, .inl (g.2.1 1, nb, .inl fb)), (h0, .inr (3, [.ref ln, .int (nI rt), .int x2, .int (nI ((abF rt (((abN rt (f, ps) fb at_ i21).1), (abN rt (f, ps) fb at_ i21).2) ((fb (at_ + i21)))).2))])), (ln, .inl (g.2.1 2, 25, .inr (.inl ((abF rt (((abN rt (f, ps) fb at_ i21).1), (abN rt (f, ps) fb at_ i21).2) ((fb (at_ + i21)))).1))))] : va_W) ++ pl) _ := hP
      have hD : va_D _ (([(b, .inl (g.2.1 1, nb, .inl fb)), (h0, .inr (3, [.ref ln, .int (nI rt), .int x2, .int (nI ((abF rt (((abN rt (f, ps) fb at_ i21).1), (abN rt (f, ps) fb at_ i21).2) ((fb (at_ + i21)))).2))])), (ln, .inl (g.2.1 2, 25, .inr (.inl ((abF rt (((abN rt (f, ps) fb at_ i21).1), (abN rt (f, ps) fb at_ i21).2) ((fb (at_ + i21)))).1))))] : va_W) ++ pl) := hD
      refine W.widen (k := 0) (n := 0) (by omega) (by omega) ?_
      refine mi_iinc (k := 0) (x := i21) (d := 1) (y := i21 + 1) (lv' := [(4, .int (nI (i21 + 1))), (0, .ref h0), (1, .ref b), (2, .int (nI at_)), (3, .int (nI len))]) hx hb dSP_absorb_19 hl rfl (by decide) rfl (by decide) rfl (fun ls hl => ?_)
      refine lv_goto (tgt := 3) hx hb dSP_absorb_22 (by decide) ?_
      have hP : va_P g.1 vcl (([(b, .inl (g.2.1 1, nb, .inl fb)), (h0, .inr (3, [.ref ln, .int (nI rt), .int x2, .int (nI ((abN rt (f, ps) fb at_ (i21 + 1)).2))])), (ln, .inl (g.2.1 2, 25, .inr (.inl (((abN rt (f, ps) fb at_ (i21 + 1)).1)))))] : va_W) ++ pl) _ := hP
      have hD : va_D _ (([(b, .inl (g.2.1 1, nb, .inl fb)), (h0, .inr (3, [.ref ln, .int (nI rt), .int x2, .int (nI ((abN rt (f, ps) fb at_ (i21 + 1)).2))])), (ln, .inl (g.2.1 2, 25, .inr (.inl (((abN rt (f, ps) fb at_ (i21 + 1)).1)))))] : va_W) ++ pl) := hD
      have hP : va_P g.1 vcl (([(h0, .inr (3, [.ref ln, .int (nI rt), .int x2, .int (nI ((abN rt (f, ps) fb at_ (i21 + 1)).2))])), (ln, .inl (g.2.1 2, 25, .inr (.inl (((abN rt (f, ps) fb at_ (i21 + 1)).1))))), (b, .inl (g.2.1 1, nb, .inl fb))] : va_W) ++ pl) _ := hP.part [1, 2, 0] rfl
      have hD : va_D _ (([(h0, .inr (3, [.ref ln, .int (nI rt), .int x2, .int (nI ((abN rt (f, ps) fb at_ (i21 + 1)).2))])), (ln, .inl (g.2.1 2, 25, .inr (.inl (((abN rt (f, ps) fb at_ (i21 + 1)).1))))), (b, .inl (g.2.1 1, nb, .inl fb))] : va_W) ++ pl) := hD.part [1, 2, 0] (by decide) rfl
      exact ih21 (i21 + 1) pl ls H locs (by omega) (lv_sub hl [0, 1, 2, 3, 4] rfl) hO hP hD hS
  exact lp21 len 0 pl ls _ _ (by omega) (lv_sub hl [0, 1, 2, 3, 4] rfl) hO hP hD hS
set_option maxHeartbeats 400000 in
set_option maxRecDepth 100000 in
theorem x_SP_finish (l : Launch) (g : Gd) (sz : Nat) (T : Ty) (xs : List Nat) (pl : va_W) (hO : okx g T xs pl) (hU : uni T) (h0 ln rt ps : Nat) (x2 : Int32) (f : Nat → Int64) (hrt : 0 < rt ∧ rt < 200) (hps : ps < rt)  : Met l y_SP_finish w_SP_finish ({ frames := 1, cells := 0, slots := 0, locals := 22 } : Room) (va_Pc [.ref h0] (pr (en g) g.1 vcl sz (([(h0, .inr (3, [.ref ln, .int (nI rt), .int x2, .int (nI ps)])), (ln, .inl (g.2.1 2, 25, .inr (.inl f)))] : va_W) ++ pl))) (va_Qv (fun (u : va_W) => (True) ∧ okx g T xs u) (po g.1 vcl (va_A (([(h0, .inr (3, [.ref ln, .int (nI rt), .int x2, .int (nI ps)])), (ln, .inl (g.2.1 2, 25, .inr (.inl f)))] : va_W) ++ pl) sz) (fun (u : va_W) => ([(h0, .inr (3, [.ref ln, .int (nI rt), .int x2, .int (nI rt)])), (ln, .inl (g.2.1 2, 25, .inr (.inl ((pdF rt (f, ps) x2)))))] : va_W) ++ u)) (va_A (([(h0, .inr (3, [.ref ln, .int (nI rt), .int x2, .int (nI ps)])), (ln, .inl (g.2.1 2, 25, .inr (.inl f)))] : va_W) ++ pl) sz)) 0 0 (va_A (([(h0, .inr (3, [.ref ln, .int (nI rt), .int x2, .int (nI ps)])), (ln, .inl (g.2.1 2, 25, .inr (.inl f)))] : va_W) ++ pl) sz) := by
  refine mc_entry (cc := c_SP_finish) (maxL := 1) (ret := none) (by decide) rfl (Nat.le_of_ble_eq_true rfl) ?_
  intro p e s m args below meth c ls F hr hlk hnm hsz hP hD hE hA hl
  obtain ⟨hx, hb, hml, hown, hts⟩ := id F
  have hK := hE.1
  generalize va_A (([(h0, .inr (3, [.ref ln, .int (nI rt), .int x2, .int (nI ps)])), (ln, .inl (g.2.1 2, 25, .inr (.inl f)))] : va_W) ++ pl) sz = A at hD hE hA ⊢
  have hS : va_S A s.heap s.heap [] := va_S.rf
  have hl : lv_has ls 1 [(0, .ref h0)] := hl
  refine lv_aload_n hx hb dSP_finish_0 rfl (lv_at hl 0 rfl) ?_
  refine lv_aload_n hx hb dSP_finish_1 rfl (lv_at hl 0 rfl) ?_
  refine va_get (D := g.1) (ci := 3) (C := "LatticeKeys$Sponge") (T := T_SP) (N := 4) hx hb hts (wg_ft i_SP) hown hK hP 0 rfl rfl 3 (by decide) (hts _ (wg_t kw_62)) (fun _ h9 => h9) rfl dSP_finish_2 ?_
  refine lv_aload_n hx hb dSP_finish_5 rfl (lv_at hl 0 rfl) ?_
  refine va_get (D := g.1) (ci := 3) (C := "LatticeKeys$Sponge") (T := T_SP) (N := 4) hx hb hts (wg_ft i_SP) hown hK hP 0 rfl rfl 2 (by decide) (hts _ (wg_t kw_61)) (fun _ h9 => h9) rfl dSP_finish_6 ?_
  refine mp_v (cx := [(h0, .inr (3, [.ref ln, .int (nI rt), .int x2, .int (nI ps)])), (ln, .inl (g.2.1 2, 25, .inr (.inl f)))]) (wr := []) hP hD hS hA [0, 1] [] rfl rfl rfl (by decide) (va_runV (As := [.int (nI ps), .int x2]) (rest := []) F (x_SP_mixIn l g _ T xs pl hO hU  ps x2 h0 ln (nI rt) x2 (nI ps) f (by omega)) (cwV 2 hts (wg_app (wg_c kw_593 (wg_c kw_595 (wg_c ks_4 (wg_c kw_2 wg_n)))) kw_596) rfl rfl rfl (by decide +kernel) ⟨by decide, by decide⟩) (pp_W "LatticeKeys$Sponge" (en_ok g) (q0 := 0) hK hP hD hS hA hE [0, 1] rfl rfl rfl rfl) rfl rfl hl.1 rfl (lv_room (Nat.le_of_ble_eq_true rfl)) dSP_finish_9 ⟨by omega, by omega⟩) (fun  pl H locs hu21 hP hD hS => ?_)
  obtain ⟨hq21, hO⟩ := hu21
  have hP : va_P g.1 vcl (([(h0, .inr (3, [.ref ln, .int (nI rt), .int x2, .int (nI ps)])), (ln, .inl (g.2.1 2, 25, .inr (.inl ((mxB f ps x2)))))] : va_W) ++ pl) _ := hP
  have hD : va_D _ (([(h0, .inr (3, [.ref ln, .int (nI rt), .int x2, .int (nI ps)])), (ln, .inl (g.2.1 2, 25, .inr (.inl ((mxB f ps x2)))))] : va_W) ++ pl) := hD
  refine W.widen (k := 0) (n := 0) (by omega) (by omega) ?_
  refine lv_aload_n hx hb dSP_finish_12 rfl (lv_at hl 0 rfl) ?_
  refine lv_aload_n hx hb dSP_finish_13 rfl (lv_at hl 0 rfl) ?_
  refine va_get (D := g.1) (ci := 3) (C := "LatticeKeys$Sponge") (T := T_SP) (N := 4) hx hb hts (wg_ft i_SP) hown hK hP 0 rfl rfl 1 (by decide) (hts _ (wg_t kw_60)) (fun _ h9 => h9) rfl dSP_finish_14 ?_
  refine lv_iconst (v := nI 1) hx hb dSP_finish_17 (by decide) ?_
  refine mi_isub hx hb dSP_finish_18 (by omega) ?_
  refine lv_sipush (v := nI 128) hx hb dSP_finish_19 (by decide) ?_
  refine mp_v (cx := [(h0, .inr (3, [.ref ln, .int (nI rt), .int x2, .int (nI ps)])), (ln, .inl (g.2.1 2, 25, .inr (.inl ((mxB f ps x2)))))]) (wr := []) hP hD hS hA [0, 1] [] rfl rfl rfl (by decide) (va_runV (As := [.int (nI (rt - 1)), .int (nI 128)]) (rest := []) F (x_SP_mixIn l g _ T xs pl hO hU  (rt - 1) (nI 128) h0 ln (nI rt) x2 (nI ps) (mxB f ps x2) (by omega)) (cwV 2 hts (wg_app (wg_c kw_593 (wg_c kw_595 (wg_c ks_4 (wg_c kw_2 wg_n)))) kw_596) rfl rfl rfl (by decide +kernel) ⟨by decide, by decide⟩) (pp_W "LatticeKeys$Sponge" (en_ok g) (q0 := 0) hK hP hD hS hA hE [0, 1] rfl rfl rfl rfl) rfl rfl hl.1 rfl (lv_room (Nat.le_of_ble_eq_true rfl)) dSP_finish_22 ⟨by omega, by omega⟩) (fun  pl H locs hu22 hP hD hS => ?_)
  obtain ⟨hq22, hO⟩ := hu22
  have hP : va_P g.1 vcl (([(h0, .inr (3, [.ref ln, .int (nI rt), .int x2, .int (nI ps)])), (ln, .inl (g.2.1 2, 25, .inr (.inl ((mxB (mxB f ps x2) (rt - 1) (nI 128))))))] : va_W) ++ pl) _ := hP
  have hD : va_D _ (([(h0, .inr (3, [.ref ln, .int (nI rt), .int x2, .int (nI ps)])), (ln, .inl (g.2.1 2, 25, .inr (.inl ((mxB (mxB f ps x2) (rt - 1) (nI 128))))))] : va_W) ++ pl) := hD
  refine W.widen (k := 0) (n := 0) (by omega) (by omega) ?_
  refine lv_aload_n hx hb dSP_finish_25 rfl (lv_at hl 0 rfl) ?_
  refine lv_aload_n hx hb dSP_finish_26 rfl (lv_at hl 0 rfl) ?_
  refine va_get (D := g.1) (ci := 3) (C := "LatticeKeys$Sponge") (T := T_SP) (N := 4) hx hb hts (wg_ft i_SP) hown hK hP 0 rfl rfl 1 (by decide) (hts _ (wg_t kw_60)) (fun _ h9 => h9) rfl dSP_finish_27 ?_
  refine va_put (D := g.1) (ci := 3) (v := .int (nI rt)) (ty := .int) (C := "LatticeKeys$Sponge") (T := T_SP) (N := 4) hx hb hts (wg_ft i_SP) ty_SP k_SP n_SP hown hK hP hD hS 0 rfl rfl 3 (by decide) (hts _ (wg_t kw_62)) (fun _ h9 => h9) rfl (by decide +kernel) rfl rfl (Nat.le_of_ble_eq_true rfl) dSP_finish_30 (fun H locs hP hD hS => ?_)
  have hP : va_P g.1 vcl (([(h0, .inr (3, [.ref ln, .int (nI rt), .int x2, .int (nI rt)])), (ln, .inl (g.2.1 2, 25, .inr (.inl ((mxB (mxB f ps x2) (rt - 1) (nI 128))))))] : va_W) ++ pl) _ := hP
  have hD : va_D _ (([(h0, .inr (3, [.ref ln, .int (nI rt), .int x2, .int (nI rt)])), (ln, .inl (g.2.1 2, 25, .inr (.inl ((mxB (mxB f ps x2) (rt - 1) (nI 128))))))] : va_W) ++ pl) := hD
  have hP : va_P g.1 vcl (([(h0, .inr (3, [.ref ln, .int (nI rt), .int x2, .int (nI rt)])), (ln, .inl (g.2.1 2, 25, .inr (.inl ((pdF rt (f, ps) x2)))))] : va_W) ++ pl) _ := hP
  have hD : va_D _ (([(h0, .inr (3, [.ref ln, .int (nI rt), .int x2, .int (nI rt)])), (ln, .inl (g.2.1 2, 25, .inr (.inl ((pdF rt (f, ps) x2)))))] : va_W) ++ pl) := hD
  exact mp_vret hx hb hr hlk hP hD hS pl ⟨trivial, hO⟩ [0, 1] rfl rfl rfl (by omega) (by omega) dSP_finish_33
set_option maxHeartbeats 400000 in
set_option maxRecDepth 100000 in
theorem x_SP_nextByte (l : Launch) (g : Gd) (sz : Nat) (T : Ty) (xs : List Nat) (pl : va_W) (hO : okx g T xs pl) (hU : uni T) (h0 ln rt ps : Nat) (x2 : Int32) (f : Nat → Int64) (hrt : 0 < rt ∧ rt < 200) (hps : ps ≤ rt)  : Met l y_SP_nextByte w_SP_nextByte ({ frames := 1, cells := 0, slots := 0, locals := 55 } : Room) (va_Pc [.ref h0] (pr (en g) g.1 vcl sz (([(h0, .inr (3, [.ref ln, .int (nI rt), .int x2, .int (nI ps)])), (ln, .inl (g.2.1 2, 25, .inr (.inl f)))] : va_W) ++ pl))) (va_Qi (fun (r : Int32) (u : va_W) => (r = gtI (nxS rt (f, ps)).1 ((nxS rt (f, ps)).2 - 1)) ∧ okx g T xs u) (po g.1 vcl (va_A (([(h0, .inr (3, [.ref ln, .int (nI rt), .int x2, .int (nI ps)])), (ln, .inl (g.2.1 2, 25, .inr (.inl f)))] : va_W) ++ pl) sz) (fun (u : va_W) => ([(h0, .inr (3, [.ref ln, .int (nI rt), .int x2, .int (nI ((nxS rt (f, ps)).2))])), (ln, .inl (g.2.1 2, 25, .inr (.inl (((nxS rt (f, ps)).1)))))] : va_W) ++ u)) (va_A (([(h0, .inr (3, [.ref ln, .int (nI rt), .int x2, .int (nI ps)])), (ln, .inl (g.2.1 2, 25, .inr (.inl f)))] : va_W) ++ pl) sz)) 0 0 (va_A (([(h0, .inr (3, [.ref ln, .int (nI rt), .int x2, .int (nI ps)])), (ln, .inl (g.2.1 2, 25, .inr (.inl f)))] : va_W) ++ pl) sz) := by
  refine mc_entry (cc := c_SP_nextByte) (maxL := 2) (ret := (some .int)) (by decide) rfl (Nat.le_of_ble_eq_true rfl) ?_
  intro p e s m args below meth c ls F hr hlk hnm hsz hP hD hE hA hl
  obtain ⟨hx, hb, hml, hown, hts⟩ := id F
  have hK := hE.1
  generalize va_A (([(h0, .inr (3, [.ref ln, .int (nI rt), .int x2, .int (nI ps)])), (ln, .inl (g.2.1 2, 25, .inr (.inl f)))] : va_W) ++ pl) sz = A at hD hE hA ⊢
  have hS : va_S A s.heap s.heap [] := va_S.rf
  have hl : lv_has ls 2 [(0, .ref h0)] := hl
  refine lv_aload_n hx hb dSP_nextByte_0 rfl (lv_at hl 0 rfl) ?_
  refine va_get (D := g.1) (ci := 3) (C := "LatticeKeys$Sponge") (T := T_SP) (N := 4) hx hb hts (wg_ft i_SP) hown hK hP 0 rfl rfl 3 (by decide) (hts _ (wg_t kw_62)) (fun _ h9 => h9) rfl dSP_nextByte_1 ?_
  refine lv_aload_n hx hb dSP_nextByte_4 rfl (lv_at hl 0 rfl) ?_
  refine va_get (D := g.1) (ci := 3) (C := "LatticeKeys$Sponge") (T := T_SP) (N := 4) hx hb hts (wg_ft i_SP) hown hK hP 0 rfl rfl 1 (by decide) (hts _ (wg_t kw_60)) (fun _ h9 => h9) rfl dSP_nextByte_5 ?_
  refine mi_ne (tgt := 20) hx hb dSP_nextByte_8 (by decide) (by omega) (by omega) (fun h21 => ?_) (fun h21 => ?_)
  · rw [show nxS rt (f, ps) = (f, ps + 1) from if_neg (show ¬ ps = rt by omega)]
    refine lv_aload_n hx hb dSP_nextByte_20 rfl (lv_at hl 0 rfl) ?_
    refine va_get (D := g.1) (ci := 3) (C := "LatticeKeys$Sponge") (T := T_SP) (N := 4) hx hb hts (wg_ft i_SP) hown hK hP 0 rfl rfl 0 (by decide) (hts _ (wg_t kw_59)) (fun _ h9 => h9) rfl dSP_nextByte_21 ?_
    refine lv_aload_n hx hb dSP_nextByte_24 rfl (lv_at hl 0 rfl) ?_
    refine va_get (D := g.1) (ci := 3) (C := "LatticeKeys$Sponge") (T := T_SP) (N := 4) hx hb hts (wg_ft i_SP) hown hK hP 0 rfl rfl 3 (by decide) (hts _ (wg_t kw_62)) (fun _ h9 => h9) rfl dSP_nextByte_25 ?_
    refine lv_iconst (v := nI 3) hx hb dSP_nextByte_28 (by decide) ?_
    refine mi_ishr hx hb dSP_nextByte_29 (by omega) (by decide) ?_
    refine mi_as (show nI (ps / 2 ^ 3) = nI (ps / 8) from rfl) ?_
    refine mp_lald hx hb hK hP 1 2 rfl rfl (by omega) (by decide) dSP_nextByte_30 ?_
    refine lv_aload_n hx hb dSP_nextByte_31 rfl (lv_at hl 0 rfl) ?_
    refine va_get (D := g.1) (ci := 3) (C := "LatticeKeys$Sponge") (T := T_SP) (N := 4) hx hb hts (wg_ft i_SP) hown hK hP 0 rfl rfl 3 (by decide) (hts _ (wg_t kw_62)) (fun _ h9 => h9) rfl dSP_nextByte_32 ?_
    refine lv_bipush (v := nI 7) hx hb dSP_nextByte_35 (by decide) ?_
    refine lv_iand hx hb dSP_nextByte_37 ?_
    refine mi_as (nI_and7 (k := ps) (by omega)) ?_
    refine lv_iconst (v := nI 3) hx hb dSP_nextByte_38 (by decide) ?_
    refine mi_ishl hx hb dSP_nextByte_39 (by omega) (by decide) ?_
    refine mi_as (show nI ((ps % 8) * 2 ^ 3) = nI (8 * (ps % 8)) from congrArg nI (Nat.mul_comm _ 8)) ?_
    refine lv_lushr hx hb dSP_nextByte_40 rfl ?_
    refine lv_l2i hx hb dSP_nextByte_41 rfl ?_
    refine lv_sipush (v := nI 255) hx hb dSP_nextByte_42 (by decide) ?_
    refine lv_iand hx hb dSP_nextByte_45 ?_
    refine mi_as (show _ = gtI f ps from rfl) ?_
    refine lv_istore_n (lv' := [(1, .int ((gtI f ps))), (0, .ref h0)]) hx hb dSP_nextByte_46 rfl hl (by decide) rfl (fun ls hl => ?_)
    refine lv_aload_n hx hb dSP_nextByte_47 rfl (lv_at hl 1 rfl) ?_
    refine lv_dup hx hb dSP_nextByte_48 rfl ?_
    refine va_get (D := g.1) (ci := 3) (C := "LatticeKeys$Sponge") (T := T_SP) (N := 4) hx hb hts (wg_ft i_SP) hown hK hP 0 rfl rfl 3 (by decide) (hts _ (wg_t kw_62)) (fun _ h9 => h9) rfl dSP_nextByte_49 ?_
    refine lv_iconst (v := nI 1) hx hb dSP_nextByte_52 (by decide) ?_
    refine mi_iadd hx hb dSP_nextByte_53 ?_
    refine va_put (D := g.1) (ci := 3) (v := .int (nI (ps + 1))) (ty := .int) (C := "LatticeKeys$Sponge") (T := T_SP) (N := 4) hx hb hts (wg_ft i_SP) ty_SP k_SP n_SP hown hK hP hD hS 0 rfl rfl 3 (by decide) (hts _ (wg_t kw_62)) (fun _ h9 => h9) rfl (by decide +kernel) rfl rfl (Nat.le_of_ble_eq_true rfl) dSP_nextByte_54 (fun H locs hP hD hS => ?_)
    have hP : va_P g.1 vcl (([(h0, .inr (3, [.ref ln, .int (nI rt), .int x2, .int (nI (ps + 1))])), (ln, .inl (g.2.1 2, 25, .inr (.inl f)))] : va_W) ++ pl) _ := hP
    have hD : va_D _ (([(h0, .inr (3, [.ref ln, .int (nI rt), .int x2, .int (nI (ps + 1))])), (ln, .inl (g.2.1 2, 25, .inr (.inl f)))] : va_W) ++ pl) := hD
    refine lv_iload_n hx hb dSP_nextByte_57 rfl (lv_at hl 0 rfl) ?_
    exact mp_iret hx hb hr hlk hP hD hS pl ⟨rfl, hO⟩ [0, 1] rfl rfl rfl (by omega) (by omega) dSP_nextByte_58
  · rw [show nxS rt (f, ps) = (prm f, 1) from if_pos (show ps = rt by omega)]
    refine lv_aload_n hx hb dSP_nextByte_11 rfl (lv_at hl 0 rfl) ?_
    refine mp_v (cx := [(h0, .inr (3, [.ref ln, .int (nI rt), .int x2, .int (nI ps)])), (ln, .inl (g.2.1 2, 25, .inr (.inl f)))]) (wr := []) hP hD hS hA [0, 1] [] rfl rfl rfl (by decide) (va_runV (As := []) (rest := []) F (x_SP_permute l g _ T xs pl hO hU  h0 ln (nI rt) x2 (nI ps) f) (cwV 0 hts (wg_app (wg_c kw_598 (wg_c kw_600 (wg_c ks_5 (wg_c kw_2 wg_n)))) kw_601) rfl rfl rfl (by decide +kernel) ⟨by decide, by decide⟩) (pp_W "LatticeKeys$Sponge" (en_ok g) (q0 := 0) hK hP hD hS hA hE [0, 1] rfl rfl rfl rfl) rfl rfl hl.1 rfl (lv_room (Nat.le_of_ble_eq_true rfl)) dSP_nextByte_12 ⟨by omega, by omega⟩) (fun  pl H locs hu21 hP hD hS => ?_)
    obtain ⟨hq21, hO⟩ := hu21
    have hP : va_P g.1 vcl (([(h0, .inr (3, [.ref ln, .int (nI rt), .int x2, .int (nI ps)])), (ln, .inl (g.2.1 2, 25, .inr (.inl ((prm f)))))] : va_W) ++ pl) _ := hP
    have hD : va_D _ (([(h0, .inr (3, [.ref ln, .int (nI rt), .int x2, .int (nI ps)])), (ln, .inl (g.2.1 2, 25, .inr (.inl ((prm f)))))] : va_W) ++ pl) := hD
    refine W.widen (k := 0) (n := 0) (by omega) (by omega) ?_
    refine lv_aload_n hx hb dSP_nextByte_15 rfl (lv_at hl 0 rfl) ?_
    refine lv_iconst (v := nI 0) hx hb dSP_nextByte_16 (by decide) ?_
    refine va_put (D := g.1) (ci := 3) (v := .int (nI 0)) (ty := .int) (C := "LatticeKeys$Sponge") (T := T_SP) (N := 4) hx hb hts (wg_ft i_SP) ty_SP k_SP n_SP hown hK hP hD hS 0 rfl rfl 3 (by decide) (hts _ (wg_t kw_62)) (fun _ h9 => h9) rfl (by decide +kernel) rfl rfl (Nat.le_of_ble_eq_true rfl) dSP_nextByte_17 (fun H locs hP hD hS => ?_)
    have hP : va_P g.1 vcl (([(h0, .inr (3, [.ref ln, .int (nI rt), .int x2, .int (nI 0)])), (ln, .inl (g.2.1 2, 25, .inr (.inl ((prm f)))))] : va_W) ++ pl) _ := hP
    have hD : va_D _ (([(h0, .inr (3, [.ref ln, .int (nI rt), .int x2, .int (nI 0)])), (ln, .inl (g.2.1 2, 25, .inr (.inl ((prm f)))))] : va_W) ++ pl) := hD
    refine lv_aload_n hx hb dSP_nextByte_20 rfl (lv_at hl 0 rfl) ?_
    refine va_get (D := g.1) (ci := 3) (C := "LatticeKeys$Sponge") (T := T_SP) (N := 4) hx hb hts (wg_ft i_SP) hown hK hP 0 rfl rfl 0 (by decide) (hts _ (wg_t kw_59)) (fun _ h9 => h9) rfl dSP_nextByte_21 ?_
    refine lv_aload_n hx hb dSP_nextByte_24 rfl (lv_at hl 0 rfl) ?_
    refine va_get (D := g.1) (ci := 3) (C := "LatticeKeys$Sponge") (T := T_SP) (N := 4) hx hb hts (wg_ft i_SP) hown hK hP 0 rfl rfl 3 (by decide) (hts _ (wg_t kw_62)) (fun _ h9 => h9) rfl dSP_nextByte_25 ?_
    refine lv_iconst (v := nI 3) hx hb dSP_nextByte_28 (by decide) ?_
    refine mi_ishr hx hb dSP_nextByte_29 (by omega) (by decide) ?_
    refine mi_as (show nI (0 / 2 ^ 3) = nI (0) from rfl) ?_
    refine mp_lald hx hb hK hP 1 2 rfl rfl (by omega) (by decide) dSP_nextByte_30 ?_
    refine lv_aload_n hx hb dSP_nextByte_31 rfl (lv_at hl 0 rfl) ?_
    refine va_get (D := g.1) (ci := 3) (C := "LatticeKeys$Sponge") (T := T_SP) (N := 4) hx hb hts (wg_ft i_SP) hown hK hP 0 rfl rfl 3 (by decide) (hts _ (wg_t kw_62)) (fun _ h9 => h9) rfl dSP_nextByte_32 ?_
    refine lv_bipush (v := nI 7) hx hb dSP_nextByte_35 (by decide) ?_
    refine lv_iand hx hb dSP_nextByte_37 ?_
    refine mi_as (nI_and7 (k := 0) (by omega)) ?_
    refine lv_iconst (v := nI 3) hx hb dSP_nextByte_38 (by decide) ?_
    refine mi_ishl hx hb dSP_nextByte_39 (by omega) (by decide) ?_
    refine mi_as (show nI ((0 % 8) * 2 ^ 3) = nI (8 * (0 % 8)) from congrArg nI (Nat.mul_comm _ 8)) ?_
    refine lv_lushr hx hb dSP_nextByte_40 rfl ?_
    refine lv_l2i hx hb dSP_nextByte_41 rfl ?_
    refine lv_sipush (v := nI 255) hx hb dSP_nextByte_42 (by decide) ?_
    refine lv_iand hx hb dSP_nextByte_45 ?_
    refine mi_as (show _ = gtI (prm f) 0 from rfl) ?_
    refine lv_istore_n (lv' := [(1, .int ((gtI (prm f) 0))), (0, .ref h0)]) hx hb dSP_nextByte_46 rfl hl (by decide) rfl (fun ls hl => ?_)
    refine lv_aload_n hx hb dSP_nextByte_47 rfl (lv_at hl 1 rfl) ?_
    refine lv_dup hx hb dSP_nextByte_48 rfl ?_
    refine va_get (D := g.1) (ci := 3) (C := "LatticeKeys$Sponge") (T := T_SP) (N := 4) hx hb hts (wg_ft i_SP) hown hK hP 0 rfl rfl 3 (by decide) (hts _ (wg_t kw_62)) (fun _ h9 => h9) rfl dSP_nextByte_49 ?_
    refine lv_iconst (v := nI 1) hx hb dSP_nextByte_52 (by decide) ?_
    refine mi_iadd hx hb dSP_nextByte_53 ?_
    refine mi_as (show nI (0 + 1) = nI 1 from rfl) ?_
    refine va_put (D := g.1) (ci := 3) (v := .int (nI 1)) (ty := .int) (C := "LatticeKeys$Sponge") (T := T_SP) (N := 4) hx hb hts (wg_ft i_SP) ty_SP k_SP n_SP hown hK hP hD hS 0 rfl rfl 3 (by decide) (hts _ (wg_t kw_62)) (fun _ h9 => h9) rfl (by decide +kernel) rfl rfl (Nat.le_of_ble_eq_true rfl) dSP_nextByte_54 (fun H locs hP hD hS => ?_)
    have hP : va_P g.1 vcl (([(h0, .inr (3, [.ref ln, .int (nI rt), .int x2, .int (nI 1)])), (ln, .inl (g.2.1 2, 25, .inr (.inl ((prm f)))))] : va_W) ++ pl) _ := hP
    have hD : va_D _ (([(h0, .inr (3, [.ref ln, .int (nI rt), .int x2, .int (nI 1)])), (ln, .inl (g.2.1 2, 25, .inr (.inl ((prm f)))))] : va_W) ++ pl) := hD
    refine lv_iload_n hx hb dSP_nextByte_57 rfl (lv_at hl 0 rfl) ?_
    exact mp_iret hx hb hr hlk hP hD hS pl ⟨rfl, hO⟩ [0, 1] rfl rfl rfl (by omega) (by omega) dSP_nextByte_58
set_option maxHeartbeats 400000 in
set_option maxRecDepth 100000 in
theorem x_SP_squeeze (l : Launch) (g : Gd) (sz : Nat) (T : Ty) (xs : List Nat) (pl : va_W) (hO : okx g T xs pl) (hU : uni T) (at_ len : Nat) (h0 ln rt ps b nb : Nat) (x2 : Int32) (f : Nat → Int64) (fb : Nat → Int32) (hrt : 0 < rt ∧ rt < 200) (hps : ps ≤ rt) (h1 : at_ + len ≤ nb) (h2 : nb < 65536)  : Met l y_SP_squeeze w_SP_squeeze ({ frames := 2, cells := 0, slots := 0, locals := 76 } : Room) (va_Pc [.ref h0, .ref b, .int (nI at_), .int (nI len)] (pr (en g) g.1 vcl sz (([(h0, .inr (3, [.ref ln, .int (nI rt), .int x2, .int (nI ps)])), (ln, .inl (g.2.1 2, 25, .inr (.inl f))), (b, .inl (g.2.1 1, nb, .inl fb))] : va_W) ++ pl))) (va_Qv (fun (u : va_W) => (True) ∧ okx g T xs u) (po g.1 vcl (va_A (([(h0, .inr (3, [.ref ln, .int (nI rt), .int x2, .int (nI ps)])), (ln, .inl (g.2.1 2, 25, .inr (.inl f))), (b, .inl (g.2.1 1, nb, .inl fb))] : va_W) ++ pl) sz) (fun (u : va_W) => ([(h0, .inr (3, [.ref ln, .int (nI rt), .int x2, .int (nI ((itN rt (f, ps) len).2))])), (ln, .inl (g.2.1 2, 25, .inr (.inl (((itN rt (f, ps) len).1))))), (b, .inl (g.2.1 1, nb, .inl ((sqF rt (f, ps) fb at_ len))))] : va_W) ++ u)) (va_A (([(h0, .inr (3, [.ref ln, .int (nI rt), .int x2, .int (nI ps)])), (ln, .inl (g.2.1 2, 25, .inr (.inl f))), (b, .inl (g.2.1 1, nb, .inl fb))] : va_W) ++ pl) sz)) 0 0 (va_A (([(h0, .inr (3, [.ref ln, .int (nI rt), .int x2, .int (nI ps)])), (ln, .inl (g.2.1 2, 25, .inr (.inl f))), (b, .inl (g.2.1 1, nb, .inl fb))] : va_W) ++ pl) sz) := by
  refine mc_entry (cc := c_SP_squeeze) (maxL := 5) (ret := none) (by decide) rfl (Nat.le_of_ble_eq_true rfl) ?_
  intro p e s m args below meth c ls F hr hlk hnm hsz hP hD hE hA hl
  obtain ⟨hx, hb, hml, hown, hts⟩ := id F
  have hK := hE.1
  generalize va_A (([(h0, .inr (3, [.ref ln, .int (nI rt), .int x2, .int (nI ps)])), (ln, .inl (g.2.1 2, 25, .inr (.inl f))), (b, .inl (g.2.1 1, nb, .inl fb))] : va_W) ++ pl) sz = A at hD hE hA ⊢
  have hS : va_S A s.heap s.heap [] := va_S.rf
  have hl : lv_has ls 5 [(0, .ref h0), (1, .ref b), (2, .int (nI at_)), (3, .int (nI len))] := hl
  refine lv_iconst (v := nI 0) hx hb dSP_squeeze_0 (by decide) ?_
  refine lv_istore (lv' := [(4, .int (nI 0)), (0, .ref h0), (1, .ref b), (2, .int (nI at_)), (3, .int (nI len))]) hx hb dSP_squeeze_1 hl (by decide) rfl (fun ls hl => ?_)
  have lp21 : ∀ (n21 : Nat) (i21 : Nat) (pl : va_W) (ls : Array Slot) (H : Heap) (locs : List Loc), n21 + i21 = len → lv_has ls 5 [(4, .int (nI i21)), (0, .ref h0), (1, .ref b), (2, .int (nI at_)), (3, .int (nI len))] → okx g T xs pl → va_P g.1 vcl (([(h0, .inr (3, [.ref ln, .int (nI rt), .int x2, .int (nI ((itN rt (f, ps) i21).2))])), (ln, .inl (g.2.1 2, 25, .inr (.inl (((itN rt (f, ps) i21).1))))), (b, .inl (g.2.1 1, nb, .inl ((sqF rt (f, ps) fb at_ i21))))] : va_W) ++ pl) H → va_D A (([(h0, .inr (3, [.ref ln, .int (nI rt), .int x2, .int (nI ((itN rt (f, ps) i21).2))])), (ln, .inl (g.2.1 2, 25, .inr (.inl (((itN rt (f, ps) i21).1))))), (b, .inl (g.2.1 1, nb, .inl ((sqF rt (f, ps) fb at_ i21))))] : va_W) ++ pl) → va_S A s.heap H locs → W p l e ({ frames := 2, cells := 0, slots := 0, locals := 76 } : Room) s m args below meth c H locs 0 0 (MQ below (va_Qv (fun (u : va_W) => (True) ∧ okx g T xs u) (po g.1 vcl A (fun (u : va_W) => ([(h0, .inr (3, [.ref ln, .int (nI rt), .int x2, .int (nI ((itN rt (f, ps) len).2))])), (ln, .inl (g.2.1 2, 25, .inr (.inl (((itN rt (f, ps) len).1))))), (b, .inl (g.2.1 1, nb, .inl ((sqF rt (f, ps) fb at_ len))))] : va_W) ++ u)) A) args s 0 0 A) (F0 m 3 ls []) := by
    intro n21
    induction n21 with
    | zero =>
      intro i21 pl ls H locs hm21  hl hO hP hD hS
      have hle := itN_le (rt := rt) (st := (f, ps)) hrt.1 hps i21
      refine lv_iload hx hb dSP_squeeze_3 (lv_at hl 0 rfl) ?_
      refine lv_iload_n hx hb dSP_squeeze_5 rfl (lv_at hl 4 rfl) ?_
      refine mi_ge (tgt := 26) hx hb dSP_squeeze_6 (by decide) (by omega) (by omega) (fun h21 => ?_) (fun h21 => absurd h21 (by omega))
      obtain rfl : i21 = len := by omega
      exact mp_vret hx hb hr hlk hP hD hS pl ⟨trivial, hO⟩ [0, 1, 2] rfl rfl rfl (by omega) (by omega) dSP_squeeze_26
    | succ n21 ih21 =>
      intro i21 pl ls H locs hm21  hl hO hP hD hS
      have hle := itN_le (rt := rt) (st := (f, ps)) hrt.1 hps i21
      refine lv_iload hx hb dSP_squeeze_3 (lv_at hl 0 rfl) ?_
      refine lv_iload_n hx hb dSP_squeeze_5 rfl (lv_at hl 4 rfl) ?_
      refine mi_ge (tgt := 26) hx hb dSP_squeeze_6 (by decide) (by omega) (by omega) (fun h22 => absurd h22 (by omega)) (fun h22 => ?_)
      refine lv_aload_n hx hb dSP_squeeze_9 rfl (lv_at hl 2 rfl) ?_
      refine lv_iload_n hx hb dSP_squeeze_10 rfl (lv_at hl 3 rfl) ?_
      refine lv_iload hx hb dSP_squeeze_11 (lv_at hl 0 rfl) ?_
      refine mi_iadd hx hb dSP_squeeze_13 ?_
      refine lv_aload_n hx hb dSP_squeeze_14 rfl (lv_at hl 1 rfl) ?_
      refine mp_i (cx := [(h0, .inr (3, [.ref ln, .int (nI rt), .int x2, .int (nI ((itN rt (f, ps) i21).2))])), (ln, .inl (g.2.1 2, 25, .inr (.inl (((itN rt (f, ps) i21).1)))))]) (wr := [(b, .inl (g.2.1 1, nb, .inl ((sqF rt (f, ps) fb at_ i21))))]) hP hD hS hA [0, 1] [2] rfl rfl rfl (by decide) (va_runV (As := []) (rest := [.int (nI (at_ + i21)), .ref b]) F (x_SP_nextByte l g _ T xs pl hO hU  h0 ln rt ((itN rt (f, ps) i21).2) x2 ((itN rt (f, ps) i21).1) (by omega) (by omega)) (cwV 0 hts (wg_app (wg_c kw_618 (wg_c kw_619 (wg_c kw_620 (wg_c kw_2 wg_n)))) kw_621) rfl rfl rfl (by decide +kernel) ⟨by decide, by decide⟩) (pp_W "LatticeKeys$Sponge" (en_ok g) (q0 := 0) hK hP hD hS hA hE [0, 1] rfl rfl rfl rfl) rfl rfl hl.1 rfl (lv_room (Nat.le_of_ble_eq_true rfl)) dSP_squeeze_15 ⟨by omega, by omega⟩) (fun r21 pl H locs hu21 hP hD hS => ?_)
      obtain ⟨hq21, hO⟩ := hu21
      have hP : va_P g.1 vcl (([(b, .inl (g.2.1 1, nb, .inl ((sqF rt (f, ps) fb at_ i21)))), (h0, .inr (3, [.ref ln, .int (nI rt), .int x2, .int (nI ((nxS rt (((itN rt (f, ps) i21).1), (itN rt (f, ps) i21).2)).2))])), (ln, .inl (g.2.1 2, 25, .inr (.inl ((nxS rt (((itN rt (f, ps) i21).1), (itN rt (f, ps) i21).2)).1))))] : va_W) ++ pl) _ := hP
      have hD : va_D _ (([(b, .inl (g.2.1 1, nb, .inl ((sqF rt (f, ps) fb at_ i21)))), (h0, .inr (3, [.ref ln, .int (nI rt), .int x2, .int (nI ((nxS rt (((itN rt (f, ps) i21).1), (itN rt (f, ps) i21).2)).2))])), (ln, .inl (g.2.1 2, 25, .inr (.inl ((nxS rt (((itN rt (f, ps) i21).1), (itN rt (f, ps) i21).2)).1))))] : va_W) ++ pl) := hD
      obtain rfl := hq21
      refine W.widen (k := 0) (n := 0) (by omega) (by omega) ?_
      refine lv_i2b hx hb dSP_squeeze_18 rfl ?_
      refine mp_bast hx hb hK hP hD hS 0 1 rfl rfl (by omega) (by omega) dSP_squeeze_19 (fun H locs hP hD hS => ?_)
      have hP : va_P g.1 vcl (([(b, .inl (g.2.1 1, nb, .inl ((upd (sqF rt (f, ps) fb at_ i21) (at_ + i21) (vp_nar .byte ((gtI (nxS rt (((itN rt (f, ps) i21).1), (itN rt (f, ps) i21).2)).1 ((nxS rt (((itN rt (f, ps) i21).1), (itN rt (f, ps) i21).2)).2 - 1)).toInt8.toInt32)))))), (h0, .inr (3, [.ref ln, .int (nI rt), .int x2, .int (nI ((nxS rt (((itN rt (f, ps) i21).1), (itN rt (f, ps) i21).2)).2))])), (ln, .inl (g.2.1 2, 25, .inr (.inl ((nxS rt (((itN rt (f, ps) i21).1), (itN rt (f, ps) i21).2)).1))))] : va_W) ++ pl) _ := hP
      have hD : va_D _ (([(b, .inl (g.2.1 1, nb, .inl ((upd (sqF rt (f, ps) fb at_ i21) (at_ + i21) (vp_nar .byte ((gtI (nxS rt (((itN rt (f, ps) i21).1), (itN rt (f, ps) i21).2)).1 ((nxS rt (((itN rt (f, ps) i21).1), (itN rt (f, ps) i21).2)).2 - 1)).toInt8.toInt32)))))), (h0, .inr (3, [.ref ln, .int (nI rt), .int x2, .int (nI ((nxS rt (((itN rt (f, ps) i21).1), (itN rt (f, ps) i21).2)).2))])), (ln, .inl (g.2.1 2, 25, .inr (.inl ((nxS rt (((itN rt (f, ps) i21).1), (itN rt (f, ps) i21).2)).1))))] : va_W) ++ pl) := hD
      refine mi_iinc (k := 0) (x := i21) (d := 1) (y := i21 + 1) (lv' := [(4, .int (nI (i21 + 1))), (0, .ref h0), (1, .ref b), (2, .int (nI at_)), (3, .int (nI len))]) hx hb dSP_squeeze_20 hl rfl (by decide) rfl (by decide) rfl (fun ls hl => ?_)
      refine lv_goto (tgt := 3) hx hb dSP_squeeze_23 (by decide) ?_
      have hP : va_P g.1 vcl (([(b, .inl (g.2.1 1, nb, .inl ((sqF rt (f, ps) fb at_ (i21 + 1))))), (h0, .inr (3, [.ref ln, .int (nI rt), .int x2, .int (nI ((itN rt (f, ps) (i21 + 1)).2))])), (ln, .inl (g.2.1 2, 25, .inr (.inl (((itN rt (f, ps) (i21 + 1)).1)))))] : va_W) ++ pl) _ := hP
      have hD : va_D _ (([(b, .inl (g.2.1 1, nb, .inl ((sqF rt (f, ps) fb at_ (i21 + 1))))), (h0, .inr (3, [.ref ln, .int (nI rt), .int x2, .int (nI ((itN rt (f, ps) (i21 + 1)).2))])), (ln, .inl (g.2.1 2, 25, .inr (.inl (((itN rt (f, ps) (i21 + 1)).1)))))] : va_W) ++ pl) := hD
      have hP : va_P g.1 vcl (([(h0, .inr (3, [.ref ln, .int (nI rt), .int x2, .int (nI ((itN rt (f, ps) (i21 + 1)).2))])), (ln, .inl (g.2.1 2, 25, .inr (.inl (((itN rt (f, ps) (i21 + 1)).1))))), (b, .inl (g.2.1 1, nb, .inl ((sqF rt (f, ps) fb at_ (i21 + 1)))))] : va_W) ++ pl) _ := hP.part [1, 2, 0] rfl
      have hD : va_D _ (([(h0, .inr (3, [.ref ln, .int (nI rt), .int x2, .int (nI ((itN rt (f, ps) (i21 + 1)).2))])), (ln, .inl (g.2.1 2, 25, .inr (.inl (((itN rt (f, ps) (i21 + 1)).1))))), (b, .inl (g.2.1 1, nb, .inl ((sqF rt (f, ps) fb at_ (i21 + 1)))))] : va_W) ++ pl) := hD.part [1, 2, 0] (by decide) rfl
      exact ih21 (i21 + 1) pl ls H locs (by omega) (lv_sub hl [0, 1, 2, 3, 4] rfl) hO hP hD hS
  exact lp21 len 0 pl ls _ _ (by omega) (lv_sub hl [0, 1, 2, 3, 4] rfl) hO hP hD hS
