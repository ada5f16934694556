abbrev c_K_hash : ByteArray := prog_1_method_15_code
abbrev y_K_hash : MethodName := ⟨"LatticeKeys", "hash", "(II)I"⟩
abbrev w_K_hash : List Cond := Cond.code y_K_hash c_K_hash 3 (some .int) :: WG
theorem dK_hash_0 : decode c_K_hash 0 = .ok (.iload_n 1, 1) := by decide +kernel
theorem dK_hash_1 : decode c_K_hash 1 = .ok (.ifCond .lt 19, 3) := by decide +kernel
theorem dK_hash_4 : decode c_K_hash 4 = .ok (.iload_n 1, 1) := by decide +kernel
theorem dK_hash_5 : decode c_K_hash 5 = .ok (.iconst 3, 1) := by decide +kernel
theorem dK_hash_6 : decode c_K_hash 6 = .ok (.if_icmp .gt 14, 3) := by decide +kernel
theorem dK_hash_9 : decode c_K_hash 9 = .ok (.iload_n 2, 1) := by decide +kernel
theorem dK_hash_10 : decode c_K_hash 10 = .ok (.ifCond .lt 10, 3) := by decide +kernel
theorem dK_hash_13 : decode c_K_hash 13 = .ok (.iload_n 2, 1) := by decide +kernel
theorem dK_hash_14 : decode c_K_hash 14 = .ok (.sipush 8192, 3) := by decide +kernel
theorem dK_hash_17 : decode c_K_hash 17 = .ok (.if_icmp .le 13, 3) := by decide +kernel
theorem dK_hash_20 : decode c_K_hash 20 = .ok (.new 79, 3) := by decide +kernel
theorem dK_hash_23 : decode c_K_hash 23 = .ok (.dup, 1) := by decide +kernel
theorem dK_hash_24 : decode c_K_hash 24 = .ok (.ldc 226, 2) := by decide +kernel
theorem dK_hash_26 : decode c_K_hash 26 = .ok (.invokespecial 83, 3) := by decide +kernel
theorem dK_hash_29 : decode c_K_hash 29 = .ok (.athrow, 1) := by decide +kernel
theorem dK_hash_30 : decode c_K_hash 30 = .ok (.aload_n 0, 1) := by decide +kernel
theorem dK_hash_31 : decode c_K_hash 31 = .ok (.iload_n 1, 1) := by decide +kernel
theorem dK_hash_32 : decode c_K_hash 32 = .ok (.ifCond .ne 8, 3) := by decide +kernel
theorem dK_hash_35 : decode c_K_hash 35 = .ok (.bipush 32, 2) := by decide +kernel
theorem dK_hash_37 : decode c_K_hash 37 = .ok (.goto 14, 3) := by decide +kernel
theorem dK_hash_40 : decode c_K_hash 40 = .ok (.iload_n 1, 1) := by decide +kernel
theorem dK_hash_41 : decode c_K_hash 41 = .ok (.iconst 1, 1) := by decide +kernel
theorem dK_hash_42 : decode c_K_hash 42 = .ok (.if_icmp .ne 8, 3) := by decide +kernel
theorem dK_hash_45 : decode c_K_hash 45 = .ok (.bipush 64, 2) := by decide +kernel
theorem dK_hash_47 : decode c_K_hash 47 = .ok (.goto 4, 3) := by decide +kernel
theorem dK_hash_50 : decode c_K_hash 50 = .ok (.iload_n 2, 1) := by decide +kernel
theorem dK_hash_51 : decode c_K_hash 51 = .ok (.putfield 20, 3) := by decide +kernel
theorem dK_hash_54 : decode c_K_hash 54 = .ok (.aload_n 0, 1) := by decide +kernel
theorem dK_hash_55 : decode c_K_hash 55 = .ok (.getfield 47, 3) := by decide +kernel
theorem dK_hash_58 : decode c_K_hash 58 = .ok (.iload_n 1, 1) := by decide +kernel
theorem dK_hash_59 : decode c_K_hash 59 = .ok (.invokevirtual 228, 3) := by decide +kernel
theorem dK_hash_62 : decode c_K_hash 62 = .ok (.aload_n 0, 1) := by decide +kernel
theorem dK_hash_63 : decode c_K_hash 63 = .ok (.getfield 47, 3) := by decide +kernel
theorem dK_hash_66 : decode c_K_hash 66 = .ok (.aload_n 0, 1) := by decide +kernel
theorem dK_hash_67 : decode c_K_hash 67 = .ok (.getfield 9, 3) := by decide +kernel
theorem dK_hash_70 : decode c_K_hash 70 = .ok (.iconst 0, 1) := by decide +kernel
theorem dK_hash_71 : decode c_K_hash 71 = .ok (.aload_n 0, 1) := by decide +kernel
theorem dK_hash_72 : decode c_K_hash 72 = .ok (.getfield 13, 3) := by decide +kernel
theorem dK_hash_75 : decode c_K_hash 75 = .ok (.invokevirtual 231, 3) := by decide +kernel
theorem dK_hash_78 : decode c_K_hash 78 = .ok (.aload_n 0, 1) := by decide +kernel
theorem dK_hash_79 : decode c_K_hash 79 = .ok (.getfield 47, 3) := by decide +kernel
theorem dK_hash_82 : decode c_K_hash 82 = .ok (.invokevirtual 235, 3) := by decide +kernel
theorem dK_hash_85 : decode c_K_hash 85 = .ok (.aload_n 0, 1) := by decide +kernel
theorem dK_hash_86 : decode c_K_hash 86 = .ok (.getfield 47, 3) := by decide +kernel
theorem dK_hash_89 : decode c_K_hash 89 = .ok (.aload_n 0, 1) := by decide +kernel
theorem dK_hash_90 : decode c_K_hash 90 = .ok (.getfield 17, 3) := by decide +kernel
theorem dK_hash_93 : decode c_K_hash 93 = .ok (.iconst 0, 1) := by decide +kernel
theorem dK_hash_94 : decode c_K_hash 94 = .ok (.aload_n 0, 1) := by decide +kernel
theorem dK_hash_95 : decode c_K_hash 95 = .ok (.getfield 20, 3) := by decide +kernel
theorem dK_hash_98 : decode c_K_hash 98 = .ok (.invokevirtual 238, 3) := by decide +kernel
theorem dK_hash_101 : decode c_K_hash 101 = .ok (.aload_n 0, 1) := by decide +kernel
theorem dK_hash_102 : decode c_K_hash 102 = .ok (.iconst 0, 1) := by decide +kernel
theorem dK_hash_103 : decode c_K_hash 103 = .ok (.putfield 13, 3) := by decide +kernel
theorem dK_hash_106 : decode c_K_hash 106 = .ok (.aload_n 0, 1) := by decide +kernel
theorem dK_hash_107 : decode c_K_hash 107 = .ok (.getfield 20, 3) := by decide +kernel
theorem dK_hash_110 : decode c_K_hash 110 = .ok (.ireturn, 1) := by decide +kernel
set_option maxHeartbeats 400000 in
set_option maxRecDepth 100000 in
theorem m_K_hash_0 (l : Launch) (g : Gd) (sz : Nat) (h0 : Nat) (u : Nat → Nat) (j : Nat) (hj : j ≤ 8192)  : Met l y_K_hash w_K_hash ({ frames := 4, cells := 0, slots := 0, locals := 140 } : Room) (va_Pc [.ref h0, .int (nI 0), .int (nI j)] (pr (en g) g.1 vcl sz [(h0, .inr (0, [.ref (u 0), .int (nI 0), .ref (u 1), .int (nI 0), .ref (u 12), .int (nI 0), .ref (u 2), .ref (u 3), .ref (u 4), .ref (u 13), .ref (u 14)])), (u 1, .inl (g.2.1 1, 8192, .inl ((fun _ => 0)))), (u 4, .inr (3, [.ref (u 5), .int (nI 136), .int (nI 6), .int (nI 0)])), (u 5, .inl (g.2.1 2, 25, .inr (.inl ((fun _ => 0)))))])) (va_Qi (fun (r : Int32) (u : Unit) => r = nI 32) (po g.1 vcl (va_A [(h0, .inr (0, [.ref (u 0), .int (nI 0), .ref (u 1), .int (nI 0), .ref (u 12), .int (nI 0), .ref (u 2), .ref (u 3), .ref (u 4), .ref (u 13), .ref (u 14)])), (u 1, .inl (g.2.1 1, 8192, .inl ((fun _ => 0)))), (u 4, .inr (3, [.ref (u 5), .int (nI 136), .int (nI 6), .int (nI 0)])), (u 5, .inl (g.2.1 2, 25, .inr (.inl ((fun _ => 0)))))] sz) (fun (u : Unit) => [])) (va_A [(h0, .inr (0, [.ref (u 0), .int (nI 0), .ref (u 1), .int (nI 0), .ref (u 12), .int (nI 0), .ref (u 2), .ref (u 3), .ref (u 4), .ref (u 13), .ref (u 14)])), (u 1, .inl (g.2.1 1, 8192, .inl ((fun _ => 0)))), (u 4, .inr (3, [.ref (u 5), .int (nI 136), .int (nI 6), .int (nI 0)])), (u 5, .inl (g.2.1 2, 25, .inr (.inl ((fun _ => 0)))))] sz)) 0 0 (va_A [(h0, .inr (0, [.ref (u 0), .int (nI 0), .ref (u 1), .int (nI 0), .ref (u 12), .int (nI 0), .ref (u 2), .ref (u 3), .ref (u 4), .ref (u 13), .ref (u 14)])), (u 1, .inl (g.2.1 1, 8192, .inl ((fun _ => 0)))), (u 4, .inr (3, [.ref (u 5), .int (nI 136), .int (nI 6), .int (nI 0)])), (u 5, .inl (g.2.1 2, 25, .inr (.inl ((fun _ => 0)))))] sz) := by
  refine mc_entry (cc := c_K_hash) (maxL := 3) (ret := (some .int)) (by decide) rfl (Nat.le_of_ble_eq_true rfl) ?_
  intro p e s m args below meth c ls F hr hlk hnm hsz hP hD hE hA hl
  obtain ⟨hx, hb, hml, hown, hts⟩ := id F
  have hK := hE.1
  generalize va_A [(h0, .inr (0, [.ref (u 0), .int (nI 0), .ref (u 1), .int (nI 0), .ref (u 12), .int (nI 0), .ref (u 2), .ref (u 3), .ref (u 4), .ref (u 13), .ref (u 14)])), (u 1, .inl (g.2.1 1, 8192, .inl ((fun _ => 0)))), (u 4, .inr (3, [.ref (u 5), .int (nI 136), .int (nI 6), .int (nI 0)])), (u 5, .inl (g.2.1 2, 25, .inr (.inl ((fun _ => 0)))))] sz = A at hD hE hA ⊢
  have hS : va_S A s.heap s.heap [] := va_S.rf
  have hl : lv_has ls 3 [(0, .ref h0), (1, .int (nI 0)), (2, .int (nI j))] := hl
  refine lv_iload_n hx hb dK_hash_0 rfl (lv_at hl 1 rfl) ?_
  refine lv_if_lt (tgt := 20) hx hb dK_hash_1 (by decide) (fun h1 => absurd h1 (by decide)) (fun h1 => ?_)
  refine lv_iload_n hx hb dK_hash_4 rfl (lv_at hl 1 rfl) ?_
  refine lv_iconst (v := nI 3) hx hb dK_hash_5 (by decide) ?_
  refine mi_gt (tgt := 20) hx hb dK_hash_6 (by decide) (by omega) (by omega) (fun h2 => absurd h2 (by omega)) (fun h2 => ?_)
  refine lv_iload_n hx hb dK_hash_9 rfl (lv_at hl 2 rfl) ?_
  refine lv_if_lt (tgt := 20) hx hb dK_hash_10 (by decide) (fun h3 => absurd h3 (nI_pos (by omega))) (fun h3 => ?_)
  refine lv_iload_n hx hb dK_hash_13 rfl (lv_at hl 2 rfl) ?_
  refine lv_sipush (v := nI 8192) hx hb dK_hash_14 (by decide) ?_
  refine mi_le (tgt := 30) hx hb dK_hash_17 (by decide) (by omega) (by omega) (fun h4 => ?_) (fun h4 => absurd h4 (by omega))
  refine lv_aload_n hx hb dK_hash_30 rfl (lv_at hl 0 rfl) ?_
  refine lv_iload_n hx hb dK_hash_31 rfl (lv_at hl 1 rfl) ?_
  refine lv_if_ne (tgt := 40) hx hb dK_hash_32 (by decide) (fun h5 => absurd h5 (by decide)) (fun h5 => ?_)
  refine lv_bipush (v := nI 32) hx hb dK_hash_35 (by decide) ?_
  refine lv_goto (tgt := 51) hx hb dK_hash_37 (by decide) ?_
  refine va_put (D := g.1) (ci := 0) (v := .int (nI 32)) (ty := .int) (C := "LatticeKeys") (T := T_K) (N := 11) hx hb hts (wg_ft i_K) ty_K k_K n_K hown hK hP hD hS 0 rfl rfl 3 (by decide) (hts _ (wg_t kw_377)) (fun _ h9 => h9) rfl (by decide +kernel) rfl rfl (Nat.le_of_ble_eq_true rfl) dK_hash_51 (fun H locs hP hD hS => ?_)
  have hP : va_P g.1 vcl [(h0, .inr (0, [.ref (u 0), .int (nI 0), .ref (u 1), .int (nI 32), .ref (u 12), .int (nI 0), .ref (u 2), .ref (u 3), .ref (u 4), .ref (u 13), .ref (u 14)])), (u 1, .inl (g.2.1 1, 8192, .inl ((fun _ => 0)))), (u 4, .inr (3, [.ref (u 5), .int (nI 136), .int (nI 6), .int (nI 0)])), (u 5, .inl (g.2.1 2, 25, .inr (.inl ((fun _ => 0)))))] _ := hP
  have hD : va_D _ [(h0, .inr (0, [.ref (u 0), .int (nI 0), .ref (u 1), .int (nI 32), .ref (u 12), .int (nI 0), .ref (u 2), .ref (u 3), .ref (u 4), .ref (u 13), .ref (u 14)])), (u 1, .inl (g.2.1 1, 8192, .inl ((fun _ => 0)))), (u 4, .inr (3, [.ref (u 5), .int (nI 136), .int (nI 6), .int (nI 0)])), (u 5, .inl (g.2.1 2, 25, .inr (.inl ((fun _ => 0)))))] := hD
  refine lv_aload_n hx hb dK_hash_54 rfl (lv_at hl 0 rfl) ?_
  refine va_get (D := g.1) (ci := 0) (C := "LatticeKeys") (T := T_K) (N := 11) hx hb hts (wg_ft i_K) hown hK hP 0 rfl rfl 8 (by decide) (hts _ (wg_t kw_382)) (fun _ h9 => h9) rfl dK_hash_55 ?_
  refine lv_iload_n hx hb dK_hash_58 rfl (lv_at hl 1 rfl) ?_
  refine mc_v (wc := [(u 4, .inr (3, [.ref (u 5), .int (nI 136), .int (nI 6), .int (nI 0)])), (u 5, .inl (g.2.1 2, 25, .inr (.inl ((fun _ => 0)))))]) (wr := [(h0, .inr (0, [.ref (u 0), .int (nI 0), .ref (u 1), .int (nI 32), .ref (u 12), .int (nI 0), .ref (u 2), .ref (u 3), .ref (u 4), .ref (u 13), .ref (u 14)])), (u 1, .inl (g.2.1 1, 8192, .inl ((fun _ => 0))))]) hP hD hS hA [2, 3] [0, 1] rfl rfl rfl (by decide) (va_runV (As := [.int (nI 0)]) (rest := []) F (m_SP_start_0 l g _ (u 4) (u 5) (nI 136) (nI 6) (nI 0) (fun _ => 0)) (cwV 1 hts (wg_app (wg_c kw_1299 (wg_c kw_579 (wg_c kw_580 (wg_c kw_2 wg_n)))) kw_581) rfl rfl rfl (by decide +kernel) ⟨by decide, by decide⟩) (pr_V (en_ok g) (q0 := 2) hK hP hD hS hA hE [2, 3] rfl rfl rfl rfl) rfl rfl hl.1 rfl (lv_room (Nat.le_of_ble_eq_true rfl)) dK_hash_59 ⟨(by decide), (by decide)⟩) (fun u1 H locs hu1 hP hD hS => ?_)
  have hP : va_P g.1 vcl [(h0, .inr (0, [.ref (u 0), .int (nI 0), .ref (u 1), .int (nI 32), .ref (u 12), .int (nI 0), .ref (u 2), .ref (u 3), .ref (u 4), .ref (u 13), .ref (u 14)])), (u 1, .inl (g.2.1 1, 8192, .inl ((fun _ => 0)))), (u 4, .inr (3, [.ref (u 5), .int (nI 136), .int (nI 6), .int (nI 0)])), (u 5, .inl (g.2.1 2, 25, .inr (.inl u1)))] _ := hP
  have hD : va_D _ [(h0, .inr (0, [.ref (u 0), .int (nI 0), .ref (u 1), .int (nI 32), .ref (u 12), .int (nI 0), .ref (u 2), .ref (u 3), .ref (u 4), .ref (u 13), .ref (u 14)])), (u 1, .inl (g.2.1 1, 8192, .inl ((fun _ => 0)))), (u 4, .inr (3, [.ref (u 5), .int (nI 136), .int (nI 6), .int (nI 0)])), (u 5, .inl (g.2.1 2, 25, .inr (.inl u1)))] := hD
  refine W.widen (k := 0) (n := 0) (by omega) (by omega) ?_
  refine lv_aload_n hx hb dK_hash_62 rfl (lv_at hl 0 rfl) ?_
  refine va_get (D := g.1) (ci := 0) (C := "LatticeKeys") (T := T_K) (N := 11) hx hb hts (wg_ft i_K) hown hK hP 0 rfl rfl 8 (by decide) (hts _ (wg_t kw_382)) (fun _ h9 => h9) rfl dK_hash_63 ?_
  refine lv_aload_n hx hb dK_hash_66 rfl (lv_at hl 0 rfl) ?_
  refine va_get (D := g.1) (ci := 0) (C := "LatticeKeys") (T := T_K) (N := 11) hx hb hts (wg_ft i_K) hown hK hP 0 rfl rfl 0 (by decide) (hts _ (wg_t kw_374)) (fun _ h9 => h9) rfl dK_hash_67 ?_
  refine lv_iconst (v := nI 0) hx hb dK_hash_70 (by decide) ?_
  refine lv_aload_n hx hb dK_hash_71 rfl (lv_at hl 0 rfl) ?_
  refine va_get (D := g.1) (ci := 0) (C := "LatticeKeys") (T := T_K) (N := 11) hx hb hts (wg_ft i_K) hown hK hP 0 rfl rfl 1 (by decide) (hts _ (wg_t kw_375)) (fun _ h9 => h9) rfl dK_hash_72 ?_
  refine mc_v (wc := []) (wr := [(h0, .inr (0, [.ref (u 0), .int (nI 0), .ref (u 1), .int (nI 32), .ref (u 12), .int (nI 0), .ref (u 2), .ref (u 3), .ref (u 4), .ref (u 13), .ref (u 14)])), (u 1, .inl (g.2.1 1, 8192, .inl ((fun _ => 0)))), (u 4, .inr (3, [.ref (u 5), .int (nI 136), .int (nI 6), .int (nI 0)])), (u 5, .inl (g.2.1 2, 25, .inr (.inl u1)))]) hP hD hS hA [] [0, 1, 2, 3] rfl rfl rfl (by decide) (va_runV (As := [.ref (u 0), .int (nI 0), .int (nI 0)]) (rest := []) F (m_SP_absorb0 l g _ (u 4) (u 0)) (cwV 3 hts (wg_app (wg_c kw_1300 (wg_c kw_586 (wg_c kw_587 (wg_c kw_2 wg_n)))) kw_588) rfl rfl rfl (by decide +kernel) ⟨by decide, by decide⟩) (pr_V (en_ok g) (q0 := 2) hK hP hD hS hA hE [] rfl rfl rfl rfl) rfl rfl hl.1 rfl (lv_room (Nat.le_of_ble_eq_true rfl)) dK_hash_75 ⟨(by decide), (by decide)⟩) (fun u2 H locs hu2 hP hD hS => ?_)
  have hP : va_P g.1 vcl [(h0, .inr (0, [.ref (u 0), .int (nI 0), .ref (u 1), .int (nI 32), .ref (u 12), .int (nI 0), .ref (u 2), .ref (u 3), .ref (u 4), .ref (u 13), .ref (u 14)])), (u 1, .inl (g.2.1 1, 8192, .inl ((fun _ => 0)))), (u 4, .inr (3, [.ref (u 5), .int (nI 136), .int (nI 6), .int (nI 0)])), (u 5, .inl (g.2.1 2, 25, .inr (.inl u1)))] _ := hP
  have hD : va_D _ [(h0, .inr (0, [.ref (u 0), .int (nI 0), .ref (u 1), .int (nI 32), .ref (u 12), .int (nI 0), .ref (u 2), .ref (u 3), .ref (u 4), .ref (u 13), .ref (u 14)])), (u 1, .inl (g.2.1 1, 8192, .inl ((fun _ => 0)))), (u 4, .inr (3, [.ref (u 5), .int (nI 136), .int (nI 6), .int (nI 0)])), (u 5, .inl (g.2.1 2, 25, .inr (.inl u1)))] := hD
  refine W.widen (k := 0) (n := 0) (by omega) (by omega) ?_
  refine lv_aload_n hx hb dK_hash_78 rfl (lv_at hl 0 rfl) ?_
  refine va_get (D := g.1) (ci := 0) (C := "LatticeKeys") (T := T_K) (N := 11) hx hb hts (wg_ft i_K) hown hK hP 0 rfl rfl 8 (by decide) (hts _ (wg_t kw_382)) (fun _ h9 => h9) rfl dK_hash_79 ?_
  refine mc_v (wc := [(u 4, .inr (3, [.ref (u 5), .int (nI 136), .int (nI 6), .int (nI 0)])), (u 5, .inl (g.2.1 2, 25, .inr (.inl u1)))]) (wr := [(h0, .inr (0, [.ref (u 0), .int (nI 0), .ref (u 1), .int (nI 32), .ref (u 12), .int (nI 0), .ref (u 2), .ref (u 3), .ref (u 4), .ref (u 13), .ref (u 14)])), (u 1, .inl (g.2.1 1, 8192, .inl ((fun _ => 0))))]) hP hD hS hA [2, 3] [0, 1] rfl rfl rfl (by decide) (va_runV (As := []) (rest := []) F (m_SP_finish l g _ (u 4) (u 5) 136 0 (nI 6) u1 (by omega) (by omega)) (cwV 0 hts (wg_app (wg_c kw_1301 (wg_c kw_611 (wg_c kw_612 (wg_c kw_2 wg_n)))) kw_613) rfl rfl rfl (by decide +kernel) ⟨by decide, by decide⟩) (pr_V (en_ok g) (q0 := 2) hK hP hD hS hA hE [2, 3] rfl rfl rfl rfl) rfl rfl hl.1 rfl (lv_room (Nat.le_of_ble_eq_true rfl)) dK_hash_82 ⟨(by decide), (by decide)⟩) (fun u3 H locs hu3 hP hD hS => ?_)
  have hP : va_P g.1 vcl [(h0, .inr (0, [.ref (u 0), .int (nI 0), .ref (u 1), .int (nI 32), .ref (u 12), .int (nI 0), .ref (u 2), .ref (u 3), .ref (u 4), .ref (u 13), .ref (u 14)])), (u 1, .inl (g.2.1 1, 8192, .inl ((fun _ => 0)))), (u 4, .inr (3, [.ref (u 5), .int (nI 136), .int (nI 6), .int (nI 136)])), (u 5, .inl (g.2.1 2, 25, .inr (.inl u3)))] _ := hP
  have hD : va_D _ [(h0, .inr (0, [.ref (u 0), .int (nI 0), .ref (u 1), .int (nI 32), .ref (u 12), .int (nI 0), .ref (u 2), .ref (u 3), .ref (u 4), .ref (u 13), .ref (u 14)])), (u 1, .inl (g.2.1 1, 8192, .inl ((fun _ => 0)))), (u 4, .inr (3, [.ref (u 5), .int (nI 136), .int (nI 6), .int (nI 136)])), (u 5, .inl (g.2.1 2, 25, .inr (.inl u3)))] := hD
  refine W.widen (k := 0) (n := 0) (by omega) (by omega) ?_
  refine lv_aload_n hx hb dK_hash_85 rfl (lv_at hl 0 rfl) ?_
  refine va_get (D := g.1) (ci := 0) (C := "LatticeKeys") (T := T_K) (N := 11) hx hb hts (wg_ft i_K) hown hK hP 0 rfl rfl 8 (by decide) (hts _ (wg_t kw_382)) (fun _ h9 => h9) rfl dK_hash_86 ?_
  refine lv_aload_n hx hb dK_hash_89 rfl (lv_at hl 0 rfl) ?_
  refine va_get (D := g.1) (ci := 0) (C := "LatticeKeys") (T := T_K) (N := 11) hx hb hts (wg_ft i_K) hown hK hP 0 rfl rfl 2 (by decide) (hts _ (wg_t kw_376)) (fun _ h9 => h9) rfl dK_hash_90 ?_
  refine lv_iconst (v := nI 0) hx hb dK_hash_93 (by decide) ?_
  refine lv_aload_n hx hb dK_hash_94 rfl (lv_at hl 0 rfl) ?_
  refine va_get (D := g.1) (ci := 0) (C := "LatticeKeys") (T := T_K) (N := 11) hx hb hts (wg_ft i_K) hown hK hP 0 rfl rfl 3 (by decide) (hts _ (wg_t kw_377)) (fun _ h9 => h9) rfl dK_hash_95 ?_
  refine mc_v (wc := [(u 4, .inr (3, [.ref (u 5), .int (nI 136), .int (nI 6), .int (nI 136)])), (u 5, .inl (g.2.1 2, 25, .inr (.inl u3))), (u 1, .inl (g.2.1 1, 8192, .inl ((fun _ => 0))))]) (wr := [(h0, .inr (0, [.ref (u 0), .int (nI 0), .ref (u 1), .int (nI 32), .ref (u 12), .int (nI 0), .ref (u 2), .ref (u 3), .ref (u 4), .ref (u 13), .ref (u 14)]))]) hP hD hS hA [2, 3, 1] [0] rfl rfl rfl (by decide) (va_runV (As := [.ref (u 1), .int (nI 0), .int (nI 32)]) (rest := []) F (m_SP_squeeze l g _ (u 4) (u 5) (u 1) 136 136 32 (nI 6) u3 (fun _ => 0) (by omega) (by omega) (by omega)) (cwV 3 hts (wg_app (wg_c kw_1302 (wg_c kw_615 (wg_c kw_616 (wg_c kw_2 wg_n)))) kw_617) rfl rfl rfl (by decide +kernel) ⟨by decide, by decide⟩) (pr_V (en_ok g) (q0 := 2) hK hP hD hS hA hE [2, 3, 1] rfl rfl rfl rfl) rfl rfl hl.1 rfl (lv_room (Nat.le_of_ble_eq_true rfl)) dK_hash_98 ⟨(by decide), (by decide)⟩) (fun u4 H locs hu4 hP hD hS => ?_)
  have hP : va_P g.1 vcl [(h0, .inr (0, [.ref (u 0), .int (nI 0), .ref (u 1), .int (nI 32), .ref (u 12), .int (nI 0), .ref (u 2), .ref (u 3), .ref (u 4), .ref (u 13), .ref (u 14)]))] _ := hP
  have hD : va_D _ [(h0, .inr (0, [.ref (u 0), .int (nI 0), .ref (u 1), .int (nI 32), .ref (u 12), .int (nI 0), .ref (u 2), .ref (u 3), .ref (u 4), .ref (u 13), .ref (u 14)]))] := hD
  refine W.widen (k := 0) (n := 0) (by omega) (by omega) ?_
  refine lv_aload_n hx hb dK_hash_101 rfl (lv_at hl 0 rfl) ?_
  refine lv_iconst (v := nI 0) hx hb dK_hash_102 (by decide) ?_
  refine va_put (D := g.1) (ci := 0) (v := .int (nI 0)) (ty := .int) (C := "LatticeKeys") (T := T_K) (N := 11) hx hb hts (wg_ft i_K) ty_K k_K n_K hown hK hP hD hS 0 rfl rfl 1 (by decide) (hts _ (wg_t kw_375)) (fun _ h9 => h9) rfl (by decide +kernel) rfl rfl (Nat.le_of_ble_eq_true rfl) dK_hash_103 (fun H locs hP hD hS => ?_)
  have hP : va_P g.1 vcl [(h0, .inr (0, [.ref (u 0), .int (nI 0), .ref (u 1), .int (nI 32), .ref (u 12), .int (nI 0), .ref (u 2), .ref (u 3), .ref (u 4), .ref (u 13), .ref (u 14)]))] _ := hP
  have hD : va_D _ [(h0, .inr (0, [.ref (u 0), .int (nI 0), .ref (u 1), .int (nI 32), .ref (u 12), .int (nI 0), .ref (u 2), .ref (u 3), .ref (u 4), .ref (u 13), .ref (u 14)]))] := hD
  refine lv_aload_n hx hb dK_hash_106 rfl (lv_at hl 0 rfl) ?_
  refine va_get (D := g.1) (ci := 0) (C := "LatticeKeys") (T := T_K) (N := 11) hx hb hts (wg_ft i_K) hown hK hP 0 rfl rfl 3 (by decide) (hts _ (wg_t kw_377)) (fun _ h9 => h9) rfl dK_hash_107 ?_
  exact mc_iret hx hb hr hlk hP hD hS () rfl [] rfl rfl (by omega) (by omega) dK_hash_110
set_option maxHeartbeats 400000 in
set_option maxRecDepth 100000 in
theorem m_K_hash_1 (l : Launch) (g : Gd) (sz : Nat) (h0 : Nat) (u : Nat → Nat) (j : Nat) (hj : j ≤ 8192)  : Met l y_K_hash w_K_hash ({ frames := 4, cells := 0, slots := 0, locals := 140 } : Room) (va_Pc [.ref h0, .int (nI 1), .int (nI j)] (pr (en g) g.1 vcl sz [(h0, .inr (0, [.ref (u 0), .int (nI 0), .ref (u 1), .int (nI 0), .ref (u 12), .int (nI 0), .ref (u 2), .ref (u 3), .ref (u 4), .ref (u 13), .ref (u 14)])), (u 1, .inl (g.2.1 1, 8192, .inl ((fun _ => 0)))), (u 4, .inr (3, [.ref (u 5), .int (nI 136), .int (nI 6), .int (nI 0)])), (u 5, .inl (g.2.1 2, 25, .inr (.inl ((fun _ => 0)))))])) (va_Qi (fun (r : Int32) (u : Unit) => r = nI 64) (po g.1 vcl (va_A [(h0, .inr (0, [.ref (u 0), .int (nI 0), .ref (u 1), .int (nI 0), .ref (u 12), .int (nI 0), .ref (u 2), .ref (u 3), .ref (u 4), .ref (u 13), .ref (u 14)])), (u 1, .inl (g.2.1 1, 8192, .inl ((fun _ => 0)))), (u 4, .inr (3, [.ref (u 5), .int (nI 136), .int (nI 6), .int (nI 0)])), (u 5, .inl (g.2.1 2, 25, .inr (.inl ((fun _ => 0)))))] sz) (fun (u : Unit) => [])) (va_A [(h0, .inr (0, [.ref (u 0), .int (nI 0), .ref (u 1), .int (nI 0), .ref (u 12), .int (nI 0), .ref (u 2), .ref (u 3), .ref (u 4), .ref (u 13), .ref (u 14)])), (u 1, .inl (g.2.1 1, 8192, .inl ((fun _ => 0)))), (u 4, .inr (3, [.ref (u 5), .int (nI 136), .int (nI 6), .int (nI 0)])), (u 5, .inl (g.2.1 2, 25, .inr (.inl ((fun _ => 0)))))] sz)) 0 0 (va_A [(h0, .inr (0, [.ref (u 0), .int (nI 0), .ref (u 1), .int (nI 0), .ref (u 12), .int (nI 0), .ref (u 2), .ref (u 3), .ref (u 4), .ref (u 13), .ref (u 14)])), (u 1, .inl (g.2.1 1, 8192, .inl ((fun _ => 0)))), (u 4, .inr (3, [.ref (u 5), .int (nI 136), .int (nI 6), .int (nI 0)])), (u 5, .inl (g.2.1 2, 25, .inr (.inl ((fun _ => 0)))))] sz) := by
  refine mc_entry (cc := c_K_hash) (maxL := 3) (ret := (some .int)) (by decide) rfl (Nat.le_of_ble_eq_true rfl) ?_
  intro p e s m args below meth c ls F hr hlk hnm hsz hP hD hE hA hl
  obtain ⟨hx, hb, hml, hown, hts⟩ := id F
  have hK := hE.1
  generalize va_A [(h0, .inr (0, [.ref (u 0), .int (nI 0), .ref (u 1), .int (nI 0), .ref (u 12), .int (nI 0), .ref (u 2), .ref (u 3), .ref (u 4), .ref (u 13), .ref (u 14)])), (u 1, .inl (g.2.1 1, 8192, .inl ((fun _ => 0)))), (u 4, .inr (3, [.ref (u 5), .int (nI 136), .int (nI 6), .int (nI 0)])), (u 5, .inl (g.2.1 2, 25, .inr (.inl ((fun _ => 0)))))] sz = A at hD hE hA ⊢
  have hS : va_S A s.heap s.heap [] := va_S.rf
  have hl : lv_has ls 3 [(0, .ref h0), (1, .int (nI 1)), (2, .int (nI j))] := hl
  refine lv_iload_n hx hb dK_hash_0 rfl (lv_at hl 1 rfl) ?_
  refine lv_if_lt (tgt := 20) hx hb dK_hash_1 (by decide) (fun h1 => absurd h1 (by decide)) (fun h1 => ?_)
  refine lv_iload_n hx hb dK_hash_4 rfl (lv_at hl 1 rfl) ?_
  refine lv_iconst (v := nI 3) hx hb dK_hash_5 (by decide) ?_
  refine mi_gt (tgt := 20) hx hb dK_hash_6 (by decide) (by omega) (by omega) (fun h2 => absurd h2 (by omega)) (fun h2 => ?_)
  refine lv_iload_n hx hb dK_hash_9 rfl (lv_at hl 2 rfl) ?_
  refine lv_if_lt (tgt := 20) hx hb dK_hash_10 (by decide) (fun h3 => absurd h3 (nI_pos (by omega))) (fun h3 => ?_)
  refine lv_iload_n hx hb dK_hash_13 rfl (lv_at hl 2 rfl) ?_
  refine lv_sipush (v := nI 8192) hx hb dK_hash_14 (by decide) ?_
  refine mi_le (tgt := 30) hx hb dK_hash_17 (by decide) (by omega) (by omega) (fun h4 => ?_) (fun h4 => absurd h4 (by omega))
  refine lv_aload_n hx hb dK_hash_30 rfl (lv_at hl 0 rfl) ?_
  refine lv_iload_n hx hb dK_hash_31 rfl (lv_at hl 1 rfl) ?_
  refine lv_if_ne (tgt := 40) hx hb dK_hash_32 (by decide) (fun h5 => ?_) (fun h5 => absurd h5 (by decide))
  refine lv_iload_n hx hb dK_hash_40 rfl (lv_at hl 1 rfl) ?_
  refine lv_iconst (v := nI 1) hx hb dK_hash_41 (by decide) ?_
  refine mi_ne (tgt := 50) hx hb dK_hash_42 (by decide) (by omega) (by omega) (fun h6 => absurd h6 (by omega)) (fun h6 => ?_)
  refine lv_bipush (v := nI 64) hx hb dK_hash_45 (by decide) ?_
  refine lv_goto (tgt := 51) hx hb dK_hash_47 (by decide) ?_
  refine va_put (D := g.1) (ci := 0) (v := .int (nI 64)) (ty := .int) (C := "LatticeKeys") (T := T_K) (N := 11) hx hb hts (wg_ft i_K) ty_K k_K n_K hown hK hP hD hS 0 rfl rfl 3 (by decide) (hts _ (wg_t kw_377)) (fun _ h9 => h9) rfl (by decide +kernel) rfl rfl (Nat.le_of_ble_eq_true rfl) dK_hash_51 (fun H locs hP hD hS => ?_)
  have hP : va_P g.1 vcl [(h0, .inr (0, [.ref (u 0), .int (nI 0), .ref (u 1), .int (nI 64), .ref (u 12), .int (nI 0), .ref (u 2), .ref (u 3), .ref (u 4), .ref (u 13), .ref (u 14)])), (u 1, .inl (g.2.1 1, 8192, .inl ((fun _ => 0)))), (u 4, .inr (3, [.ref (u 5), .int (nI 136), .int (nI 6), .int (nI 0)])), (u 5, .inl (g.2.1 2, 25, .inr (.inl ((fun _ => 0)))))] _ := hP
  have hD : va_D _ [(h0, .inr (0, [.ref (u 0), .int (nI 0), .ref (u 1), .int (nI 64), .ref (u 12), .int (nI 0), .ref (u 2), .ref (u 3), .ref (u 4), .ref (u 13), .ref (u 14)])), (u 1, .inl (g.2.1 1, 8192, .inl ((fun _ => 0)))), (u 4, .inr (3, [.ref (u 5), .int (nI 136), .int (nI 6), .int (nI 0)])), (u 5, .inl (g.2.1 2, 25, .inr (.inl ((fun _ => 0)))))] := hD
  refine lv_aload_n hx hb dK_hash_54 rfl (lv_at hl 0 rfl) ?_
  refine va_get (D := g.1) (ci := 0) (C := "LatticeKeys") (T := T_K) (N := 11) hx hb hts (wg_ft i_K) hown hK hP 0 rfl rfl 8 (by decide) (hts _ (wg_t kw_382)) (fun _ h9 => h9) rfl dK_hash_55 ?_
  refine lv_iload_n hx hb dK_hash_58 rfl (lv_at hl 1 rfl) ?_
  refine mc_v (wc := [(u 4, .inr (3, [.ref (u 5), .int (nI 136), .int (nI 6), .int (nI 0)])), (u 5, .inl (g.2.1 2, 25, .inr (.inl ((fun _ => 0)))))]) (wr := [(h0, .inr (0, [.ref (u 0), .int (nI 0), .ref (u 1), .int (nI 64), .ref (u 12), .int (nI 0), .ref (u 2), .ref (u 3), .ref (u 4), .ref (u 13), .ref (u 14)])), (u 1, .inl (g.2.1 1, 8192, .inl ((fun _ => 0))))]) hP hD hS hA [2, 3] [0, 1] rfl rfl rfl (by decide) (va_runV (As := [.int (nI 1)]) (rest := []) F (m_SP_start_1 l g _ (u 4) (u 5) (nI 136) (nI 6) (nI 0) (fun _ => 0)) (cwV 1 hts (wg_app (wg_c kw_1299 (wg_c kw_579 (wg_c kw_580 (wg_c kw_2 wg_n)))) kw_581) rfl rfl rfl (by decide +kernel) ⟨by decide, by decide⟩) (pr_V (en_ok g) (q0 := 2) hK hP hD hS hA hE [2, 3] rfl rfl rfl rfl) rfl rfl hl.1 rfl (lv_room (Nat.le_of_ble_eq_true rfl)) dK_hash_59 ⟨(by decide), (by decide)⟩) (fun u1 H locs hu1 hP hD hS => ?_)
  have hP : va_P g.1 vcl [(h0, .inr (0, [.ref (u 0), .int (nI 0), .ref (u 1), .int (nI 64), .ref (u 12), .int (nI 0), .ref (u 2), .ref (u 3), .ref (u 4), .ref (u 13), .ref (u 14)])), (u 1, .inl (g.2.1 1, 8192, .inl ((fun _ => 0)))), (u 4, .inr (3, [.ref (u 5), .int (nI 72), .int (nI 6), .int (nI 0)])), (u 5, .inl (g.2.1 2, 25, .inr (.inl u1)))] _ := hP
  have hD : va_D _ [(h0, .inr (0, [.ref (u 0), .int (nI 0), .ref (u 1), .int (nI 64), .ref (u 12), .int (nI 0), .ref (u 2), .ref (u 3), .ref (u 4), .ref (u 13), .ref (u 14)])), (u 1, .inl (g.2.1 1, 8192, .inl ((fun _ => 0)))), (u 4, .inr (3, [.ref (u 5), .int (nI 72), .int (nI 6), .int (nI 0)])), (u 5, .inl (g.2.1 2, 25, .inr (.inl u1)))] := hD
  refine W.widen (k := 0) (n := 0) (by omega) (by omega) ?_
  refine lv_aload_n hx hb dK_hash_62 rfl (lv_at hl 0 rfl) ?_
  refine va_get (D := g.1) (ci := 0) (C := "LatticeKeys") (T := T_K) (N := 11) hx hb hts (wg_ft i_K) hown hK hP 0 rfl rfl 8 (by decide) (hts _ (wg_t kw_382)) (fun _ h9 => h9) rfl dK_hash_63 ?_
  refine lv_aload_n hx hb dK_hash_66 rfl (lv_at hl 0 rfl) ?_
  refine va_get (D := g.1) (ci := 0) (C := "LatticeKeys") (T := T_K) (N := 11) hx hb hts (wg_ft i_K) hown hK hP 0 rfl rfl 0 (by decide) (hts _ (wg_t kw_374)) (fun _ h9 => h9) rfl dK_hash_67 ?_
  refine lv_iconst (v := nI 0) hx hb dK_hash_70 (by decide) ?_
  refine lv_aload_n hx hb dK_hash_71 rfl (lv_at hl 0 rfl) ?_
  refine va_get (D := g.1) (ci := 0) (C := "LatticeKeys") (T := T_K) (N := 11) hx hb hts (wg_ft i_K) hown hK hP 0 rfl rfl 1 (by decide) (hts _ (wg_t kw_375)) (fun _ h9 => h9) rfl dK_hash_72 ?_
  refine mc_v (wc := []) (wr := [(h0, .inr (0, [.ref (u 0), .int (nI 0), .ref (u 1), .int (nI 64), .ref (u 12), .int (nI 0), .ref (u 2), .ref (u 3), .ref (u 4), .ref (u 13), .ref (u 14)])), (u 1, .inl (g.2.1 1, 8192, .inl ((fun _ => 0)))), (u 4, .inr (3, [.ref (u 5), .int (nI 72), .int (nI 6), .int (nI 0)])), (u 5, .inl (g.2.1 2, 25, .inr (.inl u1)))]) hP hD hS hA [] [0, 1, 2, 3] rfl rfl rfl (by decide) (va_runV (As := [.ref (u 0), .int (nI 0), .int (nI 0)]) (rest := []) F (m_SP_absorb0 l g _ (u 4) (u 0)) (cwV 3 hts (wg_app (wg_c kw_1300 (wg_c kw_586 (wg_c kw_587 (wg_c kw_2 wg_n)))) kw_588) rfl rfl rfl (by decide +kernel) ⟨by decide, by decide⟩) (pr_V (en_ok g) (q0 := 2) hK hP hD hS hA hE [] rfl rfl rfl rfl) rfl rfl hl.1 rfl (lv_room (Nat.le_of_ble_eq_true rfl)) dK_hash_75 ⟨(by decide), (by decide)⟩) (fun u2 H locs hu2 hP hD hS => ?_)
  have hP : va_P g.1 vcl [(h0, .inr (0, [.ref (u 0), .int (nI 0), .ref (u 1), .int (nI 64), .ref (u 12), .int (nI 0), .ref (u 2), .ref (u 3), .ref (u 4), .ref (u 13), .ref (u 14)])), (u 1, .inl (g.2.1 1, 8192, .inl ((fun _ => 0)))), (u 4, .inr (3, [.ref (u 5), .int (nI 72), .int (nI 6), .int (nI 0)])), (u 5, .inl (g.2.1 2, 25, .inr (.inl u1)))] _ := hP
  have hD : va_D _ [(h0, .inr (0, [.ref (u 0), .int (nI 0), .ref (u 1), .int (nI 64), .ref (u 12), .int (nI 0), .ref (u 2), .ref (u 3), .ref (u 4), .ref (u 13), .ref (u 14)])), (u 1, .inl (g.2.1 1, 8192, .inl ((fun _ => 0)))), (u 4, .inr (3, [.ref (u 5), .int (nI 72), .int (nI 6), .int (nI 0)])), (u 5, .inl (g.2.1 2, 25, .inr (.inl u1)))] := hD
  refine W.widen (k := 0) (n := 0) (by omega) (by omega) ?_
  refine lv_aload_n hx hb dK_hash_78 rfl (lv_at hl 0 rfl) ?_
  refine va_get (D := g.1) (ci := 0) (C := "LatticeKeys") (T := T_K) (N := 11) hx hb hts (wg_ft i_K) hown hK hP 0 rfl rfl 8 (by decide) (hts _ (wg_t kw_382)) (fun _ h9 => h9) rfl dK_hash_79 ?_
  refine mc_v (wc := [(u 4, .inr (3, [.ref (u 5), .int (nI 72), .int (nI 6), .int (nI 0)])), (u 5, .inl (g.2.1 2, 25, .inr (.inl u1)))]) (wr := [(h0, .inr (0, [.ref (u 0), .int (nI 0), .ref (u 1), .int (nI 64), .ref (u 12), .int (nI 0), .ref (u 2), .ref (u 3), .ref (u 4), .ref (u 13), .ref (u 14)])), (u 1, .inl (g.2.1 1, 8192, .inl ((fun _ => 0))))]) hP hD hS hA [2, 3] [0, 1] rfl rfl rfl (by decide) (va_runV (As := []) (rest := []) F (m_SP_finish l g _ (u 4) (u 5) 72 0 (nI 6) u1 (by omega) (by omega)) (cwV 0 hts (wg_app (wg_c kw_1301 (wg_c kw_611 (wg_c kw_612 (wg_c kw_2 wg_n)))) kw_613) rfl rfl rfl (by decide +kernel) ⟨by decide, by decide⟩) (pr_V (en_ok g) (q0 := 2) hK hP hD hS hA hE [2, 3] rfl rfl rfl rfl) rfl rfl hl.1 rfl (lv_room (Nat.le_of_ble_eq_true rfl)) dK_hash_82 ⟨(by decide), (by decide)⟩) (fun u3 H locs hu3 hP hD hS => ?_)
  have hP : va_P g.1 vcl [(h0, .inr (0, [.ref (u 0), .int (nI 0), .ref (u 1), .int (nI 64), .ref (u 12), .int (nI 0), .ref (u 2), .ref (u 3), .ref (u 4), .ref (u 13), .ref (u 14)])), (u 1, .inl (g.2.1 1, 8192, .inl ((fun _ => 0)))), (u 4, .inr (3, [.ref (u 5), .int (nI 72), .int (nI 6), .int (nI 72)])), (u 5, .inl (g.2.1 2, 25, .inr (.inl u3)))] _ := hP
  have hD : va_D _ [(h0, .inr (0, [.ref (u 0), .int (nI 0), .ref (u 1), .int (nI 64), .ref (u 12), .int (nI 0), .ref (u 2), .ref (u 3), .ref (u 4), .ref (u 13), .ref (u 14)])), (u 1, .inl (g.2.1 1, 8192, .inl ((fun _ => 0)))), (u 4, .inr (3, [.ref (u 5), .int (nI 72), .int (nI 6), .int (nI 72)])), (u 5, .inl (g.2.1 2, 25, .inr (.inl u3)))] := hD
  refine W.widen (k := 0) (n := 0) (by omega) (by omega) ?_
  refine lv_aload_n hx hb dK_hash_85 rfl (lv_at hl 0 rfl) ?_
  refine va_get (D := g.1) (ci := 0) (C := "LatticeKeys") (T := T_K) (N := 11) hx hb hts (wg_ft i_K) hown hK hP 0 rfl rfl 8 (by decide) (hts _ (wg_t kw_382)) (fun _ h9 => h9) rfl dK_hash_86 ?_
  refine lv_aload_n hx hb dK_hash_89 rfl (lv_at hl 0 rfl) ?_
  refine va_get (D := g.1) (ci := 0) (C := "LatticeKeys") (T := T_K) (N := 11) hx hb hts (wg_ft i_K) hown hK hP 0 rfl rfl 2 (by decide) (hts _ (wg_t kw_376)) (fun _ h9 => h9) rfl dK_hash_90 ?_
  refine lv_iconst (v := nI 0) hx hb dK_hash_93 (by decide) ?_
  refine lv_aload_n hx hb dK_hash_94 rfl (lv_at hl 0 rfl) ?_
  refine va_get (D := g.1) (ci := 0) (C := "LatticeKeys") (T := T_K) (N := 11) hx hb hts (wg_ft i_K) hown hK hP 0 rfl rfl 3 (by decide) (hts _ (wg_t kw_377)) (fun _ h9 => h9) rfl dK_hash_95 ?_
  refine mc_v (wc := [(u 4, .inr (3, [.ref (u 5), .int (nI 72), .int (nI 6), .int (nI 72)])), (u 5, .inl (g.2.1 2, 25, .inr (.inl u3))), (u 1, .inl (g.2.1 1, 8192, .inl ((fun _ => 0))))]) (wr := [(h0, .inr (0, [.ref (u 0), .int (nI 0), .ref (u 1), .int (nI 64), .ref (u 12), .int (nI 0), .ref (u 2), .ref (u 3), .ref (u 4), .ref (u 13), .ref (u 14)]))]) hP hD hS hA [2, 3, 1] [0] rfl rfl rfl (by decide) (va_runV (As := [.ref (u 1), .int (nI 0), .int (nI 64)]) (rest := []) F (m_SP_squeeze l g _ (u 4) (u 5) (u 1) 72 72 64 (nI 6) u3 (fun _ => 0) (by omega) (by omega) (by omega)) (cwV 3 hts (wg_app (wg_c kw_1302 (wg_c kw_615 (wg_c kw_616 (wg_c kw_2 wg_n)))) kw_617) rfl rfl rfl (by decide +kernel) ⟨by decide, by decide⟩) (pr_V (en_ok g) (q0 := 2) hK hP hD hS hA hE [2, 3, 1] rfl rfl rfl rfl) rfl rfl hl.1 rfl (lv_room (Nat.le_of_ble_eq_true rfl)) dK_hash_98 ⟨(by decide), (by decide)⟩) (fun u4 H locs hu4 hP hD hS => ?_)
  have hP : va_P g.1 vcl [(h0, .inr (0, [.ref (u 0), .int (nI 0), .ref (u 1), .int (nI 64), .ref (u 12), .int (nI 0), .ref (u 2), .ref (u 3), .ref (u 4), .ref (u 13), .ref (u 14)]))] _ := hP
  have hD : va_D _ [(h0, .inr (0, [.ref (u 0), .int (nI 0), .ref (u 1), .int (nI 64), .ref (u 12), .int (nI 0), .ref (u 2), .ref (u 3), .ref (u 4), .ref (u 13), .ref (u 14)]))] := hD
  refine W.widen (k := 0) (n := 0) (by omega) (by omega) ?_
  refine lv_aload_n hx hb dK_hash_101 rfl (lv_at hl 0 rfl) ?_
  refine lv_iconst (v := nI 0) hx hb dK_hash_102 (by decide) ?_
  refine va_put (D := g.1) (ci := 0) (v := .int (nI 0)) (ty := .int) (C := "LatticeKeys") (T := T_K) (N := 11) hx hb hts (wg_ft i_K) ty_K k_K n_K hown hK hP hD hS 0 rfl rfl 1 (by decide) (hts _ (wg_t kw_375)) (fun _ h9 => h9) rfl (by decide +kernel) rfl rfl (Nat.le_of_ble_eq_true rfl) dK_hash_103 (fun H locs hP hD hS => ?_)
  have hP : va_P g.1 vcl [(h0, .inr (0, [.ref (u 0), .int (nI 0), .ref (u 1), .int (nI 64), .ref (u 12), .int (nI 0), .ref (u 2), .ref (u 3), .ref (u 4), .ref (u 13), .ref (u 14)]))] _ := hP
  have hD : va_D _ [(h0, .inr (0, [.ref (u 0), .int (nI 0), .ref (u 1), .int (nI 64), .ref (u 12), .int (nI 0), .ref (u 2), .ref (u 3), .ref (u 4), .ref (u 13), .ref (u 14)]))] := hD
  refine lv_aload_n hx hb dK_hash_106 rfl (lv_at hl 0 rfl) ?_
  refine va_get (D := g.1) (ci := 0) (C := "LatticeKeys") (T := T_K) (N := 11) hx hb hts (wg_ft i_K) hown hK hP 0 rfl rfl 3 (by decide) (hts _ (wg_t kw_377)) (fun _ h9 => h9) rfl dK_hash_107 ?_
  exact mc_iret hx hb hr hlk hP hD hS () rfl [] rfl rfl (by omega) (by omega) dK_hash_110
set_option maxHeartbeats 400000 in
set_option maxRecDepth 100000 in
theorem m_K_hash_2 (l : Launch) (g : Gd) (sz : Nat) (h0 : Nat) (u : Nat → Nat) (j : Nat) (hj : j ≤ 8192)  : Met l y_K_hash w_K_hash ({ frames := 4, cells := 0, slots := 0, locals := 140 } : Room) (va_Pc [.ref h0, .int (nI 2), .int (nI j)] (pr (en g) g.1 vcl sz [(h0, .inr (0, [.ref (u 0), .int (nI 0), .ref (u 1), .int (nI 0), .ref (u 12), .int (nI 0), .ref (u 2), .ref (u 3), .ref (u 4), .ref (u 13), .ref (u 14)])), (u 1, .inl (g.2.1 1, 8192, .inl ((fun _ => 0)))), (u 4, .inr (3, [.ref (u 5), .int (nI 136), .int (nI 6), .int (nI 0)])), (u 5, .inl (g.2.1 2, 25, .inr (.inl ((fun _ => 0)))))])) (va_Qi (fun (r : Int32) (u : Unit) => r = nI j) (po g.1 vcl (va_A [(h0, .inr (0, [.ref (u 0), .int (nI 0), .ref (u 1), .int (nI 0), .ref (u 12), .int (nI 0), .ref (u 2), .ref (u 3), .ref (u 4), .ref (u 13), .ref (u 14)])), (u 1, .inl (g.2.1 1, 8192, .inl ((fun _ => 0)))), (u 4, .inr (3, [.ref (u 5), .int (nI 136), .int (nI 6), .int (nI 0)])), (u 5, .inl (g.2.1 2, 25, .inr (.inl ((fun _ => 0)))))] sz) (fun (u : Unit) => [])) (va_A [(h0, .inr (0, [.ref (u 0), .int (nI 0), .ref (u 1), .int (nI 0), .ref (u 12), .int (nI 0), .ref (u 2), .ref (u 3), .ref (u 4), .ref (u 13), .ref (u 14)])), (u 1, .inl (g.2.1 1, 8192, .inl ((fun _ => 0)))), (u 4, .inr (3, [.ref (u 5), .int (nI 136), .int (nI 6), .int (nI 0)])), (u 5, .inl (g.2.1 2, 25, .inr (.inl ((fun _ => 0)))))] sz)) 0 0 (va_A [(h0, .inr (0, [.ref (u 0), .int (nI 0), .ref (u 1), .int (nI 0), .ref (u 12), .int (nI 0), .ref (u 2), .ref (u 3), .ref (u 4), .ref (u 13), .ref (u 14)])), (u 1, .inl (g.2.1 1, 8192, .inl ((fun _ => 0)))), (u 4, .inr (3, [.ref (u 5), .int (nI 136), .int (nI 6), .int (nI 0)])), (u 5, .inl (g.2.1 2, 25, .inr (.inl ((fun _ => 0)))))] sz) := by
  refine mc_entry (cc := c_K_hash) (maxL := 3) (ret := (some .int)) (by decide) rfl (Nat.le_of_ble_eq_true rfl) ?_
  intro p e s m args below meth c ls F hr hlk hnm hsz hP hD hE hA hl
  obtain ⟨hx, hb, hml, hown, hts⟩ := id F
  have hK := hE.1
  generalize va_A [(h0, .inr (0, [.ref (u 0), .int (nI 0), .ref (u 1), .int (nI 0), .ref (u 12), .int (nI 0), .ref (u 2), .ref (u 3), .ref (u 4), .ref (u 13), .ref (u 14)])), (u 1, .inl (g.2.1 1, 8192, .inl ((fun _ => 0)))), (u 4, .inr (3, [.ref (u 5), .int (nI 136), .int (nI 6), .int (nI 0)])), (u 5, .inl (g.2.1 2, 25, .inr (.inl ((fun _ => 0)))))] sz = A at hD hE hA ⊢
  have hS : va_S A s.heap s.heap [] := va_S.rf
  have hl : lv_has ls 3 [(0, .ref h0), (1, .int (nI 2)), (2, .int (nI j))] := hl
  refine lv_iload_n hx hb dK_hash_0 rfl (lv_at hl 1 rfl) ?_
  refine lv_if_lt (tgt := 20) hx hb dK_hash_1 (by decide) (fun h1 => absurd h1 (by decide)) (fun h1 => ?_)
  refine lv_iload_n hx hb dK_hash_4 rfl (lv_at hl 1 rfl) ?_
  refine lv_iconst (v := nI 3) hx hb dK_hash_5 (by decide) ?_
  refine mi_gt (tgt := 20) hx hb dK_hash_6 (by decide) (by omega) (by omega) (fun h2 => absurd h2 (by omega)) (fun h2 => ?_)
  refine lv_iload_n hx hb dK_hash_9 rfl (lv_at hl 2 rfl) ?_
  refine lv_if_lt (tgt := 20) hx hb dK_hash_10 (by decide) (fun h3 => absurd h3 (nI_pos (by omega))) (fun h3 => ?_)
  refine lv_iload_n hx hb dK_hash_13 rfl (lv_at hl 2 rfl) ?_
  refine lv_sipush (v := nI 8192) hx hb dK_hash_14 (by decide) ?_
  refine mi_le (tgt := 30) hx hb dK_hash_17 (by decide) (by omega) (by omega) (fun h4 => ?_) (fun h4 => absurd h4 (by omega))
  refine lv_aload_n hx hb dK_hash_30 rfl (lv_at hl 0 rfl) ?_
  refine lv_iload_n hx hb dK_hash_31 rfl (lv_at hl 1 rfl) ?_
  refine lv_if_ne (tgt := 40) hx hb dK_hash_32 (by decide) (fun h5 => ?_) (fun h5 => absurd h5 (by decide))
  refine lv_iload_n hx hb dK_hash_40 rfl (lv_at hl 1 rfl) ?_
  refine lv_iconst (v := nI 1) hx hb dK_hash_41 (by decide) ?_
  refine mi_ne (tgt := 50) hx hb dK_hash_42 (by decide) (by omega) (by omega) (fun h6 => ?_) (fun h6 => absurd h6 (by omega))
  refine lv_iload_n hx hb dK_hash_50 rfl (lv_at hl 2 rfl) ?_
  refine va_put (D := g.1) (ci := 0) (v := .int (nI j)) (ty := .int) (C := "LatticeKeys") (T := T_K) (N := 11) hx hb hts (wg_ft i_K) ty_K k_K n_K hown hK hP hD hS 0 rfl rfl 3 (by decide) (hts _ (wg_t kw_377)) (fun _ h9 => h9) rfl (by decide +kernel) rfl rfl (Nat.le_of_ble_eq_true rfl) dK_hash_51 (fun H locs hP hD hS => ?_)
  have hP : va_P g.1 vcl [(h0, .inr (0, [.ref (u 0), .int (nI 0), .ref (u 1), .int (nI j), .ref (u 12), .int (nI 0), .ref (u 2), .ref (u 3), .ref (u 4), .ref (u 13), .ref (u 14)])), (u 1, .inl (g.2.1 1, 8192, .inl ((fun _ => 0)))), (u 4, .inr (3, [.ref (u 5), .int (nI 136), .int (nI 6), .int (nI 0)])), (u 5, .inl (g.2.1 2, 25, .inr (.inl ((fun _ => 0)))))] _ := hP
  have hD : va_D _ [(h0, .inr (0, [.ref (u 0), .int (nI 0), .ref (u 1), .int (nI j), .ref (u 12), .int (nI 0), .ref (u 2), .ref (u 3), .ref (u 4), .ref (u 13), .ref (u 14)])), (u 1, .inl (g.2.1 1, 8192, .inl ((fun _ => 0)))), (u 4, .inr (3, [.ref (u 5), .int (nI 136), .int (nI 6), .int (nI 0)])), (u 5, .inl (g.2.1 2, 25, .inr (.inl ((fun _ => 0)))))] := hD
  refine lv_aload_n hx hb dK_hash_54 rfl (lv_at hl 0 rfl) ?_
  refine va_get (D := g.1) (ci := 0) (C := "LatticeKeys") (T := T_K) (N := 11) hx hb hts (wg_ft i_K) hown hK hP 0 rfl rfl 8 (by decide) (hts _ (wg_t kw_382)) (fun _ h9 => h9) rfl dK_hash_55 ?_
  refine lv_iload_n hx hb dK_hash_58 rfl (lv_at hl 1 rfl) ?_
  refine mc_v (wc := [(u 4, .inr (3, [.ref (u 5), .int (nI 136), .int (nI 6), .int (nI 0)])), (u 5, .inl (g.2.1 2, 25, .inr (.inl ((fun _ => 0)))))]) (wr := [(h0, .inr (0, [.ref (u 0), .int (nI 0), .ref (u 1), .int (nI j), .ref (u 12), .int (nI 0), .ref (u 2), .ref (u 3), .ref (u 4), .ref (u 13), .ref (u 14)])), (u 1, .inl (g.2.1 1, 8192, .inl ((fun _ => 0))))]) hP hD hS hA [2, 3] [0, 1] rfl rfl rfl (by decide) (va_runV (As := [.int (nI 2)]) (rest := []) F (m_SP_start_2 l g _ (u 4) (u 5) (nI 136) (nI 6) (nI 0) (fun _ => 0)) (cwV 1 hts (wg_app (wg_c kw_1299 (wg_c kw_579 (wg_c kw_580 (wg_c kw_2 wg_n)))) kw_581) rfl rfl rfl (by decide +kernel) ⟨by decide, by decide⟩) (pr_V (en_ok g) (q0 := 2) hK hP hD hS hA hE [2, 3] rfl rfl rfl rfl) rfl rfl hl.1 rfl (lv_room (Nat.le_of_ble_eq_true rfl)) dK_hash_59 ⟨(by decide), (by decide)⟩) (fun u1 H locs hu1 hP hD hS => ?_)
  have hP : va_P g.1 vcl [(h0, .inr (0, [.ref (u 0), .int (nI 0), .ref (u 1), .int (nI j), .ref (u 12), .int (nI 0), .ref (u 2), .ref (u 3), .ref (u 4), .ref (u 13), .ref (u 14)])), (u 1, .inl (g.2.1 1, 8192, .inl ((fun _ => 0)))), (u 4, .inr (3, [.ref (u 5), .int (nI 168), .int (nI 31), .int (nI 0)])), (u 5, .inl (g.2.1 2, 25, .inr (.inl u1)))] _ := hP
  have hD : va_D _ [(h0, .inr (0, [.ref (u 0), .int (nI 0), .ref (u 1), .int (nI j), .ref (u 12), .int (nI 0), .ref (u 2), .ref (u 3), .ref (u 4), .ref (u 13), .ref (u 14)])), (u 1, .inl (g.2.1 1, 8192, .inl ((fun _ => 0)))), (u 4, .inr (3, [.ref (u 5), .int (nI 168), .int (nI 31), .int (nI 0)])), (u 5, .inl (g.2.1 2, 25, .inr (.inl u1)))] := hD
  refine W.widen (k := 0) (n := 0) (by omega) (by omega) ?_
  refine lv_aload_n hx hb dK_hash_62 rfl (lv_at hl 0 rfl) ?_
  refine va_get (D := g.1) (ci := 0) (C := "LatticeKeys") (T := T_K) (N := 11) hx hb hts (wg_ft i_K) hown hK hP 0 rfl rfl 8 (by decide) (hts _ (wg_t kw_382)) (fun _ h9 => h9) rfl dK_hash_63 ?_
  refine lv_aload_n hx hb dK_hash_66 rfl (lv_at hl 0 rfl) ?_
  refine va_get (D := g.1) (ci := 0) (C := "LatticeKeys") (T := T_K) (N := 11) hx hb hts (wg_ft i_K) hown hK hP 0 rfl rfl 0 (by decide) (hts _ (wg_t kw_374)) (fun _ h9 => h9) rfl dK_hash_67 ?_
  refine lv_iconst (v := nI 0) hx hb dK_hash_70 (by decide) ?_
  refine lv_aload_n hx hb dK_hash_71 rfl (lv_at hl 0 rfl) ?_
  refine va_get (D := g.1) (ci := 0) (C := "LatticeKeys") (T := T_K) (N := 11) hx hb hts (wg_ft i_K) hown hK hP 0 rfl rfl 1 (by decide) (hts _ (wg_t kw_375)) (fun _ h9 => h9) rfl dK_hash_72 ?_
  refine mc_v (wc := []) (wr := [(h0, .inr (0, [.ref (u 0), .int (nI 0), .ref (u 1), .int (nI j), .ref (u 12), .int (nI 0), .ref (u 2), .ref (u 3), .ref (u 4), .ref (u 13), .ref (u 14)])), (u 1, .inl (g.2.1 1, 8192, .inl ((fun _ => 0)))), (u 4, .inr (3, [.ref (u 5), .int (nI 168), .int (nI 31), .int (nI 0)])), (u 5, .inl (g.2.1 2, 25, .inr (.inl u1)))]) hP hD hS hA [] [0, 1, 2, 3] rfl rfl rfl (by decide) (va_runV (As := [.ref (u 0), .int (nI 0), .int (nI 0)]) (rest := []) F (m_SP_absorb0 l g _ (u 4) (u 0)) (cwV 3 hts (wg_app (wg_c kw_1300 (wg_c kw_586 (wg_c kw_587 (wg_c kw_2 wg_n)))) kw_588) rfl rfl rfl (by decide +kernel) ⟨by decide, by decide⟩) (pr_V (en_ok g) (q0 := 2) hK hP hD hS hA hE [] rfl rfl rfl rfl) rfl rfl hl.1 rfl (lv_room (Nat.le_of_ble_eq_true rfl)) dK_hash_75 ⟨(by decide), (by decide)⟩) (fun u2 H locs hu2 hP hD hS => ?_)
  have hP : va_P g.1 vcl [(h0, .inr (0, [.ref (u 0), .int (nI 0), .ref (u 1), .int (nI j), .ref (u 12), .int (nI 0), .ref (u 2), .ref (u 3), .ref (u 4), .ref (u 13), .ref (u 14)])), (u 1, .inl (g.2.1 1, 8192, .inl ((fun _ => 0)))), (u 4, .inr (3, [.ref (u 5), .int (nI 168), .int (nI 31), .int (nI 0)])), (u 5, .inl (g.2.1 2, 25, .inr (.inl u1)))] _ := hP
  have hD : va_D _ [(h0, .inr (0, [.ref (u 0), .int (nI 0), .ref (u 1), .int (nI j), .ref (u 12), .int (nI 0), .ref (u 2), .ref (u 3), .ref (u 4), .ref (u 13), .ref (u 14)])), (u 1, .inl (g.2.1 1, 8192, .inl ((fun _ => 0)))), (u 4, .inr (3, [.ref (u 5), .int (nI 168), .int (nI 31), .int (nI 0)])), (u 5, .inl (g.2.1 2, 25, .inr (.inl u1)))] := hD
  refine W.widen (k := 0) (n := 0) (by omega) (by omega) ?_
  refine lv_aload_n hx hb dK_hash_78 rfl (lv_at hl 0 rfl) ?_
  refine va_get (D := g.1) (ci := 0) (C := "LatticeKeys") (T := T_K) (N := 11) hx hb hts (wg_ft i_K) hown hK hP 0 rfl rfl 8 (by decide) (hts _ (wg_t kw_382)) (fun _ h9 => h9) rfl dK_hash_79 ?_
  refine mc_v (wc := [(u 4, .inr (3, [.ref (u 5), .int (nI 168), .int (nI 31), .int (nI 0)])), (u 5, .inl (g.2.1 2, 25, .inr (.inl u1)))]) (wr := [(h0, .inr (0, [.ref (u 0), .int (nI 0), .ref (u 1), .int (nI j), .ref (u 12), .int (nI 0), .ref (u 2), .ref (u 3), .ref (u 4), .ref (u 13), .ref (u 14)])), (u 1, .inl (g.2.1 1, 8192, .inl ((fun _ => 0))))]) hP hD hS hA [2, 3] [0, 1] rfl rfl rfl (by decide) (va_runV (As := []) (rest := []) F (m_SP_finish l g _ (u 4) (u 5) 168 0 (nI 31) u1 (by omega) (by omega)) (cwV 0 hts (wg_app (wg_c kw_1301 (wg_c kw_611 (wg_c kw_612 (wg_c kw_2 wg_n)))) kw_613) rfl rfl rfl (by decide +kernel) ⟨by decide, by decide⟩) (pr_V (en_ok g) (q0 := 2) hK hP hD hS hA hE [2, 3] rfl rfl rfl rfl) rfl rfl hl.1 rfl (lv_room (Nat.le_of_ble_eq_true rfl)) dK_hash_82 ⟨(by decide), (by decide)⟩) (fun u3 H locs hu3 hP hD hS => ?_)
  have hP : va_P g.1 vcl [(h0, .inr (0, [.ref (u 0), .int (nI 0), .ref (u 1), .int (nI j), .ref (u 12), .int (nI 0), .ref (u 2), .ref (u 3), .ref (u 4), .ref (u 13), .ref (u 14)])), (u 1, .inl (g.2.1 1, 8192, .inl ((fun _ => 0)))), (u 4, .inr (3, [.ref (u 5), .int (nI 168), .int (nI 31), .int (nI 168)])), (u 5, .inl (g.2.1 2, 25, .inr (.inl u3)))] _ := hP
  have hD : va_D _ [(h0, .inr (0, [.ref (u 0), .int (nI 0), .ref (u 1), .int (nI j), .ref (u 12), .int (nI 0), .ref (u 2), .ref (u 3), .ref (u 4), .ref (u 13), .ref (u 14)])), (u 1, .inl (g.2.1 1, 8192, .inl ((fun _ => 0)))), (u 4, .inr (3, [.ref (u 5), .int (nI 168), .int (nI 31), .int (nI 168)])), (u 5, .inl (g.2.1 2, 25, .inr (.inl u3)))] := hD
  refine W.widen (k := 0) (n := 0) (by omega) (by omega) ?_
  refine lv_aload_n hx hb dK_hash_85 rfl (lv_at hl 0 rfl) ?_
  refine va_get (D := g.1) (ci := 0) (C := "LatticeKeys") (T := T_K) (N := 11) hx hb hts (wg_ft i_K) hown hK hP 0 rfl rfl 8 (by decide) (hts _ (wg_t kw_382)) (fun _ h9 => h9) rfl dK_hash_86 ?_
  refine lv_aload_n hx hb dK_hash_89 rfl (lv_at hl 0 rfl) ?_
  refine va_get (D := g.1) (ci := 0) (C := "LatticeKeys") (T := T_K) (N := 11) hx hb hts (wg_ft i_K) hown hK hP 0 rfl rfl 2 (by decide) (hts _ (wg_t kw_376)) (fun _ h9 => h9) rfl dK_hash_90 ?_
  refine lv_iconst (v := nI 0) hx hb dK_hash_93 (by decide) ?_
  refine lv_aload_n hx hb dK_hash_94 rfl (lv_at hl 0 rfl) ?_
  refine va_get (D := g.1) (ci := 0) (C := "LatticeKeys") (T := T_K) (N := 11) hx hb hts (wg_ft i_K) hown hK hP 0 rfl rfl 3 (by decide) (hts _ (wg_t kw_377)) (fun _ h9 => h9) rfl dK_hash_95 ?_
  refine mc_v (wc := [(u 4, .inr (3, [.ref (u 5), .int (nI 168), .int (nI 31), .int (nI 168)])), (u 5, .inl (g.2.1 2, 25, .inr (.inl u3))), (u 1, .inl (g.2.1 1, 8192, .inl ((fun _ => 0))))]) (wr := [(h0, .inr (0, [.ref (u 0), .int (nI 0), .ref (u 1), .int (nI j), .ref (u 12), .int (nI 0), .ref (u 2), .ref (u 3), .ref (u 4), .ref (u 13), .ref (u 14)]))]) hP hD hS hA [2, 3, 1] [0] rfl rfl rfl (by decide) (va_runV (As := [.ref (u 1), .int (nI 0), .int (nI j)]) (rest := []) F (m_SP_squeeze l g _ (u 4) (u 5) (u 1) 168 168 j (nI 31) u3 (fun _ => 0) (by omega) (by omega) (by omega)) (cwV 3 hts (wg_app (wg_c kw_1302 (wg_c kw_615 (wg_c kw_616 (wg_c kw_2 wg_n)))) kw_617) rfl rfl rfl (by decide +kernel) ⟨by decide, by decide⟩) (pr_V (en_ok g) (q0 := 2) hK hP hD hS hA hE [2, 3, 1] rfl rfl rfl rfl) rfl rfl hl.1 rfl (lv_room (Nat.le_of_ble_eq_true rfl)) dK_hash_98 ⟨(by decide), (by decide)⟩) (fun u4 H locs hu4 hP hD hS => ?_)
  have hP : va_P g.1 vcl [(h0, .inr (0, [.ref (u 0), .int (nI 0), .ref (u 1), .int (nI j), .ref (u 12), .int (nI 0), .ref (u 2), .ref (u 3), .ref (u 4), .ref (u 13), .ref (u 14)]))] _ := hP
  have hD : va_D _ [(h0, .inr (0, [.ref (u 0), .int (nI 0), .ref (u 1), .int (nI j), .ref (u 12), .int (nI 0), .ref (u 2), .ref (u 3), .ref (u 4), .ref (u 13), .ref (u 14)]))] := hD
  refine W.widen (k := 0) (n := 0) (by omega) (by omega) ?_
  refine lv_aload_n hx hb dK_hash_101 rfl (lv_at hl 0 rfl) ?_
  refine lv_iconst (v := nI 0) hx hb dK_hash_102 (by decide) ?_
  refine va_put (D := g.1) (ci := 0) (v := .int (nI 0)) (ty := .int) (C := "LatticeKeys") (T := T_K) (N := 11) hx hb hts (wg_ft i_K) ty_K k_K n_K hown hK hP hD hS 0 rfl rfl 1 (by decide) (hts _ (wg_t kw_375)) (fun _ h9 => h9) rfl (by decide +kernel) rfl rfl (Nat.le_of_ble_eq_true rfl) dK_hash_103 (fun H locs hP hD hS => ?_)
  have hP : va_P g.1 vcl [(h0, .inr (0, [.ref (u 0), .int (nI 0), .ref (u 1), .int (nI j), .ref (u 12), .int (nI 0), .ref (u 2), .ref (u 3), .ref (u 4), .ref (u 13), .ref (u 14)]))] _ := hP
  have hD : va_D _ [(h0, .inr (0, [.ref (u 0), .int (nI 0), .ref (u 1), .int (nI j), .ref (u 12), .int (nI 0), .ref (u 2), .ref (u 3), .ref (u 4), .ref (u 13), .ref (u 14)]))] := hD
  refine lv_aload_n hx hb dK_hash_106 rfl (lv_at hl 0 rfl) ?_
  refine va_get (D := g.1) (ci := 0) (C := "LatticeKeys") (T := T_K) (N := 11) hx hb hts (wg_ft i_K) hown hK hP 0 rfl rfl 3 (by decide) (hts _ (wg_t kw_377)) (fun _ h9 => h9) rfl dK_hash_107 ?_
  exact mc_iret hx hb hr hlk hP hD hS () rfl [] rfl rfl (by omega) (by omega) dK_hash_110
set_option maxHeartbeats 400000 in
set_option maxRecDepth 100000 in
theorem m_K_hash_3 (l : Launch) (g : Gd) (sz : Nat) (h0 : Nat) (u : Nat → Nat) (j : Nat) (hj : j ≤ 8192)  : Met l y_K_hash w_K_hash ({ frames := 4, cells := 0, slots := 0, locals := 140 } : Room) (va_Pc [.ref h0, .int (nI 3), .int (nI j)] (pr (en g) g.1 vcl sz [(h0, .inr (0, [.ref (u 0), .int (nI 0), .ref (u 1), .int (nI 0), .ref (u 12), .int (nI 0), .ref (u 2), .ref (u 3), .ref (u 4), .ref (u 13), .ref (u 14)])), (u 1, .inl (g.2.1 1, 8192, .inl ((fun _ => 0)))), (u 4, .inr (3, [.ref (u 5), .int (nI 136), .int (nI 6), .int (nI 0)])), (u 5, .inl (g.2.1 2, 25, .inr (.inl ((fun _ => 0)))))])) (va_Qi (fun (r : Int32) (u : Unit) => r = nI j) (po g.1 vcl (va_A [(h0, .inr (0, [.ref (u 0), .int (nI 0), .ref (u 1), .int (nI 0), .ref (u 12), .int (nI 0), .ref (u 2), .ref (u 3), .ref (u 4), .ref (u 13), .ref (u 14)])), (u 1, .inl (g.2.1 1, 8192, .inl ((fun _ => 0)))), (u 4, .inr (3, [.ref (u 5), .int (nI 136), .int (nI 6), .int (nI 0)])), (u 5, .inl (g.2.1 2, 25, .inr (.inl ((fun _ => 0)))))] sz) (fun (u : Unit) => [])) (va_A [(h0, .inr (0, [.ref (u 0), .int (nI 0), .ref (u 1), .int (nI 0), .ref (u 12), .int (nI 0), .ref (u 2), .ref (u 3), .ref (u 4), .ref (u 13), .ref (u 14)])), (u 1, .inl (g.2.1 1, 8192, .inl ((fun _ => 0)))), (u 4, .inr (3, [.ref (u 5), .int (nI 136), .int (nI 6), .int (nI 0)])), (u 5, .inl (g.2.1 2, 25, .inr (.inl ((fun _ => 0)))))] sz)) 0 0 (va_A [(h0, .inr (0, [.ref (u 0), .int (nI 0), .ref (u 1), .int (nI 0), .ref (u 12), .int (nI 0), .ref (u 2), .ref (u 3), .ref (u 4), .ref (u 13), .ref (u 14)])), (u 1, .inl (g.2.1 1, 8192, .inl ((fun _ => 0)))), (u 4, .inr (3, [.ref (u 5), .int (nI 136), .int (nI 6), .int (nI 0)])), (u 5, .inl (g.2.1 2, 25, .inr (.inl ((fun _ => 0)))))] sz) := by
  refine mc_entry (cc := c_K_hash) (maxL := 3) (ret := (some .int)) (by decide) rfl (Nat.le_of_ble_eq_true rfl) ?_
  intro p e s m args below meth c ls F hr hlk hnm hsz hP hD hE hA hl
  obtain ⟨hx, hb, hml, hown, hts⟩ := id F
  have hK := hE.1
  generalize va_A [(h0, .inr (0, [.ref (u 0), .int (nI 0), .ref (u 1), .int (nI 0), .ref (u 12), .int (nI 0), .ref (u 2), .ref (u 3), .ref (u 4), .ref (u 13), .ref (u 14)])), (u 1, .inl (g.2.1 1, 8192, .inl ((fun _ => 0)))), (u 4, .inr (3, [.ref (u 5), .int (nI 136), .int (nI 6), .int (nI 0)])), (u 5, .inl (g.2.1 2, 25, .inr (.inl ((fun _ => 0)))))] sz = A at hD hE hA ⊢
  have hS : va_S A s.heap s.heap [] := va_S.rf
  have hl : lv_has ls 3 [(0, .ref h0), (1, .int (nI 3)), (2, .int (nI j))] := hl
  refine lv_iload_n hx hb dK_hash_0 rfl (lv_at hl 1 rfl) ?_
  refine lv_if_lt (tgt := 20) hx hb dK_hash_1 (by decide) (fun h1 => absurd h1 (by decide)) (fun h1 => ?_)
  refine lv_iload_n hx hb dK_hash_4 rfl (lv_at hl 1 rfl) ?_
  refine lv_iconst (v := nI 3) hx hb dK_hash_5 (by decide) ?_
  refine mi_gt (tgt := 20) hx hb dK_hash_6 (by decide) (by omega) (by omega) (fun h2 => absurd h2 (by omega)) (fun h2 => ?_)
  refine lv_iload_n hx hb dK_hash_9 rfl (lv_at hl 2 rfl) ?_
  refine lv_if_lt (tgt := 20) hx hb dK_hash_10 (by decide) (fun h3 => absurd h3 (nI_pos (by omega))) (fun h3 => ?_)
  refine lv_iload_n hx hb dK_hash_13 rfl (lv_at hl 2 rfl) ?_
  refine lv_sipush (v := nI 8192) hx hb dK_hash_14 (by decide) ?_
  refine mi_le (tgt := 30) hx hb dK_hash_17 (by decide) (by omega) (by omega) (fun h4 => ?_) (fun h4 => absurd h4 (by omega))
  refine lv_aload_n hx hb dK_hash_30 rfl (lv_at hl 0 rfl) ?_
  refine lv_iload_n hx hb dK_hash_31 rfl (lv_at hl 1 rfl) ?_
  refine lv_if_ne (tgt := 40) hx hb dK_hash_32 (by decide) (fun h5 => ?_) (fun h5 => absurd h5 (by decide))
  refine lv_iload_n hx hb dK_hash_40 rfl (lv_at hl 1 rfl) ?_
  refine lv_iconst (v := nI 1) hx hb dK_hash_41 (by decide) ?_
  refine mi_ne (tgt := 50) hx hb dK_hash_42 (by decide) (by omega) (by omega) (fun h6 => ?_) (fun h6 => absurd h6 (by omega))
  refine lv_iload_n hx hb dK_hash_50 rfl (lv_at hl 2 rfl) ?_
  refine va_put (D := g.1) (ci := 0) (v := .int (nI j)) (ty := .int) (C := "LatticeKeys") (T := T_K) (N := 11) hx hb hts (wg_ft i_K) ty_K k_K n_K hown hK hP hD hS 0 rfl rfl 3 (by decide) (hts _ (wg_t kw_377)) (fun _ h9 => h9) rfl (by decide +kernel) rfl rfl (Nat.le_of_ble_eq_true rfl) dK_hash_51 (fun H locs hP hD hS => ?_)
  have hP : va_P g.1 vcl [(h0, .inr (0, [.ref (u 0), .int (nI 0), .ref (u 1), .int (nI j), .ref (u 12), .int (nI 0), .ref (u 2), .ref (u 3), .ref (u 4), .ref (u 13), .ref (u 14)])), (u 1, .inl (g.2.1 1, 8192, .inl ((fun _ => 0)))), (u 4, .inr (3, [.ref (u 5), .int (nI 136), .int (nI 6), .int (nI 0)])), (u 5, .inl (g.2.1 2, 25, .inr (.inl ((fun _ => 0)))))] _ := hP
  have hD : va_D _ [(h0, .inr (0, [.ref (u 0), .int (nI 0), .ref (u 1), .int (nI j), .ref (u 12), .int (nI 0), .ref (u 2), .ref (u 3), .ref (u 4), .ref (u 13), .ref (u 14)])), (u 1, .inl (g.2.1 1, 8192, .inl ((fun _ => 0)))), (u 4, .inr (3, [.ref (u 5), .int (nI 136), .int (nI 6), .int (nI 0)])), (u 5, .inl (g.2.1 2, 25, .inr (.inl ((fun _ => 0)))))] := hD
  refine lv_aload_n hx hb dK_hash_54 rfl (lv_at hl 0 rfl) ?_
  refine va_get (D := g.1) (ci := 0) (C := "LatticeKeys") (T := T_K) (N := 11) hx hb hts (wg_ft i_K) hown hK hP 0 rfl rfl 8 (by decide) (hts _ (wg_t kw_382)) (fun _ h9 => h9) rfl dK_hash_55 ?_
  refine lv_iload_n hx hb dK_hash_58 rfl (lv_at hl 1 rfl) ?_
  refine mc_v (wc := [(u 4, .inr (3, [.ref (u 5), .int (nI 136), .int (nI 6), .int (nI 0)])), (u 5, .inl (g.2.1 2, 25, .inr (.inl ((fun _ => 0)))))]) (wr := [(h0, .inr (0, [.ref (u 0), .int (nI 0), .ref (u 1), .int (nI j), .ref (u 12), .int (nI 0), .ref (u 2), .ref (u 3), .ref (u 4), .ref (u 13), .ref (u 14)])), (u 1, .inl (g.2.1 1, 8192, .inl ((fun _ => 0))))]) hP hD hS hA [2, 3] [0, 1] rfl rfl rfl (by decide) (va_runV (As := [.int (nI 3)]) (rest := []) F (m_SP_start_3 l g _ (u 4) (u 5) (nI 136) (nI 6) (nI 0) (fun _ => 0)) (cwV 1 hts (wg_app (wg_c kw_1299 (wg_c kw_579 (wg_c kw_580 (wg_c kw_2 wg_n)))) kw_581) rfl rfl rfl (by decide +kernel) ⟨by decide, by decide⟩) (pr_V (en_ok g) (q0 := 2) hK hP hD hS hA hE [2, 3] rfl rfl rfl rfl) rfl rfl hl.1 rfl (lv_room (Nat.le_of_ble_eq_true rfl)) dK_hash_59 ⟨(by decide), (by decide)⟩) (fun u1 H locs hu1 hP hD hS => ?_)
  have hP : va_P g.1 vcl [(h0, .inr (0, [.ref (u 0), .int (nI 0), .ref (u 1), .int (nI j), .ref (u 12), .int (nI 0), .ref (u 2), .ref (u 3), .ref (u 4), .ref (u 13), .ref (u 14)])), (u 1, .inl (g.2.1 1, 8192, .inl ((fun _ => 0)))), (u 4, .inr (3, [.ref (u 5), .int (nI 136), .int (nI 31), .int (nI 0)])), (u 5, .inl (g.2.1 2, 25, .inr (.inl u1)))] _ := hP
  have hD : va_D _ [(h0, .inr (0, [.ref (u 0), .int (nI 0), .ref (u 1), .int (nI j), .ref (u 12), .int (nI 0), .ref (u 2), .ref (u 3), .ref (u 4), .ref (u 13), .ref (u 14)])), (u 1, .inl (g.2.1 1, 8192, .inl ((fun _ => 0)))), (u 4, .inr (3, [.ref (u 5), .int (nI 136), .int (nI 31), .int (nI 0)])), (u 5, .inl (g.2.1 2, 25, .inr (.inl u1)))] := hD
  refine W.widen (k := 0) (n := 0) (by omega) (by omega) ?_
  refine lv_aload_n hx hb dK_hash_62 rfl (lv_at hl 0 rfl) ?_
  refine va_get (D := g.1) (ci := 0) (C := "LatticeKeys") (T := T_K) (N := 11) hx hb hts (wg_ft i_K) hown hK hP 0 rfl rfl 8 (by decide) (hts _ (wg_t kw_382)) (fun _ h9 => h9) rfl dK_hash_63 ?_
  refine lv_aload_n hx hb dK_hash_66 rfl (lv_at hl 0 rfl) ?_
  refine va_get (D := g.1) (ci := 0) (C := "LatticeKeys") (T := T_K) (N := 11) hx hb hts (wg_ft i_K) hown hK hP 0 rfl rfl 0 (by decide) (hts _ (wg_t kw_374)) (fun _ h9 => h9) rfl dK_hash_67 ?_
  refine lv_iconst (v := nI 0) hx hb dK_hash_70 (by decide) ?_
  refine lv_aload_n hx hb dK_hash_71 rfl (lv_at hl 0 rfl) ?_
  refine va_get (D := g.1) (ci := 0) (C := "LatticeKeys") (T := T_K) (N := 11) hx hb hts (wg_ft i_K) hown hK hP 0 rfl rfl 1 (by decide) (hts _ (wg_t kw_375)) (fun _ h9 => h9) rfl dK_hash_72 ?_
  refine mc_v (wc := []) (wr := [(h0, .inr (0, [.ref (u 0), .int (nI 0), .ref (u 1), .int (nI j), .ref (u 12), .int (nI 0), .ref (u 2), .ref (u 3), .ref (u 4), .ref (u 13), .ref (u 14)])), (u 1, .inl (g.2.1 1, 8192, .inl ((fun _ => 0)))), (u 4, .inr (3, [.ref (u 5), .int (nI 136), .int (nI 31), .int (nI 0)])), (u 5, .inl (g.2.1 2, 25, .inr (.inl u1)))]) hP hD hS hA [] [0, 1, 2, 3] rfl rfl rfl (by decide) (va_runV (As := [.ref (u 0), .int (nI 0), .int (nI 0)]) (rest := []) F (m_SP_absorb0 l g _ (u 4) (u 0)) (cwV 3 hts (wg_app (wg_c kw_1300 (wg_c kw_586 (wg_c kw_587 (wg_c kw_2 wg_n)))) kw_588) rfl rfl rfl (by decide +kernel) ⟨by decide, by decide⟩) (pr_V (en_ok g) (q0 := 2) hK hP hD hS hA hE [] rfl rfl rfl rfl) rfl rfl hl.1 rfl (lv_room (Nat.le_of_ble_eq_true rfl)) dK_hash_75 ⟨(by decide), (by decide)⟩) (fun u2 H locs hu2 hP hD hS => ?_)
  have hP : va_P g.1 vcl [(h0, .inr (0, [.ref (u 0), .int (nI 0), .ref (u 1), .int (nI j), .ref (u 12), .int (nI 0), .ref (u 2), .ref (u 3), .ref (u 4), .ref (u 13), .ref (u 14)])), (u 1, .inl (g.2.1 1, 8192, .inl ((fun _ => 0)))), (u 4, .inr (3, [.ref (u 5), .int (nI 136), .int (nI 31), .int (nI 0)])), (u 5, .inl (g.2.1 2, 25, .inr (.inl u1)))] _ := hP
  have hD : va_D _ [(h0, .inr (0, [.ref (u 0), .int (nI 0), .ref (u 1), .int (nI j), .ref (u 12), .int (nI 0), .ref (u 2), .ref (u 3), .ref (u 4), .ref (u 13), .ref (u 14)])), (u 1, .inl (g.2.1 1, 8192, .inl ((fun _ => 0)))), (u 4, .inr (3, [.ref (u 5), .int (nI 136), .int (nI 31), .int (nI 0)])), (u 5, .inl (g.2.1 2, 25, .inr (.inl u1)))] := hD
  refine W.widen (k := 0) (n := 0) (by omega) (by omega) ?_
  refine lv_aload_n hx hb dK_hash_78 rfl (lv_at hl 0 rfl) ?_
  refine va_get (D := g.1) (ci := 0) (C := "LatticeKeys") (T := T_K) (N := 11) hx hb hts (wg_ft i_K) hown hK hP 0 rfl rfl 8 (by decide) (hts _ (wg_t kw_382)) (fun _ h9 => h9) rfl dK_hash_79 ?_
  refine mc_v (wc := [(u 4, .inr (3, [.ref (u 5), .int (nI 136), .int (nI 31), .int (nI 0)])), (u 5, .inl (g.2.1 2, 25, .inr (.inl u1)))]) (wr := [(h0, .inr (0, [.ref (u 0), .int (nI 0), .ref (u 1), .int (nI j), .ref (u 12), .int (nI 0), .ref (u 2), .ref (u 3), .ref (u 4), .ref (u 13), .ref (u 14)])), (u 1, .inl (g.2.1 1, 8192, .inl ((fun _ => 0))))]) hP hD hS hA [2, 3] [0, 1] rfl rfl rfl (by decide) (va_runV (As := []) (rest := []) F (m_SP_finish l g _ (u 4) (u 5) 136 0 (nI 31) u1 (by omega) (by omega)) (cwV 0 hts (wg_app (wg_c kw_1301 (wg_c kw_611 (wg_c kw_612 (wg_c kw_2 wg_n)))) kw_613) rfl rfl rfl (by decide +kernel) ⟨by decide, by decide⟩) (pr_V (en_ok g) (q0 := 2) hK hP hD hS hA hE [2, 3] rfl rfl rfl rfl) rfl rfl hl.1 rfl (lv_room (Nat.le_of_ble_eq_true rfl)) dK_hash_82 ⟨(by decide), (by decide)⟩) (fun u3 H locs hu3 hP hD hS => ?_)
  have hP : va_P g.1 vcl [(h0, .inr (0, [.ref (u 0), .int (nI 0), .ref (u 1), .int (nI j), .ref (u 12), .int (nI 0), .ref (u 2), .ref (u 3), .ref (u 4), .ref (u 13), .ref (u 14)])), (u 1, .inl (g.2.1 1, 8192, .inl ((fun _ => 0)))), (u 4, .inr (3, [.ref (u 5), .int (nI 136), .int (nI 31), .int (nI 136)])), (u 5, .inl (g.2.1 2, 25, .inr (.inl u3)))] _ := hP
  have hD : va_D _ [(h0, .inr (0, [.ref (u 0), .int (nI 0), .ref (u 1), .int (nI j), .ref (u 12), .int (nI 0), .ref (u 2), .ref (u 3), .ref (u 4), .ref (u 13), .ref (u 14)])), (u 1, .inl (g.2.1 1, 8192, .inl ((fun _ => 0)))), (u 4, .inr (3, [.ref (u 5), .int (nI 136), .int (nI 31), .int (nI 136)])), (u 5, .inl (g.2.1 2, 25, .inr (.inl u3)))] := hD
  refine W.widen (k := 0) (n := 0) (by omega) (by omega) ?_
  refine lv_aload_n hx hb dK_hash_85 rfl (lv_at hl 0 rfl) ?_
  refine va_get (D := g.1) (ci := 0) (C := "LatticeKeys") (T := T_K) (N := 11) hx hb hts (wg_ft i_K) hown hK hP 0 rfl rfl 8 (by decide) (hts _ (wg_t kw_382)) (fun _ h9 => h9) rfl dK_hash_86 ?_
  refine lv_aload_n hx hb dK_hash_89 rfl (lv_at hl 0 rfl) ?_
  refine va_get (D := g.1) (ci := 0) (C := "LatticeKeys") (T := T_K) (N := 11) hx hb hts (wg_ft i_K) hown hK hP 0 rfl rfl 2 (by decide) (hts _ (wg_t kw_376)) (fun _ h9 => h9) rfl dK_hash_90 ?_
  refine lv_iconst (v := nI 0) hx hb dK_hash_93 (by decide) ?_
  refine lv_aload_n hx hb dK_hash_94 rfl (lv_at hl 0 rfl) ?_
  refine va_get (D := g.1) (ci := 0) (C := "LatticeKeys") (T := T_K) (N := 11) hx hb hts (wg_ft i_K) hown hK hP 0 rfl rfl 3 (by decide) (hts _ (wg_t kw_377)) (fun _ h9 => h9) rfl dK_hash_95 ?_
  refine mc_v (wc := [(u 4, .inr (3, [.ref (u 5), .int (nI 136), .int (nI 31), .int (nI 136)])), (u 5, .inl (g.2.1 2, 25, .inr (.inl u3))), (u 1, .inl (g.2.1 1, 8192, .inl ((fun _ => 0))))]) (wr := [(h0, .inr (0, [.ref (u 0), .int (nI 0), .ref (u 1), .int (nI j), .ref (u 12), .int (nI 0), .ref (u 2), .ref (u 3), .ref (u 4), .ref (u 13), .ref (u 14)]))]) hP hD hS hA [2, 3, 1] [0] rfl rfl rfl (by decide) (va_runV (As := [.ref (u 1), .int (nI 0), .int (nI j)]) (rest := []) F (m_SP_squeeze l g _ (u 4) (u 5) (u 1) 136 136 j (nI 31) u3 (fun _ => 0) (by omega) (by omega) (by omega)) (cwV 3 hts (wg_app (wg_c kw_1302 (wg_c kw_615 (wg_c kw_616 (wg_c kw_2 wg_n)))) kw_617) rfl rfl rfl (by decide +kernel) ⟨by decide, by decide⟩) (pr_V (en_ok g) (q0 := 2) hK hP hD hS hA hE [2, 3, 1] rfl rfl rfl rfl) rfl rfl hl.1 rfl (lv_room (Nat.le_of_ble_eq_true rfl)) dK_hash_98 ⟨(by decide), (by decide)⟩) (fun u4 H locs hu4 hP hD hS => ?_)
  have hP : va_P g.1 vcl [(h0, .inr (0, [.ref (u 0), .int (nI 0), .ref (u 1), .int (nI j), .ref (u 12), .int (nI 0), .ref (u 2), .ref (u 3), .ref (u 4), .ref (u 13), .ref (u 14)]))] _ := hP
  have hD : va_D _ [(h0, .inr (0, [.ref (u 0), .int (nI 0), .ref (u 1), .int (nI j), .ref (u 12), .int (nI 0), .ref (u 2), .ref (u 3), .ref (u 4), .ref (u 13), .ref (u 14)]))] := hD
  refine W.widen (k := 0) (n := 0) (by omega) (by omega) ?_
  refine lv_aload_n hx hb dK_hash_101 rfl (lv_at hl 0 rfl) ?_
  refine lv_iconst (v := nI 0) hx hb dK_hash_102 (by decide) ?_
  refine va_put (D := g.1) (ci := 0) (v := .int (nI 0)) (ty := .int) (C := "LatticeKeys") (T := T_K) (N := 11) hx hb hts (wg_ft i_K) ty_K k_K n_K hown hK hP hD hS 0 rfl rfl 1 (by decide) (hts _ (wg_t kw_375)) (fun _ h9 => h9) rfl (by decide +kernel) rfl rfl (Nat.le_of_ble_eq_true rfl) dK_hash_103 (fun H locs hP hD hS => ?_)
  have hP : va_P g.1 vcl [(h0, .inr (0, [.ref (u 0), .int (nI 0), .ref (u 1), .int (nI j), .ref (u 12), .int (nI 0), .ref (u 2), .ref (u 3), .ref (u 4), .ref (u 13), .ref (u 14)]))] _ := hP
  have hD : va_D _ [(h0, .inr (0, [.ref (u 0), .int (nI 0), .ref (u 1), .int (nI j), .ref (u 12), .int (nI 0), .ref (u 2), .ref (u 3), .ref (u 4), .ref (u 13), .ref (u 14)]))] := hD
  refine lv_aload_n hx hb dK_hash_106 rfl (lv_at hl 0 rfl) ?_
  refine va_get (D := g.1) (ci := 0) (C := "LatticeKeys") (T := T_K) (N := 11) hx hb hts (wg_ft i_K) hown hK hP 0 rfl rfl 3 (by decide) (hts _ (wg_t kw_377)) (fun _ h9 => h9) rfl dK_hash_107 ?_
  exact mc_iret hx hb hr hlk hP hD hS () rfl [] rfl rfl (by omega) (by omega) dK_hash_110
theorem hashbad {v n : Int32} (h : v < 0 ∨ nI 3 < v ∨ n < 0 ∨ nI 8192 < n) (h1 : ¬ v < 0) (h2 : ¬ nI 3 < v) (h3 : ¬ n < 0) : ¬ n ≤ nI 8192 := fun q => h.elim h1 (fun z => z.elim h2 (fun z => z.elim h3 (fun z => by rw [Int32.lt_iff_toInt_lt] at z; rw [Int32.le_iff_toInt_le] at q; omega)))
set_option maxHeartbeats 400000 in
set_option maxRecDepth 100000 in
theorem x_K_hash (l : Launch) (htr : l.stackTraces = false) (g : Gd) (sz : Nat) (h0 : Nat) (u : Nat → Nat) (v n : Int32) (hbad : v < 0 ∨ nI 3 < v ∨ n < 0 ∨ nI 8192 < n)  : xtMet l y_K_hash w_K_hash ({ frames := 6, cells := 1, slots := 6, locals := 150 } : Room) (va_Pc [.ref h0, .int v, .int n] (pr (ex g) g.1 vcl sz [(h0, .inr (0, [.ref (u 0), .int (nI 0), .ref (u 1), .int (nI 0), .ref (u 12), .int (nI 0), .ref (u 2), .ref (u 3), .ref (u 4), .ref (u 13), .ref (u 14)]))])) "java/lang/IllegalArgumentException" 1 6 := by
  refine xt_entry (cc := c_K_hash) (maxL := 3) (ret := (some .int)) (by decide) rfl (Nat.le_of_ble_eq_true rfl) ?_
  intro p e s m args below meth c ls F hr hlk htab hsz hP hD hX hA hl
  obtain ⟨hx, hb, hml, hown, hts⟩ := id F
  have hE := hX.1
  have hK := hE.1
  generalize va_A [(h0, .inr (0, [.ref (u 0), .int (nI 0), .ref (u 1), .int (nI 0), .ref (u 12), .int (nI 0), .ref (u 2), .ref (u 3), .ref (u 4), .ref (u 13), .ref (u 14)]))] sz = A at hD hX hE hA
  have hS : va_S A s.heap s.heap [] := va_S.rf
  have hl : lv_has ls 3 [(0, .ref h0), (1, .int v), (2, .int n)] := hl
  refine lv_iload_n hx hb dK_hash_0 rfl (lv_at hl 1 rfl) ?_
  refine lv_if_lt (tgt := 20) hx hb dK_hash_1 (by decide) (fun h1 => ?_) (fun h1 => ?_)
  · exact xt_throw (own := "LatticeKeys") (cls := "java/lang/IllegalArgumentException") (text := "no such hash or length") (names := ["java/lang/RuntimeException", "java/lang/Exception"]) (ik := 79) (is := 226) (ic := 83) hx hb htr ctr_IAE_0 ctr_IAE_1 ctr_IAE_2 ctr_IAE_5 hown (by decide) (by decide) (hts _ (wg_t kw_501)) (hts _ (wg_t kw_18)) (hX.2.2.2.2.2.1 19 ("LatticeKeys", 226, "no such hash or length") rfl) (hat_IAE hts hX.2) hS.1 (hl.1.trans hml.symm) dK_hash_20 dK_hash_23 dK_hash_24 dK_hash_26 dK_hash_29 htab (by decide) (by decide) (by decide) (by decide) hlk (by decide) (by decide)
  · refine lv_iload_n hx hb dK_hash_4 rfl (lv_at hl 1 rfl) ?_
    refine lv_iconst (v := nI 3) hx hb dK_hash_5 (by decide) ?_
    refine lv_icmp_gt (tgt := 20) hx hb dK_hash_6 (by decide) (fun h2 => ?_) (fun h2 => ?_)
    · exact xt_throw (own := "LatticeKeys") (cls := "java/lang/IllegalArgumentException") (text := "no such hash or length") (names := ["java/lang/RuntimeException", "java/lang/Exception"]) (ik := 79) (is := 226) (ic := 83) hx hb htr ctr_IAE_0 ctr_IAE_1 ctr_IAE_2 ctr_IAE_5 hown (by decide) (by decide) (hts _ (wg_t kw_501)) (hts _ (wg_t kw_18)) (hX.2.2.2.2.2.1 19 ("LatticeKeys", 226, "no such hash or length") rfl) (hat_IAE hts hX.2) hS.1 (hl.1.trans hml.symm) dK_hash_20 dK_hash_23 dK_hash_24 dK_hash_26 dK_hash_29 htab (by decide) (by decide) (by decide) (by decide) hlk (by decide) (by decide)
    · refine lv_iload_n hx hb dK_hash_9 rfl (lv_at hl 2 rfl) ?_
      refine lv_if_lt (tgt := 20) hx hb dK_hash_10 (by decide) (fun h3 => ?_) (fun h3 => ?_)
      · exact xt_throw (own := "LatticeKeys") (cls := "java/lang/IllegalArgumentException") (text := "no such hash or length") (names := ["java/lang/RuntimeException", "java/lang/Exception"]) (ik := 79) (is := 226) (ic := 83) hx hb htr ctr_IAE_0 ctr_IAE_1 ctr_IAE_2 ctr_IAE_5 hown (by decide) (by decide) (hts _ (wg_t kw_501)) (hts _ (wg_t kw_18)) (hX.2.2.2.2.2.1 19 ("LatticeKeys", 226, "no such hash or length") rfl) (hat_IAE hts hX.2) hS.1 (hl.1.trans hml.symm) dK_hash_20 dK_hash_23 dK_hash_24 dK_hash_26 dK_hash_29 htab (by decide) (by decide) (by decide) (by decide) hlk (by decide) (by decide)
      · refine lv_iload_n hx hb dK_hash_13 rfl (lv_at hl 2 rfl) ?_
        refine lv_sipush (v := nI 8192) hx hb dK_hash_14 (by decide) ?_
        refine lv_icmp_le (tgt := 30) hx hb dK_hash_17 (by decide) (fun h4 => absurd h4 (hashbad hbad h1 h2 h3)) (fun h4 => ?_)
        exact xt_throw (own := "LatticeKeys") (cls := "java/lang/IllegalArgumentException") (text := "no such hash or length") (names := ["java/lang/RuntimeException", "java/lang/Exception"]) (ik := 79) (is := 226) (ic := 83) hx hb htr ctr_IAE_0 ctr_IAE_1 ctr_IAE_2 ctr_IAE_5 hown (by decide) (by decide) (hts _ (wg_t kw_501)) (hts _ (wg_t kw_18)) (hX.2.2.2.2.2.1 19 ("LatticeKeys", 226, "no such hash or length") rfl) (hat_IAE hts hX.2) hS.1 (hl.1.trans hml.symm) dK_hash_20 dK_hash_23 dK_hash_24 dK_hash_26 dK_hash_29 htab (by decide) (by decide) (by decide) (by decide) hlk (by decide) (by decide)
