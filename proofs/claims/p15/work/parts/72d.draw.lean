abbrev c_ME_draw : ByteArray := prog_15_method_6_code
abbrev y_ME_draw : MethodName := ⟨"LatticeKeysModel$Secrets", "draw", "([I)V"⟩
abbrev w_ME_draw : List Cond := Cond.code y_ME_draw c_ME_draw 8 none :: WG
theorem dME_draw_0 : decode c_ME_draw 0 = .ok (.iconst 0, 1) := by decide +kernel
theorem dME_draw_1 : decode c_ME_draw 1 = .ok (.istore_n 2, 1) := by decide +kernel
theorem dME_draw_2 : decode c_ME_draw 2 = .ok (.iload_n 2, 1) := by decide +kernel
theorem dME_draw_3 : decode c_ME_draw 3 = .ok (.sipush 256, 3) := by decide +kernel
theorem dME_draw_6 : decode c_ME_draw 6 = .ok (.if_icmp .ge 97, 3) := by decide +kernel
theorem dME_draw_9 : decode c_ME_draw 9 = .ok (.aload_n 0, 1) := by decide +kernel
theorem dME_draw_10 : decode c_ME_draw 10 = .ok (.getfield 58, 3) := by decide +kernel
theorem dME_draw_13 : decode c_ME_draw 13 = .ok (.invokevirtual 91, 3) := by decide +kernel
theorem dME_draw_16 : decode c_ME_draw 16 = .ok (.istore_n 3, 1) := by decide +kernel
theorem dME_draw_17 : decode c_ME_draw 17 = .ok (.aload_n 0, 1) := by decide +kernel
theorem dME_draw_18 : decode c_ME_draw 18 = .ok (.getfield 58, 3) := by decide +kernel
theorem dME_draw_21 : decode c_ME_draw 21 = .ok (.invokevirtual 91, 3) := by decide +kernel
theorem dME_draw_24 : decode c_ME_draw 24 = .ok (.istore 4, 2) := by decide +kernel
theorem dME_draw_26 : decode c_ME_draw 26 = .ok (.aload_n 0, 1) := by decide +kernel
theorem dME_draw_27 : decode c_ME_draw 27 = .ok (.getfield 58, 3) := by decide +kernel
theorem dME_draw_30 : decode c_ME_draw 30 = .ok (.invokevirtual 91, 3) := by decide +kernel
theorem dME_draw_33 : decode c_ME_draw 33 = .ok (.istore 5, 2) := by decide +kernel
theorem dME_draw_35 : decode c_ME_draw 35 = .ok (.iload_n 3, 1) := by decide +kernel
theorem dME_draw_36 : decode c_ME_draw 36 = .ok (.sipush 256, 3) := by decide +kernel
theorem dME_draw_39 : decode c_ME_draw 39 = .ok (.iload 4, 2) := by decide +kernel
theorem dME_draw_41 : decode c_ME_draw 41 = .ok (.bipush 16, 2) := by decide +kernel
theorem dME_draw_43 : decode c_ME_draw 43 = .ok (.irem, 1) := by decide +kernel
theorem dME_draw_44 : decode c_ME_draw 44 = .ok (.imul, 1) := by decide +kernel
theorem dME_draw_45 : decode c_ME_draw 45 = .ok (.iadd, 1) := by decide +kernel
theorem dME_draw_46 : decode c_ME_draw 46 = .ok (.istore 6, 2) := by decide +kernel
theorem dME_draw_48 : decode c_ME_draw 48 = .ok (.iload 4, 2) := by decide +kernel
theorem dME_draw_50 : decode c_ME_draw 50 = .ok (.bipush 16, 2) := by decide +kernel
theorem dME_draw_52 : decode c_ME_draw 52 = .ok (.idiv, 1) := by decide +kernel
theorem dME_draw_53 : decode c_ME_draw 53 = .ok (.bipush 16, 2) := by decide +kernel
theorem dME_draw_55 : decode c_ME_draw 55 = .ok (.iload 5, 2) := by decide +kernel
theorem dME_draw_57 : decode c_ME_draw 57 = .ok (.imul, 1) := by decide +kernel
theorem dME_draw_58 : decode c_ME_draw 58 = .ok (.iadd, 1) := by decide +kernel
theorem dME_draw_59 : decode c_ME_draw 59 = .ok (.istore 7, 2) := by decide +kernel
theorem dME_draw_61 : decode c_ME_draw 61 = .ok (.iload 6, 2) := by decide +kernel
theorem dME_draw_63 : decode c_ME_draw 63 = .ok (.sipush 3329, 3) := by decide +kernel
theorem dME_draw_66 : decode c_ME_draw 66 = .ok (.if_icmp .ge 11, 3) := by decide +kernel
theorem dME_draw_69 : decode c_ME_draw 69 = .ok (.aload_n 1, 1) := by decide +kernel
theorem dME_draw_70 : decode c_ME_draw 70 = .ok (.iload_n 2, 1) := by decide +kernel
theorem dME_draw_71 : decode c_ME_draw 71 = .ok (.iload 6, 2) := by decide +kernel
theorem dME_draw_73 : decode c_ME_draw 73 = .ok (.iastore, 1) := by decide +kernel
theorem dME_draw_74 : decode c_ME_draw 74 = .ok (.iinc 2 1, 3) := by decide +kernel
theorem dME_draw_77 : decode c_ME_draw 77 = .ok (.iload 7, 2) := by decide +kernel
theorem dME_draw_79 : decode c_ME_draw 79 = .ok (.sipush 3329, 3) := by decide +kernel
theorem dME_draw_82 : decode c_ME_draw 82 = .ok (.if_icmp .ge 18, 3) := by decide +kernel
theorem dME_draw_85 : decode c_ME_draw 85 = .ok (.iload_n 2, 1) := by decide +kernel
theorem dME_draw_86 : decode c_ME_draw 86 = .ok (.sipush 256, 3) := by decide +kernel
theorem dME_draw_89 : decode c_ME_draw 89 = .ok (.if_icmp .ge 11, 3) := by decide +kernel
theorem dME_draw_92 : decode c_ME_draw 92 = .ok (.aload_n 1, 1) := by decide +kernel
theorem dME_draw_93 : decode c_ME_draw 93 = .ok (.iload_n 2, 1) := by decide +kernel
theorem dME_draw_94 : decode c_ME_draw 94 = .ok (.iload 7, 2) := by decide +kernel
theorem dME_draw_96 : decode c_ME_draw 96 = .ok (.iastore, 1) := by decide +kernel
theorem dME_draw_97 : decode c_ME_draw 97 = .ok (.iinc 2 1, 3) := by decide +kernel
theorem dME_draw_100 : decode c_ME_draw 100 = .ok (.goto (-98), 3) := by decide +kernel
theorem dME_draw_103 : decode c_ME_draw 103 = .ok (.return_, 1) := by decide +kernel
abbrev c_ME_expand : ByteArray := prog_15_method_5_code
abbrev y_ME_expand : MethodName := ⟨"LatticeKeysModel$Secrets", "expand", "([BII)V"⟩
abbrev w_ME_expand : List Cond := Cond.code y_ME_expand c_ME_expand 6 none :: WG
theorem dME_expand_0 : decode c_ME_expand 0 = .ok (.iconst 0, 1) := by decide +kernel
theorem dME_expand_1 : decode c_ME_expand 1 = .ok (.istore 4, 2) := by decide +kernel
theorem dME_expand_3 : decode c_ME_expand 3 = .ok (.iload 4, 2) := by decide +kernel
theorem dME_expand_5 : decode c_ME_expand 5 = .ok (.iload_n 3, 1) := by decide +kernel
theorem dME_expand_6 : decode c_ME_expand 6 = .ok (.if_icmp .ge 88, 3) := by decide +kernel
theorem dME_expand_9 : decode c_ME_expand 9 = .ok (.iconst 0, 1) := by decide +kernel
theorem dME_expand_10 : decode c_ME_expand 10 = .ok (.istore 5, 2) := by decide +kernel
theorem dME_expand_12 : decode c_ME_expand 12 = .ok (.iload 5, 2) := by decide +kernel
theorem dME_expand_14 : decode c_ME_expand 14 = .ok (.iload_n 3, 1) := by decide +kernel
theorem dME_expand_15 : decode c_ME_expand 15 = .ok (.if_icmp .ge 73, 3) := by decide +kernel
theorem dME_expand_18 : decode c_ME_expand 18 = .ok (.aload_n 0, 1) := by decide +kernel
theorem dME_expand_19 : decode c_ME_expand 19 = .ok (.getfield 58, 3) := by decide +kernel
theorem dME_expand_22 : decode c_ME_expand 22 = .ok (.sipush 168, 3) := by decide +kernel
theorem dME_expand_25 : decode c_ME_expand 25 = .ok (.bipush 31, 2) := by decide +kernel
theorem dME_expand_27 : decode c_ME_expand 27 = .ok (.invokevirtual 71, 3) := by decide +kernel
theorem dME_expand_30 : decode c_ME_expand 30 = .ok (.aload_n 0, 1) := by decide +kernel
theorem dME_expand_31 : decode c_ME_expand 31 = .ok (.getfield 58, 3) := by decide +kernel
theorem dME_expand_34 : decode c_ME_expand 34 = .ok (.aload_n 1, 1) := by decide +kernel
theorem dME_expand_35 : decode c_ME_expand 35 = .ok (.iload_n 2, 1) := by decide +kernel
theorem dME_expand_36 : decode c_ME_expand 36 = .ok (.bipush 32, 2) := by decide +kernel
theorem dME_expand_38 : decode c_ME_expand 38 = .ok (.invokevirtual 77, 3) := by decide +kernel
theorem dME_expand_41 : decode c_ME_expand 41 = .ok (.aload_n 0, 1) := by decide +kernel
theorem dME_expand_42 : decode c_ME_expand 42 = .ok (.getfield 58, 3) := by decide +kernel
theorem dME_expand_45 : decode c_ME_expand 45 = .ok (.iload 5, 2) := by decide +kernel
theorem dME_expand_47 : decode c_ME_expand 47 = .ok (.invokevirtual 81, 3) := by decide +kernel
theorem dME_expand_50 : decode c_ME_expand 50 = .ok (.aload_n 0, 1) := by decide +kernel
theorem dME_expand_51 : decode c_ME_expand 51 = .ok (.getfield 58, 3) := by decide +kernel
theorem dME_expand_54 : decode c_ME_expand 54 = .ok (.iload 4, 2) := by decide +kernel
theorem dME_expand_56 : decode c_ME_expand 56 = .ok (.invokevirtual 81, 3) := by decide +kernel
theorem dME_expand_59 : decode c_ME_expand 59 = .ok (.aload_n 0, 1) := by decide +kernel
theorem dME_expand_60 : decode c_ME_expand 60 = .ok (.getfield 58, 3) := by decide +kernel
theorem dME_expand_63 : decode c_ME_expand 63 = .ok (.invokevirtual 84, 3) := by decide +kernel
theorem dME_expand_66 : decode c_ME_expand 66 = .ok (.aload_n 0, 1) := by decide +kernel
theorem dME_expand_67 : decode c_ME_expand 67 = .ok (.aload_n 0, 1) := by decide +kernel
theorem dME_expand_68 : decode c_ME_expand 68 = .ok (.getfield 20, 3) := by decide +kernel
theorem dME_expand_71 : decode c_ME_expand 71 = .ok (.iconst 4, 1) := by decide +kernel
theorem dME_expand_72 : decode c_ME_expand 72 = .ok (.iload 4, 2) := by decide +kernel
theorem dME_expand_74 : decode c_ME_expand 74 = .ok (.imul, 1) := by decide +kernel
theorem dME_expand_75 : decode c_ME_expand 75 = .ok (.iload 5, 2) := by decide +kernel
theorem dME_expand_77 : decode c_ME_expand 77 = .ok (.iadd, 1) := by decide +kernel
theorem dME_expand_78 : decode c_ME_expand 78 = .ok (.aaload, 1) := by decide +kernel
theorem dME_expand_79 : decode c_ME_expand 79 = .ok (.invokevirtual 87, 3) := by decide +kernel
theorem dME_expand_82 : decode c_ME_expand 82 = .ok (.iinc 5 1, 3) := by decide +kernel
theorem dME_expand_85 : decode c_ME_expand 85 = .ok (.goto (-73), 3) := by decide +kernel
theorem dME_expand_88 : decode c_ME_expand 88 = .ok (.iinc 4 1, 3) := by decide +kernel
theorem dME_expand_91 : decode c_ME_expand 91 = .ok (.goto (-88), 3) := by decide +kernel
theorem dME_expand_94 : decode c_ME_expand 94 = .ok (.return_, 1) := by decide +kernel
set_option maxHeartbeats 400000 in
set_option maxRecDepth 100000 in
theorem t_ME_draw (l : Launch) (g : Gd) (sz : Nat) (T : Ty) (xs : List Nat) (pl : va_W) (hO : okx g T xs pl) (hU : uni T) (hc0 : clo T xs 0) (sponge : Nat) (h0 to : Nat) (sa ta ca ra ua ps : Nat) (x3 : Int32) (fs ft fc fr : Nat → Int64) (fu : Nat → Int32) (P : Nat → Int64) (t : Nat) (k_sponge : T sponge = some (20, 0)) (k_h0 : T h0 = some (23, 0)) (k_to : T to = some (0, 256)) (hps : ps ≤ 168) (hs : str fu fr P 168 t ps fs) (ht3 : t % 3 = 0) (hz : ∀ j, 5 ≤ j → j < 20 → P j = 0)  : Met l y_ME_draw w_ME_draw ({ frames := 3, cells := 0, slots := 0, locals := 66 } : Room) (va_Pc [.ref h0, .ref to] (pr (en g) g.1 vcl sz ([(sponge, .inr (9, [.ref sa, .ref ta, .ref ca, .ref ra, .ref ua, .int (nI 168), .int (nI ps), .int x3])), (sa, .inl (g.2.1 2, 25, .inr (.inl fs))), (ta, .inl (g.2.1 2, 25, .inr (.inl ft))), (ca, .inl (g.2.1 2, 5, .inr (.inl fc))), (ra, .inl (g.2.1 2, 24, .inr (.inl fr))), (ua, .inl (g.2.1 0, 25, .inl fu))] ++ pl))) (va_Qv (fun (u : (Nat × (Nat → Int64) × (Nat → Int64) × (Nat → Int64)) × va_W) => (u.1.1 ≤ 168) ∧ okx g T xs u.2) (po g.1 vcl (va_A ([(sponge, .inr (9, [.ref sa, .ref ta, .ref ca, .ref ra, .ref ua, .int (nI 168), .int (nI ps), .int x3])), (sa, .inl (g.2.1 2, 25, .inr (.inl fs))), (ta, .inl (g.2.1 2, 25, .inr (.inl ft))), (ca, .inl (g.2.1 2, 5, .inr (.inl fc))), (ra, .inl (g.2.1 2, 24, .inr (.inl fr))), (ua, .inl (g.2.1 0, 25, .inl fu))] ++ pl) sz) (fun (u : (Nat × (Nat → Int64) × (Nat → Int64) × (Nat → Int64)) × va_W) => [(sponge, .inr (9, [.ref sa, .ref ta, .ref ca, .ref ra, .ref ua, .int (nI 168), .int (nI (u.1.1)), .int x3])), (sa, .inl (g.2.1 2, 25, .inr (.inl ((u.1.2.1))))), (ta, .inl (g.2.1 2, 25, .inr (.inl ((u.1.2.2.1))))), (ca, .inl (g.2.1 2, 5, .inr (.inl ((u.1.2.2.2))))), (ra, .inl (g.2.1 2, 24, .inr (.inl fr))), (ua, .inl (g.2.1 0, 25, .inl fu))] ++ u.2)) (va_A ([(sponge, .inr (9, [.ref sa, .ref ta, .ref ca, .ref ra, .ref ua, .int (nI 168), .int (nI ps), .int x3])), (sa, .inl (g.2.1 2, 25, .inr (.inl fs))), (ta, .inl (g.2.1 2, 25, .inr (.inl ft))), (ca, .inl (g.2.1 2, 5, .inr (.inl fc))), (ra, .inl (g.2.1 2, 24, .inr (.inl fr))), (ua, .inl (g.2.1 0, 25, .inl fu))] ++ pl) sz)) 0 0 (va_A ([(sponge, .inr (9, [.ref sa, .ref ta, .ref ca, .ref ra, .ref ua, .int (nI 168), .int (nI ps), .int x3])), (sa, .inl (g.2.1 2, 25, .inr (.inl fs))), (ta, .inl (g.2.1 2, 25, .inr (.inl ft))), (ca, .inl (g.2.1 2, 5, .inr (.inl fc))), (ra, .inl (g.2.1 2, 24, .inr (.inl fr))), (ua, .inl (g.2.1 0, 25, .inl fu))] ++ pl) sz) := by
  refine mc_entry (cc := c_ME_draw) (maxL := 8) (ret := none) (by decide) rfl (Nat.le_of_ble_eq_true rfl) ?_
  intro p e s m args below meth c ls F hr hlk hnm hsz hP hD hE hA hl
  obtain ⟨hx, hb, hml, hown, hts⟩ := id F
  have hK := hE.1
  generalize va_A ([(sponge, .inr (9, [.ref sa, .ref ta, .ref ca, .ref ra, .ref ua, .int (nI 168), .int (nI ps), .int x3])), (sa, .inl (g.2.1 2, 25, .inr (.inl fs))), (ta, .inl (g.2.1 2, 25, .inr (.inl ft))), (ca, .inl (g.2.1 2, 5, .inr (.inl fc))), (ra, .inl (g.2.1 2, 24, .inr (.inl fr))), (ua, .inl (g.2.1 0, 25, .inl fu))] ++ pl) sz = A at hD hE hA ⊢
  have hS : va_S A s.heap s.heap [] := va_S.rf
  have hl : lv_has ls 8 [(0, .ref h0), (1, .ref to)] := hl
  obtain ⟨mB, hm0, hmP⟩ := blk_back fu fr P
  refine lv_iconst (v := nI 0) hx hb dME_draw_0 (by decide) ?_
  refine lv_istore_n (lv' := [(2, .int (nI 0)), (0, .ref h0), (1, .ref to)]) hx hb dME_draw_1 rfl hl (by decide) rfl (fun ls hl => ?_)
  have lp21 : ∀ (q21 : Nat) (d21 : Nat) (c21 t21 : Nat) (i21 : Nat) (ps21 : Nat) (f21 f22 f23 : Nat → Int64) (pl : va_W) (ls : Array Slot) (H : Heap) (locs : List Loc), 256 ≤ i21 + q21 → i21 ≤ 256 → t21 + 3 * d21 = c21 * mB * 168 + 42 → str fu fr P 168 t21 ps21 f21 → lv_has ls 8 [(2, .int (nI i21)), (0, .ref h0), (1, .ref to)] → okx g T xs pl → va_P g.1 vcl ([(sponge, .inr (9, [.ref sa, .ref ta, .ref ca, .ref ra, .ref ua, .int (nI 168), .int (nI ps21), .int x3])), (sa, .inl (g.2.1 2, 25, .inr (.inl f21))), (ta, .inl (g.2.1 2, 25, .inr (.inl f22))), (ca, .inl (g.2.1 2, 5, .inr (.inl f23))), (ra, .inl (g.2.1 2, 24, .inr (.inl fr))), (ua, .inl (g.2.1 0, 25, .inl fu))] ++ pl) H → va_D A ([(sponge, .inr (9, [.ref sa, .ref ta, .ref ca, .ref ra, .ref ua, .int (nI 168), .int (nI ps21), .int x3])), (sa, .inl (g.2.1 2, 25, .inr (.inl f21))), (ta, .inl (g.2.1 2, 25, .inr (.inl f22))), (ca, .inl (g.2.1 2, 5, .inr (.inl f23))), (ra, .inl (g.2.1 2, 24, .inr (.inl fr))), (ua, .inl (g.2.1 0, 25, .inl fu))] ++ pl) → va_S A s.heap H locs → W p l e ({ frames := 3, cells := 0, slots := 0, locals := 66 } : Room) s m args below meth c H locs 0 0 (MQ below (va_Qv (fun (u : (Nat × (Nat → Int64) × (Nat → Int64) × (Nat → Int64)) × va_W) => (u.1.1 ≤ 168) ∧ okx g T xs u.2) (po g.1 vcl A (fun (u : (Nat × (Nat → Int64) × (Nat → Int64) × (Nat → Int64)) × va_W) => [(sponge, .inr (9, [.ref sa, .ref ta, .ref ca, .ref ra, .ref ua, .int (nI 168), .int (nI (u.1.1)), .int x3])), (sa, .inl (g.2.1 2, 25, .inr (.inl ((u.1.2.1))))), (ta, .inl (g.2.1 2, 25, .inr (.inl ((u.1.2.2.1))))), (ca, .inl (g.2.1 2, 5, .inr (.inl ((u.1.2.2.2))))), (ra, .inl (g.2.1 2, 24, .inr (.inl fr))), (ua, .inl (g.2.1 0, 25, .inl fu))] ++ u.2)) A) args s 0 0 A) (F0 m 2 ls []) := by
    intro q21
    induction q21 with
    | zero =>
      intro d21
      intro c21 t21 i21 ps21 f21 f22 f23 pl ls H locs hi21 hi22 hd21 hs hl hO hP hD hS
      have hsl := str_le hs
      refine lv_iload_n hx hb dME_draw_2 rfl (lv_at hl 0 rfl) ?_
      refine lv_sipush (v := nI 256) hx hb dME_draw_3 (by decide) ?_
      refine mi_ge (tgt := 103) hx hb dME_draw_6 (by decide) (by omega) (by omega) (fun h21 => ?_) (fun h21 => absurd h21 (by omega))
      exact mp_vret hx hb hr hlk hP hD hS ((ps21, f21, f22, f23), pl) ⟨(by have h9 := hs; obtain ⟨_, _, h9, _⟩ := h9; exact h9), hO⟩ [0, 1, 2, 3, 4, 5] rfl rfl rfl (by omega) (by omega) dME_draw_103
    | succ q21 ihq21 =>
      intro d21
      induction d21 with
      | zero =>
        intro c21 t21 i21 ps21 f21 f22 f23 pl ls H locs hi21 hi22 hd21 hs hl hO hP hD hS
        have hsl := str_le hs
        refine lv_iload_n hx hb dME_draw_2 rfl (lv_at hl 0 rfl) ?_
        refine lv_sipush (v := nI 256) hx hb dME_draw_3 (by decide) ?_
        refine mi_ge (tgt := 103) hx hb dME_draw_6 (by decide) (by omega) (by omega) (fun h22 => ?_) (fun h22 => ?_)
        · exact mp_vret hx hb hr hlk hP hD hS ((ps21, f21, f22, f23), pl) ⟨(by have h9 := hs; obtain ⟨_, _, h9, _⟩ := h9; exact h9), hO⟩ [0, 1, 2, 3, 4, 5] rfl rfl rfl (by omega) (by omega) dME_draw_103
        · refine lv_aload_n hx hb dME_draw_9 rfl (lv_at hl 1 rfl) ?_
          refine ty_get (ci := 11) (C := "LatticeKeysModel$Secrets") (TT := T_ME) (N := 14) (kd := (23, 0)) hx hb hts (wg_ft i_ME) hown hK hO k_h0 (nxg hc0 k_h0 rfl) hP (fun _ h9 => h9) rfl 0 (by decide) (hts _ (wg_t kw_1379)) (fun _ h9 => h9) (cd := (3, 20, 0)) rfl dME_draw_10 (fun v21 hv21 => ?_)
          obtain ⟨r21, rfl, kr21⟩ := (show ∃ r : Nat, v21 = .ref r ∧ T r = some (20, 0) from hv21)
          obtain rfl : sponge = r21 := hU _ _ _ (by decide) k_sponge kr21
          refine mp_i (cx := [(sponge, .inr (9, [.ref sa, .ref ta, .ref ca, .ref ra, .ref ua, .int (nI 168), .int (nI ps21), .int x3])), (sa, .inl (g.2.1 2, 25, .inr (.inl f21))), (ta, .inl (g.2.1 2, 25, .inr (.inl f22))), (ca, .inl (g.2.1 2, 5, .inr (.inl f23))), (ra, .inl (g.2.1 2, 24, .inr (.inl fr))), (ua, .inl (g.2.1 0, 25, .inl fu))]) (wr := []) hP hD hS hA [0, 1, 2, 3, 4, 5] [] rfl rfl rfl (by decide) (va_runV (As := []) (rest := []) F (x_MS_next l g _ T xs pl hO hU  sponge sa ta ca ra ua 168 ps21 x3 f21 f22 f23 fr fu (by omega) (by omega)) (cwV 0 hts (wg_app (wg_c kw_1653 (wg_c kw_1642 (wg_c kw_1643 (wg_c kw_10 wg_n)))) kw_1644) rfl rfl rfl (by decide +kernel) ⟨by decide, by decide⟩) (pp_V (en_ok g) (q0 := 0) hK hP hD hS hA hE [0, 1, 2, 3, 4, 5] rfl rfl rfl rfl) rfl rfl hl.1 rfl (lv_room (Nat.le_of_ble_eq_true rfl)) dME_draw_13 ⟨by omega, by omega⟩) (fun r22 u21 H locs hu21 hP hD hS => ?_)
          obtain ⟨u22, pl⟩ := u21
          obtain ⟨hq21, hO⟩ := hu21
          obtain ⟨ps22, f24, f25, f26⟩ := u22
          have hP : va_P g.1 vcl ([(sponge, .inr (9, [.ref sa, .ref ta, .ref ca, .ref ra, .ref ua, .int (nI 168), .int (nI ps22), .int x3])), (sa, .inl (g.2.1 2, 25, .inr (.inl f24))), (ta, .inl (g.2.1 2, 25, .inr (.inl f25))), (ca, .inl (g.2.1 2, 5, .inr (.inl f26))), (ra, .inl (g.2.1 2, 24, .inr (.inl fr))), (ua, .inl (g.2.1 0, 25, .inl fu))] ++ pl) _ := hP
          have hD : va_D _ ([(sponge, .inr (9, [.ref sa, .ref ta, .ref ca, .ref ra, .ref ua, .int (nI 168), .int (nI ps22), .int x3])), (sa, .inl (g.2.1 2, 25, .inr (.inl f24))), (ta, .inl (g.2.1 2, 25, .inr (.inl f25))), (ca, .inl (g.2.1 2, 5, .inr (.inl f26))), (ra, .inl (g.2.1 2, 24, .inr (.inl fr))), (ua, .inl (g.2.1 0, 25, .inl fu))] ++ pl) := hD
          obtain ⟨hn21, hl21, z21, hz21, rfl, h0z21⟩ := hq21
          have hl21 : ps22 ≤ 168 := hl21
          have hzzz21 : z21 = 0 := str_zero (q := 42) (hmP c21) hs hn21 (by omega) (by decide) (by decide) (hz 5 (by decide) (by decide)) (by decide) h0z21
          have hs := str_next (by decide) hs hn21
          refine W.widen (k := 0) (n := 0) (by omega) (by omega) ?_
          refine lv_istore_n (lv' := [(3, .int (nI z21)), (2, .int (nI i21)), (0, .ref h0), (1, .ref to)]) hx hb dME_draw_16 rfl hl (by decide) rfl (fun ls hl => ?_)
          refine lv_aload_n hx hb dME_draw_17 rfl (lv_at hl 2 rfl) ?_
          refine ty_get (ci := 11) (C := "LatticeKeysModel$Secrets") (TT := T_ME) (N := 14) (kd := (23, 0)) hx hb hts (wg_ft i_ME) hown hK hO k_h0 (nxg hc0 k_h0 rfl) hP (fun _ h9 => h9) rfl 0 (by decide) (hts _ (wg_t kw_1379)) (fun _ h9 => h9) (cd := (3, 20, 0)) rfl dME_draw_18 (fun v22 hv22 => ?_)
          obtain ⟨r23, rfl, kr22⟩ := (show ∃ r : Nat, v22 = .ref r ∧ T r = some (20, 0) from hv22)
          obtain rfl : sponge = r23 := hU _ _ _ (by decide) k_sponge kr22
          refine mp_i (cx := [(sponge, .inr (9, [.ref sa, .ref ta, .ref ca, .ref ra, .ref ua, .int (nI 168), .int (nI ps22), .int x3])), (sa, .inl (g.2.1 2, 25, .inr (.inl f24))), (ta, .inl (g.2.1 2, 25, .inr (.inl f25))), (ca, .inl (g.2.1 2, 5, .inr (.inl f26))), (ra, .inl (g.2.1 2, 24, .inr (.inl fr))), (ua, .inl (g.2.1 0, 25, .inl fu))]) (wr := []) hP hD hS hA [0, 1, 2, 3, 4, 5] [] rfl rfl rfl (by decide) (va_runV (As := []) (rest := []) F (x_MS_next l g _ T xs pl hO hU  sponge sa ta ca ra ua 168 ps22 x3 f24 f25 f26 fr fu (by omega) (by omega)) (cwV 0 hts (wg_app (wg_c kw_1653 (wg_c kw_1642 (wg_c kw_1643 (wg_c kw_10 wg_n)))) kw_1644) rfl rfl rfl (by decide +kernel) ⟨by decide, by decide⟩) (pp_V (en_ok g) (q0 := 0) hK hP hD hS hA hE [0, 1, 2, 3, 4, 5] rfl rfl rfl rfl) rfl rfl hl.1 rfl (lv_room (Nat.le_of_ble_eq_true rfl)) dME_draw_21 ⟨by omega, by omega⟩) (fun r24 u23 H locs hu22 hP hD hS => ?_)
          obtain ⟨u24, pl⟩ := u23
          obtain ⟨hq22, hO⟩ := hu22
          obtain ⟨ps23, f27, f28, f29⟩ := u24
          have hP : va_P g.1 vcl ([(sponge, .inr (9, [.ref sa, .ref ta, .ref ca, .ref ra, .ref ua, .int (nI 168), .int (nI ps23), .int x3])), (sa, .inl (g.2.1 2, 25, .inr (.inl f27))), (ta, .inl (g.2.1 2, 25, .inr (.inl f28))), (ca, .inl (g.2.1 2, 5, .inr (.inl f29))), (ra, .inl (g.2.1 2, 24, .inr (.inl fr))), (ua, .inl (g.2.1 0, 25, .inl fu))] ++ pl) _ := hP
          have hD : va_D _ ([(sponge, .inr (9, [.ref sa, .ref ta, .ref ca, .ref ra, .ref ua, .int (nI 168), .int (nI ps23), .int x3])), (sa, .inl (g.2.1 2, 25, .inr (.inl f27))), (ta, .inl (g.2.1 2, 25, .inr (.inl f28))), (ca, .inl (g.2.1 2, 5, .inr (.inl f29))), (ra, .inl (g.2.1 2, 24, .inr (.inl fr))), (ua, .inl (g.2.1 0, 25, .inl fu))] ++ pl) := hD
          obtain ⟨hn22, hl22, z22, hz22, rfl, h0z22⟩ := hq22
          have hl22 : ps23 ≤ 168 := hl22
          have hzzz22 : z22 = 0 := str_zero (q := 43) (hmP c21) hs hn22 (by omega) (by decide) (by decide) (hz 5 (by decide) (by decide)) (by decide) h0z22
          have hs := str_next (by decide) hs hn22
          refine W.widen (k := 0) (n := 0) (by omega) (by omega) ?_
          refine lv_istore (lv' := [(4, .int (nI z22)), (3, .int (nI z21)), (2, .int (nI i21)), (0, .ref h0), (1, .ref to)]) hx hb dME_draw_24 hl (by decide) rfl (fun ls hl => ?_)
          refine lv_aload_n hx hb dME_draw_26 rfl (lv_at hl 3 rfl) ?_
          refine ty_get (ci := 11) (C := "LatticeKeysModel$Secrets") (TT := T_ME) (N := 14) (kd := (23, 0)) hx hb hts (wg_ft i_ME) hown hK hO k_h0 (nxg hc0 k_h0 rfl) hP (fun _ h9 => h9) rfl 0 (by decide) (hts _ (wg_t kw_1379)) (fun _ h9 => h9) (cd := (3, 20, 0)) rfl dME_draw_27 (fun v23 hv23 => ?_)
          obtain ⟨r25, rfl, kr23⟩ := (show ∃ r : Nat, v23 = .ref r ∧ T r = some (20, 0) from hv23)
          obtain rfl : sponge = r25 := hU _ _ _ (by decide) k_sponge kr23
          refine mp_i (cx := [(sponge, .inr (9, [.ref sa, .ref ta, .ref ca, .ref ra, .ref ua, .int (nI 168), .int (nI ps23), .int x3])), (sa, .inl (g.2.1 2, 25, .inr (.inl f27))), (ta, .inl (g.2.1 2, 25, .inr (.inl f28))), (ca, .inl (g.2.1 2, 5, .inr (.inl f29))), (ra, .inl (g.2.1 2, 24, .inr (.inl fr))), (ua, .inl (g.2.1 0, 25, .inl fu))]) (wr := []) hP hD hS hA [0, 1, 2, 3, 4, 5] [] rfl rfl rfl (by decide) (va_runV (As := []) (rest := []) F (x_MS_next l g _ T xs pl hO hU  sponge sa ta ca ra ua 168 ps23 x3 f27 f28 f29 fr fu (by omega) (by omega)) (cwV 0 hts (wg_app (wg_c kw_1653 (wg_c kw_1642 (wg_c kw_1643 (wg_c kw_10 wg_n)))) kw_1644) rfl rfl rfl (by decide +kernel) ⟨by decide, by decide⟩) (pp_V (en_ok g) (q0 := 0) hK hP hD hS hA hE [0, 1, 2, 3, 4, 5] rfl rfl rfl rfl) rfl rfl hl.1 rfl (lv_room (Nat.le_of_ble_eq_true rfl)) dME_draw_30 ⟨by omega, by omega⟩) (fun r26 u25 H locs hu23 hP hD hS => ?_)
          obtain ⟨u26, pl⟩ := u25
          obtain ⟨hq23, hO⟩ := hu23
          obtain ⟨ps24, f30, f31, f32⟩ := u26
          have hP : va_P g.1 vcl ([(sponge, .inr (9, [.ref sa, .ref ta, .ref ca, .ref ra, .ref ua, .int (nI 168), .int (nI ps24), .int x3])), (sa, .inl (g.2.1 2, 25, .inr (.inl f30))), (ta, .inl (g.2.1 2, 25, .inr (.inl f31))), (ca, .inl (g.2.1 2, 5, .inr (.inl f32))), (ra, .inl (g.2.1 2, 24, .inr (.inl fr))), (ua, .inl (g.2.1 0, 25, .inl fu))] ++ pl) _ := hP
          have hD : va_D _ ([(sponge, .inr (9, [.ref sa, .ref ta, .ref ca, .ref ra, .ref ua, .int (nI 168), .int (nI ps24), .int x3])), (sa, .inl (g.2.1 2, 25, .inr (.inl f30))), (ta, .inl (g.2.1 2, 25, .inr (.inl f31))), (ca, .inl (g.2.1 2, 5, .inr (.inl f32))), (ra, .inl (g.2.1 2, 24, .inr (.inl fr))), (ua, .inl (g.2.1 0, 25, .inl fu))] ++ pl) := hD
          obtain ⟨hn23, hl23, z23, hz23, rfl, h0z23⟩ := hq23
          have hl23 : ps24 ≤ 168 := hl23
          have hzzz23 : z23 = 0 := str_zero (q := 44) (hmP c21) hs hn23 (by omega) (by decide) (by decide) (hz 5 (by decide) (by decide)) (by decide) h0z23
          have hs := str_next (by decide) hs hn23
          refine W.widen (k := 0) (n := 0) (by omega) (by omega) ?_
          refine lv_istore (lv' := [(5, .int (nI z23)), (4, .int (nI z22)), (3, .int (nI z21)), (2, .int (nI i21)), (0, .ref h0), (1, .ref to)]) hx hb dME_draw_33 hl (by decide) rfl (fun ls hl => ?_)
          refine lv_iload_n hx hb dME_draw_35 rfl (lv_at hl 2 rfl) ?_
          refine lv_sipush (v := nI 256) hx hb dME_draw_36 (by decide) ?_
          refine lv_iload hx hb dME_draw_39 (lv_at hl 1 rfl) ?_
          refine lv_bipush (v := nI 16) hx hb dME_draw_41 (by decide) ?_
          refine mi_irem hx hb dME_draw_43 (by omega) (by omega) (by omega) ?_
          refine mi_imul hx hb dME_draw_44 ?_
          refine mi_iadd hx hb dME_draw_45 ?_
          refine lv_istore (lv' := [(6, .int (nI (z21 + (256 * (z22 % 16))))), (5, .int (nI z23)), (4, .int (nI z22)), (3, .int (nI z21)), (2, .int (nI i21)), (0, .ref h0), (1, .ref to)]) hx hb dME_draw_46 hl (by decide) rfl (fun ls hl => ?_)
          refine lv_iload hx hb dME_draw_48 (lv_at hl 2 rfl) ?_
          refine lv_bipush (v := nI 16) hx hb dME_draw_50 (by decide) ?_
          refine mi_idiv hx hb dME_draw_52 (by omega) (by omega) (by omega) ?_
          refine lv_bipush (v := nI 16) hx hb dME_draw_53 (by decide) ?_
          refine lv_iload hx hb dME_draw_55 (lv_at hl 1 rfl) ?_
          refine mi_imul hx hb dME_draw_57 ?_
          refine mi_iadd hx hb dME_draw_58 ?_
          refine lv_istore (lv' := [(7, .int (nI ((z22 / 16) + (16 * z23)))), (6, .int (nI (z21 + (256 * (z22 % 16))))), (5, .int (nI z23)), (4, .int (nI z22)), (3, .int (nI z21)), (2, .int (nI i21)), (0, .ref h0), (1, .ref to)]) hx hb dME_draw_59 hl (by decide) rfl (fun ls hl => ?_)
          refine lv_iload hx hb dME_draw_61 (lv_at hl 1 rfl) ?_
          refine lv_sipush (v := nI 3329) hx hb dME_draw_63 (by decide) ?_
          refine mi_ge (tgt := 77) hx hb dME_draw_66 (by decide) (by omega) (by omega) (fun h23 => ?_) (fun h23 => ?_)
          · refine lv_iload hx hb dME_draw_77 (lv_at hl 0 rfl) ?_
            refine lv_sipush (v := nI 3329) hx hb dME_draw_79 (by decide) ?_
            refine mi_ge (tgt := 100) hx hb dME_draw_82 (by decide) (by omega) (by omega) (fun h24 => ?_) (fun h24 => ?_)
            · refine lv_goto (tgt := 2) hx hb dME_draw_100 (by decide) ?_
              exfalso
              omega
            · refine lv_iload_n hx hb dME_draw_85 rfl (lv_at hl 5 rfl) ?_
              refine lv_sipush (v := nI 256) hx hb dME_draw_86 (by decide) ?_
              refine mi_ge (tgt := 100) hx hb dME_draw_89 (by decide) (by omega) (by omega) (fun h25 => ?_) (fun h25 => ?_)
              · refine lv_goto (tgt := 2) hx hb dME_draw_100 (by decide) ?_
                exfalso
                omega
              · refine lv_aload_n hx hb dME_draw_92 rfl (lv_at hl 7 rfl) ?_
                refine lv_iload_n hx hb dME_draw_93 rfl (lv_at hl 5 rfl) ?_
                refine lv_iload hx hb dME_draw_94 (lv_at hl 0 rfl) ?_
                refine ty_iast hx hb hK hO k_to (nxg hc0 k_to rfl) hP hD hS (vp_in_nI (by omega) (by decide)) dME_draw_96 (fun pl H locs hO hP hD hS => ?_)
                refine mi_iinc (k := 5) (x := i21) (d := 1) (y := i21 + 1) (lv' := [(2, .int (nI (i21 + 1))), (7, .int (nI ((z22 / 16) + (16 * z23)))), (6, .int (nI (z21 + (256 * (z22 % 16))))), (5, .int (nI z23)), (4, .int (nI z22)), (3, .int (nI z21)), (0, .ref h0), (1, .ref to)]) hx hb dME_draw_97 hl rfl (by decide) rfl (by decide) rfl (fun ls hl => ?_)
                refine lv_goto (tgt := 2) hx hb dME_draw_100 (by decide) ?_
                have hcm := cm_succ (c := c21) (m := mB) (k := 168)
                exact ihq21 (mB * 56 - 1) (c21 + 1) (t21 + 1 + 1 + 1) (i21 + 1) ps24 f30 f31 f32 pl ls H locs (by omega) (by omega) (by omega) hs (lv_sub hl [0, 6, 7] rfl) hO hP hD hS
          · refine lv_aload_n hx hb dME_draw_69 rfl (lv_at hl 7 rfl) ?_
            refine lv_iload_n hx hb dME_draw_70 rfl (lv_at hl 5 rfl) ?_
            refine lv_iload hx hb dME_draw_71 (lv_at hl 1 rfl) ?_
            refine ty_iast hx hb hK hO k_to (nxg hc0 k_to rfl) hP hD hS (vp_in_nI (by omega) (by decide)) dME_draw_73 (fun pl H locs hO hP hD hS => ?_)
            refine mi_iinc (k := 5) (x := i21) (d := 1) (y := i21 + 1) (lv' := [(2, .int (nI (i21 + 1))), (7, .int (nI ((z22 / 16) + (16 * z23)))), (6, .int (nI (z21 + (256 * (z22 % 16))))), (5, .int (nI z23)), (4, .int (nI z22)), (3, .int (nI z21)), (0, .ref h0), (1, .ref to)]) hx hb dME_draw_74 hl rfl (by decide) rfl (by decide) rfl (fun ls hl => ?_)
            refine lv_iload hx hb dME_draw_77 (lv_at hl 1 rfl) ?_
            refine lv_sipush (v := nI 3329) hx hb dME_draw_79 (by decide) ?_
            refine mi_ge (tgt := 100) hx hb dME_draw_82 (by decide) (by omega) (by omega) (fun h26 => ?_) (fun h26 => ?_)
            · refine lv_goto (tgt := 2) hx hb dME_draw_100 (by decide) ?_
              have hcm := cm_succ (c := c21) (m := mB) (k := 168)
              exact ihq21 (mB * 56 - 1) (c21 + 1) (t21 + 1 + 1 + 1) (i21 + 1) ps24 f30 f31 f32 pl ls H locs (by omega) (by omega) (by omega) hs (lv_sub hl [0, 6, 7] rfl) hO hP hD hS
            · refine lv_iload_n hx hb dME_draw_85 rfl (lv_at hl 0 rfl) ?_
              refine lv_sipush (v := nI 256) hx hb dME_draw_86 (by decide) ?_
              refine mi_ge (tgt := 100) hx hb dME_draw_89 (by decide) (by omega) (by omega) (fun h27 => ?_) (fun h27 => ?_)
              · refine lv_goto (tgt := 2) hx hb dME_draw_100 (by decide) ?_
                have hcm := cm_succ (c := c21) (m := mB) (k := 168)
                exact ihq21 (mB * 56 - 1) (c21 + 1) (t21 + 1 + 1 + 1) (i21 + 1) ps24 f30 f31 f32 pl ls H locs (by omega) (by omega) (by omega) hs (lv_sub hl [0, 6, 7] rfl) hO hP hD hS
              · refine lv_aload_n hx hb dME_draw_92 rfl (lv_at hl 7 rfl) ?_
                refine lv_iload_n hx hb dME_draw_93 rfl (lv_at hl 0 rfl) ?_
                refine lv_iload hx hb dME_draw_94 (lv_at hl 1 rfl) ?_
                refine ty_iast hx hb hK hO k_to (nxg hc0 k_to rfl) hP hD hS (vp_in_nI (by omega) (by decide)) dME_draw_96 (fun pl H locs hO hP hD hS => ?_)
                refine mi_iinc (k := 0) (x := i21 + 1) (d := 1) (y := i21 + 1 + 1) (lv' := [(2, .int (nI (i21 + 1 + 1))), (7, .int (nI ((z22 / 16) + (16 * z23)))), (6, .int (nI (z21 + (256 * (z22 % 16))))), (5, .int (nI z23)), (4, .int (nI z22)), (3, .int (nI z21)), (0, .ref h0), (1, .ref to)]) hx hb dME_draw_97 hl rfl (by decide) rfl (by decide) rfl (fun ls hl => ?_)
                refine lv_goto (tgt := 2) hx hb dME_draw_100 (by decide) ?_
                have hcm := cm_succ (c := c21) (m := mB) (k := 168)
                exact ihq21 (mB * 56 - 1) (c21 + 1) (t21 + 1 + 1 + 1) (i21 + 1 + 1) ps24 f30 f31 f32 pl ls H locs (by omega) (by omega) (by omega) hs (lv_sub hl [0, 6, 7] rfl) hO hP hD hS
      | succ d21 ihd21 =>
        intro c21 t21 i21 ps21 f21 f22 f23 pl ls H locs hi21 hi22 hd21 hs hl hO hP hD hS
        have hsl := str_le hs
        refine lv_iload_n hx hb dME_draw_2 rfl (lv_at hl 0 rfl) ?_
        refine lv_sipush (v := nI 256) hx hb dME_draw_3 (by decide) ?_
        refine mi_ge (tgt := 103) hx hb dME_draw_6 (by decide) (by omega) (by omega) (fun h28 => ?_) (fun h28 => ?_)
        · exact mp_vret hx hb hr hlk hP hD hS ((ps21, f21, f22, f23), pl) ⟨(by have h9 := hs; obtain ⟨_, _, h9, _⟩ := h9; exact h9), hO⟩ [0, 1, 2, 3, 4, 5] rfl rfl rfl (by omega) (by omega) dME_draw_103
        · refine lv_aload_n hx hb dME_draw_9 rfl (lv_at hl 1 rfl) ?_
          refine ty_get (ci := 11) (C := "LatticeKeysModel$Secrets") (TT := T_ME) (N := 14) (kd := (23, 0)) hx hb hts (wg_ft i_ME) hown hK hO k_h0 (nxg hc0 k_h0 rfl) hP (fun _ h9 => h9) rfl 0 (by decide) (hts _ (wg_t kw_1379)) (fun _ h9 => h9) (cd := (3, 20, 0)) rfl dME_draw_10 (fun v24 hv24 => ?_)
          obtain ⟨r27, rfl, kr24⟩ := (show ∃ r : Nat, v24 = .ref r ∧ T r = some (20, 0) from hv24)
          obtain rfl : sponge = r27 := hU _ _ _ (by decide) k_sponge kr24
          refine mp_i (cx := [(sponge, .inr (9, [.ref sa, .ref ta, .ref ca, .ref ra, .ref ua, .int (nI 168), .int (nI ps21), .int x3])), (sa, .inl (g.2.1 2, 25, .inr (.inl f21))), (ta, .inl (g.2.1 2, 25, .inr (.inl f22))), (ca, .inl (g.2.1 2, 5, .inr (.inl f23))), (ra, .inl (g.2.1 2, 24, .inr (.inl fr))), (ua, .inl (g.2.1 0, 25, .inl fu))]) (wr := []) hP hD hS hA [0, 1, 2, 3, 4, 5] [] rfl rfl rfl (by decide) (va_runV (As := []) (rest := []) F (x_MS_next l g _ T xs pl hO hU  sponge sa ta ca ra ua 168 ps21 x3 f21 f22 f23 fr fu (by omega) (by omega)) (cwV 0 hts (wg_app (wg_c kw_1653 (wg_c kw_1642 (wg_c kw_1643 (wg_c kw_10 wg_n)))) kw_1644) rfl rfl rfl (by decide +kernel) ⟨by decide, by decide⟩) (pp_V (en_ok g) (q0 := 0) hK hP hD hS hA hE [0, 1, 2, 3, 4, 5] rfl rfl rfl rfl) rfl rfl hl.1 rfl (lv_room (Nat.le_of_ble_eq_true rfl)) dME_draw_13 ⟨by omega, by omega⟩) (fun r28 u27 H locs hu24 hP hD hS => ?_)
          obtain ⟨u28, pl⟩ := u27
          obtain ⟨hq24, hO⟩ := hu24
          obtain ⟨ps25, f33, f34, f35⟩ := u28
          have hP : va_P g.1 vcl ([(sponge, .inr (9, [.ref sa, .ref ta, .ref ca, .ref ra, .ref ua, .int (nI 168), .int (nI ps25), .int x3])), (sa, .inl (g.2.1 2, 25, .inr (.inl f33))), (ta, .inl (g.2.1 2, 25, .inr (.inl f34))), (ca, .inl (g.2.1 2, 5, .inr (.inl f35))), (ra, .inl (g.2.1 2, 24, .inr (.inl fr))), (ua, .inl (g.2.1 0, 25, .inl fu))] ++ pl) _ := hP
          have hD : va_D _ ([(sponge, .inr (9, [.ref sa, .ref ta, .ref ca, .ref ra, .ref ua, .int (nI 168), .int (nI ps25), .int x3])), (sa, .inl (g.2.1 2, 25, .inr (.inl f33))), (ta, .inl (g.2.1 2, 25, .inr (.inl f34))), (ca, .inl (g.2.1 2, 5, .inr (.inl f35))), (ra, .inl (g.2.1 2, 24, .inr (.inl fr))), (ua, .inl (g.2.1 0, 25, .inl fu))] ++ pl) := hD
          obtain ⟨hn24, hl24, z24, hz24, rfl, h0z24⟩ := hq24
          have hl24 : ps25 ≤ 168 := hl24
          have hs := str_next (by decide) hs hn24
          refine W.widen (k := 0) (n := 0) (by omega) (by omega) ?_
          refine lv_istore_n (lv' := [(3, .int (nI z24)), (2, .int (nI i21)), (0, .ref h0), (1, .ref to)]) hx hb dME_draw_16 rfl hl (by decide) rfl (fun ls hl => ?_)
          refine lv_aload_n hx hb dME_draw_17 rfl (lv_at hl 2 rfl) ?_
          refine ty_get (ci := 11) (C := "LatticeKeysModel$Secrets") (TT := T_ME) (N := 14) (kd := (23, 0)) hx hb hts (wg_ft i_ME) hown hK hO k_h0 (nxg hc0 k_h0 rfl) hP (fun _ h9 => h9) rfl 0 (by decide) (hts _ (wg_t kw_1379)) (fun _ h9 => h9) (cd := (3, 20, 0)) rfl dME_draw_18 (fun v25 hv25 => ?_)
          obtain ⟨r29, rfl, kr25⟩ := (show ∃ r : Nat, v25 = .ref r ∧ T r = some (20, 0) from hv25)
          obtain rfl : sponge = r29 := hU _ _ _ (by decide) k_sponge kr25
          refine mp_i (cx := [(sponge, .inr (9, [.ref sa, .ref ta, .ref ca, .ref ra, .ref ua, .int (nI 168), .int (nI ps25), .int x3])), (sa, .inl (g.2.1 2, 25, .inr (.inl f33))), (ta, .inl (g.2.1 2, 25, .inr (.inl f34))), (ca, .inl (g.2.1 2, 5, .inr (.inl f35))), (ra, .inl (g.2.1 2, 24, .inr (.inl fr))), (ua, .inl (g.2.1 0, 25, .inl fu))]) (wr := []) hP hD hS hA [0, 1, 2, 3, 4, 5] [] rfl rfl rfl (by decide) (va_runV (As := []) (rest := []) F (x_MS_next l g _ T xs pl hO hU  sponge sa ta ca ra ua 168 ps25 x3 f33 f34 f35 fr fu (by omega) (by omega)) (cwV 0 hts (wg_app (wg_c kw_1653 (wg_c kw_1642 (wg_c kw_1643 (wg_c kw_10 wg_n)))) kw_1644) rfl rfl rfl (by decide +kernel) ⟨by decide, by decide⟩) (pp_V (en_ok g) (q0 := 0) hK hP hD hS hA hE [0, 1, 2, 3, 4, 5] rfl rfl rfl rfl) rfl rfl hl.1 rfl (lv_room (Nat.le_of_ble_eq_true rfl)) dME_draw_21 ⟨by omega, by omega⟩) (fun r30 u29 H locs hu25 hP hD hS => ?_)
          obtain ⟨u30, pl⟩ := u29
          obtain ⟨hq25, hO⟩ := hu25
          obtain ⟨ps26, f36, f37, f38⟩ := u30
          have hP : va_P g.1 vcl ([(sponge, .inr (9, [.ref sa, .ref ta, .ref ca, .ref ra, .ref ua, .int (nI 168), .int (nI ps26), .int x3])), (sa, .inl (g.2.1 2, 25, .inr (.inl f36))), (ta, .inl (g.2.1 2, 25, .inr (.inl f37))), (ca, .inl (g.2.1 2, 5, .inr (.inl f38))), (ra, .inl (g.2.1 2, 24, .inr (.inl fr))), (ua, .inl (g.2.1 0, 25, .inl fu))] ++ pl) _ := hP
          have hD : va_D _ ([(sponge, .inr (9, [.ref sa, .ref ta, .ref ca, .ref ra, .ref ua, .int (nI 168), .int (nI ps26), .int x3])), (sa, .inl (g.2.1 2, 25, .inr (.inl f36))), (ta, .inl (g.2.1 2, 25, .inr (.inl f37))), (ca, .inl (g.2.1 2, 5, .inr (.inl f38))), (ra, .inl (g.2.1 2, 24, .inr (.inl fr))), (ua, .inl (g.2.1 0, 25, .inl fu))] ++ pl) := hD
          obtain ⟨hn25, hl25, z25, hz25, rfl, h0z25⟩ := hq25
          have hl25 : ps26 ≤ 168 := hl25
          have hs := str_next (by decide) hs hn25
          refine W.widen (k := 0) (n := 0) (by omega) (by omega) ?_
          refine lv_istore (lv' := [(4, .int (nI z25)), (3, .int (nI z24)), (2, .int (nI i21)), (0, .ref h0), (1, .ref to)]) hx hb dME_draw_24 hl (by decide) rfl (fun ls hl => ?_)
          refine lv_aload_n hx hb dME_draw_26 rfl (lv_at hl 3 rfl) ?_
          refine ty_get (ci := 11) (C := "LatticeKeysModel$Secrets") (TT := T_ME) (N := 14) (kd := (23, 0)) hx hb hts (wg_ft i_ME) hown hK hO k_h0 (nxg hc0 k_h0 rfl) hP (fun _ h9 => h9) rfl 0 (by decide) (hts _ (wg_t kw_1379)) (fun _ h9 => h9) (cd := (3, 20, 0)) rfl dME_draw_27 (fun v26 hv26 => ?_)
          obtain ⟨r31, rfl, kr26⟩ := (show ∃ r : Nat, v26 = .ref r ∧ T r = some (20, 0) from hv26)
          obtain rfl : sponge = r31 := hU _ _ _ (by decide) k_sponge kr26
          refine mp_i (cx := [(sponge, .inr (9, [.ref sa, .ref ta, .ref ca, .ref ra, .ref ua, .int (nI 168), .int (nI ps26), .int x3])), (sa, .inl (g.2.1 2, 25, .inr (.inl f36))), (ta, .inl (g.2.1 2, 25, .inr (.inl f37))), (ca, .inl (g.2.1 2, 5, .inr (.inl f38))), (ra, .inl (g.2.1 2, 24, .inr (.inl fr))), (ua, .inl (g.2.1 0, 25, .inl fu))]) (wr := []) hP hD hS hA [0, 1, 2, 3, 4, 5] [] rfl rfl rfl (by decide) (va_runV (As := []) (rest := []) F (x_MS_next l g _ T xs pl hO hU  sponge sa ta ca ra ua 168 ps26 x3 f36 f37 f38 fr fu (by omega) (by omega)) (cwV 0 hts (wg_app (wg_c kw_1653 (wg_c kw_1642 (wg_c kw_1643 (wg_c kw_10 wg_n)))) kw_1644) rfl rfl rfl (by decide +kernel) ⟨by decide, by decide⟩) (pp_V (en_ok g) (q0 := 0) hK hP hD hS hA hE [0, 1, 2, 3, 4, 5] rfl rfl rfl rfl) rfl rfl hl.1 rfl (lv_room (Nat.le_of_ble_eq_true rfl)) dME_draw_30 ⟨by omega, by omega⟩) (fun r32 u31 H locs hu26 hP hD hS => ?_)
          obtain ⟨u32, pl⟩ := u31
          obtain ⟨hq26, hO⟩ := hu26
          obtain ⟨ps27, f39, f40, f41⟩ := u32
          have hP : va_P g.1 vcl ([(sponge, .inr (9, [.ref sa, .ref ta, .ref ca, .ref ra, .ref ua, .int (nI 168), .int (nI ps27), .int x3])), (sa, .inl (g.2.1 2, 25, .inr (.inl f39))), (ta, .inl (g.2.1 2, 25, .inr (.inl f40))), (ca, .inl (g.2.1 2, 5, .inr (.inl f41))), (ra, .inl (g.2.1 2, 24, .inr (.inl fr))), (ua, .inl (g.2.1 0, 25, .inl fu))] ++ pl) _ := hP
          have hD : va_D _ ([(sponge, .inr (9, [.ref sa, .ref ta, .ref ca, .ref ra, .ref ua, .int (nI 168), .int (nI ps27), .int x3])), (sa, .inl (g.2.1 2, 25, .inr (.inl f39))), (ta, .inl (g.2.1 2, 25, .inr (.inl f40))), (ca, .inl (g.2.1 2, 5, .inr (.inl f41))), (ra, .inl (g.2.1 2, 24, .inr (.inl fr))), (ua, .inl (g.2.1 0, 25, .inl fu))] ++ pl) := hD
          obtain ⟨hn26, hl26, z26, hz26, rfl, h0z26⟩ := hq26
          have hl26 : ps27 ≤ 168 := hl26
          have hs := str_next (by decide) hs hn26
          refine W.widen (k := 0) (n := 0) (by omega) (by omega) ?_
          refine lv_istore (lv' := [(5, .int (nI z26)), (4, .int (nI z25)), (3, .int (nI z24)), (2, .int (nI i21)), (0, .ref h0), (1, .ref to)]) hx hb dME_draw_33 hl (by decide) rfl (fun ls hl => ?_)
          refine lv_iload_n hx hb dME_draw_35 rfl (lv_at hl 2 rfl) ?_
          refine lv_sipush (v := nI 256) hx hb dME_draw_36 (by decide) ?_
          refine lv_iload hx hb dME_draw_39 (lv_at hl 1 rfl) ?_
          refine lv_bipush (v := nI 16) hx hb dME_draw_41 (by decide) ?_
          refine mi_irem hx hb dME_draw_43 (by omega) (by omega) (by omega) ?_
          refine mi_imul hx hb dME_draw_44 ?_
          refine mi_iadd hx hb dME_draw_45 ?_
          refine lv_istore (lv' := [(6, .int (nI (z24 + (256 * (z25 % 16))))), (5, .int (nI z26)), (4, .int (nI z25)), (3, .int (nI z24)), (2, .int (nI i21)), (0, .ref h0), (1, .ref to)]) hx hb dME_draw_46 hl (by decide) rfl (fun ls hl => ?_)
          refine lv_iload hx hb dME_draw_48 (lv_at hl 2 rfl) ?_
          refine lv_bipush (v := nI 16) hx hb dME_draw_50 (by decide) ?_
          refine mi_idiv hx hb dME_draw_52 (by omega) (by omega) (by omega) ?_
          refine lv_bipush (v := nI 16) hx hb dME_draw_53 (by decide) ?_
          refine lv_iload hx hb dME_draw_55 (lv_at hl 1 rfl) ?_
          refine mi_imul hx hb dME_draw_57 ?_
          refine mi_iadd hx hb dME_draw_58 ?_
          refine lv_istore (lv' := [(7, .int (nI ((z25 / 16) + (16 * z26)))), (6, .int (nI (z24 + (256 * (z25 % 16))))), (5, .int (nI z26)), (4, .int (nI z25)), (3, .int (nI z24)), (2, .int (nI i21)), (0, .ref h0), (1, .ref to)]) hx hb dME_draw_59 hl (by decide) rfl (fun ls hl => ?_)
          refine lv_iload hx hb dME_draw_61 (lv_at hl 1 rfl) ?_
          refine lv_sipush (v := nI 3329) hx hb dME_draw_63 (by decide) ?_
          refine mi_ge (tgt := 77) hx hb dME_draw_66 (by decide) (by omega) (by omega) (fun h29 => ?_) (fun h29 => ?_)
          · refine lv_iload hx hb dME_draw_77 (lv_at hl 0 rfl) ?_
            refine lv_sipush (v := nI 3329) hx hb dME_draw_79 (by decide) ?_
            refine mi_ge (tgt := 100) hx hb dME_draw_82 (by decide) (by omega) (by omega) (fun h30 => ?_) (fun h30 => ?_)
            · refine lv_goto (tgt := 2) hx hb dME_draw_100 (by decide) ?_
              exact ihd21 c21 (t21 + 1 + 1 + 1) i21 ps27 f39 f40 f41 pl ls H locs (by omega) (by omega) (by omega) hs (lv_sub hl [5, 6, 7] rfl) hO hP hD hS
            · refine lv_iload_n hx hb dME_draw_85 rfl (lv_at hl 5 rfl) ?_
              refine lv_sipush (v := nI 256) hx hb dME_draw_86 (by decide) ?_
              refine mi_ge (tgt := 100) hx hb dME_draw_89 (by decide) (by omega) (by omega) (fun h31 => ?_) (fun h31 => ?_)
              · refine lv_goto (tgt := 2) hx hb dME_draw_100 (by decide) ?_
                exact ihd21 c21 (t21 + 1 + 1 + 1) i21 ps27 f39 f40 f41 pl ls H locs (by omega) (by omega) (by omega) hs (lv_sub hl [5, 6, 7] rfl) hO hP hD hS
              · refine lv_aload_n hx hb dME_draw_92 rfl (lv_at hl 7 rfl) ?_
                refine lv_iload_n hx hb dME_draw_93 rfl (lv_at hl 5 rfl) ?_
                refine lv_iload hx hb dME_draw_94 (lv_at hl 0 rfl) ?_
                refine ty_iast hx hb hK hO k_to (nxg hc0 k_to rfl) hP hD hS (vp_in_nI (by omega) (by decide)) dME_draw_96 (fun pl H locs hO hP hD hS => ?_)
                refine mi_iinc (k := 5) (x := i21) (d := 1) (y := i21 + 1) (lv' := [(2, .int (nI (i21 + 1))), (7, .int (nI ((z25 / 16) + (16 * z26)))), (6, .int (nI (z24 + (256 * (z25 % 16))))), (5, .int (nI z26)), (4, .int (nI z25)), (3, .int (nI z24)), (0, .ref h0), (1, .ref to)]) hx hb dME_draw_97 hl rfl (by decide) rfl (by decide) rfl (fun ls hl => ?_)
                refine lv_goto (tgt := 2) hx hb dME_draw_100 (by decide) ?_
                exact ihq21 d21 c21 (t21 + 1 + 1 + 1) (i21 + 1) ps27 f39 f40 f41 pl ls H locs (by omega) (by omega) (by omega) hs (lv_sub hl [0, 6, 7] rfl) hO hP hD hS
          · refine lv_aload_n hx hb dME_draw_69 rfl (lv_at hl 7 rfl) ?_
            refine lv_iload_n hx hb dME_draw_70 rfl (lv_at hl 5 rfl) ?_
            refine lv_iload hx hb dME_draw_71 (lv_at hl 1 rfl) ?_
            refine ty_iast hx hb hK hO k_to (nxg hc0 k_to rfl) hP hD hS (vp_in_nI (by omega) (by decide)) dME_draw_73 (fun pl H locs hO hP hD hS => ?_)
            refine mi_iinc (k := 5) (x := i21) (d := 1) (y := i21 + 1) (lv' := [(2, .int (nI (i21 + 1))), (7, .int (nI ((z25 / 16) + (16 * z26)))), (6, .int (nI (z24 + (256 * (z25 % 16))))), (5, .int (nI z26)), (4, .int (nI z25)), (3, .int (nI z24)), (0, .ref h0), (1, .ref to)]) hx hb dME_draw_74 hl rfl (by decide) rfl (by decide) rfl (fun ls hl => ?_)
            refine lv_iload hx hb dME_draw_77 (lv_at hl 1 rfl) ?_
            refine lv_sipush (v := nI 3329) hx hb dME_draw_79 (by decide) ?_
            refine mi_ge (tgt := 100) hx hb dME_draw_82 (by decide) (by omega) (by omega) (fun h32 => ?_) (fun h32 => ?_)
            · refine lv_goto (tgt := 2) hx hb dME_draw_100 (by decide) ?_
              exact ihq21 d21 c21 (t21 + 1 + 1 + 1) (i21 + 1) ps27 f39 f40 f41 pl ls H locs (by omega) (by omega) (by omega) hs (lv_sub hl [0, 6, 7] rfl) hO hP hD hS
            · refine lv_iload_n hx hb dME_draw_85 rfl (lv_at hl 0 rfl) ?_
              refine lv_sipush (v := nI 256) hx hb dME_draw_86 (by decide) ?_
              refine mi_ge (tgt := 100) hx hb dME_draw_89 (by decide) (by omega) (by omega) (fun h33 => ?_) (fun h33 => ?_)
              · refine lv_goto (tgt := 2) hx hb dME_draw_100 (by decide) ?_
                exact ihq21 d21 c21 (t21 + 1 + 1 + 1) (i21 + 1) ps27 f39 f40 f41 pl ls H locs (by omega) (by omega) (by omega) hs (lv_sub hl [0, 6, 7] rfl) hO hP hD hS
              · refine lv_aload_n hx hb dME_draw_92 rfl (lv_at hl 7 rfl) ?_
                refine lv_iload_n hx hb dME_draw_93 rfl (lv_at hl 0 rfl) ?_
                refine lv_iload hx hb dME_draw_94 (lv_at hl 1 rfl) ?_
                refine ty_iast hx hb hK hO k_to (nxg hc0 k_to rfl) hP hD hS (vp_in_nI (by omega) (by decide)) dME_draw_96 (fun pl H locs hO hP hD hS => ?_)
                refine mi_iinc (k := 0) (x := i21 + 1) (d := 1) (y := i21 + 1 + 1) (lv' := [(2, .int (nI (i21 + 1 + 1))), (7, .int (nI ((z25 / 16) + (16 * z26)))), (6, .int (nI (z24 + (256 * (z25 % 16))))), (5, .int (nI z26)), (4, .int (nI z25)), (3, .int (nI z24)), (0, .ref h0), (1, .ref to)]) hx hb dME_draw_97 hl rfl (by decide) rfl (by decide) rfl (fun ls hl => ?_)
                refine lv_goto (tgt := 2) hx hb dME_draw_100 (by decide) ?_
                exact ihq21 d21 c21 (t21 + 1 + 1 + 1) (i21 + 1 + 1) ps27 f39 f40 f41 pl ls H locs (by omega) (by omega) (by omega) hs (lv_sub hl [0, 6, 7] rfl) hO hP hD hS
  have htg := tgt_le (m := mB) (t := t) (rt := 168) (p := 42) hm0 (by decide)
  exact lp21 256 (((t + 1) * mB * 168 + 42 - (t)) / 3) (t + 1) (t) 0 ps fs ft fc pl ls _ _ (by omega) (by omega) (by omega) hs (lv_sub hl [0, 1, 2] rfl) hO hP hD hS
set_option maxHeartbeats 400000 in
set_option maxRecDepth 100000 in
theorem t_ME_expand_2 (l : Launch) (g : Gd) (sz : Nat) (T : Ty) (xs : List Nat) (pl : va_W) (hO : okx g T xs pl) (hU : uni T) (hc0 : clo T xs 0) (hc9 : clo T xs 9) (h0 b n at_ : Nat) (k_h0 : T h0 = some (23, 0)) (k_b : T b = some (1, n)) (h1 : at_ + 32 ≤ n) (h2 : n < 65536)  : Met l y_ME_expand w_ME_expand ({ frames := 4, cells := 0, slots := 0, locals := 93 } : Room) (va_Pc [.ref h0, .ref b, .int (nI at_), .int (nI 2)] (pr (en g) g.1 vcl sz ([] ++ pl))) (va_Qv (fun (u : va_W) => (True) ∧ okx g T xs u) (po g.1 vcl (va_A ([] ++ pl) sz) (fun (u : va_W) => [] ++ u)) (va_A ([] ++ pl) sz)) 0 0 (va_A ([] ++ pl) sz) := by
  refine mc_entry (cc := c_ME_expand) (maxL := 6) (ret := none) (by decide) rfl (Nat.le_of_ble_eq_true rfl) ?_
  intro p e s m args below meth c ls F hr hlk hnm hsz hP hD hE hA hl
  obtain ⟨hx, hb, hml, hown, hts⟩ := id F
  have hK := hE.1
  generalize va_A ([] ++ pl) sz = A at hD hE hA ⊢
  have hS : va_S A s.heap s.heap [] := va_S.rf
  have hl : lv_has ls 6 [(0, .ref h0), (1, .ref b), (2, .int (nI at_)), (3, .int (nI 2))] := hl
  refine lv_iconst (v := nI 0) hx hb dME_expand_0 (by decide) ?_
  refine lv_istore (lv' := [(4, .int (nI 0)), (0, .ref h0), (1, .ref b), (2, .int (nI at_)), (3, .int (nI 2))]) hx hb dME_expand_1 hl (by decide) rfl (fun ls hl => ?_)
  have lp21 : ∀ (n21 : Nat) (i21 : Nat) (pl : va_W) (ls : Array Slot) (H : Heap) (locs : List Loc), n21 + i21 = 2 → lv_has ls 6 [(4, .int (nI i21)), (0, .ref h0), (1, .ref b), (2, .int (nI at_)), (3, .int (nI 2))] → okx g T xs pl → va_P g.1 vcl ([] ++ pl) H → va_D A ([] ++ pl) → va_S A s.heap H locs → W p l e ({ frames := 4, cells := 0, slots := 0, locals := 93 } : Room) s m args below meth c H locs 0 0 (MQ below (va_Qv (fun (u : va_W) => (True) ∧ okx g T xs u) (po g.1 vcl A (fun (u : va_W) => [] ++ u)) A) args s 0 0 A) (F0 m 3 ls []) := by
    intro n21
    induction n21 with
    | zero =>
      intro i21 pl ls H locs hm21  hl hO hP hD hS
      refine lv_iload hx hb dME_expand_3 (lv_at hl 0 rfl) ?_
      refine lv_iload_n hx hb dME_expand_5 rfl (lv_at hl 4 rfl) ?_
      refine mi_ge (tgt := 94) hx hb dME_expand_6 (by decide) (by omega) (by omega) (fun h21 => ?_) (fun h21 => absurd h21 (by omega))
      exact mp_vret hx hb hr hlk hP hD hS pl ⟨trivial, hO⟩ [] rfl rfl rfl (by omega) (by omega) dME_expand_94
    | succ n21 ih21 =>
      intro i21 pl ls H locs hm21  hl hO hP hD hS
      refine lv_iload hx hb dME_expand_3 (lv_at hl 0 rfl) ?_
      refine lv_iload_n hx hb dME_expand_5 rfl (lv_at hl 4 rfl) ?_
      refine mi_ge (tgt := 94) hx hb dME_expand_6 (by decide) (by omega) (by omega) (fun h22 => absurd h22 (by omega)) (fun h22 => ?_)
      refine lv_iconst (v := nI 0) hx hb dME_expand_9 (by decide) ?_
      refine lv_istore (lv' := [(5, .int (nI 0)), (4, .int (nI i21)), (0, .ref h0), (1, .ref b), (2, .int (nI at_)), (3, .int (nI 2))]) hx hb dME_expand_10 hl (by decide) rfl (fun ls hl => ?_)
      have lp22 : ∀ (n22 : Nat) (i22 : Nat) (pl : va_W) (ls : Array Slot) (H : Heap) (locs : List Loc), n22 + i22 = 2 → lv_has ls 6 [(5, .int (nI i22)), (4, .int (nI i21)), (0, .ref h0), (1, .ref b), (2, .int (nI at_)), (3, .int (nI 2))] → okx g T xs pl → va_P g.1 vcl ([] ++ pl) H → va_D A ([] ++ pl) → va_S A s.heap H locs → W p l e ({ frames := 4, cells := 0, slots := 0, locals := 93 } : Room) s m args below meth c H locs 0 0 (MQ below (va_Qv (fun (u : va_W) => (True) ∧ okx g T xs u) (po g.1 vcl A (fun (u : va_W) => [] ++ u)) A) args s 0 0 A) (F0 m 12 ls []) := by
        intro n22
        induction n22 with
        | zero =>
          intro i22 pl ls H locs hm22  hl hO hP hD hS
          refine lv_iload hx hb dME_expand_12 (lv_at hl 0 rfl) ?_
          refine lv_iload_n hx hb dME_expand_14 rfl (lv_at hl 5 rfl) ?_
          refine mi_ge (tgt := 88) hx hb dME_expand_15 (by decide) (by omega) (by omega) (fun h23 => ?_) (fun h23 => absurd h23 (by omega))
          refine mi_iinc (k := 1) (x := i21) (d := 1) (y := i21 + 1) (lv' := [(4, .int (nI (i21 + 1))), (5, .int (nI i22)), (0, .ref h0), (1, .ref b), (2, .int (nI at_)), (3, .int (nI 2))]) hx hb dME_expand_88 hl rfl (by decide) rfl (by decide) rfl (fun ls hl => ?_)
          refine lv_goto (tgt := 3) hx hb dME_expand_91 (by decide) ?_
          exact ih21 (i21 + 1) pl ls H locs (by omega) (lv_sub hl [0, 2, 3, 4, 5] rfl) hO hP hD hS
        | succ n22 ih22 =>
          intro i22 pl ls H locs hm22  hl hO hP hD hS
          refine lv_iload hx hb dME_expand_12 (lv_at hl 0 rfl) ?_
          refine lv_iload_n hx hb dME_expand_14 rfl (lv_at hl 5 rfl) ?_
          refine mi_ge (tgt := 88) hx hb dME_expand_15 (by decide) (by omega) (by omega) (fun h24 => absurd h24 (by omega)) (fun h24 => ?_)
          refine lv_aload_n hx hb dME_expand_18 rfl (lv_at hl 2 rfl) ?_
          refine ty_get (ci := 11) (C := "LatticeKeysModel$Secrets") (TT := T_ME) (N := 14) (kd := (23, 0)) hx hb hts (wg_ft i_ME) hown hK hO k_h0 (nxg hc0 k_h0 rfl) hP (fun _ h9 => h9) rfl 0 (by decide) (hts _ (wg_t kw_1379)) (fun _ h9 => h9) (cd := (3, 20, 0)) rfl dME_expand_19 (fun v21 hv21 => ?_)
          obtain ⟨r21, rfl, kr21⟩ := (show ∃ r : Nat, v21 = .ref r ∧ T r = some (20, 0) from hv21)
          refine lv_sipush (v := nI 168) hx hb dME_expand_22 (by decide) ?_
          refine lv_bipush (v := nI 31) hx hb dME_expand_25 (by decide) ?_
          obtain ⟨e21, pl, hP, hD, hk21, hO⟩ := open1 hP hD hO kr21 (nxg hc9 kr21 rfl)
          obtain ⟨am21, am22, am23, am24, am25, rt21, ps21, x21, rfl, km21, km22, km23, km24, km25, hr21, hr22, hr23⟩ := hk21
          obtain ⟨e22, pl, hP, hD, hk22, hO⟩ := open1 hP hD hO km21 (nmc (knd_ne km21 kr21 (by decide)) (nxg hc9 km21 rfl))
          obtain ⟨f21, rfl⟩ := hk22
          obtain ⟨e23, pl, hP, hD, hk23, hO⟩ := open1 hP hD hO km22 (nmc (knd_ne km22 km21 (by decide)) (nmc (knd_ne km22 kr21 (by decide)) (nxg hc9 km22 rfl)))
          obtain ⟨f22, rfl⟩ := hk23
          obtain ⟨e24, pl, hP, hD, hk24, hO⟩ := open1 hP hD hO km23 (nmc (knd_ne km23 km22 (by decide)) (nmc (knd_ne km23 km21 (by decide)) (nmc (knd_ne km23 kr21 (by decide)) (nxg hc9 km23 rfl))))
          obtain ⟨f23, rfl⟩ := hk24
          obtain ⟨e25, pl, hP, hD, hk25, hO⟩ := open1 hP hD hO km24 (nmc (knd_ne km24 km23 (by decide)) (nmc (knd_ne km24 km22 (by decide)) (nmc (knd_ne km24 km21 (by decide)) (nmc (knd_ne km24 kr21 (by decide)) (nxg hc9 km24 rfl)))))
          obtain ⟨f24, rfl⟩ := hk25
          obtain ⟨e26, pl, hP, hD, hk26, hO⟩ := open1 hP hD hO km25 (nmc (knd_ne km25 km24 (by decide)) (nmc (knd_ne km25 km23 (by decide)) (nmc (knd_ne km25 km22 (by decide)) (nmc (knd_ne km25 km21 (by decide)) (nmc (knd_ne km25 kr21 (by decide)) (nxg hc9 km25 rfl))))))
          obtain ⟨f25, rfl⟩ := hk26
          have hP : va_P g.1 vcl ([(r21, .inr (9, [.ref am21, .ref am22, .ref am23, .ref am24, .ref am25, .int (nI rt21), .int (nI ps21), .int x21])), (am21, .inl (g.2.1 2, 25, .inr (.inl f21))), (am22, .inl (g.2.1 2, 25, .inr (.inl f22))), (am23, .inl (g.2.1 2, 5, .inr (.inl f23))), (am24, .inl (g.2.1 2, 24, .inr (.inl f24))), (am25, .inl (g.2.1 0, 25, .inl f25))] ++ pl) _ := hP
          have hD : va_D _ ([(r21, .inr (9, [.ref am21, .ref am22, .ref am23, .ref am24, .ref am25, .int (nI rt21), .int (nI ps21), .int x21])), (am21, .inl (g.2.1 2, 25, .inr (.inl f21))), (am22, .inl (g.2.1 2, 25, .inr (.inl f22))), (am23, .inl (g.2.1 2, 5, .inr (.inl f23))), (am24, .inl (g.2.1 2, 24, .inr (.inl f24))), (am25, .inl (g.2.1 0, 25, .inl f25))] ++ pl) := hD
          refine mp_v (cx := [(r21, .inr (9, [.ref am21, .ref am22, .ref am23, .ref am24, .ref am25, .int (nI rt21), .int (nI ps21), .int x21])), (am21, .inl (g.2.1 2, 25, .inr (.inl f21))), (am22, .inl (g.2.1 2, 25, .inr (.inl f22))), (am23, .inl (g.2.1 2, 5, .inr (.inl f23))), (am24, .inl (g.2.1 2, 24, .inr (.inl f24))), (am25, .inl (g.2.1 0, 25, .inl f25))]) (wr := []) hP hD hS hA [0, 1, 2, 3, 4, 5] [] rfl rfl rfl (by decide) (va_runV (As := [.int (nI 168), .int (nI 31)]) (rest := []) F (x_MS_begin l g _ T (am25 :: (am24 :: (am23 :: (am22 :: (am21 :: (r21 :: xs)))))) pl hO hU  168 (nI 31) r21 am21 am22 am23 am24 am25 rt21 ps21 x21 f21 f22 f23 f24 f25 (by omega)) (cwV 2 hts (wg_app (wg_c kw_1607 (wg_c kw_1608 (wg_c kw_1609 (wg_c kw_10 wg_n)))) kw_1610) rfl rfl rfl (by decide +kernel) ⟨by decide, by decide⟩) (pp_V (en_ok g) (q0 := 0) hK hP hD hS hA hE [0, 1, 2, 3, 4, 5] rfl rfl rfl rfl) rfl rfl hl.1 rfl (lv_room (Nat.le_of_ble_eq_true rfl)) dME_expand_27 ⟨by omega, by omega⟩) (fun  u21 H locs hu21 hP hD hS => ?_)
          obtain ⟨u22, pl⟩ := u21
          obtain ⟨hq21, hO⟩ := hu21
          have hP : va_P g.1 vcl ([(r21, .inr (9, [.ref am21, .ref am22, .ref am23, .ref am24, .ref am25, .int (nI 168), .int (nI 0), .int (nI 31)])), (am21, .inl (g.2.1 2, 25, .inr (.inl u22))), (am22, .inl (g.2.1 2, 25, .inr (.inl f22))), (am23, .inl (g.2.1 2, 5, .inr (.inl f23))), (am24, .inl (g.2.1 2, 24, .inr (.inl f24))), (am25, .inl (g.2.1 0, 25, .inl f25))] ++ pl) _ := hP
          have hD : va_D _ ([(r21, .inr (9, [.ref am21, .ref am22, .ref am23, .ref am24, .ref am25, .int (nI 168), .int (nI 0), .int (nI 31)])), (am21, .inl (g.2.1 2, 25, .inr (.inl u22))), (am22, .inl (g.2.1 2, 25, .inr (.inl f22))), (am23, .inl (g.2.1 2, 5, .inr (.inl f23))), (am24, .inl (g.2.1 2, 24, .inr (.inl f24))), (am25, .inl (g.2.1 0, 25, .inl f25))] ++ pl) := hD
          have hq21 : ∀ j, j < 25 → u22 j = 0 := hq21
          refine W.widen (k := 0) (n := 0) (by omega) (by omega) ?_
          refine lv_aload_n hx hb dME_expand_30 rfl (lv_at hl 2 rfl) ?_
          refine ty_get (ci := 11) (C := "LatticeKeysModel$Secrets") (TT := T_ME) (N := 14) (kd := (23, 0)) hx hb hts (wg_ft i_ME) hown hK hO k_h0 (nxg (clo_cons (clo_cons (clo_cons (clo_cons (clo_cons (clo_cons hc0 kr21 (by decide)) km21 (by decide)) km22 (by decide)) km23 (by decide)) km24 (by decide)) km25 (by decide)) k_h0 rfl) hP (fun _ h9 => h9) rfl 0 (by decide) (hts _ (wg_t kw_1379)) (fun _ h9 => h9) (cd := (3, 20, 0)) rfl dME_expand_31 (fun v22 hv22 => ?_)
          obtain ⟨r22, rfl, kr22⟩ := (show ∃ r : Nat, v22 = .ref r ∧ T r = some (20, 0) from hv22)
          obtain rfl : r21 = r22 := hU _ _ _ (by decide) kr21 kr22
          refine lv_aload_n hx hb dME_expand_34 rfl (lv_at hl 3 rfl) ?_
          refine lv_iload_n hx hb dME_expand_35 rfl (lv_at hl 4 rfl) ?_
          refine lv_bipush (v := nI 32) hx hb dME_expand_36 (by decide) ?_
          refine mp_v (cx := [(r21, .inr (9, [.ref am21, .ref am22, .ref am23, .ref am24, .ref am25, .int (nI 168), .int (nI 0), .int (nI 31)])), (am21, .inl (g.2.1 2, 25, .inr (.inl u22))), (am22, .inl (g.2.1 2, 25, .inr (.inl f22))), (am23, .inl (g.2.1 2, 5, .inr (.inl f23))), (am24, .inl (g.2.1 2, 24, .inr (.inl f24))), (am25, .inl (g.2.1 0, 25, .inl f25))]) (wr := []) hP hD hS hA [0, 1, 2, 3, 4, 5] [] rfl rfl rfl (by decide) (va_runV (As := [.ref b, .int (nI at_), .int (nI 32)]) (rest := []) F (x_MS_puts l g _ T (am25 :: (am24 :: (am23 :: (am22 :: (am21 :: (r21 :: xs)))))) pl hO hU (clo_cons (clo_cons (clo_cons (clo_cons (clo_cons (clo_cons hc0 kr21 (by decide)) km21 (by decide)) km22 (by decide)) km23 (by decide)) km24 (by decide)) km25 (by decide)) b n at_ 32 r21 am21 am22 am23 am24 am25 168 0 (nI 31) u22 f22 f23 f24 f25 k_b (by omega) (by omega) (by omega) (by omega)) (cwV 3 hts (wg_app (wg_c kw_1611 (wg_c kw_1612 (wg_c kw_1613 (wg_c kw_10 wg_n)))) kw_1614) rfl rfl rfl (by decide +kernel) ⟨by decide, by decide⟩) (pp_V (en_ok g) (q0 := 0) hK hP hD hS hA hE [0, 1, 2, 3, 4, 5] rfl rfl rfl rfl) rfl rfl hl.1 rfl (lv_room (Nat.le_of_ble_eq_true rfl)) dME_expand_38 ⟨by omega, by omega⟩) (fun  u23 H locs hu22 hP hD hS => ?_)
          obtain ⟨u24, pl⟩ := u23
          obtain ⟨hq22, hO⟩ := hu22
          have hP : va_P g.1 vcl ([(r21, .inr (9, [.ref am21, .ref am22, .ref am23, .ref am24, .ref am25, .int (nI 168), .int (nI 32), .int (nI 31)])), (am21, .inl (g.2.1 2, 25, .inr (.inl u24))), (am22, .inl (g.2.1 2, 25, .inr (.inl f22))), (am23, .inl (g.2.1 2, 5, .inr (.inl f23))), (am24, .inl (g.2.1 2, 24, .inr (.inl f24))), (am25, .inl (g.2.1 0, 25, .inl f25))] ++ pl) _ := hP
          have hD : va_D _ ([(r21, .inr (9, [.ref am21, .ref am22, .ref am23, .ref am24, .ref am25, .int (nI 168), .int (nI 32), .int (nI 31)])), (am21, .inl (g.2.1 2, 25, .inr (.inl u24))), (am22, .inl (g.2.1 2, 25, .inr (.inl f22))), (am23, .inl (g.2.1 2, 5, .inr (.inl f23))), (am24, .inl (g.2.1 2, 24, .inr (.inl f24))), (am25, .inl (g.2.1 0, 25, .inl f25))] ++ pl) := hD
          refine W.widen (k := 0) (n := 0) (by omega) (by omega) ?_
          refine lv_aload_n hx hb dME_expand_41 rfl (lv_at hl 2 rfl) ?_
          refine ty_get (ci := 11) (C := "LatticeKeysModel$Secrets") (TT := T_ME) (N := 14) (kd := (23, 0)) hx hb hts (wg_ft i_ME) hown hK hO k_h0 (nxg (clo_cons (clo_cons (clo_cons (clo_cons (clo_cons (clo_cons hc0 kr21 (by decide)) km21 (by decide)) km22 (by decide)) km23 (by decide)) km24 (by decide)) km25 (by decide)) k_h0 rfl) hP (fun _ h9 => h9) rfl 0 (by decide) (hts _ (wg_t kw_1379)) (fun _ h9 => h9) (cd := (3, 20, 0)) rfl dME_expand_42 (fun v23 hv23 => ?_)
          obtain ⟨r23, rfl, kr23⟩ := (show ∃ r : Nat, v23 = .ref r ∧ T r = some (20, 0) from hv23)
          obtain rfl : r21 = r23 := hU _ _ _ (by decide) kr21 kr23
          refine lv_iload hx hb dME_expand_45 (lv_at hl 0 rfl) ?_
          refine mp_v (cx := [(r21, .inr (9, [.ref am21, .ref am22, .ref am23, .ref am24, .ref am25, .int (nI 168), .int (nI 32), .int (nI 31)])), (am21, .inl (g.2.1 2, 25, .inr (.inl u24))), (am22, .inl (g.2.1 2, 25, .inr (.inl f22))), (am23, .inl (g.2.1 2, 5, .inr (.inl f23))), (am24, .inl (g.2.1 2, 24, .inr (.inl f24))), (am25, .inl (g.2.1 0, 25, .inl f25))]) (wr := []) hP hD hS hA [0, 1, 2, 3, 4, 5] [] rfl rfl rfl (by decide) (va_runV (As := [.int (nI i22)]) (rest := []) F (x_MS_put l g _ T (am25 :: (am24 :: (am23 :: (am22 :: (am21 :: (r21 :: xs)))))) pl hO hU  (nI i22) r21 am21 am22 am23 am24 am25 168 32 (nI 31) u24 f22 f23 f24 f25 (by omega) (by omega)) (cwV 1 hts (wg_app (wg_c kw_1632 (wg_c kw_1616 (wg_c kw_1617 (wg_c kw_10 wg_n)))) kw_1618) rfl rfl rfl (by decide +kernel) ⟨by decide, by decide⟩) (pp_V (en_ok g) (q0 := 0) hK hP hD hS hA hE [0, 1, 2, 3, 4, 5] rfl rfl rfl rfl) rfl rfl hl.1 rfl (lv_room (Nat.le_of_ble_eq_true rfl)) dME_expand_47 ⟨by omega, by omega⟩) (fun  u25 H locs hu23 hP hD hS => ?_)
          obtain ⟨u26, pl⟩ := u25
          obtain ⟨hq23, hO⟩ := hu23
          have hP : va_P g.1 vcl ([(r21, .inr (9, [.ref am21, .ref am22, .ref am23, .ref am24, .ref am25, .int (nI 168), .int (nI 33), .int (nI 31)])), (am21, .inl (g.2.1 2, 25, .inr (.inl u26))), (am22, .inl (g.2.1 2, 25, .inr (.inl f22))), (am23, .inl (g.2.1 2, 5, .inr (.inl f23))), (am24, .inl (g.2.1 2, 24, .inr (.inl f24))), (am25, .inl (g.2.1 0, 25, .inl f25))] ++ pl) _ := hP
          have hD : va_D _ ([(r21, .inr (9, [.ref am21, .ref am22, .ref am23, .ref am24, .ref am25, .int (nI 168), .int (nI 33), .int (nI 31)])), (am21, .inl (g.2.1 2, 25, .inr (.inl u26))), (am22, .inl (g.2.1 2, 25, .inr (.inl f22))), (am23, .inl (g.2.1 2, 5, .inr (.inl f23))), (am24, .inl (g.2.1 2, 24, .inr (.inl f24))), (am25, .inl (g.2.1 0, 25, .inl f25))] ++ pl) := hD
          refine W.widen (k := 0) (n := 0) (by omega) (by omega) ?_
          refine lv_aload_n hx hb dME_expand_50 rfl (lv_at hl 2 rfl) ?_
          refine ty_get (ci := 11) (C := "LatticeKeysModel$Secrets") (TT := T_ME) (N := 14) (kd := (23, 0)) hx hb hts (wg_ft i_ME) hown hK hO k_h0 (nxg (clo_cons (clo_cons (clo_cons (clo_cons (clo_cons (clo_cons hc0 kr21 (by decide)) km21 (by decide)) km22 (by decide)) km23 (by decide)) km24 (by decide)) km25 (by decide)) k_h0 rfl) hP (fun _ h9 => h9) rfl 0 (by decide) (hts _ (wg_t kw_1379)) (fun _ h9 => h9) (cd := (3, 20, 0)) rfl dME_expand_51 (fun v24 hv24 => ?_)
          obtain ⟨r24, rfl, kr24⟩ := (show ∃ r : Nat, v24 = .ref r ∧ T r = some (20, 0) from hv24)
          obtain rfl : r21 = r24 := hU _ _ _ (by decide) kr21 kr24
          refine lv_iload hx hb dME_expand_54 (lv_at hl 1 rfl) ?_
          refine mp_v (cx := [(r21, .inr (9, [.ref am21, .ref am22, .ref am23, .ref am24, .ref am25, .int (nI 168), .int (nI 33), .int (nI 31)])), (am21, .inl (g.2.1 2, 25, .inr (.inl u26))), (am22, .inl (g.2.1 2, 25, .inr (.inl f22))), (am23, .inl (g.2.1 2, 5, .inr (.inl f23))), (am24, .inl (g.2.1 2, 24, .inr (.inl f24))), (am25, .inl (g.2.1 0, 25, .inl f25))]) (wr := []) hP hD hS hA [0, 1, 2, 3, 4, 5] [] rfl rfl rfl (by decide) (va_runV (As := [.int (nI i21)]) (rest := []) F (x_MS_put l g _ T (am25 :: (am24 :: (am23 :: (am22 :: (am21 :: (r21 :: xs)))))) pl hO hU  (nI i21) r21 am21 am22 am23 am24 am25 168 33 (nI 31) u26 f22 f23 f24 f25 (by omega) (by omega)) (cwV 1 hts (wg_app (wg_c kw_1632 (wg_c kw_1616 (wg_c kw_1617 (wg_c kw_10 wg_n)))) kw_1618) rfl rfl rfl (by decide +kernel) ⟨by decide, by decide⟩) (pp_V (en_ok g) (q0 := 0) hK hP hD hS hA hE [0, 1, 2, 3, 4, 5] rfl rfl rfl rfl) rfl rfl hl.1 rfl (lv_room (Nat.le_of_ble_eq_true rfl)) dME_expand_56 ⟨by omega, by omega⟩) (fun  u27 H locs hu24 hP hD hS => ?_)
          obtain ⟨u28, pl⟩ := u27
          obtain ⟨hq24, hO⟩ := hu24
          have hP : va_P g.1 vcl ([(r21, .inr (9, [.ref am21, .ref am22, .ref am23, .ref am24, .ref am25, .int (nI 168), .int (nI 34), .int (nI 31)])), (am21, .inl (g.2.1 2, 25, .inr (.inl u28))), (am22, .inl (g.2.1 2, 25, .inr (.inl f22))), (am23, .inl (g.2.1 2, 5, .inr (.inl f23))), (am24, .inl (g.2.1 2, 24, .inr (.inl f24))), (am25, .inl (g.2.1 0, 25, .inl f25))] ++ pl) _ := hP
          have hD : va_D _ ([(r21, .inr (9, [.ref am21, .ref am22, .ref am23, .ref am24, .ref am25, .int (nI 168), .int (nI 34), .int (nI 31)])), (am21, .inl (g.2.1 2, 25, .inr (.inl u28))), (am22, .inl (g.2.1 2, 25, .inr (.inl f22))), (am23, .inl (g.2.1 2, 5, .inr (.inl f23))), (am24, .inl (g.2.1 2, 24, .inr (.inl f24))), (am25, .inl (g.2.1 0, 25, .inl f25))] ++ pl) := hD
          refine W.widen (k := 0) (n := 0) (by omega) (by omega) ?_
          refine lv_aload_n hx hb dME_expand_59 rfl (lv_at hl 2 rfl) ?_
          refine ty_get (ci := 11) (C := "LatticeKeysModel$Secrets") (TT := T_ME) (N := 14) (kd := (23, 0)) hx hb hts (wg_ft i_ME) hown hK hO k_h0 (nxg (clo_cons (clo_cons (clo_cons (clo_cons (clo_cons (clo_cons hc0 kr21 (by decide)) km21 (by decide)) km22 (by decide)) km23 (by decide)) km24 (by decide)) km25 (by decide)) k_h0 rfl) hP (fun _ h9 => h9) rfl 0 (by decide) (hts _ (wg_t kw_1379)) (fun _ h9 => h9) (cd := (3, 20, 0)) rfl dME_expand_60 (fun v25 hv25 => ?_)
          obtain ⟨r25, rfl, kr25⟩ := (show ∃ r : Nat, v25 = .ref r ∧ T r = some (20, 0) from hv25)
          obtain rfl : r21 = r25 := hU _ _ _ (by decide) kr21 kr25
          refine mp_v (cx := [(r21, .inr (9, [.ref am21, .ref am22, .ref am23, .ref am24, .ref am25, .int (nI 168), .int (nI 34), .int (nI 31)])), (am21, .inl (g.2.1 2, 25, .inr (.inl u28))), (am22, .inl (g.2.1 2, 25, .inr (.inl f22))), (am23, .inl (g.2.1 2, 5, .inr (.inl f23))), (am24, .inl (g.2.1 2, 24, .inr (.inl f24))), (am25, .inl (g.2.1 0, 25, .inl f25))]) (wr := []) hP hD hS hA [0, 1, 2, 3, 4, 5] [] rfl rfl rfl (by decide) (va_runV (As := []) (rest := []) F (x_MS_end l g _ T (am25 :: (am24 :: (am23 :: (am22 :: (am21 :: (r21 :: xs)))))) pl hO hU  r21 am21 am22 am23 am24 am25 168 34 (nI 31) u28 f22 f23 f24 f25 (by omega) (by omega)) (cwV 0 hts (wg_app (wg_c kw_1633 (wg_c kw_1634 (wg_c kw_1635 (wg_c kw_10 wg_n)))) kw_1636) rfl rfl rfl (by decide +kernel) ⟨by decide, by decide⟩) (pp_V (en_ok g) (q0 := 0) hK hP hD hS hA hE [0, 1, 2, 3, 4, 5] rfl rfl rfl rfl) rfl rfl hl.1 rfl (lv_room (Nat.le_of_ble_eq_true rfl)) dME_expand_63 ⟨by omega, by omega⟩) (fun  u29 H locs hu25 hP hD hS => ?_)
          obtain ⟨u30, pl⟩ := u29
          obtain ⟨hq25, hO⟩ := hu25
          obtain ⟨f26, f27, f28, f29⟩ := u30
          have hP : va_P g.1 vcl ([(r21, .inr (9, [.ref am21, .ref am22, .ref am23, .ref am24, .ref am25, .int (nI 168), .int (nI 0), .int (nI 31)])), (am21, .inl (g.2.1 2, 25, .inr (.inl f26))), (am22, .inl (g.2.1 2, 25, .inr (.inl f27))), (am23, .inl (g.2.1 2, 5, .inr (.inl f28))), (am24, .inl (g.2.1 2, 24, .inr (.inl f24))), (am25, .inl (g.2.1 0, 25, .inl f25))] ++ pl) _ := hP
          have hD : va_D _ ([(r21, .inr (9, [.ref am21, .ref am22, .ref am23, .ref am24, .ref am25, .int (nI 168), .int (nI 0), .int (nI 31)])), (am21, .inl (g.2.1 2, 25, .inr (.inl f26))), (am22, .inl (g.2.1 2, 25, .inr (.inl f27))), (am23, .inl (g.2.1 2, 5, .inr (.inl f28))), (am24, .inl (g.2.1 2, 24, .inr (.inl f24))), (am25, .inl (g.2.1 0, 25, .inl f25))] ++ pl) := hD
          refine W.widen (k := 0) (n := 0) (by omega) (by omega) ?_
          have hz : ∀ j, 5 ≤ j → j < 20 → f29 j = 0 := fun j h8 h9 => ((((hq25.2 j (by omega) (by omega)).trans (hq24 j (by omega))).trans (hq23 j (by omega))).trans (hq22 j (by omega))).trans (hq21 j (by omega))
          have hs : str f25 f24 f29 168 168 0 f26 := ⟨1, by omega, by omega, hq25.1⟩
          obtain ⟨mB, hm0, hmP⟩ := blk_back f25 f24 f29
          refine lv_aload_n hx hb dME_expand_66 rfl (lv_at hl 2 rfl) ?_
          refine lv_aload_n hx hb dME_expand_67 rfl (lv_at hl 2 rfl) ?_
          refine ty_get (ci := 11) (C := "LatticeKeysModel$Secrets") (TT := T_ME) (N := 14) (kd := (23, 0)) hx hb hts (wg_ft i_ME) hown hK hO k_h0 (nxg (clo_cons (clo_cons (clo_cons (clo_cons (clo_cons (clo_cons hc0 kr21 (by decide)) km21 (by decide)) km22 (by decide)) km23 (by decide)) km24 (by decide)) km25 (by decide)) k_h0 rfl) hP (fun _ h9 => h9) rfl 2 (by decide) (hts _ (wg_t kw_1381)) (fun _ h9 => h9) (cd := (3, 3, 16)) rfl dME_expand_68 (fun v26 hv26 => ?_)
          obtain ⟨r26, rfl, kr26⟩ := (show ∃ r : Nat, v26 = .ref r ∧ T r = some (3, 16) from hv26)
          refine lv_iconst (v := nI 4) hx hb dME_expand_71 (by decide) ?_
          refine lv_iload hx hb dME_expand_72 (lv_at hl 1 rfl) ?_
          refine mi_imul hx hb dME_expand_74 ?_
          refine lv_iload hx hb dME_expand_75 (lv_at hl 0 rfl) ?_
          refine mi_iadd hx hb dME_expand_77 ?_
          refine ty_aald3 hx hb hK hO kr26 (nxg (clo_cons (clo_cons (clo_cons (clo_cons (clo_cons (clo_cons hc0 kr21 (by decide)) km21 (by decide)) km22 (by decide)) km23 (by decide)) km24 (by decide)) km25 (by decide)) kr26 rfl) hP (by omega) (by decide) dME_expand_78 (fun r27 kr27 => ?_)
          refine mp_v (cx := [(r21, .inr (9, [.ref am21, .ref am22, .ref am23, .ref am24, .ref am25, .int (nI 168), .int (nI 0), .int (nI 31)])), (am21, .inl (g.2.1 2, 25, .inr (.inl f26))), (am22, .inl (g.2.1 2, 25, .inr (.inl f27))), (am23, .inl (g.2.1 2, 5, .inr (.inl f28))), (am24, .inl (g.2.1 2, 24, .inr (.inl f24))), (am25, .inl (g.2.1 0, 25, .inl f25))]) (wr := []) hP hD hS hA [0, 1, 2, 3, 4, 5] [] rfl rfl rfl (by decide) (va_runV (As := [.ref r27]) (rest := []) F (t_ME_draw l g _ T (am25 :: (am24 :: (am23 :: (am22 :: (am21 :: (r21 :: xs)))))) pl hO hU (clo_cons (clo_cons (clo_cons (clo_cons (clo_cons (clo_cons hc0 kr21 (by decide)) km21 (by decide)) km22 (by decide)) km23 (by decide)) km24 (by decide)) km25 (by decide)) r21 h0 r27 am21 am22 am23 am24 am25 0 (nI 31) f26 f27 f28 f24 f25 f29 (168) kr21 k_h0 kr27 (by omega) hs (by omega) hz) (cwV 1 hts (wg_app (wg_c kw_1649 (wg_c kw_1651 (wg_c ks_55 (wg_c kw_11 wg_n)))) kw_1652) rfl rfl rfl (by decide +kernel) ⟨by decide, by decide⟩) (pp_VT (en_ok g) (ci := 11) (kd := (23, 0)) hK hO k_h0 (nxg (clo_cons (clo_cons (clo_cons (clo_cons (clo_cons (clo_cons hc0 kr21 (by decide)) km21 (by decide)) km22 (by decide)) km23 (by decide)) km24 (by decide)) km25 (by decide)) k_h0 rfl) (fun _ h9 => ko1 h9) hP hD hS hA hE [0, 1, 2, 3, 4, 5] rfl rfl rfl) rfl rfl hl.1 rfl (lv_room (Nat.le_of_ble_eq_true rfl)) dME_expand_79 ⟨by omega, by omega⟩) (fun  u31 H locs hu26 hP hD hS => ?_)
          obtain ⟨u32, pl⟩ := u31
          obtain ⟨hq26, hO⟩ := hu26
          obtain ⟨ps22, f30, f31, f32⟩ := u32
          have hP : va_P g.1 vcl ([(r21, .inr (9, [.ref am21, .ref am22, .ref am23, .ref am24, .ref am25, .int (nI 168), .int (nI ps22), .int (nI 31)])), (am21, .inl (g.2.1 2, 25, .inr (.inl f30))), (am22, .inl (g.2.1 2, 25, .inr (.inl f31))), (am23, .inl (g.2.1 2, 5, .inr (.inl f32))), (am24, .inl (g.2.1 2, 24, .inr (.inl f24))), (am25, .inl (g.2.1 0, 25, .inl f25))] ++ pl) _ := hP
          have hD : va_D _ ([(r21, .inr (9, [.ref am21, .ref am22, .ref am23, .ref am24, .ref am25, .int (nI 168), .int (nI ps22), .int (nI 31)])), (am21, .inl (g.2.1 2, 25, .inr (.inl f30))), (am22, .inl (g.2.1 2, 25, .inr (.inl f31))), (am23, .inl (g.2.1 2, 5, .inr (.inl f32))), (am24, .inl (g.2.1 2, 24, .inr (.inl f24))), (am25, .inl (g.2.1 0, 25, .inl f25))] ++ pl) := hD
          have hq26 : ps22 ≤ 168 := hq26
          refine W.widen (k := 0) (n := 0) (by omega) (by omega) ?_
          refine mi_iinc (k := 0) (x := i22) (d := 1) (y := i22 + 1) (lv' := [(5, .int (nI (i22 + 1))), (4, .int (nI i21)), (0, .ref h0), (1, .ref b), (2, .int (nI at_)), (3, .int (nI 2))]) hx hb dME_expand_82 hl rfl (by decide) rfl (by decide) rfl (fun ls hl => ?_)
          refine lv_goto (tgt := 12) hx hb dME_expand_85 (by decide) ?_
          have hO := close1 (e := .inl (g.2.1 0, 25, .inl f25)) hO km25 ⟨_, rfl⟩
          have hO := close1 (e := .inl (g.2.1 2, 24, .inr (.inl f24))) hO km24 ⟨_, rfl⟩
          have hO := close1 (e := .inl (g.2.1 2, 5, .inr (.inl f32))) hO km23 ⟨_, rfl⟩
          have hO := close1 (e := .inl (g.2.1 2, 25, .inr (.inl f31))) hO km22 ⟨_, rfl⟩
          have hO := close1 (e := .inl (g.2.1 2, 25, .inr (.inl f30))) hO km21 ⟨_, rfl⟩
          have hO := close1 (e := .inr (9, [.ref am21, .ref am22, .ref am23, .ref am24, .ref am25, .int (nI 168), .int (nI ps22), .int (nI 31)])) hO kr21 ⟨_, _, _, _, _, _, _, _, rfl, km21, km22, km23, km24, km25, by omega, by omega, by omega⟩
          have hO : okx g T xs ((r21, .inr (9, [.ref am21, .ref am22, .ref am23, .ref am24, .ref am25, .int (nI 168), .int (nI ps22), .int (nI 31)])) :: (am21, .inl (g.2.1 2, 25, .inr (.inl f30))) :: (am22, .inl (g.2.1 2, 25, .inr (.inl f31))) :: (am23, .inl (g.2.1 2, 5, .inr (.inl f32))) :: (am24, .inl (g.2.1 2, 24, .inr (.inl f24))) :: (am25, .inl (g.2.1 0, 25, .inl f25)) :: pl) := hO
          have hP : va_P g.1 vcl ([] ++ ((r21, .inr (9, [.ref am21, .ref am22, .ref am23, .ref am24, .ref am25, .int (nI 168), .int (nI ps22), .int (nI 31)])) :: (am21, .inl (g.2.1 2, 25, .inr (.inl f30))) :: (am22, .inl (g.2.1 2, 25, .inr (.inl f31))) :: (am23, .inl (g.2.1 2, 5, .inr (.inl f32))) :: (am24, .inl (g.2.1 2, 24, .inr (.inl f24))) :: (am25, .inl (g.2.1 0, 25, .inl f25)) :: pl)) _ := hP
          have hD : va_D _ ([] ++ ((r21, .inr (9, [.ref am21, .ref am22, .ref am23, .ref am24, .ref am25, .int (nI 168), .int (nI ps22), .int (nI 31)])) :: (am21, .inl (g.2.1 2, 25, .inr (.inl f30))) :: (am22, .inl (g.2.1 2, 25, .inr (.inl f31))) :: (am23, .inl (g.2.1 2, 5, .inr (.inl f32))) :: (am24, .inl (g.2.1 2, 24, .inr (.inl f24))) :: (am25, .inl (g.2.1 0, 25, .inl f25)) :: pl)) := hD
          generalize ((r21, .inr (9, [.ref am21, .ref am22, .ref am23, .ref am24, .ref am25, .int (nI 168), .int (nI ps22), .int (nI 31)])) :: (am21, .inl (g.2.1 2, 25, .inr (.inl f30))) :: (am22, .inl (g.2.1 2, 25, .inr (.inl f31))) :: (am23, .inl (g.2.1 2, 5, .inr (.inl f32))) :: (am24, .inl (g.2.1 2, 24, .inr (.inl f24))) :: (am25, .inl (g.2.1 0, 25, .inl f25)) :: pl) = pl at hO hP hD
          exact ih22 (i22 + 1) pl ls H locs (by omega) (lv_sub hl [0, 1, 2, 3, 4, 5] rfl) hO hP hD hS
      exact lp22 2 0 pl ls _ _ (by omega) (lv_sub hl [0, 1, 2, 3, 4, 5] rfl) hO hP hD hS
  exact lp21 2 0 pl ls _ _ (by omega) (lv_sub hl [0, 1, 2, 3, 4] rfl) hO hP hD hS
set_option maxHeartbeats 400000 in
set_option maxRecDepth 100000 in
theorem t_ME_expand_3 (l : Launch) (g : Gd) (sz : Nat) (T : Ty) (xs : List Nat) (pl : va_W) (hO : okx g T xs pl) (hU : uni T) (hc0 : clo T xs 0) (hc9 : clo T xs 9) (h0 b n at_ : Nat) (k_h0 : T h0 = some (23, 0)) (k_b : T b = some (1, n)) (h1 : at_ + 32 ≤ n) (h2 : n < 65536)  : Met l y_ME_expand w_ME_expand ({ frames := 4, cells := 0, slots := 0, locals := 93 } : Room) (va_Pc [.ref h0, .ref b, .int (nI at_), .int (nI 3)] (pr (en g) g.1 vcl sz ([] ++ pl))) (va_Qv (fun (u : va_W) => (True) ∧ okx g T xs u) (po g.1 vcl (va_A ([] ++ pl) sz) (fun (u : va_W) => [] ++ u)) (va_A ([] ++ pl) sz)) 0 0 (va_A ([] ++ pl) sz) := by
  refine mc_entry (cc := c_ME_expand) (maxL := 6) (ret := none) (by decide) rfl (Nat.le_of_ble_eq_true rfl) ?_
  intro p e s m args below meth c ls F hr hlk hnm hsz hP hD hE hA hl
  obtain ⟨hx, hb, hml, hown, hts⟩ := id F
  have hK := hE.1
  generalize va_A ([] ++ pl) sz = A at hD hE hA ⊢
  have hS : va_S A s.heap s.heap [] := va_S.rf
  have hl : lv_has ls 6 [(0, .ref h0), (1, .ref b), (2, .int (nI at_)), (3, .int (nI 3))] := hl
  refine lv_iconst (v := nI 0) hx hb dME_expand_0 (by decide) ?_
  refine lv_istore (lv' := [(4, .int (nI 0)), (0, .ref h0), (1, .ref b), (2, .int (nI at_)), (3, .int (nI 3))]) hx hb dME_expand_1 hl (by decide) rfl (fun ls hl => ?_)
  have lp21 : ∀ (n21 : Nat) (i21 : Nat) (pl : va_W) (ls : Array Slot) (H : Heap) (locs : List Loc), n21 + i21 = 3 → lv_has ls 6 [(4, .int (nI i21)), (0, .ref h0), (1, .ref b), (2, .int (nI at_)), (3, .int (nI 3))] → okx g T xs pl → va_P g.1 vcl ([] ++ pl) H → va_D A ([] ++ pl) → va_S A s.heap H locs → W p l e ({ frames := 4, cells := 0, slots := 0, locals := 93 } : Room) s m args below meth c H locs 0 0 (MQ below (va_Qv (fun (u : va_W) => (True) ∧ okx g T xs u) (po g.1 vcl A (fun (u : va_W) => [] ++ u)) A) args s 0 0 A) (F0 m 3 ls []) := by
    intro n21
    induction n21 with
    | zero =>
      intro i21 pl ls H locs hm21  hl hO hP hD hS
      refine lv_iload hx hb dME_expand_3 (lv_at hl 0 rfl) ?_
      refine lv_iload_n hx hb dME_expand_5 rfl (lv_at hl 4 rfl) ?_
      refine mi_ge (tgt := 94) hx hb dME_expand_6 (by decide) (by omega) (by omega) (fun h21 => ?_) (fun h21 => absurd h21 (by omega))
      exact mp_vret hx hb hr hlk hP hD hS pl ⟨trivial, hO⟩ [] rfl rfl rfl (by omega) (by omega) dME_expand_94
    | succ n21 ih21 =>
      intro i21 pl ls H locs hm21  hl hO hP hD hS
      refine lv_iload hx hb dME_expand_3 (lv_at hl 0 rfl) ?_
      refine lv_iload_n hx hb dME_expand_5 rfl (lv_at hl 4 rfl) ?_
      refine mi_ge (tgt := 94) hx hb dME_expand_6 (by decide) (by omega) (by omega) (fun h22 => absurd h22 (by omega)) (fun h22 => ?_)
      refine lv_iconst (v := nI 0) hx hb dME_expand_9 (by decide) ?_
      refine lv_istore (lv' := [(5, .int (nI 0)), (4, .int (nI i21)), (0, .ref h0), (1, .ref b), (2, .int (nI at_)), (3, .int (nI 3))]) hx hb dME_expand_10 hl (by decide) rfl (fun ls hl => ?_)
      have lp22 : ∀ (n22 : Nat) (i22 : Nat) (pl : va_W) (ls : Array Slot) (H : Heap) (locs : List Loc), n22 + i22 = 3 → lv_has ls 6 [(5, .int (nI i22)), (4, .int (nI i21)), (0, .ref h0), (1, .ref b), (2, .int (nI at_)), (3, .int (nI 3))] → okx g T xs pl → va_P g.1 vcl ([] ++ pl) H → va_D A ([] ++ pl) → va_S A s.heap H locs → W p l e ({ frames := 4, cells := 0, slots := 0, locals := 93 } : Room) s m args below meth c H locs 0 0 (MQ below (va_Qv (fun (u : va_W) => (True) ∧ okx g T xs u) (po g.1 vcl A (fun (u : va_W) => [] ++ u)) A) args s 0 0 A) (F0 m 12 ls []) := by
        intro n22
        induction n22 with
        | zero =>
          intro i22 pl ls H locs hm22  hl hO hP hD hS
          refine lv_iload hx hb dME_expand_12 (lv_at hl 0 rfl) ?_
          refine lv_iload_n hx hb dME_expand_14 rfl (lv_at hl 5 rfl) ?_
          refine mi_ge (tgt := 88) hx hb dME_expand_15 (by decide) (by omega) (by omega) (fun h23 => ?_) (fun h23 => absurd h23 (by omega))
          refine mi_iinc (k := 1) (x := i21) (d := 1) (y := i21 + 1) (lv' := [(4, .int (nI (i21 + 1))), (5, .int (nI i22)), (0, .ref h0), (1, .ref b), (2, .int (nI at_)), (3, .int (nI 3))]) hx hb dME_expand_88 hl rfl (by decide) rfl (by decide) rfl (fun ls hl => ?_)
          refine lv_goto (tgt := 3) hx hb dME_expand_91 (by decide) ?_
          exact ih21 (i21 + 1) pl ls H locs (by omega) (lv_sub hl [0, 2, 3, 4, 5] rfl) hO hP hD hS
        | succ n22 ih22 =>
          intro i22 pl ls H locs hm22  hl hO hP hD hS
          refine lv_iload hx hb dME_expand_12 (lv_at hl 0 rfl) ?_
          refine lv_iload_n hx hb dME_expand_14 rfl (lv_at hl 5 rfl) ?_
          refine mi_ge (tgt := 88) hx hb dME_expand_15 (by decide) (by omega) (by omega) (fun h24 => absurd h24 (by omega)) (fun h24 => ?_)
          refine lv_aload_n hx hb dME_expand_18 rfl (lv_at hl 2 rfl) ?_
          refine ty_get (ci := 11) (C := "LatticeKeysModel$Secrets") (TT := T_ME) (N := 14) (kd := (23, 0)) hx hb hts (wg_ft i_ME) hown hK hO k_h0 (nxg hc0 k_h0 rfl) hP (fun _ h9 => h9) rfl 0 (by decide) (hts _ (wg_t kw_1379)) (fun _ h9 => h9) (cd := (3, 20, 0)) rfl dME_expand_19 (fun v21 hv21 => ?_)
          obtain ⟨r21, rfl, kr21⟩ := (show ∃ r : Nat, v21 = .ref r ∧ T r = some (20, 0) from hv21)
          refine lv_sipush (v := nI 168) hx hb dME_expand_22 (by decide) ?_
          refine lv_bipush (v := nI 31) hx hb dME_expand_25 (by decide) ?_
          obtain ⟨e21, pl, hP, hD, hk21, hO⟩ := open1 hP hD hO kr21 (nxg hc9 kr21 rfl)
          obtain ⟨am21, am22, am23, am24, am25, rt21, ps21, x21, rfl, km21, km22, km23, km24, km25, hr21, hr22, hr23⟩ := hk21
          obtain ⟨e22, pl, hP, hD, hk22, hO⟩ := open1 hP hD hO km21 (nmc (knd_ne km21 kr21 (by decide)) (nxg hc9 km21 rfl))
          obtain ⟨f21, rfl⟩ := hk22
          obtain ⟨e23, pl, hP, hD, hk23, hO⟩ := open1 hP hD hO km22 (nmc (knd_ne km22 km21 (by decide)) (nmc (knd_ne km22 kr21 (by decide)) (nxg hc9 km22 rfl)))
          obtain ⟨f22, rfl⟩ := hk23
          obtain ⟨e24, pl, hP, hD, hk24, hO⟩ := open1 hP hD hO km23 (nmc (knd_ne km23 km22 (by decide)) (nmc (knd_ne km23 km21 (by decide)) (nmc (knd_ne km23 kr21 (by decide)) (nxg hc9 km23 rfl))))
          obtain ⟨f23, rfl⟩ := hk24
          obtain ⟨e25, pl, hP, hD, hk25, hO⟩ := open1 hP hD hO km24 (nmc (knd_ne km24 km23 (by decide)) (nmc (knd_ne km24 km22 (by decide)) (nmc (knd_ne km24 km21 (by decide)) (nmc (knd_ne km24 kr21 (by decide)) (nxg hc9 km24 rfl)))))
          obtain ⟨f24, rfl⟩ := hk25
          obtain ⟨e26, pl, hP, hD, hk26, hO⟩ := open1 hP hD hO km25 (nmc (knd_ne km25 km24 (by decide)) (nmc (knd_ne km25 km23 (by decide)) (nmc (knd_ne km25 km22 (by decide)) (nmc (knd_ne km25 km21 (by decide)) (nmc (knd_ne km25 kr21 (by decide)) (nxg hc9 km25 rfl))))))
          obtain ⟨f25, rfl⟩ := hk26
          have hP : va_P g.1 vcl ([(r21, .inr (9, [.ref am21, .ref am22, .ref am23, .ref am24, .ref am25, .int (nI rt21), .int (nI ps21), .int x21])), (am21, .inl (g.2.1 2, 25, .inr (.inl f21))), (am22, .inl (g.2.1 2, 25, .inr (.inl f22))), (am23, .inl (g.2.1 2, 5, .inr (.inl f23))), (am24, .inl (g.2.1 2, 24, .inr (.inl f24))), (am25, .inl (g.2.1 0, 25, .inl f25))] ++ pl) _ := hP
          have hD : va_D _ ([(r21, .inr (9, [.ref am21, .ref am22, .ref am23, .ref am24, .ref am25, .int (nI rt21), .int (nI ps21), .int x21])), (am21, .inl (g.2.1 2, 25, .inr (.inl f21))), (am22, .inl (g.2.1 2, 25, .inr (.inl f22))), (am23, .inl (g.2.1 2, 5, .inr (.inl f23))), (am24, .inl (g.2.1 2, 24, .inr (.inl f24))), (am25, .inl (g.2.1 0, 25, .inl f25))] ++ pl) := hD
          refine mp_v (cx := [(r21, .inr (9, [.ref am21, .ref am22, .ref am23, .ref am24, .ref am25, .int (nI rt21), .int (nI ps21), .int x21])), (am21, .inl (g.2.1 2, 25, .inr (.inl f21))), (am22, .inl (g.2.1 2, 25, .inr (.inl f22))), (am23, .inl (g.2.1 2, 5, .inr (.inl f23))), (am24, .inl (g.2.1 2, 24, .inr (.inl f24))), (am25, .inl (g.2.1 0, 25, .inl f25))]) (wr := []) hP hD hS hA [0, 1, 2, 3, 4, 5] [] rfl rfl rfl (by decide) (va_runV (As := [.int (nI 168), .int (nI 31)]) (rest := []) F (x_MS_begin l g _ T (am25 :: (am24 :: (am23 :: (am22 :: (am21 :: (r21 :: xs)))))) pl hO hU  168 (nI 31) r21 am21 am22 am23 am24 am25 rt21 ps21 x21 f21 f22 f23 f24 f25 (by omega)) (cwV 2 hts (wg_app (wg_c kw_1607 (wg_c kw_1608 (wg_c kw_1609 (wg_c kw_10 wg_n)))) kw_1610) rfl rfl rfl (by decide +kernel) ⟨by decide, by decide⟩) (pp_V (en_ok g) (q0 := 0) hK hP hD hS hA hE [0, 1, 2, 3, 4, 5] rfl rfl rfl rfl) rfl rfl hl.1 rfl (lv_room (Nat.le_of_ble_eq_true rfl)) dME_expand_27 ⟨by omega, by omega⟩) (fun  u21 H locs hu21 hP hD hS => ?_)
          obtain ⟨u22, pl⟩ := u21
          obtain ⟨hq21, hO⟩ := hu21
          have hP : va_P g.1 vcl ([(r21, .inr (9, [.ref am21, .ref am22, .ref am23, .ref am24, .ref am25, .int (nI 168), .int (nI 0), .int (nI 31)])), (am21, .inl (g.2.1 2, 25, .inr (.inl u22))), (am22, .inl (g.2.1 2, 25, .inr (.inl f22))), (am23, .inl (g.2.1 2, 5, .inr (.inl f23))), (am24, .inl (g.2.1 2, 24, .inr (.inl f24))), (am25, .inl (g.2.1 0, 25, .inl f25))] ++ pl) _ := hP
          have hD : va_D _ ([(r21, .inr (9, [.ref am21, .ref am22, .ref am23, .ref am24, .ref am25, .int (nI 168), .int (nI 0), .int (nI 31)])), (am21, .inl (g.2.1 2, 25, .inr (.inl u22))), (am22, .inl (g.2.1 2, 25, .inr (.inl f22))), (am23, .inl (g.2.1 2, 5, .inr (.inl f23))), (am24, .inl (g.2.1 2, 24, .inr (.inl f24))), (am25, .inl (g.2.1 0, 25, .inl f25))] ++ pl) := hD
          have hq21 : ∀ j, j < 25 → u22 j = 0 := hq21
          refine W.widen (k := 0) (n := 0) (by omega) (by omega) ?_
          refine lv_aload_n hx hb dME_expand_30 rfl (lv_at hl 2 rfl) ?_
          refine ty_get (ci := 11) (C := "LatticeKeysModel$Secrets") (TT := T_ME) (N := 14) (kd := (23, 0)) hx hb hts (wg_ft i_ME) hown hK hO k_h0 (nxg (clo_cons (clo_cons (clo_cons (clo_cons (clo_cons (clo_cons hc0 kr21 (by decide)) km21 (by decide)) km22 (by decide)) km23 (by decide)) km24 (by decide)) km25 (by decide)) k_h0 rfl) hP (fun _ h9 => h9) rfl 0 (by decide) (hts _ (wg_t kw_1379)) (fun _ h9 => h9) (cd := (3, 20, 0)) rfl dME_expand_31 (fun v22 hv22 => ?_)
          obtain ⟨r22, rfl, kr22⟩ := (show ∃ r : Nat, v22 = .ref r ∧ T r = some (20, 0) from hv22)
          obtain rfl : r21 = r22 := hU _ _ _ (by decide) kr21 kr22
          refine lv_aload_n hx hb dME_expand_34 rfl (lv_at hl 3 rfl) ?_
          refine lv_iload_n hx hb dME_expand_35 rfl (lv_at hl 4 rfl) ?_
          refine lv_bipush (v := nI 32) hx hb dME_expand_36 (by decide) ?_
          refine mp_v (cx := [(r21, .inr (9, [.ref am21, .ref am22, .ref am23, .ref am24, .ref am25, .int (nI 168), .int (nI 0), .int (nI 31)])), (am21, .inl (g.2.1 2, 25, .inr (.inl u22))), (am22, .inl (g.2.1 2, 25, .inr (.inl f22))), (am23, .inl (g.2.1 2, 5, .inr (.inl f23))), (am24, .inl (g.2.1 2, 24, .inr (.inl f24))), (am25, .inl (g.2.1 0, 25, .inl f25))]) (wr := []) hP hD hS hA [0, 1, 2, 3, 4, 5] [] rfl rfl rfl (by decide) (va_runV (As := [.ref b, .int (nI at_), .int (nI 32)]) (rest := []) F (x_MS_puts l g _ T (am25 :: (am24 :: (am23 :: (am22 :: (am21 :: (r21 :: xs)))))) pl hO hU (clo_cons (clo_cons (clo_cons (clo_cons (clo_cons (clo_cons hc0 kr21 (by decide)) km21 (by decide)) km22 (by decide)) km23 (by decide)) km24 (by decide)) km25 (by decide)) b n at_ 32 r21 am21 am22 am23 am24 am25 168 0 (nI 31) u22 f22 f23 f24 f25 k_b (by omega) (by omega) (by omega) (by omega)) (cwV 3 hts (wg_app (wg_c kw_1611 (wg_c kw_1612 (wg_c kw_1613 (wg_c kw_10 wg_n)))) kw_1614) rfl rfl rfl (by decide +kernel) ⟨by decide, by decide⟩) (pp_V (en_ok g) (q0 := 0) hK hP hD hS hA hE [0, 1, 2, 3, 4, 5] rfl rfl rfl rfl) rfl rfl hl.1 rfl (lv_room (Nat.le_of_ble_eq_true rfl)) dME_expand_38 ⟨by omega, by omega⟩) (fun  u23 H locs hu22 hP hD hS => ?_)
          obtain ⟨u24, pl⟩ := u23
          obtain ⟨hq22, hO⟩ := hu22
          have hP : va_P g.1 vcl ([(r21, .inr (9, [.ref am21, .ref am22, .ref am23, .ref am24, .ref am25, .int (nI 168), .int (nI 32), .int (nI 31)])), (am21, .inl (g.2.1 2, 25, .inr (.inl u24))), (am22, .inl (g.2.1 2, 25, .inr (.inl f22))), (am23, .inl (g.2.1 2, 5, .inr (.inl f23))), (am24, .inl (g.2.1 2, 24, .inr (.inl f24))), (am25, .inl (g.2.1 0, 25, .inl f25))] ++ pl) _ := hP
          have hD : va_D _ ([(r21, .inr (9, [.ref am21, .ref am22, .ref am23, .ref am24, .ref am25, .int (nI 168), .int (nI 32), .int (nI 31)])), (am21, .inl (g.2.1 2, 25, .inr (.inl u24))), (am22, .inl (g.2.1 2, 25, .inr (.inl f22))), (am23, .inl (g.2.1 2, 5, .inr (.inl f23))), (am24, .inl (g.2.1 2, 24, .inr (.inl f24))), (am25, .inl (g.2.1 0, 25, .inl f25))] ++ pl) := hD
          refine W.widen (k := 0) (n := 0) (by omega) (by omega) ?_
          refine lv_aload_n hx hb dME_expand_41 rfl (lv_at hl 2 rfl) ?_
          refine ty_get (ci := 11) (C := "LatticeKeysModel$Secrets") (TT := T_ME) (N := 14) (kd := (23, 0)) hx hb hts (wg_ft i_ME) hown hK hO k_h0 (nxg (clo_cons (clo_cons (clo_cons (clo_cons (clo_cons (clo_cons hc0 kr21 (by decide)) km21 (by decide)) km22 (by decide)) km23 (by decide)) km24 (by decide)) km25 (by decide)) k_h0 rfl) hP (fun _ h9 => h9) rfl 0 (by decide) (hts _ (wg_t kw_1379)) (fun _ h9 => h9) (cd := (3, 20, 0)) rfl dME_expand_42 (fun v23 hv23 => ?_)
          obtain ⟨r23, rfl, kr23⟩ := (show ∃ r : Nat, v23 = .ref r ∧ T r = some (20, 0) from hv23)
          obtain rfl : r21 = r23 := hU _ _ _ (by decide) kr21 kr23
          refine lv_iload hx hb dME_expand_45 (lv_at hl 0 rfl) ?_
          refine mp_v (cx := [(r21, .inr (9, [.ref am21, .ref am22, .ref am23, .ref am24, .ref am25, .int (nI 168), .int (nI 32), .int (nI 31)])), (am21, .inl (g.2.1 2, 25, .inr (.inl u24))), (am22, .inl (g.2.1 2, 25, .inr (.inl f22))), (am23, .inl (g.2.1 2, 5, .inr (.inl f23))), (am24, .inl (g.2.1 2, 24, .inr (.inl f24))), (am25, .inl (g.2.1 0, 25, .inl f25))]) (wr := []) hP hD hS hA [0, 1, 2, 3, 4, 5] [] rfl rfl rfl (by decide) (va_runV (As := [.int (nI i22)]) (rest := []) F (x_MS_put l g _ T (am25 :: (am24 :: (am23 :: (am22 :: (am21 :: (r21 :: xs)))))) pl hO hU  (nI i22) r21 am21 am22 am23 am24 am25 168 32 (nI 31) u24 f22 f23 f24 f25 (by omega) (by omega)) (cwV 1 hts (wg_app (wg_c kw_1632 (wg_c kw_1616 (wg_c kw_1617 (wg_c kw_10 wg_n)))) kw_1618) rfl rfl rfl (by decide +kernel) ⟨by decide, by decide⟩) (pp_V (en_ok g) (q0 := 0) hK hP hD hS hA hE [0, 1, 2, 3, 4, 5] rfl rfl rfl rfl) rfl rfl hl.1 rfl (lv_room (Nat.le_of_ble_eq_true rfl)) dME_expand_47 ⟨by omega, by omega⟩) (fun  u25 H locs hu23 hP hD hS => ?_)
          obtain ⟨u26, pl⟩ := u25
          obtain ⟨hq23, hO⟩ := hu23
          have hP : va_P g.1 vcl ([(r21, .inr (9, [.ref am21, .ref am22, .ref am23, .ref am24, .ref am25, .int (nI 168), .int (nI 33), .int (nI 31)])), (am21, .inl (g.2.1 2, 25, .inr (.inl u26))), (am22, .inl (g.2.1 2, 25, .inr (.inl f22))), (am23, .inl (g.2.1 2, 5, .inr (.inl f23))), (am24, .inl (g.2.1 2, 24, .inr (.inl f24))), (am25, .inl (g.2.1 0, 25, .inl f25))] ++ pl) _ := hP
          have hD : va_D _ ([(r21, .inr (9, [.ref am21, .ref am22, .ref am23, .ref am24, .ref am25, .int (nI 168), .int (nI 33), .int (nI 31)])), (am21, .inl (g.2.1 2, 25, .inr (.inl u26))), (am22, .inl (g.2.1 2, 25, .inr (.inl f22))), (am23, .inl (g.2.1 2, 5, .inr (.inl f23))), (am24, .inl (g.2.1 2, 24, .inr (.inl f24))), (am25, .inl (g.2.1 0, 25, .inl f25))] ++ pl) := hD
          refine W.widen (k := 0) (n := 0) (by omega) (by omega) ?_
          refine lv_aload_n hx hb dME_expand_50 rfl (lv_at hl 2 rfl) ?_
          refine ty_get (ci := 11) (C := "LatticeKeysModel$Secrets") (TT := T_ME) (N := 14) (kd := (23, 0)) hx hb hts (wg_ft i_ME) hown hK hO k_h0 (nxg (clo_cons (clo_cons (clo_cons (clo_cons (clo_cons (clo_cons hc0 kr21 (by decide)) km21 (by decide)) km22 (by decide)) km23 (by decide)) km24 (by decide)) km25 (by decide)) k_h0 rfl) hP (fun _ h9 => h9) rfl 0 (by decide) (hts _ (wg_t kw_1379)) (fun _ h9 => h9) (cd := (3, 20, 0)) rfl dME_expand_51 (fun v24 hv24 => ?_)
          obtain ⟨r24, rfl, kr24⟩ := (show ∃ r : Nat, v24 = .ref r ∧ T r = some (20, 0) from hv24)
          obtain rfl : r21 = r24 := hU _ _ _ (by decide) kr21 kr24
          refine lv_iload hx hb dME_expand_54 (lv_at hl 1 rfl) ?_
          refine mp_v (cx := [(r21, .inr (9, [.ref am21, .ref am22, .ref am23, .ref am24, .ref am25, .int (nI 168), .int (nI 33), .int (nI 31)])), (am21, .inl (g.2.1 2, 25, .inr (.inl u26))), (am22, .inl (g.2.1 2, 25, .inr (.inl f22))), (am23, .inl (g.2.1 2, 5, .inr (.inl f23))), (am24, .inl (g.2.1 2, 24, .inr (.inl f24))), (am25, .inl (g.2.1 0, 25, .inl f25))]) (wr := []) hP hD hS hA [0, 1, 2, 3, 4, 5] [] rfl rfl rfl (by decide) (va_runV (As := [.int (nI i21)]) (rest := []) F (x_MS_put l g _ T (am25 :: (am24 :: (am23 :: (am22 :: (am21 :: (r21 :: xs)))))) pl hO hU  (nI i21) r21 am21 am22 am23 am24 am25 168 33 (nI 31) u26 f22 f23 f24 f25 (by omega) (by omega)) (cwV 1 hts (wg_app (wg_c kw_1632 (wg_c kw_1616 (wg_c kw_1617 (wg_c kw_10 wg_n)))) kw_1618) rfl rfl rfl (by decide +kernel) ⟨by decide, by decide⟩) (pp_V (en_ok g) (q0 := 0) hK hP hD hS hA hE [0, 1, 2, 3, 4, 5] rfl rfl rfl rfl) rfl rfl hl.1 rfl (lv_room (Nat.le_of_ble_eq_true rfl)) dME_expand_56 ⟨by omega, by omega⟩) (fun  u27 H locs hu24 hP hD hS => ?_)
          obtain ⟨u28, pl⟩ := u27
          obtain ⟨hq24, hO⟩ := hu24
          have hP : va_P g.1 vcl ([(r21, .inr (9, [.ref am21, .ref am22, .ref am23, .ref am24, .ref am25, .int (nI 168), .int (nI 34), .int (nI 31)])), (am21, .inl (g.2.1 2, 25, .inr (.inl u28))), (am22, .inl (g.2.1 2, 25, .inr (.inl f22))), (am23, .inl (g.2.1 2, 5, .inr (.inl f23))), (am24, .inl (g.2.1 2, 24, .inr (.inl f24))), (am25, .inl (g.2.1 0, 25, .inl f25))] ++ pl) _ := hP
          have hD : va_D _ ([(r21, .inr (9, [.ref am21, .ref am22, .ref am23, .ref am24, .ref am25, .int (nI 168), .int (nI 34), .int (nI 31)])), (am21, .inl (g.2.1 2, 25, .inr (.inl u28))), (am22, .inl (g.2.1 2, 25, .inr (.inl f22))), (am23, .inl (g.2.1 2, 5, .inr (.inl f23))), (am24, .inl (g.2.1 2, 24, .inr (.inl f24))), (am25, .inl (g.2.1 0, 25, .inl f25))] ++ pl) := hD
          refine W.widen (k := 0) (n := 0) (by omega) (by omega) ?_
          refine lv_aload_n hx hb dME_expand_59 rfl (lv_at hl 2 rfl) ?_
          refine ty_get (ci := 11) (C := "LatticeKeysModel$Secrets") (TT := T_ME) (N := 14) (kd := (23, 0)) hx hb hts (wg_ft i_ME) hown hK hO k_h0 (nxg (clo_cons (clo_cons (clo_cons (clo_cons (clo_cons (clo_cons hc0 kr21 (by decide)) km21 (by decide)) km22 (by decide)) km23 (by decide)) km24 (by decide)) km25 (by decide)) k_h0 rfl) hP (fun _ h9 => h9) rfl 0 (by decide) (hts _ (wg_t kw_1379)) (fun _ h9 => h9) (cd := (3, 20, 0)) rfl dME_expand_60 (fun v25 hv25 => ?_)
          obtain ⟨r25, rfl, kr25⟩ := (show ∃ r : Nat, v25 = .ref r ∧ T r = some (20, 0) from hv25)
          obtain rfl : r21 = r25 := hU _ _ _ (by decide) kr21 kr25
          refine mp_v (cx := [(r21, .inr (9, [.ref am21, .ref am22, .ref am23, .ref am24, .ref am25, .int (nI 168), .int (nI 34), .int (nI 31)])), (am21, .inl (g.2.1 2, 25, .inr (.inl u28))), (am22, .inl (g.2.1 2, 25, .inr (.inl f22))), (am23, .inl (g.2.1 2, 5, .inr (.inl f23))), (am24, .inl (g.2.1 2, 24, .inr (.inl f24))), (am25, .inl (g.2.1 0, 25, .inl f25))]) (wr := []) hP hD hS hA [0, 1, 2, 3, 4, 5] [] rfl rfl rfl (by decide) (va_runV (As := []) (rest := []) F (x_MS_end l g _ T (am25 :: (am24 :: (am23 :: (am22 :: (am21 :: (r21 :: xs)))))) pl hO hU  r21 am21 am22 am23 am24 am25 168 34 (nI 31) u28 f22 f23 f24 f25 (by omega) (by omega)) (cwV 0 hts (wg_app (wg_c kw_1633 (wg_c kw_1634 (wg_c kw_1635 (wg_c kw_10 wg_n)))) kw_1636) rfl rfl rfl (by decide +kernel) ⟨by decide, by decide⟩) (pp_V (en_ok g) (q0 := 0) hK hP hD hS hA hE [0, 1, 2, 3, 4, 5] rfl rfl rfl rfl) rfl rfl hl.1 rfl (lv_room (Nat.le_of_ble_eq_true rfl)) dME_expand_63 ⟨by omega, by omega⟩) (fun  u29 H locs hu25 hP hD hS => ?_)
          obtain ⟨u30, pl⟩ := u29
          obtain ⟨hq25, hO⟩ := hu25
          obtain ⟨f26, f27, f28, f29⟩ := u30
          have hP : va_P g.1 vcl ([(r21, .inr (9, [.ref am21, .ref am22, .ref am23, .ref am24, .ref am25, .int (nI 168), .int (nI 0), .int (nI 31)])), (am21, .inl (g.2.1 2, 25, .inr (.inl f26))), (am22, .inl (g.2.1 2, 25, .inr (.inl f27))), (am23, .inl (g.2.1 2, 5, .inr (.inl f28))), (am24, .inl (g.2.1 2, 24, .inr (.inl f24))), (am25, .inl (g.2.1 0, 25, .inl f25))] ++ pl) _ := hP
          have hD : va_D _ ([(r21, .inr (9, [.ref am21, .ref am22, .ref am23, .ref am24, .ref am25, .int (nI 168), .int (nI 0), .int (nI 31)])), (am21, .inl (g.2.1 2, 25, .inr (.inl f26))), (am22, .inl (g.2.1 2, 25, .inr (.inl f27))), (am23, .inl (g.2.1 2, 5, .inr (.inl f28))), (am24, .inl (g.2.1 2, 24, .inr (.inl f24))), (am25, .inl (g.2.1 0, 25, .inl f25))] ++ pl) := hD
          refine W.widen (k := 0) (n := 0) (by omega) (by omega) ?_
          have hz : ∀ j, 5 ≤ j → j < 20 → f29 j = 0 := fun j h8 h9 => ((((hq25.2 j (by omega) (by omega)).trans (hq24 j (by omega))).trans (hq23 j (by omega))).trans (hq22 j (by omega))).trans (hq21 j (by omega))
          have hs : str f25 f24 f29 168 168 0 f26 := ⟨1, by omega, by omega, hq25.1⟩
          obtain ⟨mB, hm0, hmP⟩ := blk_back f25 f24 f29
          refine lv_aload_n hx hb dME_expand_66 rfl (lv_at hl 2 rfl) ?_
          refine lv_aload_n hx hb dME_expand_67 rfl (lv_at hl 2 rfl) ?_
          refine ty_get (ci := 11) (C := "LatticeKeysModel$Secrets") (TT := T_ME) (N := 14) (kd := (23, 0)) hx hb hts (wg_ft i_ME) hown hK hO k_h0 (nxg (clo_cons (clo_cons (clo_cons (clo_cons (clo_cons (clo_cons hc0 kr21 (by decide)) km21 (by decide)) km22 (by decide)) km23 (by decide)) km24 (by decide)) km25 (by decide)) k_h0 rfl) hP (fun _ h9 => h9) rfl 2 (by decide) (hts _ (wg_t kw_1381)) (fun _ h9 => h9) (cd := (3, 3, 16)) rfl dME_expand_68 (fun v26 hv26 => ?_)
          obtain ⟨r26, rfl, kr26⟩ := (show ∃ r : Nat, v26 = .ref r ∧ T r = some (3, 16) from hv26)
          refine lv_iconst (v := nI 4) hx hb dME_expand_71 (by decide) ?_
          refine lv_iload hx hb dME_expand_72 (lv_at hl 1 rfl) ?_
          refine mi_imul hx hb dME_expand_74 ?_
          refine lv_iload hx hb dME_expand_75 (lv_at hl 0 rfl) ?_
          refine mi_iadd hx hb dME_expand_77 ?_
          refine ty_aald3 hx hb hK hO kr26 (nxg (clo_cons (clo_cons (clo_cons (clo_cons (clo_cons (clo_cons hc0 kr21 (by decide)) km21 (by decide)) km22 (by decide)) km23 (by decide)) km24 (by decide)) km25 (by decide)) kr26 rfl) hP (by omega) (by decide) dME_expand_78 (fun r27 kr27 => ?_)
          refine mp_v (cx := [(r21, .inr (9, [.ref am21, .ref am22, .ref am23, .ref am24, .ref am25, .int (nI 168), .int (nI 0), .int (nI 31)])), (am21, .inl (g.2.1 2, 25, .inr (.inl f26))), (am22, .inl (g.2.1 2, 25, .inr (.inl f27))), (am23, .inl (g.2.1 2, 5, .inr (.inl f28))), (am24, .inl (g.2.1 2, 24, .inr (.inl f24))), (am25, .inl (g.2.1 0, 25, .inl f25))]) (wr := []) hP hD hS hA [0, 1, 2, 3, 4, 5] [] rfl rfl rfl (by decide) (va_runV (As := [.ref r27]) (rest := []) F (t_ME_draw l g _ T (am25 :: (am24 :: (am23 :: (am22 :: (am21 :: (r21 :: xs)))))) pl hO hU (clo_cons (clo_cons (clo_cons (clo_cons (clo_cons (clo_cons hc0 kr21 (by decide)) km21 (by decide)) km22 (by decide)) km23 (by decide)) km24 (by decide)) km25 (by decide)) r21 h0 r27 am21 am22 am23 am24 am25 0 (nI 31) f26 f27 f28 f24 f25 f29 (168) kr21 k_h0 kr27 (by omega) hs (by omega) hz) (cwV 1 hts (wg_app (wg_c kw_1649 (wg_c kw_1651 (wg_c ks_55 (wg_c kw_11 wg_n)))) kw_1652) rfl rfl rfl (by decide +kernel) ⟨by decide, by decide⟩) (pp_VT (en_ok g) (ci := 11) (kd := (23, 0)) hK hO k_h0 (nxg (clo_cons (clo_cons (clo_cons (clo_cons (clo_cons (clo_cons hc0 kr21 (by decide)) km21 (by decide)) km22 (by decide)) km23 (by decide)) km24 (by decide)) km25 (by decide)) k_h0 rfl) (fun _ h9 => ko1 h9) hP hD hS hA hE [0, 1, 2, 3, 4, 5] rfl rfl rfl) rfl rfl hl.1 rfl (lv_room (Nat.le_of_ble_eq_true rfl)) dME_expand_79 ⟨by omega, by omega⟩) (fun  u31 H locs hu26 hP hD hS => ?_)
          obtain ⟨u32, pl⟩ := u31
          obtain ⟨hq26, hO⟩ := hu26
          obtain ⟨ps22, f30, f31, f32⟩ := u32
          have hP : va_P g.1 vcl ([(r21, .inr (9, [.ref am21, .ref am22, .ref am23, .ref am24, .ref am25, .int (nI 168), .int (nI ps22), .int (nI 31)])), (am21, .inl (g.2.1 2, 25, .inr (.inl f30))), (am22, .inl (g.2.1 2, 25, .inr (.inl f31))), (am23, .inl (g.2.1 2, 5, .inr (.inl f32))), (am24, .inl (g.2.1 2, 24, .inr (.inl f24))), (am25, .inl (g.2.1 0, 25, .inl f25))] ++ pl) _ := hP
          have hD : va_D _ ([(r21, .inr (9, [.ref am21, .ref am22, .ref am23, .ref am24, .ref am25, .int (nI 168), .int (nI ps22), .int (nI 31)])), (am21, .inl (g.2.1 2, 25, .inr (.inl f30))), (am22, .inl (g.2.1 2, 25, .inr (.inl f31))), (am23, .inl (g.2.1 2, 5, .inr (.inl f32))), (am24, .inl (g.2.1 2, 24, .inr (.inl f24))), (am25, .inl (g.2.1 0, 25, .inl f25))] ++ pl) := hD
          have hq26 : ps22 ≤ 168 := hq26
          refine W.widen (k := 0) (n := 0) (by omega) (by omega) ?_
          refine mi_iinc (k := 0) (x := i22) (d := 1) (y := i22 + 1) (lv' := [(5, .int (nI (i22 + 1))), (4, .int (nI i21)), (0, .ref h0), (1, .ref b), (2, .int (nI at_)), (3, .int (nI 3))]) hx hb dME_expand_82 hl rfl (by decide) rfl (by decide) rfl (fun ls hl => ?_)
          refine lv_goto (tgt := 12) hx hb dME_expand_85 (by decide) ?_
          have hO := close1 (e := .inl (g.2.1 0, 25, .inl f25)) hO km25 ⟨_, rfl⟩
          have hO := close1 (e := .inl (g.2.1 2, 24, .inr (.inl f24))) hO km24 ⟨_, rfl⟩
          have hO := close1 (e := .inl (g.2.1 2, 5, .inr (.inl f32))) hO km23 ⟨_, rfl⟩
          have hO := close1 (e := .inl (g.2.1 2, 25, .inr (.inl f31))) hO km22 ⟨_, rfl⟩
          have hO := close1 (e := .inl (g.2.1 2, 25, .inr (.inl f30))) hO km21 ⟨_, rfl⟩
          have hO := close1 (e := .inr (9, [.ref am21, .ref am22, .ref am23, .ref am24, .ref am25, .int (nI 168), .int (nI ps22), .int (nI 31)])) hO kr21 ⟨_, _, _, _, _, _, _, _, rfl, km21, km22, km23, km24, km25, by omega, by omega, by omega⟩
          have hO : okx g T xs ((r21, .inr (9, [.ref am21, .ref am22, .ref am23, .ref am24, .ref am25, .int (nI 168), .int (nI ps22), .int (nI 31)])) :: (am21, .inl (g.2.1 2, 25, .inr (.inl f30))) :: (am22, .inl (g.2.1 2, 25, .inr (.inl f31))) :: (am23, .inl (g.2.1 2, 5, .inr (.inl f32))) :: (am24, .inl (g.2.1 2, 24, .inr (.inl f24))) :: (am25, .inl (g.2.1 0, 25, .inl f25)) :: pl) := hO
          have hP : va_P g.1 vcl ([] ++ ((r21, .inr (9, [.ref am21, .ref am22, .ref am23, .ref am24, .ref am25, .int (nI 168), .int (nI ps22), .int (nI 31)])) :: (am21, .inl (g.2.1 2, 25, .inr (.inl f30))) :: (am22, .inl (g.2.1 2, 25, .inr (.inl f31))) :: (am23, .inl (g.2.1 2, 5, .inr (.inl f32))) :: (am24, .inl (g.2.1 2, 24, .inr (.inl f24))) :: (am25, .inl (g.2.1 0, 25, .inl f25)) :: pl)) _ := hP
          have hD : va_D _ ([] ++ ((r21, .inr (9, [.ref am21, .ref am22, .ref am23, .ref am24, .ref am25, .int (nI 168), .int (nI ps22), .int (nI 31)])) :: (am21, .inl (g.2.1 2, 25, .inr (.inl f30))) :: (am22, .inl (g.2.1 2, 25, .inr (.inl f31))) :: (am23, .inl (g.2.1 2, 5, .inr (.inl f32))) :: (am24, .inl (g.2.1 2, 24, .inr (.inl f24))) :: (am25, .inl (g.2.1 0, 25, .inl f25)) :: pl)) := hD
          generalize ((r21, .inr (9, [.ref am21, .ref am22, .ref am23, .ref am24, .ref am25, .int (nI 168), .int (nI ps22), .int (nI 31)])) :: (am21, .inl (g.2.1 2, 25, .inr (.inl f30))) :: (am22, .inl (g.2.1 2, 25, .inr (.inl f31))) :: (am23, .inl (g.2.1 2, 5, .inr (.inl f32))) :: (am24, .inl (g.2.1 2, 24, .inr (.inl f24))) :: (am25, .inl (g.2.1 0, 25, .inl f25)) :: pl) = pl at hO hP hD
          exact ih22 (i22 + 1) pl ls H locs (by omega) (lv_sub hl [0, 1, 2, 3, 4, 5] rfl) hO hP hD hS
      exact lp22 3 0 pl ls _ _ (by omega) (lv_sub hl [0, 1, 2, 3, 4, 5] rfl) hO hP hD hS
  exact lp21 3 0 pl ls _ _ (by omega) (lv_sub hl [0, 1, 2, 3, 4] rfl) hO hP hD hS
set_option maxHeartbeats 400000 in
set_option maxRecDepth 100000 in
theorem t_ME_expand_4 (l : Launch) (g : Gd) (sz : Nat) (T : Ty) (xs : List Nat) (pl : va_W) (hO : okx g T xs pl) (hU : uni T) (hc0 : clo T xs 0) (hc9 : clo T xs 9) (h0 b n at_ : Nat) (k_h0 : T h0 = some (23, 0)) (k_b : T b = some (1, n)) (h1 : at_ + 32 ≤ n) (h2 : n < 65536)  : Met l y_ME_expand w_ME_expand ({ frames := 4, cells := 0, slots := 0, locals := 93 } : Room) (va_Pc [.ref h0, .ref b, .int (nI at_), .int (nI 4)] (pr (en g) g.1 vcl sz ([] ++ pl))) (va_Qv (fun (u : va_W) => (True) ∧ okx g T xs u) (po g.1 vcl (va_A ([] ++ pl) sz) (fun (u : va_W) => [] ++ u)) (va_A ([] ++ pl) sz)) 0 0 (va_A ([] ++ pl) sz) := by
  refine mc_entry (cc := c_ME_expand) (maxL := 6) (ret := none) (by decide) rfl (Nat.le_of_ble_eq_true rfl) ?_
  intro p e s m args below meth c ls F hr hlk hnm hsz hP hD hE hA hl
  obtain ⟨hx, hb, hml, hown, hts⟩ := id F
  have hK := hE.1
  generalize va_A ([] ++ pl) sz = A at hD hE hA ⊢
  have hS : va_S A s.heap s.heap [] := va_S.rf
  have hl : lv_has ls 6 [(0, .ref h0), (1, .ref b), (2, .int (nI at_)), (3, .int (nI 4))] := hl
  refine lv_iconst (v := nI 0) hx hb dME_expand_0 (by decide) ?_
  refine lv_istore (lv' := [(4, .int (nI 0)), (0, .ref h0), (1, .ref b), (2, .int (nI at_)), (3, .int (nI 4))]) hx hb dME_expand_1 hl (by decide) rfl (fun ls hl => ?_)
  have lp21 : ∀ (n21 : Nat) (i21 : Nat) (pl : va_W) (ls : Array Slot) (H : Heap) (locs : List Loc), n21 + i21 = 4 → lv_has ls 6 [(4, .int (nI i21)), (0, .ref h0), (1, .ref b), (2, .int (nI at_)), (3, .int (nI 4))] → okx g T xs pl → va_P g.1 vcl ([] ++ pl) H → va_D A ([] ++ pl) → va_S A s.heap H locs → W p l e ({ frames := 4, cells := 0, slots := 0, locals := 93 } : Room) s m args below meth c H locs 0 0 (MQ below (va_Qv (fun (u : va_W) => (True) ∧ okx g T xs u) (po g.1 vcl A (fun (u : va_W) => [] ++ u)) A) args s 0 0 A) (F0 m 3 ls []) := by
    intro n21
    induction n21 with
    | zero =>
      intro i21 pl ls H locs hm21  hl hO hP hD hS
      refine lv_iload hx hb dME_expand_3 (lv_at hl 0 rfl) ?_
      refine lv_iload_n hx hb dME_expand_5 rfl (lv_at hl 4 rfl) ?_
      refine mi_ge (tgt := 94) hx hb dME_expand_6 (by decide) (by omega) (by omega) (fun h21 => ?_) (fun h21 => absurd h21 (by omega))
      exact mp_vret hx hb hr hlk hP hD hS pl ⟨trivial, hO⟩ [] rfl rfl rfl (by omega) (by omega) dME_expand_94
    | succ n21 ih21 =>
      intro i21 pl ls H locs hm21  hl hO hP hD hS
      refine lv_iload hx hb dME_expand_3 (lv_at hl 0 rfl) ?_
      refine lv_iload_n hx hb dME_expand_5 rfl (lv_at hl 4 rfl) ?_
      refine mi_ge (tgt := 94) hx hb dME_expand_6 (by decide) (by omega) (by omega) (fun h22 => absurd h22 (by omega)) (fun h22 => ?_)
      refine lv_iconst (v := nI 0) hx hb dME_expand_9 (by decide) ?_
      refine lv_istore (lv' := [(5, .int (nI 0)), (4, .int (nI i21)), (0, .ref h0), (1, .ref b), (2, .int (nI at_)), (3, .int (nI 4))]) hx hb dME_expand_10 hl (by decide) rfl (fun ls hl => ?_)
      have lp22 : ∀ (n22 : Nat) (i22 : Nat) (pl : va_W) (ls : Array Slot) (H : Heap) (locs : List Loc), n22 + i22 = 4 → lv_has ls 6 [(5, .int (nI i22)), (4, .int (nI i21)), (0, .ref h0), (1, .ref b), (2, .int (nI at_)), (3, .int (nI 4))] → okx g T xs pl → va_P g.1 vcl ([] ++ pl) H → va_D A ([] ++ pl) → va_S A s.heap H locs → W p l e ({ frames := 4, cells := 0, slots := 0, locals := 93 } : Room) s m args below meth c H locs 0 0 (MQ below (va_Qv (fun (u : va_W) => (True) ∧ okx g T xs u) (po g.1 vcl A (fun (u : va_W) => [] ++ u)) A) args s 0 0 A) (F0 m 12 ls []) := by
        intro n22
        induction n22 with
        | zero =>
          intro i22 pl ls H locs hm22  hl hO hP hD hS
          refine lv_iload hx hb dME_expand_12 (lv_at hl 0 rfl) ?_
          refine lv_iload_n hx hb dME_expand_14 rfl (lv_at hl 5 rfl) ?_
          refine mi_ge (tgt := 88) hx hb dME_expand_15 (by decide) (by omega) (by omega) (fun h23 => ?_) (fun h23 => absurd h23 (by omega))
          refine mi_iinc (k := 1) (x := i21) (d := 1) (y := i21 + 1) (lv' := [(4, .int (nI (i21 + 1))), (5, .int (nI i22)), (0, .ref h0), (1, .ref b), (2, .int (nI at_)), (3, .int (nI 4))]) hx hb dME_expand_88 hl rfl (by decide) rfl (by decide) rfl (fun ls hl => ?_)
          refine lv_goto (tgt := 3) hx hb dME_expand_91 (by decide) ?_
          exact ih21 (i21 + 1) pl ls H locs (by omega) (lv_sub hl [0, 2, 3, 4, 5] rfl) hO hP hD hS
        | succ n22 ih22 =>
          intro i22 pl ls H locs hm22  hl hO hP hD hS
          refine lv_iload hx hb dME_expand_12 (lv_at hl 0 rfl) ?_
          refine lv_iload_n hx hb dME_expand_14 rfl (lv_at hl 5 rfl) ?_
          refine mi_ge (tgt := 88) hx hb dME_expand_15 (by decide) (by omega) (by omega) (fun h24 => absurd h24 (by omega)) (fun h24 => ?_)
          refine lv_aload_n hx hb dME_expand_18 rfl (lv_at hl 2 rfl) ?_
          refine ty_get (ci := 11) (C := "LatticeKeysModel$Secrets") (TT := T_ME) (N := 14) (kd := (23, 0)) hx hb hts (wg_ft i_ME) hown hK hO k_h0 (nxg hc0 k_h0 rfl) hP (fun _ h9 => h9) rfl 0 (by decide) (hts _ (wg_t kw_1379)) (fun _ h9 => h9) (cd := (3, 20, 0)) rfl dME_expand_19 (fun v21 hv21 => ?_)
          obtain ⟨r21, rfl, kr21⟩ := (show ∃ r : Nat, v21 = .ref r ∧ T r = some (20, 0) from hv21)
          refine lv_sipush (v := nI 168) hx hb dME_expand_22 (by decide) ?_
          refine lv_bipush (v := nI 31) hx hb dME_expand_25 (by decide) ?_
          obtain ⟨e21, pl, hP, hD, hk21, hO⟩ := open1 hP hD hO kr21 (nxg hc9 kr21 rfl)
          obtain ⟨am21, am22, am23, am24, am25, rt21, ps21, x21, rfl, km21, km22, km23, km24, km25, hr21, hr22, hr23⟩ := hk21
          obtain ⟨e22, pl, hP, hD, hk22, hO⟩ := open1 hP hD hO km21 (nmc (knd_ne km21 kr21 (by decide)) (nxg hc9 km21 rfl))
          obtain ⟨f21, rfl⟩ := hk22
          obtain ⟨e23, pl, hP, hD, hk23, hO⟩ := open1 hP hD hO km22 (nmc (knd_ne km22 km21 (by decide)) (nmc (knd_ne km22 kr21 (by decide)) (nxg hc9 km22 rfl)))
          obtain ⟨f22, rfl⟩ := hk23
          obtain ⟨e24, pl, hP, hD, hk24, hO⟩ := open1 hP hD hO km23 (nmc (knd_ne km23 km22 (by decide)) (nmc (knd_ne km23 km21 (by decide)) (nmc (knd_ne km23 kr21 (by decide)) (nxg hc9 km23 rfl))))
          obtain ⟨f23, rfl⟩ := hk24
          obtain ⟨e25, pl, hP, hD, hk25, hO⟩ := open1 hP hD hO km24 (nmc (knd_ne km24 km23 (by decide)) (nmc (knd_ne km24 km22 (by decide)) (nmc (knd_ne km24 km21 (by decide)) (nmc (knd_ne km24 kr21 (by decide)) (nxg hc9 km24 rfl)))))
          obtain ⟨f24, rfl⟩ := hk25
          obtain ⟨e26, pl, hP, hD, hk26, hO⟩ := open1 hP hD hO km25 (nmc (knd_ne km25 km24 (by decide)) (nmc (knd_ne km25 km23 (by decide)) (nmc (knd_ne km25 km22 (by decide)) (nmc (knd_ne km25 km21 (by decide)) (nmc (knd_ne km25 kr21 (by decide)) (nxg hc9 km25 rfl))))))
          obtain ⟨f25, rfl⟩ := hk26
          have hP : va_P g.1 vcl ([(r21, .inr (9, [.ref am21, .ref am22, .ref am23, .ref am24, .ref am25, .int (nI rt21), .int (nI ps21), .int x21])), (am21, .inl (g.2.1 2, 25, .inr (.inl f21))), (am22, .inl (g.2.1 2, 25, .inr (.inl f22))), (am23, .inl (g.2.1 2, 5, .inr (.inl f23))), (am24, .inl (g.2.1 2, 24, .inr (.inl f24))), (am25, .inl (g.2.1 0, 25, .inl f25))] ++ pl) _ := hP
          have hD : va_D _ ([(r21, .inr (9, [.ref am21, .ref am22, .ref am23, .ref am24, .ref am25, .int (nI rt21), .int (nI ps21), .int x21])), (am21, .inl (g.2.1 2, 25, .inr (.inl f21))), (am22, .inl (g.2.1 2, 25, .inr (.inl f22))), (am23, .inl (g.2.1 2, 5, .inr (.inl f23))), (am24, .inl (g.2.1 2, 24, .inr (.inl f24))), (am25, .inl (g.2.1 0, 25, .inl f25))] ++ pl) := hD
          refine mp_v (cx := [(r21, .inr (9, [.ref am21, .ref am22, .ref am23, .ref am24, .ref am25, .int (nI rt21), .int (nI ps21), .int x21])), (am21, .inl (g.2.1 2, 25, .inr (.inl f21))), (am22, .inl (g.2.1 2, 25, .inr (.inl f22))), (am23, .inl (g.2.1 2, 5, .inr (.inl f23))), (am24, .inl (g.2.1 2, 24, .inr (.inl f24))), (am25, .inl (g.2.1 0, 25, .inl f25))]) (wr := []) hP hD hS hA [0, 1, 2, 3, 4, 5] [] rfl rfl rfl (by decide) (va_runV (As := [.int (nI 168), .int (nI 31)]) (rest := []) F (x_MS_begin l g _ T (am25 :: (am24 :: (am23 :: (am22 :: (am21 :: (r21 :: xs)))))) pl hO hU  168 (nI 31) r21 am21 am22 am23 am24 am25 rt21 ps21 x21 f21 f22 f23 f24 f25 (by omega)) (cwV 2 hts (wg_app (wg_c kw_1607 (wg_c kw_1608 (wg_c kw_1609 (wg_c kw_10 wg_n)))) kw_1610) rfl rfl rfl (by decide +kernel) ⟨by decide, by decide⟩) (pp_V (en_ok g) (q0 := 0) hK hP hD hS hA hE [0, 1, 2, 3, 4, 5] rfl rfl rfl rfl) rfl rfl hl.1 rfl (lv_room (Nat.le_of_ble_eq_true rfl)) dME_expand_27 ⟨by omega, by omega⟩) (fun  u21 H locs hu21 hP hD hS => ?_)
          obtain ⟨u22, pl⟩ := u21
          obtain ⟨hq21, hO⟩ := hu21
          have hP : va_P g.1 vcl ([(r21, .inr (9, [.ref am21, .ref am22, .ref am23, .ref am24, .ref am25, .int (nI 168), .int (nI 0), .int (nI 31)])), (am21, .inl (g.2.1 2, 25, .inr (.inl u22))), (am22, .inl (g.2.1 2, 25, .inr (.inl f22))), (am23, .inl (g.2.1 2, 5, .inr (.inl f23))), (am24, .inl (g.2.1 2, 24, .inr (.inl f24))), (am25, .inl (g.2.1 0, 25, .inl f25))] ++ pl) _ := hP
          have hD : va_D _ ([(r21, .inr (9, [.ref am21, .ref am22, .ref am23, .ref am24, .ref am25, .int (nI 168), .int (nI 0), .int (nI 31)])), (am21, .inl (g.2.1 2, 25, .inr (.inl u22))), (am22, .inl (g.2.1 2, 25, .inr (.inl f22))), (am23, .inl (g.2.1 2, 5, .inr (.inl f23))), (am24, .inl (g.2.1 2, 24, .inr (.inl f24))), (am25, .inl (g.2.1 0, 25, .inl f25))] ++ pl) := hD
          have hq21 : ∀ j, j < 25 → u22 j = 0 := hq21
          refine W.widen (k := 0) (n := 0) (by omega) (by omega) ?_
          refine lv_aload_n hx hb dME_expand_30 rfl (lv_at hl 2 rfl) ?_
          refine ty_get (ci := 11) (C := "LatticeKeysModel$Secrets") (TT := T_ME) (N := 14) (kd := (23, 0)) hx hb hts (wg_ft i_ME) hown hK hO k_h0 (nxg (clo_cons (clo_cons (clo_cons (clo_cons (clo_cons (clo_cons hc0 kr21 (by decide)) km21 (by decide)) km22 (by decide)) km23 (by decide)) km24 (by decide)) km25 (by decide)) k_h0 rfl) hP (fun _ h9 => h9) rfl 0 (by decide) (hts _ (wg_t kw_1379)) (fun _ h9 => h9) (cd := (3, 20, 0)) rfl dME_expand_31 (fun v22 hv22 => ?_)
          obtain ⟨r22, rfl, kr22⟩ := (show ∃ r : Nat, v22 = .ref r ∧ T r = some (20, 0) from hv22)
          obtain rfl : r21 = r22 := hU _ _ _ (by decide) kr21 kr22
          refine lv_aload_n hx hb dME_expand_34 rfl (lv_at hl 3 rfl) ?_
          refine lv_iload_n hx hb dME_expand_35 rfl (lv_at hl 4 rfl) ?_
          refine lv_bipush (v := nI 32) hx hb dME_expand_36 (by decide) ?_
          refine mp_v (cx := [(r21, .inr (9, [.ref am21, .ref am22, .ref am23, .ref am24, .ref am25, .int (nI 168), .int (nI 0), .int (nI 31)])), (am21, .inl (g.2.1 2, 25, .inr (.inl u22))), (am22, .inl (g.2.1 2, 25, .inr (.inl f22))), (am23, .inl (g.2.1 2, 5, .inr (.inl f23))), (am24, .inl (g.2.1 2, 24, .inr (.inl f24))), (am25, .inl (g.2.1 0, 25, .inl f25))]) (wr := []) hP hD hS hA [0, 1, 2, 3, 4, 5] [] rfl rfl rfl (by decide) (va_runV (As := [.ref b, .int (nI at_), .int (nI 32)]) (rest := []) F (x_MS_puts l g _ T (am25 :: (am24 :: (am23 :: (am22 :: (am21 :: (r21 :: xs)))))) pl hO hU (clo_cons (clo_cons (clo_cons (clo_cons (clo_cons (clo_cons hc0 kr21 (by decide)) km21 (by decide)) km22 (by decide)) km23 (by decide)) km24 (by decide)) km25 (by decide)) b n at_ 32 r21 am21 am22 am23 am24 am25 168 0 (nI 31) u22 f22 f23 f24 f25 k_b (by omega) (by omega) (by omega) (by omega)) (cwV 3 hts (wg_app (wg_c kw_1611 (wg_c kw_1612 (wg_c kw_1613 (wg_c kw_10 wg_n)))) kw_1614) rfl rfl rfl (by decide +kernel) ⟨by decide, by decide⟩) (pp_V (en_ok g) (q0 := 0) hK hP hD hS hA hE [0, 1, 2, 3, 4, 5] rfl rfl rfl rfl) rfl rfl hl.1 rfl (lv_room (Nat.le_of_ble_eq_true rfl)) dME_expand_38 ⟨by omega, by omega⟩) (fun  u23 H locs hu22 hP hD hS => ?_)
          obtain ⟨u24, pl⟩ := u23
          obtain ⟨hq22, hO⟩ := hu22
          have hP : va_P g.1 vcl ([(r21, .inr (9, [.ref am21, .ref am22, .ref am23, .ref am24, .ref am25, .int (nI 168), .int (nI 32), .int (nI 31)])), (am21, .inl (g.2.1 2, 25, .inr (.inl u24))), (am22, .inl (g.2.1 2, 25, .inr (.inl f22))), (am23, .inl (g.2.1 2, 5, .inr (.inl f23))), (am24, .inl (g.2.1 2, 24, .inr (.inl f24))), (am25, .inl (g.2.1 0, 25, .inl f25))] ++ pl) _ := hP
          have hD : va_D _ ([(r21, .inr (9, [.ref am21, .ref am22, .ref am23, .ref am24, .ref am25, .int (nI 168), .int (nI 32), .int (nI 31)])), (am21, .inl (g.2.1 2, 25, .inr (.inl u24))), (am22, .inl (g.2.1 2, 25, .inr (.inl f22))), (am23, .inl (g.2.1 2, 5, .inr (.inl f23))), (am24, .inl (g.2.1 2, 24, .inr (.inl f24))), (am25, .inl (g.2.1 0, 25, .inl f25))] ++ pl) := hD
          refine W.widen (k := 0) (n := 0) (by omega) (by omega) ?_
          refine lv_aload_n hx hb dME_expand_41 rfl (lv_at hl 2 rfl) ?_
          refine ty_get (ci := 11) (C := "LatticeKeysModel$Secrets") (TT := T_ME) (N := 14) (kd := (23, 0)) hx hb hts (wg_ft i_ME) hown hK hO k_h0 (nxg (clo_cons (clo_cons (clo_cons (clo_cons (clo_cons (clo_cons hc0 kr21 (by decide)) km21 (by decide)) km22 (by decide)) km23 (by decide)) km24 (by decide)) km25 (by decide)) k_h0 rfl) hP (fun _ h9 => h9) rfl 0 (by decide) (hts _ (wg_t kw_1379)) (fun _ h9 => h9) (cd := (3, 20, 0)) rfl dME_expand_42 (fun v23 hv23 => ?_)
          obtain ⟨r23, rfl, kr23⟩ := (show ∃ r : Nat, v23 = .ref r ∧ T r = some (20, 0) from hv23)
          obtain rfl : r21 = r23 := hU _ _ _ (by decide) kr21 kr23
          refine lv_iload hx hb dME_expand_45 (lv_at hl 0 rfl) ?_
          refine mp_v (cx := [(r21, .inr (9, [.ref am21, .ref am22, .ref am23, .ref am24, .ref am25, .int (nI 168), .int (nI 32), .int (nI 31)])), (am21, .inl (g.2.1 2, 25, .inr (.inl u24))), (am22, .inl (g.2.1 2, 25, .inr (.inl f22))), (am23, .inl (g.2.1 2, 5, .inr (.inl f23))), (am24, .inl (g.2.1 2, 24, .inr (.inl f24))), (am25, .inl (g.2.1 0, 25, .inl f25))]) (wr := []) hP hD hS hA [0, 1, 2, 3, 4, 5] [] rfl rfl rfl (by decide) (va_runV (As := [.int (nI i22)]) (rest := []) F (x_MS_put l g _ T (am25 :: (am24 :: (am23 :: (am22 :: (am21 :: (r21 :: xs)))))) pl hO hU  (nI i22) r21 am21 am22 am23 am24 am25 168 32 (nI 31) u24 f22 f23 f24 f25 (by omega) (by omega)) (cwV 1 hts (wg_app (wg_c kw_1632 (wg_c kw_1616 (wg_c kw_1617 (wg_c kw_10 wg_n)))) kw_1618) rfl rfl rfl (by decide +kernel) ⟨by decide, by decide⟩) (pp_V (en_ok g) (q0 := 0) hK hP hD hS hA hE [0, 1, 2, 3, 4, 5] rfl rfl rfl rfl) rfl rfl hl.1 rfl (lv_room (Nat.le_of_ble_eq_true rfl)) dME_expand_47 ⟨by omega, by omega⟩) (fun  u25 H locs hu23 hP hD hS => ?_)
          obtain ⟨u26, pl⟩ := u25
          obtain ⟨hq23, hO⟩ := hu23
          have hP : va_P g.1 vcl ([(r21, .inr (9, [.ref am21, .ref am22, .ref am23, .ref am24, .ref am25, .int (nI 168), .int (nI 33), .int (nI 31)])), (am21, .inl (g.2.1 2, 25, .inr (.inl u26))), (am22, .inl (g.2.1 2, 25, .inr (.inl f22))), (am23, .inl (g.2.1 2, 5, .inr (.inl f23))), (am24, .inl (g.2.1 2, 24, .inr (.inl f24))), (am25, .inl (g.2.1 0, 25, .inl f25))] ++ pl) _ := hP
          have hD : va_D _ ([(r21, .inr (9, [.ref am21, .ref am22, .ref am23, .ref am24, .ref am25, .int (nI 168), .int (nI 33), .int (nI 31)])), (am21, .inl (g.2.1 2, 25, .inr (.inl u26))), (am22, .inl (g.2.1 2, 25, .inr (.inl f22))), (am23, .inl (g.2.1 2, 5, .inr (.inl f23))), (am24, .inl (g.2.1 2, 24, .inr (.inl f24))), (am25, .inl (g.2.1 0, 25, .inl f25))] ++ pl) := hD
          refine W.widen (k := 0) (n := 0) (by omega) (by omega) ?_
          refine lv_aload_n hx hb dME_expand_50 rfl (lv_at hl 2 rfl) ?_
          refine ty_get (ci := 11) (C := "LatticeKeysModel$Secrets") (TT := T_ME) (N := 14) (kd := (23, 0)) hx hb hts (wg_ft i_ME) hown hK hO k_h0 (nxg (clo_cons (clo_cons (clo_cons (clo_cons (clo_cons (clo_cons hc0 kr21 (by decide)) km21 (by decide)) km22 (by decide)) km23 (by decide)) km24 (by decide)) km25 (by decide)) k_h0 rfl) hP (fun _ h9 => h9) rfl 0 (by decide) (hts _ (wg_t kw_1379)) (fun _ h9 => h9) (cd := (3, 20, 0)) rfl dME_expand_51 (fun v24 hv24 => ?_)
          obtain ⟨r24, rfl, kr24⟩ := (show ∃ r : Nat, v24 = .ref r ∧ T r = some (20, 0) from hv24)
          obtain rfl : r21 = r24 := hU _ _ _ (by decide) kr21 kr24
          refine lv_iload hx hb dME_expand_54 (lv_at hl 1 rfl) ?_
          refine mp_v (cx := [(r21, .inr (9, [.ref am21, .ref am22, .ref am23, .ref am24, .ref am25, .int (nI 168), .int (nI 33), .int (nI 31)])), (am21, .inl (g.2.1 2, 25, .inr (.inl u26))), (am22, .inl (g.2.1 2, 25, .inr (.inl f22))), (am23, .inl (g.2.1 2, 5, .inr (.inl f23))), (am24, .inl (g.2.1 2, 24, .inr (.inl f24))), (am25, .inl (g.2.1 0, 25, .inl f25))]) (wr := []) hP hD hS hA [0, 1, 2, 3, 4, 5] [] rfl rfl rfl (by decide) (va_runV (As := [.int (nI i21)]) (rest := []) F (x_MS_put l g _ T (am25 :: (am24 :: (am23 :: (am22 :: (am21 :: (r21 :: xs)))))) pl hO hU  (nI i21) r21 am21 am22 am23 am24 am25 168 33 (nI 31) u26 f22 f23 f24 f25 (by omega) (by omega)) (cwV 1 hts (wg_app (wg_c kw_1632 (wg_c kw_1616 (wg_c kw_1617 (wg_c kw_10 wg_n)))) kw_1618) rfl rfl rfl (by decide +kernel) ⟨by decide, by decide⟩) (pp_V (en_ok g) (q0 := 0) hK hP hD hS hA hE [0, 1, 2, 3, 4, 5] rfl rfl rfl rfl) rfl rfl hl.1 rfl (lv_room (Nat.le_of_ble_eq_true rfl)) dME_expand_56 ⟨by omega, by omega⟩) (fun  u27 H locs hu24 hP hD hS => ?_)
          obtain ⟨u28, pl⟩ := u27
          obtain ⟨hq24, hO⟩ := hu24
          have hP : va_P g.1 vcl ([(r21, .inr (9, [.ref am21, .ref am22, .ref am23, .ref am24, .ref am25, .int (nI 168), .int (nI 34), .int (nI 31)])), (am21, .inl (g.2.1 2, 25, .inr (.inl u28))), (am22, .inl (g.2.1 2, 25, .inr (.inl f22))), (am23, .inl (g.2.1 2, 5, .inr (.inl f23))), (am24, .inl (g.2.1 2, 24, .inr (.inl f24))), (am25, .inl (g.2.1 0, 25, .inl f25))] ++ pl) _ := hP
          have hD : va_D _ ([(r21, .inr (9, [.ref am21, .ref am22, .ref am23, .ref am24, .ref am25, .int (nI 168), .int (nI 34), .int (nI 31)])), (am21, .inl (g.2.1 2, 25, .inr (.inl u28))), (am22, .inl (g.2.1 2, 25, .inr (.inl f22))), (am23, .inl (g.2.1 2, 5, .inr (.inl f23))), (am24, .inl (g.2.1 2, 24, .inr (.inl f24))), (am25, .inl (g.2.1 0, 25, .inl f25))] ++ pl) := hD
          refine W.widen (k := 0) (n := 0) (by omega) (by omega) ?_
          refine lv_aload_n hx hb dME_expand_59 rfl (lv_at hl 2 rfl) ?_
          refine ty_get (ci := 11) (C := "LatticeKeysModel$Secrets") (TT := T_ME) (N := 14) (kd := (23, 0)) hx hb hts (wg_ft i_ME) hown hK hO k_h0 (nxg (clo_cons (clo_cons (clo_cons (clo_cons (clo_cons (clo_cons hc0 kr21 (by decide)) km21 (by decide)) km22 (by decide)) km23 (by decide)) km24 (by decide)) km25 (by decide)) k_h0 rfl) hP (fun _ h9 => h9) rfl 0 (by decide) (hts _ (wg_t kw_1379)) (fun _ h9 => h9) (cd := (3, 20, 0)) rfl dME_expand_60 (fun v25 hv25 => ?_)
          obtain ⟨r25, rfl, kr25⟩ := (show ∃ r : Nat, v25 = .ref r ∧ T r = some (20, 0) from hv25)
          obtain rfl : r21 = r25 := hU _ _ _ (by decide) kr21 kr25
          refine mp_v (cx := [(r21, .inr (9, [.ref am21, .ref am22, .ref am23, .ref am24, .ref am25, .int (nI 168), .int (nI 34), .int (nI 31)])), (am21, .inl (g.2.1 2, 25, .inr (.inl u28))), (am22, .inl (g.2.1 2, 25, .inr (.inl f22))), (am23, .inl (g.2.1 2, 5, .inr (.inl f23))), (am24, .inl (g.2.1 2, 24, .inr (.inl f24))), (am25, .inl (g.2.1 0, 25, .inl f25))]) (wr := []) hP hD hS hA [0, 1, 2, 3, 4, 5] [] rfl rfl rfl (by decide) (va_runV (As := []) (rest := []) F (x_MS_end l g _ T (am25 :: (am24 :: (am23 :: (am22 :: (am21 :: (r21 :: xs)))))) pl hO hU  r21 am21 am22 am23 am24 am25 168 34 (nI 31) u28 f22 f23 f24 f25 (by omega) (by omega)) (cwV 0 hts (wg_app (wg_c kw_1633 (wg_c kw_1634 (wg_c kw_1635 (wg_c kw_10 wg_n)))) kw_1636) rfl rfl rfl (by decide +kernel) ⟨by decide, by decide⟩) (pp_V (en_ok g) (q0 := 0) hK hP hD hS hA hE [0, 1, 2, 3, 4, 5] rfl rfl rfl rfl) rfl rfl hl.1 rfl (lv_room (Nat.le_of_ble_eq_true rfl)) dME_expand_63 ⟨by omega, by omega⟩) (fun  u29 H locs hu25 hP hD hS => ?_)
          obtain ⟨u30, pl⟩ := u29
          obtain ⟨hq25, hO⟩ := hu25
          obtain ⟨f26, f27, f28, f29⟩ := u30
          have hP : va_P g.1 vcl ([(r21, .inr (9, [.ref am21, .ref am22, .ref am23, .ref am24, .ref am25, .int (nI 168), .int (nI 0), .int (nI 31)])), (am21, .inl (g.2.1 2, 25, .inr (.inl f26))), (am22, .inl (g.2.1 2, 25, .inr (.inl f27))), (am23, .inl (g.2.1 2, 5, .inr (.inl f28))), (am24, .inl (g.2.1 2, 24, .inr (.inl f24))), (am25, .inl (g.2.1 0, 25, .inl f25))] ++ pl) _ := hP
          have hD : va_D _ ([(r21, .inr (9, [.ref am21, .ref am22, .ref am23, .ref am24, .ref am25, .int (nI 168), .int (nI 0), .int (nI 31)])), (am21, .inl (g.2.1 2, 25, .inr (.inl f26))), (am22, .inl (g.2.1 2, 25, .inr (.inl f27))), (am23, .inl (g.2.1 2, 5, .inr (.inl f28))), (am24, .inl (g.2.1 2, 24, .inr (.inl f24))), (am25, .inl (g.2.1 0, 25, .inl f25))] ++ pl) := hD
          refine W.widen (k := 0) (n := 0) (by omega) (by omega) ?_
          have hz : ∀ j, 5 ≤ j → j < 20 → f29 j = 0 := fun j h8 h9 => ((((hq25.2 j (by omega) (by omega)).trans (hq24 j (by omega))).trans (hq23 j (by omega))).trans (hq22 j (by omega))).trans (hq21 j (by omega))
          have hs : str f25 f24 f29 168 168 0 f26 := ⟨1, by omega, by omega, hq25.1⟩
          obtain ⟨mB, hm0, hmP⟩ := blk_back f25 f24 f29
          refine lv_aload_n hx hb dME_expand_66 rfl (lv_at hl 2 rfl) ?_
          refine lv_aload_n hx hb dME_expand_67 rfl (lv_at hl 2 rfl) ?_
          refine ty_get (ci := 11) (C := "LatticeKeysModel$Secrets") (TT := T_ME) (N := 14) (kd := (23, 0)) hx hb hts (wg_ft i_ME) hown hK hO k_h0 (nxg (clo_cons (clo_cons (clo_cons (clo_cons (clo_cons (clo_cons hc0 kr21 (by decide)) km21 (by decide)) km22 (by decide)) km23 (by decide)) km24 (by decide)) km25 (by decide)) k_h0 rfl) hP (fun _ h9 => h9) rfl 2 (by decide) (hts _ (wg_t kw_1381)) (fun _ h9 => h9) (cd := (3, 3, 16)) rfl dME_expand_68 (fun v26 hv26 => ?_)
          obtain ⟨r26, rfl, kr26⟩ := (show ∃ r : Nat, v26 = .ref r ∧ T r = some (3, 16) from hv26)
          refine lv_iconst (v := nI 4) hx hb dME_expand_71 (by decide) ?_
          refine lv_iload hx hb dME_expand_72 (lv_at hl 1 rfl) ?_
          refine mi_imul hx hb dME_expand_74 ?_
          refine lv_iload hx hb dME_expand_75 (lv_at hl 0 rfl) ?_
          refine mi_iadd hx hb dME_expand_77 ?_
          refine ty_aald3 hx hb hK hO kr26 (nxg (clo_cons (clo_cons (clo_cons (clo_cons (clo_cons (clo_cons hc0 kr21 (by decide)) km21 (by decide)) km22 (by decide)) km23 (by decide)) km24 (by decide)) km25 (by decide)) kr26 rfl) hP (by omega) (by decide) dME_expand_78 (fun r27 kr27 => ?_)
          refine mp_v (cx := [(r21, .inr (9, [.ref am21, .ref am22, .ref am23, .ref am24, .ref am25, .int (nI 168), .int (nI 0), .int (nI 31)])), (am21, .inl (g.2.1 2, 25, .inr (.inl f26))), (am22, .inl (g.2.1 2, 25, .inr (.inl f27))), (am23, .inl (g.2.1 2, 5, .inr (.inl f28))), (am24, .inl (g.2.1 2, 24, .inr (.inl f24))), (am25, .inl (g.2.1 0, 25, .inl f25))]) (wr := []) hP hD hS hA [0, 1, 2, 3, 4, 5] [] rfl rfl rfl (by decide) (va_runV (As := [.ref r27]) (rest := []) F (t_ME_draw l g _ T (am25 :: (am24 :: (am23 :: (am22 :: (am21 :: (r21 :: xs)))))) pl hO hU (clo_cons (clo_cons (clo_cons (clo_cons (clo_cons (clo_cons hc0 kr21 (by decide)) km21 (by decide)) km22 (by decide)) km23 (by decide)) km24 (by decide)) km25 (by decide)) r21 h0 r27 am21 am22 am23 am24 am25 0 (nI 31) f26 f27 f28 f24 f25 f29 (168) kr21 k_h0 kr27 (by omega) hs (by omega) hz) (cwV 1 hts (wg_app (wg_c kw_1649 (wg_c kw_1651 (wg_c ks_55 (wg_c kw_11 wg_n)))) kw_1652) rfl rfl rfl (by decide +kernel) ⟨by decide, by decide⟩) (pp_VT (en_ok g) (ci := 11) (kd := (23, 0)) hK hO k_h0 (nxg (clo_cons (clo_cons (clo_cons (clo_cons (clo_cons (clo_cons hc0 kr21 (by decide)) km21 (by decide)) km22 (by decide)) km23 (by decide)) km24 (by decide)) km25 (by decide)) k_h0 rfl) (fun _ h9 => ko1 h9) hP hD hS hA hE [0, 1, 2, 3, 4, 5] rfl rfl rfl) rfl rfl hl.1 rfl (lv_room (Nat.le_of_ble_eq_true rfl)) dME_expand_79 ⟨by omega, by omega⟩) (fun  u31 H locs hu26 hP hD hS => ?_)
          obtain ⟨u32, pl⟩ := u31
          obtain ⟨hq26, hO⟩ := hu26
          obtain ⟨ps22, f30, f31, f32⟩ := u32
          have hP : va_P g.1 vcl ([(r21, .inr (9, [.ref am21, .ref am22, .ref am23, .ref am24, .ref am25, .int (nI 168), .int (nI ps22), .int (nI 31)])), (am21, .inl (g.2.1 2, 25, .inr (.inl f30))), (am22, .inl (g.2.1 2, 25, .inr (.inl f31))), (am23, .inl (g.2.1 2, 5, .inr (.inl f32))), (am24, .inl (g.2.1 2, 24, .inr (.inl f24))), (am25, .inl (g.2.1 0, 25, .inl f25))] ++ pl) _ := hP
          have hD : va_D _ ([(r21, .inr (9, [.ref am21, .ref am22, .ref am23, .ref am24, .ref am25, .int (nI 168), .int (nI ps22), .int (nI 31)])), (am21, .inl (g.2.1 2, 25, .inr (.inl f30))), (am22, .inl (g.2.1 2, 25, .inr (.inl f31))), (am23, .inl (g.2.1 2, 5, .inr (.inl f32))), (am24, .inl (g.2.1 2, 24, .inr (.inl f24))), (am25, .inl (g.2.1 0, 25, .inl f25))] ++ pl) := hD
          have hq26 : ps22 ≤ 168 := hq26
          refine W.widen (k := 0) (n := 0) (by omega) (by omega) ?_
          refine mi_iinc (k := 0) (x := i22) (d := 1) (y := i22 + 1) (lv' := [(5, .int (nI (i22 + 1))), (4, .int (nI i21)), (0, .ref h0), (1, .ref b), (2, .int (nI at_)), (3, .int (nI 4))]) hx hb dME_expand_82 hl rfl (by decide) rfl (by decide) rfl (fun ls hl => ?_)
          refine lv_goto (tgt := 12) hx hb dME_expand_85 (by decide) ?_
          have hO := close1 (e := .inl (g.2.1 0, 25, .inl f25)) hO km25 ⟨_, rfl⟩
          have hO := close1 (e := .inl (g.2.1 2, 24, .inr (.inl f24))) hO km24 ⟨_, rfl⟩
          have hO := close1 (e := .inl (g.2.1 2, 5, .inr (.inl f32))) hO km23 ⟨_, rfl⟩
          have hO := close1 (e := .inl (g.2.1 2, 25, .inr (.inl f31))) hO km22 ⟨_, rfl⟩
          have hO := close1 (e := .inl (g.2.1 2, 25, .inr (.inl f30))) hO km21 ⟨_, rfl⟩
          have hO := close1 (e := .inr (9, [.ref am21, .ref am22, .ref am23, .ref am24, .ref am25, .int (nI 168), .int (nI ps22), .int (nI 31)])) hO kr21 ⟨_, _, _, _, _, _, _, _, rfl, km21, km22, km23, km24, km25, by omega, by omega, by omega⟩
          have hO : okx g T xs ((r21, .inr (9, [.ref am21, .ref am22, .ref am23, .ref am24, .ref am25, .int (nI 168), .int (nI ps22), .int (nI 31)])) :: (am21, .inl (g.2.1 2, 25, .inr (.inl f30))) :: (am22, .inl (g.2.1 2, 25, .inr (.inl f31))) :: (am23, .inl (g.2.1 2, 5, .inr (.inl f32))) :: (am24, .inl (g.2.1 2, 24, .inr (.inl f24))) :: (am25, .inl (g.2.1 0, 25, .inl f25)) :: pl) := hO
          have hP : va_P g.1 vcl ([] ++ ((r21, .inr (9, [.ref am21, .ref am22, .ref am23, .ref am24, .ref am25, .int (nI 168), .int (nI ps22), .int (nI 31)])) :: (am21, .inl (g.2.1 2, 25, .inr (.inl f30))) :: (am22, .inl (g.2.1 2, 25, .inr (.inl f31))) :: (am23, .inl (g.2.1 2, 5, .inr (.inl f32))) :: (am24, .inl (g.2.1 2, 24, .inr (.inl f24))) :: (am25, .inl (g.2.1 0, 25, .inl f25)) :: pl)) _ := hP
          have hD : va_D _ ([] ++ ((r21, .inr (9, [.ref am21, .ref am22, .ref am23, .ref am24, .ref am25, .int (nI 168), .int (nI ps22), .int (nI 31)])) :: (am21, .inl (g.2.1 2, 25, .inr (.inl f30))) :: (am22, .inl (g.2.1 2, 25, .inr (.inl f31))) :: (am23, .inl (g.2.1 2, 5, .inr (.inl f32))) :: (am24, .inl (g.2.1 2, 24, .inr (.inl f24))) :: (am25, .inl (g.2.1 0, 25, .inl f25)) :: pl)) := hD
          generalize ((r21, .inr (9, [.ref am21, .ref am22, .ref am23, .ref am24, .ref am25, .int (nI 168), .int (nI ps22), .int (nI 31)])) :: (am21, .inl (g.2.1 2, 25, .inr (.inl f30))) :: (am22, .inl (g.2.1 2, 25, .inr (.inl f31))) :: (am23, .inl (g.2.1 2, 5, .inr (.inl f32))) :: (am24, .inl (g.2.1 2, 24, .inr (.inl f24))) :: (am25, .inl (g.2.1 0, 25, .inl f25)) :: pl) = pl at hO hP hD
          exact ih22 (i22 + 1) pl ls H locs (by omega) (lv_sub hl [0, 1, 2, 3, 4, 5] rfl) hO hP hD hS
      exact lp22 4 0 pl ls _ _ (by omega) (lv_sub hl [0, 1, 2, 3, 4, 5] rfl) hO hP hD hS
  exact lp21 4 0 pl ls _ _ (by omega) (lv_sub hl [0, 1, 2, 3, 4] rfl) hO hP hD hS
