set_option linter.all false
abbrev c_RG_init : ByteArray := prog_9_method_1_code
abbrev y_RG_init : MethodName := ⟨"LatticeKeys$Ring", "<init>", "(III)V"⟩
abbrev w_RG_init : List Cond := Cond.code y_RG_init c_RG_init 8 none :: WG
theorem dRG_init_0 : decode c_RG_init 0 = .ok (.aload_n 0, 1) := by decide +kernel
theorem dRG_init_1 : decode c_RG_init 1 = .ok (.invokespecial 1, 3) := by decide +kernel
theorem dRG_init_4 : decode c_RG_init 4 = .ok (.aload_n 0, 1) := by decide +kernel
theorem dRG_init_5 : decode c_RG_init 5 = .ok (.iload_n 1, 1) := by decide +kernel
theorem dRG_init_6 : decode c_RG_init 6 = .ok (.putfield 7, 3) := by decide +kernel
theorem dRG_init_9 : decode c_RG_init 9 = .ok (.aload_n 0, 1) := by decide +kernel
theorem dRG_init_10 : decode c_RG_init 10 = .ok (.iload_n 3, 1) := by decide +kernel
theorem dRG_init_11 : decode c_RG_init 11 = .ok (.putfield 13, 3) := by decide +kernel
theorem dRG_init_14 : decode c_RG_init 14 = .ok (.iconst 1, 1) := by decide +kernel
theorem dRG_init_15 : decode c_RG_init 15 = .ok (.iload_n 3, 1) := by decide +kernel
theorem dRG_init_16 : decode c_RG_init 16 = .ok (.ishl, 1) := by decide +kernel
theorem dRG_init_17 : decode c_RG_init 17 = .ok (.istore 4, 2) := by decide +kernel
theorem dRG_init_19 : decode c_RG_init 19 = .ok (.aload_n 0, 1) := by decide +kernel
theorem dRG_init_20 : decode c_RG_init 20 = .ok (.iload_n 1, 1) := by decide +kernel
theorem dRG_init_21 : decode c_RG_init 21 = .ok (.iload_n 1, 1) := by decide +kernel
theorem dRG_init_22 : decode c_RG_init 22 = .ok (.iconst 1, 1) := by decide +kernel
theorem dRG_init_23 : decode c_RG_init 23 = .ok (.isub, 1) := by decide +kernel
theorem dRG_init_24 : decode c_RG_init 24 = .ok (.iload 4, 2) := by decide +kernel
theorem dRG_init_26 : decode c_RG_init 26 = .ok (.idiv, 1) := by decide +kernel
theorem dRG_init_27 : decode c_RG_init 27 = .ok (.isub, 1) := by decide +kernel
theorem dRG_init_28 : decode c_RG_init 28 = .ok (.putfield 16, 3) := by decide +kernel
theorem dRG_init_31 : decode c_RG_init 31 = .ok (.aload_n 0, 1) := by decide +kernel
theorem dRG_init_32 : decode c_RG_init 32 = .ok (.iload 4, 2) := by decide +kernel
theorem dRG_init_34 : decode c_RG_init 34 = .ok (.newarray .int, 2) := by decide +kernel
theorem dRG_init_36 : decode c_RG_init 36 = .ok (.putfield 19, 3) := by decide +kernel
theorem dRG_init_39 : decode c_RG_init 39 = .ok (.lconst 1, 1) := by decide +kernel
theorem dRG_init_40 : decode c_RG_init 40 = .ok (.lstore 5, 2) := by decide +kernel
theorem dRG_init_42 : decode c_RG_init 42 = .ok (.iconst 0, 1) := by decide +kernel
theorem dRG_init_43 : decode c_RG_init 43 = .ok (.istore 7, 2) := by decide +kernel
theorem dRG_init_45 : decode c_RG_init 45 = .ok (.iload 7, 2) := by decide +kernel
theorem dRG_init_47 : decode c_RG_init 47 = .ok (.iload 4, 2) := by decide +kernel
theorem dRG_init_49 : decode c_RG_init 49 = .ok (.if_icmp .ge 33, 3) := by decide +kernel
theorem dRG_init_52 : decode c_RG_init 52 = .ok (.aload_n 0, 1) := by decide +kernel
theorem dRG_init_53 : decode c_RG_init 53 = .ok (.getfield 19, 3) := by decide +kernel
theorem dRG_init_56 : decode c_RG_init 56 = .ok (.iload 7, 2) := by decide +kernel
theorem dRG_init_58 : decode c_RG_init 58 = .ok (.iload_n 3, 1) := by decide +kernel
theorem dRG_init_59 : decode c_RG_init 59 = .ok (.invokestatic 23, 3) := by decide +kernel
theorem dRG_init_62 : decode c_RG_init 62 = .ok (.lload 5, 2) := by decide +kernel
theorem dRG_init_64 : decode c_RG_init 64 = .ok (.l2i, 1) := by decide +kernel
theorem dRG_init_65 : decode c_RG_init 65 = .ok (.iastore, 1) := by decide +kernel
theorem dRG_init_66 : decode c_RG_init 66 = .ok (.lload 5, 2) := by decide +kernel
theorem dRG_init_68 : decode c_RG_init 68 = .ok (.iload_n 2, 1) := by decide +kernel
theorem dRG_init_69 : decode c_RG_init 69 = .ok (.i2l, 1) := by decide +kernel
theorem dRG_init_70 : decode c_RG_init 70 = .ok (.lmul, 1) := by decide +kernel
theorem dRG_init_71 : decode c_RG_init 71 = .ok (.iload_n 1, 1) := by decide +kernel
theorem dRG_init_72 : decode c_RG_init 72 = .ok (.i2l, 1) := by decide +kernel
theorem dRG_init_73 : decode c_RG_init 73 = .ok (.lrem, 1) := by decide +kernel
theorem dRG_init_74 : decode c_RG_init 74 = .ok (.lstore 5, 2) := by decide +kernel
theorem dRG_init_76 : decode c_RG_init 76 = .ok (.iinc 7 1, 3) := by decide +kernel
theorem dRG_init_79 : decode c_RG_init 79 = .ok (.goto (-34), 3) := by decide +kernel
theorem dRG_init_82 : decode c_RG_init 82 = .ok (.return_, 1) := by decide +kernel
set_option maxHeartbeats 400000 in
set_option maxRecDepth 100000 in
theorem m_RG_initX_7 (l : Launch) (g : Gd) (sz : Nat) (h0 : Nat)  : Met l y_RG_init w_RG_init ({ frames := 1, cells := 1, slots := 128, locals := 23 } : Room) (va_Pc [.ref h0, .int (nI 3329), .int (nI 17), .int (nI 7)] (pr (en g) g.1 vcl sz [(h0, .inr (4, [.int 0, .int 0, .int 0, .null]))])) (va_Qv (fun (u : Nat) => True) (po g.1 vcl (va_A [(h0, .inr (4, [.int 0, .int 0, .int 0, .null]))] sz) (fun (u : Nat) => [(h0, .inr (4, [.int (nI 3329), .int (nI 7), .int (nI 3303), .ref u])), (u, .inl (g.2.1 0, 128, .inl ((rgF 17 3329 7 128))))])) (va_A [(h0, .inr (4, [.int 0, .int 0, .int 0, .null]))] sz)) 1 128 (va_A [(h0, .inr (4, [.int 0, .int 0, .int 0, .null]))] sz) := by
  refine mc_entry (cc := c_RG_init) (maxL := 8) (ret := none) (by decide) rfl (Nat.le_of_ble_eq_true rfl) ?_
  intro p e s m args below meth c ls F hr hlk hnm hsz hP hD hE hA hl
  obtain ⟨hx, hb, hml, hown, hts⟩ := id F
  have hK := hE.1
  generalize va_A [(h0, .inr (4, [.int 0, .int 0, .int 0, .null]))] sz = A at hD hE hA ⊢
  have hS : va_S A s.heap s.heap [] := va_S.rf
  have hl : lv_has ls 8 [(0, .ref h0), (1, .int (nI 3329)), (2, .int (nI 17)), (3, .int (nI 7))] := hl
  refine lv_aload_n hx hb dRG_init_0 rfl (lv_at hl 0 rfl) ?_
  refine W.objInit hx hb hown (hts _ (wg_t kw_87)) (hts _ (wg_t kw_41)) (hts _ (wg_t kobj)) rfl (by rw [hml]; exact hl.1) rfl dRG_init_1 (Nat.le_of_ble_eq_true rfl) (Nat.le_of_ble_eq_true rfl) ?_
  refine W.eq (g2 := F0 m 4 ls []) rfl ?_
  refine lv_aload_n hx hb dRG_init_4 rfl (lv_at hl 0 rfl) ?_
  refine lv_iload_n hx hb dRG_init_5 rfl (lv_at hl 1 rfl) ?_
  refine va_putF (D := g.1) (ci := 4) (v := .int (nI 3329)) (ty := .int) (C := "LatticeKeys$Ring") (T := T_RG) (N := 4) hx hb hts (wg_ft i_RG) ty_RG k_RG n_RG hown hK hP hD hS 0 rfl rfl 0 (by decide) (hts _ (wg_t kw_91)) (fun _ h9 => h9) rfl hnm rfl (by decide +kernel) rfl rfl (Nat.le_of_ble_eq_true rfl) dRG_init_6 (fun H locs hP hD hS => ?_)
  have hP : va_P g.1 vcl [(h0, .inr (4, [.int (nI 3329), .int 0, .int 0, .null]))] _ := hP
  have hD : va_D _ [(h0, .inr (4, [.int (nI 3329), .int 0, .int 0, .null]))] := hD
  refine lv_aload_n hx hb dRG_init_9 rfl (lv_at hl 0 rfl) ?_
  refine lv_iload_n hx hb dRG_init_10 rfl (lv_at hl 3 rfl) ?_
  refine va_putF (D := g.1) (ci := 4) (v := .int (nI 7)) (ty := .int) (C := "LatticeKeys$Ring") (T := T_RG) (N := 4) hx hb hts (wg_ft i_RG) ty_RG k_RG n_RG hown hK hP hD hS 0 rfl rfl 1 (by decide) (hts _ (wg_t kw_92)) (fun _ h9 => h9) rfl hnm rfl (by decide +kernel) rfl rfl (Nat.le_of_ble_eq_true rfl) dRG_init_11 (fun H locs hP hD hS => ?_)
  have hP : va_P g.1 vcl [(h0, .inr (4, [.int (nI 3329), .int (nI 7), .int 0, .null]))] _ := hP
  have hD : va_D _ [(h0, .inr (4, [.int (nI 3329), .int (nI 7), .int 0, .null]))] := hD
  refine lv_iconst (v := nI 1) hx hb dRG_init_14 (by decide) ?_
  refine lv_iload_n hx hb dRG_init_15 rfl (lv_at hl 3 rfl) ?_
  refine mi_ishl hx hb dRG_init_16 (by decide) (by decide) ?_
  refine mi_as (show nI (1 * 2 ^ 7) = nI 128 from rfl) ?_
  refine lv_istore (lv' := [(4, .int (nI 128)), (0, .ref h0), (1, .int (nI 3329)), (2, .int (nI 17)), (3, .int (nI 7))]) hx hb dRG_init_17 hl (by decide) rfl (fun ls hl => ?_)
  refine lv_aload_n hx hb dRG_init_19 rfl (lv_at hl 1 rfl) ?_
  refine lv_iload_n hx hb dRG_init_20 rfl (lv_at hl 2 rfl) ?_
  refine lv_iload_n hx hb dRG_init_21 rfl (lv_at hl 2 rfl) ?_
  refine lv_iconst (v := nI 1) hx hb dRG_init_22 (by decide) ?_
  refine mi_isub hx hb dRG_init_23 (by omega) ?_
  refine mi_as (show nI (3329 - 1) = nI 3328 from rfl) ?_
  refine lv_iload hx hb dRG_init_24 (lv_at hl 0 rfl) ?_
  refine mi_idiv hx hb dRG_init_26 (by omega) (by omega) (by omega) ?_
  refine mi_as (show nI (3328 / 128) = nI 26 from rfl) ?_
  refine mi_isub hx hb dRG_init_27 (by omega) ?_
  refine mi_as (show nI (3329 - 26) = nI 3303 from rfl) ?_
  refine va_putF (D := g.1) (ci := 4) (v := .int (nI 3303)) (ty := .int) (C := "LatticeKeys$Ring") (T := T_RG) (N := 4) hx hb hts (wg_ft i_RG) ty_RG k_RG n_RG hown hK hP hD hS 0 rfl rfl 2 (by decide) (hts _ (wg_t kw_93)) (fun _ h9 => h9) rfl hnm rfl (by decide +kernel) rfl rfl (Nat.le_of_ble_eq_true rfl) dRG_init_28 (fun H locs hP hD hS => ?_)
  have hP : va_P g.1 vcl [(h0, .inr (4, [.int (nI 3329), .int (nI 7), .int (nI 3303), .null]))] _ := hP
  have hD : va_D _ [(h0, .inr (4, [.int (nI 3329), .int (nI 7), .int (nI 3303), .null]))] := hD
  refine lv_aload_n hx hb dRG_init_31 rfl (lv_at hl 1 rfl) ?_
  refine lv_iload hx hb dRG_init_32 (lv_at hl 0 rfl) ?_
  refine ma_newa (atype := .int) hx hb (hts _ (wg_t kw_104)) rfl hK hP hD hS hA 0 rfl (N' := 128) (a0 := (128, .inl (fun _ => 0))) (fun _ => rfl) (by decide) (by decide) (by decide) (by decide) (by decide) dRG_init_34 (fun q1 H hP hD hS => ?_)
  have hP : va_P g.1 vcl [(h0, .inr (4, [.int (nI 3329), .int (nI 7), .int (nI 3303), .null])), (q1, .inl (g.2.1 0, 128, .inl ((fun _ => 0))))] _ := hP
  have hD : va_D _ [(h0, .inr (4, [.int (nI 3329), .int (nI 7), .int (nI 3303), .null])), (q1, .inl (g.2.1 0, 128, .inl ((fun _ => 0))))] := hD
  refine W.widen (k := 1) (n := 128) (by decide) (by decide) ?_
  refine va_putF (D := g.1) (ci := 4) (v := .ref q1) (ty := .array .int) (C := "LatticeKeys$Ring") (T := T_RG) (N := 4) hx hb hts (wg_ft i_RG) ty_RG k_RG n_RG hown hK hP hD hS 0 rfl rfl 3 (by decide) (hts _ (wg_t kw_94)) (fun _ h9 => h9) rfl hnm rfl (by decide +kernel) rfl rfl (Nat.le_of_ble_eq_true rfl) dRG_init_36 (fun H locs hP hD hS => ?_)
  have hP : va_P g.1 vcl [(h0, .inr (4, [.int (nI 3329), .int (nI 7), .int (nI 3303), .ref q1])), (q1, .inl (g.2.1 0, 128, .inl ((fun _ => 0))))] _ := hP
  have hD : va_D _ [(h0, .inr (4, [.int (nI 3329), .int (nI 7), .int (nI 3303), .ref q1])), (q1, .inl (g.2.1 0, 128, .inl ((fun _ => 0))))] := hD
  refine lv_lconst (v := 1) hx hb dRG_init_39 (by decide) ?_
  refine lv_lstore (lv' := [(5, .long 1), (4, .int (nI 128)), (0, .ref h0), (1, .int (nI 3329)), (2, .int (nI 17)), (3, .int (nI 7))]) hx hb dRG_init_40 hl (by decide) rfl (fun ls hl => ?_)
  refine lv_iconst (v := nI 0) hx hb dRG_init_42 (by decide) ?_
  refine lv_istore (lv' := [(7, .int (nI 0)), (5, .long 1), (4, .int (nI 128)), (0, .ref h0), (1, .int (nI 3329)), (2, .int (nI 17)), (3, .int (nI 7))]) hx hb dRG_init_43 hl (by decide) rfl (fun ls hl => ?_)
  have loop : ∀ (n i : Nat) (ls : Array Slot) (H : Heap) (locs : List Loc), n + i = 128 → lv_has ls 8 [(7, .int (nI i)), (5, .long ((rgP 17 3329 i))), (4, .int (nI 128)), (0, .ref h0), (1, .int (nI 3329)), (2, .int (nI 17)), (3, .int (nI 7))] → va_P g.1 vcl [(h0, .inr (4, [.int (nI 3329), .int (nI 7), .int (nI 3303), .ref q1])), (q1, .inl (g.2.1 0, 128, .inl ((rgF 17 3329 7 i))))] H → va_D A [(h0, .inr (4, [.int (nI 3329), .int (nI 7), .int (nI 3303), .ref q1])), (q1, .inl (g.2.1 0, 128, .inl ((rgF 17 3329 7 i))))] → va_S A s.heap H locs → W p l e ({ frames := 1, cells := 1, slots := 128, locals := 23 } : Room) s m args below meth c H locs 1 128 (MQ below (va_Qv (fun (u : Nat) => True) (po g.1 vcl A (fun (u : Nat) => [(h0, .inr (4, [.int (nI 3329), .int (nI 7), .int (nI 3303), .ref u])), (u, .inl (g.2.1 0, 128, .inl ((rgF 17 3329 7 128))))])) A) args s 1 128 A) (F0 m 45 ls []) := by
    intro n
    induction n with
    | zero =>
      intro i ls H locs hi hl hP hD hS
      obtain rfl : i = 128 := by omega
      refine lv_iload hx hb dRG_init_45 (lv_at hl 0 rfl) ?_
      refine lv_iload hx hb dRG_init_47 (lv_at hl 2 rfl) ?_
      refine mi_ge (tgt := 82) hx hb dRG_init_49 (by decide) (by omega) (by omega) (fun h1 => ?_) (fun h1 => absurd h1 (by omega))
      exact mc_vret hx hb hr hlk hP hD hS q1 trivial [0, 1] rfl rfl (by omega) (by omega) dRG_init_82
    | succ n ih =>
      intro i ls H locs hi hl hP hD hS
      have hm8 : mirL 7 i < 128 := mirL_lt 7 i
      refine lv_iload hx hb dRG_init_45 (lv_at hl 0 rfl) ?_
      refine lv_iload hx hb dRG_init_47 (lv_at hl 2 rfl) ?_
      refine mi_ge (tgt := 82) hx hb dRG_init_49 (by decide) (by omega) (by omega) (fun h1 => absurd h1 (by omega)) (fun h1 => ?_)
      refine lv_aload_n hx hb dRG_init_52 rfl (lv_at hl 3 rfl) ?_
      refine va_get (D := g.1) (ci := 4) (C := "LatticeKeys$Ring") (T := T_RG) (N := 4) hx hb hts (wg_ft i_RG) hown hK hP 0 rfl rfl 3 (by decide) (hts _ (wg_t kw_94)) (fun _ h9 => h9) rfl dRG_init_53 ?_
      refine lv_iload hx hb dRG_init_56 (lv_at hl 0 rfl) ?_
      refine lv_iload_n hx hb dRG_init_58 rfl (lv_at hl 6 rfl) ?_
      refine mc_i (wc := []) (wr := [(h0, .inr (4, [.int (nI 3329), .int (nI 7), .int (nI 3303), .ref q1])), (q1, .inl (g.2.1 0, 128, .inl ((rgF 17 3329 7 i))))]) hP hD hS hA [] [0, 1] rfl rfl rfl (by decide) (va_runS (As := [.int (nI i), .int (nI 7)]) (rest := [.ref q1]) F (m_RG_mirX l g _ i 7 (by omega) (by omega)) (va_cwS 2 hts (wg_app (wg_c kw_88 (wg_c kw_89 (wg_c kw_4 wg_n))) kw_90) rfl rfl rfl (by decide +kernel) ⟨by decide, by decide⟩) (pr_S (en_ok g) hP hD hS hA hE [] rfl rfl) rfl rfl hl.1 rfl (lv_room (Nat.le_of_ble_eq_true rfl)) dRG_init_59 ⟨(by decide), (by decide)⟩) (fun r1 u1 H locs hu1 hP hD hS => ?_)
      have hP : va_P g.1 vcl [(h0, .inr (4, [.int (nI 3329), .int (nI 7), .int (nI 3303), .ref q1])), (q1, .inl (g.2.1 0, 128, .inl ((rgF 17 3329 7 i))))] _ := hP
      have hD : va_D _ [(h0, .inr (4, [.int (nI 3329), .int (nI 7), .int (nI 3303), .ref q1])), (q1, .inl (g.2.1 0, 128, .inl ((rgF 17 3329 7 i))))] := hD
      refine mi_as hu1 ?_
      refine W.widen (k := 1) (n := 128) (by omega) (by omega) ?_
      refine lv_lload hx hb dRG_init_62 (lv_at hl 1 rfl) ?_
      refine lv_l2i hx hb dRG_init_64 rfl ?_
      refine mp_iast hx hb hK hP hD hS 1 0 rfl rfl (by omega) (by decide) dRG_init_65 (fun H locs hP hD hS => ?_)
      have hP : va_P g.1 vcl [(h0, .inr (4, [.int (nI 3329), .int (nI 7), .int (nI 3303), .ref q1])), (q1, .inl (g.2.1 0, 128, .inl ((upd (rgF 17 3329 7 i) (mirL 7 i) ((rgP 17 3329 i).toInt32)))))] _ := hP
      have hD : va_D _ [(h0, .inr (4, [.int (nI 3329), .int (nI 7), .int (nI 3303), .ref q1])), (q1, .inl (g.2.1 0, 128, .inl ((upd (rgF 17 3329 7 i) (mirL 7 i) ((rgP 17 3329 i).toInt32)))))] := hD
      refine lv_lload hx hb dRG_init_66 (lv_at hl 1 rfl) ?_
      refine lv_iload_n hx hb dRG_init_68 rfl (lv_at hl 5 rfl) ?_
      refine lv_i2l (v := 17) hx hb dRG_init_69 (by decide) ?_
      refine lv_lmul hx hb dRG_init_70 ?_
      refine lv_iload_n hx hb dRG_init_71 rfl (lv_at hl 4 rfl) ?_
      refine lv_i2l (v := 3329) hx hb dRG_init_72 (by decide) ?_
      refine lv_lrem hx hb dRG_init_73 (by decide) ?_
      refine ml_as (show _ = (rgP 17 3329 (i + 1)) from rfl) ?_
      refine lv_lstore (lv' := [(5, .long ((rgP 17 3329 (i + 1)))), (7, .int (nI i)), (4, .int (nI 128)), (0, .ref h0), (1, .int (nI 3329)), (2, .int (nI 17)), (3, .int (nI 7))]) hx hb dRG_init_74 hl (by decide) rfl (fun ls hl => ?_)
      refine mi_iinc (k := 1) (x := i) (d := 1) (y := i + 1) (lv' := [(7, .int (nI (i + 1))), (5, .long ((rgP 17 3329 (i + 1)))), (4, .int (nI 128)), (0, .ref h0), (1, .int (nI 3329)), (2, .int (nI 17)), (3, .int (nI 7))]) hx hb dRG_init_76 hl rfl (by decide) rfl (by decide) rfl (fun ls hl => ?_)
      refine lv_goto (tgt := 45) hx hb dRG_init_79 (by decide) ?_
      have hP : va_P g.1 vcl [(h0, .inr (4, [.int (nI 3329), .int (nI 7), .int (nI 3303), .ref q1])), (q1, .inl (g.2.1 0, 128, .inl ((rgF 17 3329 7 (i + 1)))))] H := hP
      have hD : va_D A [(h0, .inr (4, [.int (nI 3329), .int (nI 7), .int (nI 3303), .ref q1])), (q1, .inl (g.2.1 0, 128, .inl ((rgF 17 3329 7 (i + 1)))))] := hD
      exact ih (i + 1) ls H locs (by omega) (lv_sub hl [0, 1, 2, 3, 4, 5, 6] rfl) hP hD hS
  exact loop 128 0 ls _ _ (by omega) (lv_sub hl [0, 1, 2, 3, 4, 5, 6] rfl) hP hD hS
set_option maxHeartbeats 400000 in
set_option maxRecDepth 100000 in
theorem m_RG_initX_8 (l : Launch) (g : Gd) (sz : Nat) (h0 : Nat)  : Met l y_RG_init w_RG_init ({ frames := 1, cells := 1, slots := 256, locals := 23 } : Room) (va_Pc [.ref h0, .int (nI 8380417), .int (nI 1753), .int (nI 8)] (pr (en g) g.1 vcl sz [(h0, .inr (4, [.int 0, .int 0, .int 0, .null]))])) (va_Qv (fun (u : Nat) => True) (po g.1 vcl (va_A [(h0, .inr (4, [.int 0, .int 0, .int 0, .null]))] sz) (fun (u : Nat) => [(h0, .inr (4, [.int (nI 8380417), .int (nI 8), .int (nI 8347681), .ref u])), (u, .inl (g.2.1 0, 256, .inl ((rgF 1753 8380417 8 256))))])) (va_A [(h0, .inr (4, [.int 0, .int 0, .int 0, .null]))] sz)) 1 256 (va_A [(h0, .inr (4, [.int 0, .int 0, .int 0, .null]))] sz) := by
  refine mc_entry (cc := c_RG_init) (maxL := 8) (ret := none) (by decide) rfl (Nat.le_of_ble_eq_true rfl) ?_
  intro p e s m args below meth c ls F hr hlk hnm hsz hP hD hE hA hl
  obtain ⟨hx, hb, hml, hown, hts⟩ := id F
  have hK := hE.1
  generalize va_A [(h0, .inr (4, [.int 0, .int 0, .int 0, .null]))] sz = A at hD hE hA ⊢
  have hS : va_S A s.heap s.heap [] := va_S.rf
  have hl : lv_has ls 8 [(0, .ref h0), (1, .int (nI 8380417)), (2, .int (nI 1753)), (3, .int (nI 8))] := hl
  refine lv_aload_n hx hb dRG_init_0 rfl (lv_at hl 0 rfl) ?_
  refine W.objInit hx hb hown (hts _ (wg_t kw_87)) (hts _ (wg_t kw_41)) (hts _ (wg_t kobj)) rfl (by rw [hml]; exact hl.1) rfl dRG_init_1 (Nat.le_of_ble_eq_true rfl) (Nat.le_of_ble_eq_true rfl) ?_
  refine W.eq (g2 := F0 m 4 ls []) rfl ?_
  refine lv_aload_n hx hb dRG_init_4 rfl (lv_at hl 0 rfl) ?_
  refine lv_iload_n hx hb dRG_init_5 rfl (lv_at hl 1 rfl) ?_
  refine va_putF (D := g.1) (ci := 4) (v := .int (nI 8380417)) (ty := .int) (C := "LatticeKeys$Ring") (T := T_RG) (N := 4) hx hb hts (wg_ft i_RG) ty_RG k_RG n_RG hown hK hP hD hS 0 rfl rfl 0 (by decide) (hts _ (wg_t kw_91)) (fun _ h9 => h9) rfl hnm rfl (by decide +kernel) rfl rfl (Nat.le_of_ble_eq_true rfl) dRG_init_6 (fun H locs hP hD hS => ?_)
  have hP : va_P g.1 vcl [(h0, .inr (4, [.int (nI 8380417), .int 0, .int 0, .null]))] _ := hP
  have hD : va_D _ [(h0, .inr (4, [.int (nI 8380417), .int 0, .int 0, .null]))] := hD
  refine lv_aload_n hx hb dRG_init_9 rfl (lv_at hl 0 rfl) ?_
  refine lv_iload_n hx hb dRG_init_10 rfl (lv_at hl 3 rfl) ?_
  refine va_putF (D := g.1) (ci := 4) (v := .int (nI 8)) (ty := .int) (C := "LatticeKeys$Ring") (T := T_RG) (N := 4) hx hb hts (wg_ft i_RG) ty_RG k_RG n_RG hown hK hP hD hS 0 rfl rfl 1 (by decide) (hts _ (wg_t kw_92)) (fun _ h9 => h9) rfl hnm rfl (by decide +kernel) rfl rfl (Nat.le_of_ble_eq_true rfl) dRG_init_11 (fun H locs hP hD hS => ?_)
  have hP : va_P g.1 vcl [(h0, .inr (4, [.int (nI 8380417), .int (nI 8), .int 0, .null]))] _ := hP
  have hD : va_D _ [(h0, .inr (4, [.int (nI 8380417), .int (nI 8), .int 0, .null]))] := hD
  refine lv_iconst (v := nI 1) hx hb dRG_init_14 (by decide) ?_
  refine lv_iload_n hx hb dRG_init_15 rfl (lv_at hl 3 rfl) ?_
  refine mi_ishl hx hb dRG_init_16 (by decide) (by decide) ?_
  refine mi_as (show nI (1 * 2 ^ 8) = nI 256 from rfl) ?_
  refine lv_istore (lv' := [(4, .int (nI 256)), (0, .ref h0), (1, .int (nI 8380417)), (2, .int (nI 1753)), (3, .int (nI 8))]) hx hb dRG_init_17 hl (by decide) rfl (fun ls hl => ?_)
  refine lv_aload_n hx hb dRG_init_19 rfl (lv_at hl 1 rfl) ?_
  refine lv_iload_n hx hb dRG_init_20 rfl (lv_at hl 2 rfl) ?_
  refine lv_iload_n hx hb dRG_init_21 rfl (lv_at hl 2 rfl) ?_
  refine lv_iconst (v := nI 1) hx hb dRG_init_22 (by decide) ?_
  refine mi_isub hx hb dRG_init_23 (by omega) ?_
  refine mi_as (show nI (8380417 - 1) = nI 8380416 from rfl) ?_
  refine lv_iload hx hb dRG_init_24 (lv_at hl 0 rfl) ?_
  refine mi_idiv hx hb dRG_init_26 (by omega) (by omega) (by omega) ?_
  refine mi_as (show nI (8380416 / 256) = nI 32736 from rfl) ?_
  refine mi_isub hx hb dRG_init_27 (by omega) ?_
  refine mi_as (show nI (8380417 - 32736) = nI 8347681 from rfl) ?_
  refine va_putF (D := g.1) (ci := 4) (v := .int (nI 8347681)) (ty := .int) (C := "LatticeKeys$Ring") (T := T_RG) (N := 4) hx hb hts (wg_ft i_RG) ty_RG k_RG n_RG hown hK hP hD hS 0 rfl rfl 2 (by decide) (hts _ (wg_t kw_93)) (fun _ h9 => h9) rfl hnm rfl (by decide +kernel) rfl rfl (Nat.le_of_ble_eq_true rfl) dRG_init_28 (fun H locs hP hD hS => ?_)
  have hP : va_P g.1 vcl [(h0, .inr (4, [.int (nI 8380417), .int (nI 8), .int (nI 8347681), .null]))] _ := hP
  have hD : va_D _ [(h0, .inr (4, [.int (nI 8380417), .int (nI 8), .int (nI 8347681), .null]))] := hD
  refine lv_aload_n hx hb dRG_init_31 rfl (lv_at hl 1 rfl) ?_
  refine lv_iload hx hb dRG_init_32 (lv_at hl 0 rfl) ?_
  refine ma_newa (atype := .int) hx hb (hts _ (wg_t kw_104)) rfl hK hP hD hS hA 0 rfl (N' := 256) (a0 := (256, .inl (fun _ => 0))) (fun _ => rfl) (by decide) (by decide) (by decide) (by decide) (by decide) dRG_init_34 (fun q1 H hP hD hS => ?_)
  have hP : va_P g.1 vcl [(h0, .inr (4, [.int (nI 8380417), .int (nI 8), .int (nI 8347681), .null])), (q1, .inl (g.2.1 0, 256, .inl ((fun _ => 0))))] _ := hP
  have hD : va_D _ [(h0, .inr (4, [.int (nI 8380417), .int (nI 8), .int (nI 8347681), .null])), (q1, .inl (g.2.1 0, 256, .inl ((fun _ => 0))))] := hD
  refine W.widen (k := 1) (n := 256) (by decide) (by decide) ?_
  refine va_putF (D := g.1) (ci := 4) (v := .ref q1) (ty := .array .int) (C := "LatticeKeys$Ring") (T := T_RG) (N := 4) hx hb hts (wg_ft i_RG) ty_RG k_RG n_RG hown hK hP hD hS 0 rfl rfl 3 (by decide) (hts _ (wg_t kw_94)) (fun _ h9 => h9) rfl hnm rfl (by decide +kernel) rfl rfl (Nat.le_of_ble_eq_true rfl) dRG_init_36 (fun H locs hP hD hS => ?_)
  have hP : va_P g.1 vcl [(h0, .inr (4, [.int (nI 8380417), .int (nI 8), .int (nI 8347681), .ref q1])), (q1, .inl (g.2.1 0, 256, .inl ((fun _ => 0))))] _ := hP
  have hD : va_D _ [(h0, .inr (4, [.int (nI 8380417), .int (nI 8), .int (nI 8347681), .ref q1])), (q1, .inl (g.2.1 0, 256, .inl ((fun _ => 0))))] := hD
  refine lv_lconst (v := 1) hx hb dRG_init_39 (by decide) ?_
  refine lv_lstore (lv' := [(5, .long 1), (4, .int (nI 256)), (0, .ref h0), (1, .int (nI 8380417)), (2, .int (nI 1753)), (3, .int (nI 8))]) hx hb dRG_init_40 hl (by decide) rfl (fun ls hl => ?_)
  refine lv_iconst (v := nI 0) hx hb dRG_init_42 (by decide) ?_
  refine lv_istore (lv' := [(7, .int (nI 0)), (5, .long 1), (4, .int (nI 256)), (0, .ref h0), (1, .int (nI 8380417)), (2, .int (nI 1753)), (3, .int (nI 8))]) hx hb dRG_init_43 hl (by decide) rfl (fun ls hl => ?_)
  have loop : ∀ (n i : Nat) (ls : Array Slot) (H : Heap) (locs : List Loc), n + i = 256 → lv_has ls 8 [(7, .int (nI i)), (5, .long ((rgP 1753 8380417 i))), (4, .int (nI 256)), (0, .ref h0), (1, .int (nI 8380417)), (2, .int (nI 1753)), (3, .int (nI 8))] → va_P g.1 vcl [(h0, .inr (4, [.int (nI 8380417), .int (nI 8), .int (nI 8347681), .ref q1])), (q1, .inl (g.2.1 0, 256, .inl ((rgF 1753 8380417 8 i))))] H → va_D A [(h0, .inr (4, [.int (nI 8380417), .int (nI 8), .int (nI 8347681), .ref q1])), (q1, .inl (g.2.1 0, 256, .inl ((rgF 1753 8380417 8 i))))] → va_S A s.heap H locs → W p l e ({ frames := 1, cells := 1, slots := 256, locals := 23 } : Room) s m args below meth c H locs 1 256 (MQ below (va_Qv (fun (u : Nat) => True) (po g.1 vcl A (fun (u : Nat) => [(h0, .inr (4, [.int (nI 8380417), .int (nI 8), .int (nI 8347681), .ref u])), (u, .inl (g.2.1 0, 256, .inl ((rgF 1753 8380417 8 256))))])) A) args s 1 256 A) (F0 m 45 ls []) := by
    intro n
    induction n with
    | zero =>
      intro i ls H locs hi hl hP hD hS
      obtain rfl : i = 256 := by omega
      refine lv_iload hx hb dRG_init_45 (lv_at hl 0 rfl) ?_
      refine lv_iload hx hb dRG_init_47 (lv_at hl 2 rfl) ?_
      refine mi_ge (tgt := 82) hx hb dRG_init_49 (by decide) (by omega) (by omega) (fun h1 => ?_) (fun h1 => absurd h1 (by omega))
      exact mc_vret hx hb hr hlk hP hD hS q1 trivial [0, 1] rfl rfl (by omega) (by omega) dRG_init_82
    | succ n ih =>
      intro i ls H locs hi hl hP hD hS
      have hm8 : mirL 8 i < 256 := mirL_lt 8 i
      refine lv_iload hx hb dRG_init_45 (lv_at hl 0 rfl) ?_
      refine lv_iload hx hb dRG_init_47 (lv_at hl 2 rfl) ?_
      refine mi_ge (tgt := 82) hx hb dRG_init_49 (by decide) (by omega) (by omega) (fun h1 => absurd h1 (by omega)) (fun h1 => ?_)
      refine lv_aload_n hx hb dRG_init_52 rfl (lv_at hl 3 rfl) ?_
      refine va_get (D := g.1) (ci := 4) (C := "LatticeKeys$Ring") (T := T_RG) (N := 4) hx hb hts (wg_ft i_RG) hown hK hP 0 rfl rfl 3 (by decide) (hts _ (wg_t kw_94)) (fun _ h9 => h9) rfl dRG_init_53 ?_
      refine lv_iload hx hb dRG_init_56 (lv_at hl 0 rfl) ?_
      refine lv_iload_n hx hb dRG_init_58 rfl (lv_at hl 6 rfl) ?_
      refine mc_i (wc := []) (wr := [(h0, .inr (4, [.int (nI 8380417), .int (nI 8), .int (nI 8347681), .ref q1])), (q1, .inl (g.2.1 0, 256, .inl ((rgF 1753 8380417 8 i))))]) hP hD hS hA [] [0, 1] rfl rfl rfl (by decide) (va_runS (As := [.int (nI i), .int (nI 8)]) (rest := [.ref q1]) F (m_RG_mirX l g _ i 8 (by omega) (by omega)) (va_cwS 2 hts (wg_app (wg_c kw_88 (wg_c kw_89 (wg_c kw_4 wg_n))) kw_90) rfl rfl rfl (by decide +kernel) ⟨by decide, by decide⟩) (pr_S (en_ok g) hP hD hS hA hE [] rfl rfl) rfl rfl hl.1 rfl (lv_room (Nat.le_of_ble_eq_true rfl)) dRG_init_59 ⟨(by decide), (by decide)⟩) (fun r1 u1 H locs hu1 hP hD hS => ?_)
      have hP : va_P g.1 vcl [(h0, .inr (4, [.int (nI 8380417), .int (nI 8), .int (nI 8347681), .ref q1])), (q1, .inl (g.2.1 0, 256, .inl ((rgF 1753 8380417 8 i))))] _ := hP
      have hD : va_D _ [(h0, .inr (4, [.int (nI 8380417), .int (nI 8), .int (nI 8347681), .ref q1])), (q1, .inl (g.2.1 0, 256, .inl ((rgF 1753 8380417 8 i))))] := hD
      refine mi_as hu1 ?_
      refine W.widen (k := 1) (n := 256) (by omega) (by omega) ?_
      refine lv_lload hx hb dRG_init_62 (lv_at hl 1 rfl) ?_
      refine lv_l2i hx hb dRG_init_64 rfl ?_
      refine mp_iast hx hb hK hP hD hS 1 0 rfl rfl (by omega) (by decide) dRG_init_65 (fun H locs hP hD hS => ?_)
      have hP : va_P g.1 vcl [(h0, .inr (4, [.int (nI 8380417), .int (nI 8), .int (nI 8347681), .ref q1])), (q1, .inl (g.2.1 0, 256, .inl ((upd (rgF 1753 8380417 8 i) (mirL 8 i) ((rgP 1753 8380417 i).toInt32)))))] _ := hP
      have hD : va_D _ [(h0, .inr (4, [.int (nI 8380417), .int (nI 8), .int (nI 8347681), .ref q1])), (q1, .inl (g.2.1 0, 256, .inl ((upd (rgF 1753 8380417 8 i) (mirL 8 i) ((rgP 1753 8380417 i).toInt32)))))] := hD
      refine lv_lload hx hb dRG_init_66 (lv_at hl 1 rfl) ?_
      refine lv_iload_n hx hb dRG_init_68 rfl (lv_at hl 5 rfl) ?_
      refine lv_i2l (v := 1753) hx hb dRG_init_69 (by decide) ?_
      refine lv_lmul hx hb dRG_init_70 ?_
      refine lv_iload_n hx hb dRG_init_71 rfl (lv_at hl 4 rfl) ?_
      refine lv_i2l (v := 8380417) hx hb dRG_init_72 (by decide) ?_
      refine lv_lrem hx hb dRG_init_73 (by decide) ?_
      refine ml_as (show _ = (rgP 1753 8380417 (i + 1)) from rfl) ?_
      refine lv_lstore (lv' := [(5, .long ((rgP 1753 8380417 (i + 1)))), (7, .int (nI i)), (4, .int (nI 256)), (0, .ref h0), (1, .int (nI 8380417)), (2, .int (nI 1753)), (3, .int (nI 8))]) hx hb dRG_init_74 hl (by decide) rfl (fun ls hl => ?_)
      refine mi_iinc (k := 1) (x := i) (d := 1) (y := i + 1) (lv' := [(7, .int (nI (i + 1))), (5, .long ((rgP 1753 8380417 (i + 1)))), (4, .int (nI 256)), (0, .ref h0), (1, .int (nI 8380417)), (2, .int (nI 1753)), (3, .int (nI 8))]) hx hb dRG_init_76 hl rfl (by decide) rfl (by decide) rfl (fun ls hl => ?_)
      refine lv_goto (tgt := 45) hx hb dRG_init_79 (by decide) ?_
      have hP : va_P g.1 vcl [(h0, .inr (4, [.int (nI 8380417), .int (nI 8), .int (nI 8347681), .ref q1])), (q1, .inl (g.2.1 0, 256, .inl ((rgF 1753 8380417 8 (i + 1)))))] H := hP
      have hD : va_D A [(h0, .inr (4, [.int (nI 8380417), .int (nI 8), .int (nI 8347681), .ref q1])), (q1, .inl (g.2.1 0, 256, .inl ((rgF 1753 8380417 8 (i + 1)))))] := hD
      exact ih (i + 1) ls H locs (by omega) (lv_sub hl [0, 1, 2, 3, 4, 5, 6] rfl) hP hD hS
  exact loop 256 0 ls _ _ (by omega) (lv_sub hl [0, 1, 2, 3, 4, 5, 6] rfl) hP hD hS
