set_option linter.all false
abbrev c_AR_fillJ : ByteArray := prog_33_method_101_code
abbrev y_AR_fillJ : MethodName := ⟨"java/util/Arrays", "fill", "([JJ)V"⟩
abbrev w_AR_fillJ : List Cond := Cond.code y_AR_fillJ c_AR_fillJ 5 none :: WG
theorem dAR_fillJ_0 : decode c_AR_fillJ 0 = .ok (.iconst 0, 1) := by decide +kernel
theorem dAR_fillJ_1 : decode c_AR_fillJ 1 = .ok (.istore_n 3, 1) := by decide +kernel
theorem dAR_fillJ_2 : decode c_AR_fillJ 2 = .ok (.aload_n 0, 1) := by decide +kernel
theorem dAR_fillJ_3 : decode c_AR_fillJ 3 = .ok (.arraylength, 1) := by decide +kernel
theorem dAR_fillJ_4 : decode c_AR_fillJ 4 = .ok (.istore 4, 2) := by decide +kernel
theorem dAR_fillJ_6 : decode c_AR_fillJ 6 = .ok (.iload_n 3, 1) := by decide +kernel
theorem dAR_fillJ_7 : decode c_AR_fillJ 7 = .ok (.iload 4, 2) := by decide +kernel
theorem dAR_fillJ_9 : decode c_AR_fillJ 9 = .ok (.if_icmp .ge 13, 3) := by decide +kernel
theorem dAR_fillJ_12 : decode c_AR_fillJ 12 = .ok (.aload_n 0, 1) := by decide +kernel
theorem dAR_fillJ_13 : decode c_AR_fillJ 13 = .ok (.iload_n 3, 1) := by decide +kernel
theorem dAR_fillJ_14 : decode c_AR_fillJ 14 = .ok (.lload_n 1, 1) := by decide +kernel
theorem dAR_fillJ_15 : decode c_AR_fillJ 15 = .ok (.lastore, 1) := by decide +kernel
theorem dAR_fillJ_16 : decode c_AR_fillJ 16 = .ok (.iinc 3 1, 3) := by decide +kernel
theorem dAR_fillJ_19 : decode c_AR_fillJ 19 = .ok (.goto (-13), 3) := by decide +kernel
theorem dAR_fillJ_22 : decode c_AR_fillJ 22 = .ok (.return_, 1) := by decide +kernel
set_option maxHeartbeats 400000 in
set_option maxRecDepth 100000 in
theorem m_AR_fillJ (l : Launch) (g : Gd) (sz : Nat) (ln : Nat) (v : Int64) (f : Nat → Int64)  : Met l y_AR_fillJ w_AR_fillJ ({ frames := 0, cells := 0, slots := 0, locals := 0 } : Room) (va_Pc [.ref ln, .long v] (pr (en g) g.1 vcl sz [(ln, .inl (g.2.1 2, 25, .inr (.inl f)))])) (va_Qv (fun (u : Nat → Int64) => True) (po g.1 vcl (va_A [(ln, .inl (g.2.1 2, 25, .inr (.inl f)))] sz) (fun (u : Nat → Int64) => [(ln, .inl (g.2.1 2, 25, .inr (.inl u)))])) (va_A [(ln, .inl (g.2.1 2, 25, .inr (.inl f)))] sz)) 0 0 (va_A [(ln, .inl (g.2.1 2, 25, .inr (.inl f)))] sz) := by
  refine mc_entry (cc := c_AR_fillJ) (maxL := 5) (ret := none) (by decide) rfl (Nat.le_of_ble_eq_true rfl) ?_
  intro p e s m args below meth c ls F hr hlk hnm hsz hP hD hE hA hl
  obtain ⟨hx, hb, hml, hown, hts⟩ := id F
  have hK := hE.1
  generalize va_A [(ln, .inl (g.2.1 2, 25, .inr (.inl f)))] sz = A at hD hE hA ⊢
  have hS : va_S A s.heap s.heap [] := va_S.rf
  have hl : lv_has ls 5 [(0, .ref ln), (1, .long v)] := hl
  have loop : ∀ (n : Nat) (i : Nat) (f : Nat → Int64) (ls : Array Slot) (H : Heap) (locs : List Loc) , n + i = 25 → lv_has ls 5 [(3, .int (nI i)), (4, .int (nI 25)), (0, .ref ln), (1, .long v)] → va_P g.1 vcl [(ln, .inl (g.2.1 2, 25, .inr (.inl f)))] H → va_D A [(ln, .inl (g.2.1 2, 25, .inr (.inl f)))] → va_S A s.heap H locs → W p l e ({ frames := 0, cells := 0, slots := 0, locals := 0 } : Room) s m args below meth c H locs 0 0 (MQ below (va_Qv (fun (u : Nat → Int64) => True) (po g.1 vcl A (fun (u : Nat → Int64) => [(ln, .inl (g.2.1 2, 25, .inr (.inl u)))])) A) args s 0 0 A) (F0 m 6 ls []) := by
    intro n
    induction n with
    | zero =>
      intro i f ls H locs hi  hl hP hD hS
      refine lv_iload_n hx hb dAR_fillJ_6 rfl (lv_at hl 0 rfl) ?_
      refine lv_iload hx hb dAR_fillJ_7 (lv_at hl 1 rfl) ?_
      refine mi_ge (tgt := 22) hx hb dAR_fillJ_9 (by decide) (by omega) (by omega) (fun h1 => ?_) (fun h1 => absurd h1 (by omega))
      exact mc_vret hx hb hr hlk hP hD hS f trivial [0] rfl rfl (by omega) (by omega) dAR_fillJ_22
    | succ n ihloop =>
      intro i f ls H locs hi  hl hP hD hS
      refine lv_iload_n hx hb dAR_fillJ_6 rfl (lv_at hl 0 rfl) ?_
      refine lv_iload hx hb dAR_fillJ_7 (lv_at hl 1 rfl) ?_
      refine mi_ge (tgt := 22) hx hb dAR_fillJ_9 (by decide) (by omega) (by omega) (fun h1 => absurd h1 (by omega)) (fun h1 => ?_)
      refine lv_aload_n hx hb dAR_fillJ_12 rfl (lv_at hl 2 rfl) ?_
      refine lv_iload_n hx hb dAR_fillJ_13 rfl (lv_at hl 0 rfl) ?_
      refine lv_lload_n hx hb dAR_fillJ_14 rfl (lv_at hl 3 rfl) ?_
      refine ma_last hx hb hK hP hD hS 0 2 rfl rfl (vp_in_nI (by omega) (by decide)) dAR_fillJ_15 (fun f1 H locs hP hD hS => ?_)
      have hP : va_P g.1 vcl [(ln, .inl (g.2.1 2, 25, .inr (.inl f1)))] _ := hP
      have hD : va_D _ [(ln, .inl (g.2.1 2, 25, .inr (.inl f1)))] := hD
      refine mi_iinc (k := 0) (x := i) (d := 1) (y := i + 1) (lv' := [(3, .int (nI (i + 1))), (4, .int (nI 25)), (0, .ref ln), (1, .long v)]) hx hb dAR_fillJ_16 hl rfl (by decide) rfl (by decide) rfl (fun ls hl => ?_)
      refine lv_goto (tgt := 6) hx hb dAR_fillJ_19 (by decide) ?_
      exact ihloop (i + 1) f1 ls _ _ (by omega)  (lv_sub hl [0, 1, 2, 3] rfl) hP hD hS
  refine lv_iconst (v := nI 0) hx hb dAR_fillJ_0 (by decide) ?_
  refine lv_istore_n (lv' := [(3, .int (nI 0)), (0, .ref ln), (1, .long v)]) hx hb dAR_fillJ_1 rfl hl (by decide) rfl (fun ls hl => ?_)
  refine lv_aload_n hx hb dAR_fillJ_2 rfl (lv_at hl 1 rfl) ?_
  refine va_alen (v := nI 25) hx hb hK hP 0 2 rfl rfl rfl dAR_fillJ_3 ?_
  refine lv_istore (lv' := [(4, .int (nI 25)), (3, .int (nI 0)), (0, .ref ln), (1, .long v)]) hx hb dAR_fillJ_4 hl (by decide) rfl (fun ls hl => ?_)
  exact loop 25 0 f ls _ _ (by omega)  (lv_sub hl [1, 0, 2, 3] rfl) hP hD hS
