abbrev c_SP_squeeze : ByteArray := prog_10_method_6_code
abbrev y_SP_squeeze : MethodName := ⟨"LatticeKeys$Sponge", "squeeze", "([BII)V"⟩
abbrev w_SP_squeeze : List Cond := Cond.code y_SP_squeeze c_SP_squeeze 5 none :: WG
theorem dSP_squeeze_0 : decode c_SP_squeeze 0 = .ok (.iconst 0, 1) := by decide +kernel
theorem dSP_squeeze_1 : decode c_SP_squeeze 1 = .ok (.istore 4, 2) := by decide +kernel
theorem dSP_squeeze_3 : decode c_SP_squeeze 3 = .ok (.iload 4, 2) := by decide +kernel
theorem dSP_squeeze_5 : decode c_SP_squeeze 5 = .ok (.iload_n 3, 1) := by decide +kernel
theorem dSP_squeeze_6 : decode c_SP_squeeze 6 = .ok (.if_icmp .ge 20, 3) := by decide +kernel
theorem dSP_squeeze_9 : decode c_SP_squeeze 9 = .ok (.aload_n 1, 1) := by decide +kernel
theorem dSP_squeeze_10 : decode c_SP_squeeze 10 = .ok (.iload_n 2, 1) := by decide +kernel
theorem dSP_squeeze_11 : decode c_SP_squeeze 11 = .ok (.iload 4, 2) := by decide +kernel
theorem dSP_squeeze_13 : decode c_SP_squeeze 13 = .ok (.iadd, 1) := by decide +kernel
theorem dSP_squeeze_14 : decode c_SP_squeeze 14 = .ok (.aload_n 0, 1) := by decide +kernel
theorem dSP_squeeze_15 : decode c_SP_squeeze 15 = .ok (.invokevirtual 47, 3) := by decide +kernel
theorem dSP_squeeze_18 : decode c_SP_squeeze 18 = .ok (.i2b, 1) := by decide +kernel
theorem dSP_squeeze_19 : decode c_SP_squeeze 19 = .ok (.bastore, 1) := by decide +kernel
theorem dSP_squeeze_20 : decode c_SP_squeeze 20 = .ok (.iinc 4 1, 3) := by decide +kernel
theorem dSP_squeeze_23 : decode c_SP_squeeze 23 = .ok (.goto (-20), 3) := by decide +kernel
theorem dSP_squeeze_26 : decode c_SP_squeeze 26 = .ok (.return_, 1) := by decide +kernel
set_option maxHeartbeats 400000 in
set_option maxRecDepth 100000 in
theorem m_SP_squeeze (l : Launch) (g : Gd) (sz : Nat) (h0 ln b rt ps len : Nat) (x2 : Int32) (f : Nat → Int64) (fb : Nat → Int32) (hrt : 0 < rt ∧ rt < 200) (hps : ps ≤ rt) (hlen : len ≤ 8192)  : Met l y_SP_squeeze w_SP_squeeze ({ frames := 2, cells := 0, slots := 0, locals := 80 } : Room) (va_Pc [.ref h0, .ref b, .int (nI 0), .int (nI len)] (pr (en g) g.1 vcl sz [(h0, .inr (3, [.ref ln, .int (nI rt), .int x2, .int (nI ps)])), (ln, .inl (g.2.1 2, 25, .inr (.inl f))), (b, .inl (g.2.1 1, 8192, .inl fb))])) (va_Qv (fun (u : Unit) => True) (po g.1 vcl (va_A [(h0, .inr (3, [.ref ln, .int (nI rt), .int x2, .int (nI ps)])), (ln, .inl (g.2.1 2, 25, .inr (.inl f))), (b, .inl (g.2.1 1, 8192, .inl fb))] sz) (fun (u : Unit) => [])) (va_A [(h0, .inr (3, [.ref ln, .int (nI rt), .int x2, .int (nI ps)])), (ln, .inl (g.2.1 2, 25, .inr (.inl f))), (b, .inl (g.2.1 1, 8192, .inl fb))] sz)) 0 0 (va_A [(h0, .inr (3, [.ref ln, .int (nI rt), .int x2, .int (nI ps)])), (ln, .inl (g.2.1 2, 25, .inr (.inl f))), (b, .inl (g.2.1 1, 8192, .inl fb))] sz) := by
  refine mc_entry (cc := c_SP_squeeze) (maxL := 5) (ret := none) (by decide) rfl (Nat.le_of_ble_eq_true rfl) ?_
  intro p e s m args below meth c ls F hr hlk hnm hsz hP hD hE hA hl
  obtain ⟨hx, hb, hml, hown, hts⟩ := id F
  have hK := hE.1
  generalize va_A [(h0, .inr (3, [.ref ln, .int (nI rt), .int x2, .int (nI ps)])), (ln, .inl (g.2.1 2, 25, .inr (.inl f))), (b, .inl (g.2.1 1, 8192, .inl fb))] sz = A at hD hE hA ⊢
  have hS : va_S A s.heap s.heap [] := va_S.rf
  have hl : lv_has ls 5 [(0, .ref h0), (1, .ref b), (2, .int (nI 0)), (3, .int (nI len))] := hl
  have loop : ∀ (n : Nat) (i ps : Nat) (f : Nat → Int64) (fb : Nat → Int32) (ls : Array Slot) (H : Heap) (locs : List Loc) , n + i = len → ps ≤ rt → lv_has ls 5 [(4, .int (nI i)), (0, .ref h0), (1, .ref b), (2, .int (nI 0)), (3, .int (nI len))] → va_P g.1 vcl [(h0, .inr (3, [.ref ln, .int (nI rt), .int x2, .int (nI ps)])), (ln, .inl (g.2.1 2, 25, .inr (.inl f))), (b, .inl (g.2.1 1, 8192, .inl fb))] H → va_D A [(h0, .inr (3, [.ref ln, .int (nI rt), .int x2, .int (nI ps)])), (ln, .inl (g.2.1 2, 25, .inr (.inl f))), (b, .inl (g.2.1 1, 8192, .inl fb))] → va_S A s.heap H locs → W p l e ({ frames := 2, cells := 0, slots := 0, locals := 80 } : Room) s m args below meth c H locs 0 0 (MQ below (va_Qv (fun (u : Unit) => True) (po g.1 vcl A (fun (u : Unit) => [])) A) args s 0 0 A) (F0 m 3 ls []) := by
    intro n
    induction n with
    | zero =>
      intro i ps f fb ls H locs hi hps hl hP hD hS
      refine lv_iload hx hb dSP_squeeze_3 (lv_at hl 0 rfl) ?_
      refine lv_iload_n hx hb dSP_squeeze_5 rfl (lv_at hl 4 rfl) ?_
      refine mi_ge (tgt := 26) hx hb dSP_squeeze_6 (by decide) (by omega) (by omega) (fun h1 => ?_) (fun h1 => absurd h1 (by omega))
      exact mc_vret hx hb hr hlk hP hD hS () trivial [] rfl rfl (by omega) (by omega) dSP_squeeze_26
    | succ n ihloop =>
      intro i ps f fb ls H locs hi hps hl hP hD hS
      refine lv_iload hx hb dSP_squeeze_3 (lv_at hl 0 rfl) ?_
      refine lv_iload_n hx hb dSP_squeeze_5 rfl (lv_at hl 4 rfl) ?_
      refine mi_ge (tgt := 26) hx hb dSP_squeeze_6 (by decide) (by omega) (by omega) (fun h1 => absurd h1 (by omega)) (fun h1 => ?_)
      refine lv_aload_n hx hb dSP_squeeze_9 rfl (lv_at hl 2 rfl) ?_
      refine lv_iload_n hx hb dSP_squeeze_10 rfl (lv_at hl 3 rfl) ?_
      refine lv_iload hx hb dSP_squeeze_11 (lv_at hl 0 rfl) ?_
      refine mi_iadd hx hb dSP_squeeze_13 ?_
      refine lv_aload_n hx hb dSP_squeeze_14 rfl (lv_at hl 1 rfl) ?_
      refine mc_i (wc := [(h0, .inr (3, [.ref ln, .int (nI rt), .int x2, .int (nI ps)])), (ln, .inl (g.2.1 2, 25, .inr (.inl f)))]) (wr := [(b, .inl (g.2.1 1, 8192, .inl fb))]) hP hD hS hA [0, 1] [2] rfl rfl rfl (by decide) (va_runV (As := []) (rest := [.int (nI (0 + i)), .ref b]) F (m_SP_nextByte l g _ h0 ln rt ps x2 f (by omega) (by omega)) (cwV 0 hts (wg_app (wg_c kw_618 (wg_c kw_619 (wg_c kw_620 (wg_c kw_2 wg_n)))) kw_621) rfl rfl rfl (by decide +kernel) ⟨by decide, by decide⟩) (pr_V (en_ok g) (q0 := 0) hK hP hD hS hA hE [0, 1] rfl rfl rfl rfl) rfl rfl hl.1 rfl (lv_room (Nat.le_of_ble_eq_true rfl)) dSP_squeeze_15 ⟨(by decide), (by decide)⟩) (fun r1 u1 H locs hu1 hP hD hS => ?_)
      obtain ⟨k1, f1⟩ := u1
      have hu1 : k1 ≤ rt := hu1
      have hP : va_P g.1 vcl [(b, .inl (g.2.1 1, 8192, .inl fb)), (h0, .inr (3, [.ref ln, .int (nI rt), .int x2, .int (nI k1)])), (ln, .inl (g.2.1 2, 25, .inr (.inl f1)))] _ := hP
      have hD : va_D _ [(b, .inl (g.2.1 1, 8192, .inl fb)), (h0, .inr (3, [.ref ln, .int (nI rt), .int x2, .int (nI k1)])), (ln, .inl (g.2.1 2, 25, .inr (.inl f1)))] := hD
      refine W.widen (k := 0) (n := 0) (by omega) (by omega) ?_
      refine lv_i2b hx hb dSP_squeeze_18 rfl ?_
      refine mi_any (fun z1 => ?_)
      refine ma_bast hx hb hK hP hD hS 0 1 rfl rfl (vp_in_nI (by omega) (by decide)) dSP_squeeze_19 (fun f2 H locs hP hD hS => ?_)
      have hP : va_P g.1 vcl [(b, .inl (g.2.1 1, 8192, .inl f2)), (h0, .inr (3, [.ref ln, .int (nI rt), .int x2, .int (nI k1)])), (ln, .inl (g.2.1 2, 25, .inr (.inl f1)))] _ := hP
      have hD : va_D _ [(b, .inl (g.2.1 1, 8192, .inl f2)), (h0, .inr (3, [.ref ln, .int (nI rt), .int x2, .int (nI k1)])), (ln, .inl (g.2.1 2, 25, .inr (.inl f1)))] := hD
      refine mi_iinc (k := 0) (x := i) (d := 1) (y := i + 1) (lv' := [(4, .int (nI (i + 1))), (0, .ref h0), (1, .ref b), (2, .int (nI 0)), (3, .int (nI len))]) hx hb dSP_squeeze_20 hl rfl (by decide) rfl (by decide) rfl (fun ls hl => ?_)
      refine lv_goto (tgt := 3) hx hb dSP_squeeze_23 (by decide) ?_
      have hP := hP.sub (ws' := [(h0, .inr (3, [.ref ln, .int (nI rt), .int x2, .int (nI k1)])), (ln, .inl (g.2.1 2, 25, .inr (.inl f1))), (b, .inl (g.2.1 1, 8192, .inl f2))]) [1, 2, 0] rfl
      have hD := hD.sub (ws' := [(h0, .inr (3, [.ref ln, .int (nI rt), .int x2, .int (nI k1)])), (ln, .inl (g.2.1 2, 25, .inr (.inl f1))), (b, .inl (g.2.1 1, 8192, .inl f2))]) [1, 2, 0] (by decide) rfl
      exact ihloop (i + 1) k1 f1 f2 ls _ _ (by omega) (by omega) (lv_sub hl [0, 1, 2, 3, 4] rfl) hP hD hS
  refine lv_iconst (v := nI 0) hx hb dSP_squeeze_0 (by decide) ?_
  refine lv_istore (lv' := [(4, .int (nI 0)), (0, .ref h0), (1, .ref b), (2, .int (nI 0)), (3, .int (nI len))]) hx hb dSP_squeeze_1 hl (by decide) rfl (fun ls hl => ?_)
  exact loop len 0 ps f fb ls _ _ (by omega) hps (lv_sub hl [0, 1, 2, 3, 4] rfl) hP hD hS
