abbrev c_MS_take : ByteArray := prog_16_method_10_code
abbrev y_MS_take : MethodName := ⟨"LatticeKeysModel$Sponge", "take", "([BII)V"⟩
abbrev w_MS_take : List Cond := Cond.code y_MS_take c_MS_take 5 none :: WG
theorem dMS_take_0 : decode c_MS_take 0 = .ok (.iconst 0, 1) := by decide +kernel
theorem dMS_take_1 : decode c_MS_take 1 = .ok (.istore 4, 2) := by decide +kernel
theorem dMS_take_3 : decode c_MS_take 3 = .ok (.iload 4, 2) := by decide +kernel
theorem dMS_take_5 : decode c_MS_take 5 = .ok (.iload_n 3, 1) := by decide +kernel
theorem dMS_take_6 : decode c_MS_take 6 = .ok (.if_icmp .ge 20, 3) := by decide +kernel
theorem dMS_take_9 : decode c_MS_take 9 = .ok (.aload_n 1, 1) := by decide +kernel
theorem dMS_take_10 : decode c_MS_take 10 = .ok (.iload_n 2, 1) := by decide +kernel
theorem dMS_take_11 : decode c_MS_take 11 = .ok (.iload 4, 2) := by decide +kernel
theorem dMS_take_13 : decode c_MS_take 13 = .ok (.iadd, 1) := by decide +kernel
theorem dMS_take_14 : decode c_MS_take 14 = .ok (.aload_n 0, 1) := by decide +kernel
theorem dMS_take_15 : decode c_MS_take 15 = .ok (.invokevirtual 55, 3) := by decide +kernel
theorem dMS_take_18 : decode c_MS_take 18 = .ok (.i2b, 1) := by decide +kernel
theorem dMS_take_19 : decode c_MS_take 19 = .ok (.bastore, 1) := by decide +kernel
theorem dMS_take_20 : decode c_MS_take 20 = .ok (.iinc 4 1, 3) := by decide +kernel
theorem dMS_take_23 : decode c_MS_take 23 = .ok (.goto (-20), 3) := by decide +kernel
theorem dMS_take_26 : decode c_MS_take 26 = .ok (.return_, 1) := by decide +kernel
set_option maxHeartbeats 400000 in
set_option maxRecDepth 100000 in
theorem m_MS_take (l : Launch) (g : Gd) (sz : Nat) (h0 sa ta ca ra ua : Nat) (x3 : Int32) (rt ps b len : Nat) (fs ft fc fr : Nat → Int64) (fu : Nat → Int32) (fb : Nat → Int32) (hrt : 0 < rt ∧ rt < 200) (hps : ps ≤ rt) (hlen : len ≤ 8192)  : Met l y_MS_take w_MS_take ({ frames := 3, cells := 0, slots := 0, locals := 90 } : Room) (va_Pc [.ref h0, .ref b, .int (nI 0), .int (nI len)] (pr (en g) g.1 vcl sz [(h0, .inr (9, [.ref sa, .ref ta, .ref ca, .ref ra, .ref ua, .int (nI rt), .int (nI ps), .int x3])), (sa, .inl (g.2.1 2, 25, .inr (.inl fs))), (ta, .inl (g.2.1 2, 25, .inr (.inl ft))), (ca, .inl (g.2.1 2, 5, .inr (.inl fc))), (ra, .inl (g.2.1 2, 24, .inr (.inl fr))), (ua, .inl (g.2.1 0, 25, .inl fu)), (b, .inl (g.2.1 1, 8192, .inl fb))])) (va_Qv (fun (u : Unit) => True) (po g.1 vcl (va_A [(h0, .inr (9, [.ref sa, .ref ta, .ref ca, .ref ra, .ref ua, .int (nI rt), .int (nI ps), .int x3])), (sa, .inl (g.2.1 2, 25, .inr (.inl fs))), (ta, .inl (g.2.1 2, 25, .inr (.inl ft))), (ca, .inl (g.2.1 2, 5, .inr (.inl fc))), (ra, .inl (g.2.1 2, 24, .inr (.inl fr))), (ua, .inl (g.2.1 0, 25, .inl fu)), (b, .inl (g.2.1 1, 8192, .inl fb))] sz) (fun (u : Unit) => [])) (va_A [(h0, .inr (9, [.ref sa, .ref ta, .ref ca, .ref ra, .ref ua, .int (nI rt), .int (nI ps), .int x3])), (sa, .inl (g.2.1 2, 25, .inr (.inl fs))), (ta, .inl (g.2.1 2, 25, .inr (.inl ft))), (ca, .inl (g.2.1 2, 5, .inr (.inl fc))), (ra, .inl (g.2.1 2, 24, .inr (.inl fr))), (ua, .inl (g.2.1 0, 25, .inl fu)), (b, .inl (g.2.1 1, 8192, .inl fb))] sz)) 0 0 (va_A [(h0, .inr (9, [.ref sa, .ref ta, .ref ca, .ref ra, .ref ua, .int (nI rt), .int (nI ps), .int x3])), (sa, .inl (g.2.1 2, 25, .inr (.inl fs))), (ta, .inl (g.2.1 2, 25, .inr (.inl ft))), (ca, .inl (g.2.1 2, 5, .inr (.inl fc))), (ra, .inl (g.2.1 2, 24, .inr (.inl fr))), (ua, .inl (g.2.1 0, 25, .inl fu)), (b, .inl (g.2.1 1, 8192, .inl fb))] sz) := by
  refine mc_entry (cc := c_MS_take) (maxL := 5) (ret := none) (by decide) rfl (Nat.le_of_ble_eq_true rfl) ?_
  intro p e s m args below meth c ls F hr hlk hnm hsz hP hD hE hA hl
  obtain ⟨hx, hb, hml, hown, hts⟩ := id F
  have hK := hE.1
  generalize va_A [(h0, .inr (9, [.ref sa, .ref ta, .ref ca, .ref ra, .ref ua, .int (nI rt), .int (nI ps), .int x3])), (sa, .inl (g.2.1 2, 25, .inr (.inl fs))), (ta, .inl (g.2.1 2, 25, .inr (.inl ft))), (ca, .inl (g.2.1 2, 5, .inr (.inl fc))), (ra, .inl (g.2.1 2, 24, .inr (.inl fr))), (ua, .inl (g.2.1 0, 25, .inl fu)), (b, .inl (g.2.1 1, 8192, .inl fb))] sz = A at hD hE hA ⊢
  have hS : va_S A s.heap s.heap [] := va_S.rf
  have hl : lv_has ls 5 [(0, .ref h0), (1, .ref b), (2, .int (nI 0)), (3, .int (nI len))] := hl
  have loop : ∀ (n : Nat) (i ps : Nat) (fs ft fc : Nat → Int64) (fb : Nat → Int32) (ls : Array Slot) (H : Heap) (locs : List Loc) , n + i = len → ps ≤ rt → lv_has ls 5 [(4, .int (nI i)), (0, .ref h0), (1, .ref b), (2, .int (nI 0)), (3, .int (nI len))] → va_P g.1 vcl [(h0, .inr (9, [.ref sa, .ref ta, .ref ca, .ref ra, .ref ua, .int (nI rt), .int (nI ps), .int x3])), (sa, .inl (g.2.1 2, 25, .inr (.inl fs))), (ta, .inl (g.2.1 2, 25, .inr (.inl ft))), (ca, .inl (g.2.1 2, 5, .inr (.inl fc))), (ra, .inl (g.2.1 2, 24, .inr (.inl fr))), (ua, .inl (g.2.1 0, 25, .inl fu)), (b, .inl (g.2.1 1, 8192, .inl fb))] H → va_D A [(h0, .inr (9, [.ref sa, .ref ta, .ref ca, .ref ra, .ref ua, .int (nI rt), .int (nI ps), .int x3])), (sa, .inl (g.2.1 2, 25, .inr (.inl fs))), (ta, .inl (g.2.1 2, 25, .inr (.inl ft))), (ca, .inl (g.2.1 2, 5, .inr (.inl fc))), (ra, .inl (g.2.1 2, 24, .inr (.inl fr))), (ua, .inl (g.2.1 0, 25, .inl fu)), (b, .inl (g.2.1 1, 8192, .inl fb))] → va_S A s.heap H locs → W p l e ({ frames := 3, cells := 0, slots := 0, locals := 90 } : Room) s m args below meth c H locs 0 0 (MQ below (va_Qv (fun (u : Unit) => True) (po g.1 vcl A (fun (u : Unit) => [])) A) args s 0 0 A) (F0 m 3 ls []) := by
    intro n
    induction n with
    | zero =>
      intro i ps fs ft fc fb ls H locs hi hps hl hP hD hS
      refine lv_iload hx hb dMS_take_3 (lv_at hl 0 rfl) ?_
      refine lv_iload_n hx hb dMS_take_5 rfl (lv_at hl 4 rfl) ?_
      refine mi_ge (tgt := 26) hx hb dMS_take_6 (by decide) (by omega) (by omega) (fun h1 => ?_) (fun h1 => absurd h1 (by omega))
      exact mc_vret hx hb hr hlk hP hD hS () trivial [] rfl rfl (by omega) (by omega) dMS_take_26
    | succ n ihloop =>
      intro i ps fs ft fc fb ls H locs hi hps hl hP hD hS
      refine lv_iload hx hb dMS_take_3 (lv_at hl 0 rfl) ?_
      refine lv_iload_n hx hb dMS_take_5 rfl (lv_at hl 4 rfl) ?_
      refine mi_ge (tgt := 26) hx hb dMS_take_6 (by decide) (by omega) (by omega) (fun h1 => absurd h1 (by omega)) (fun h1 => ?_)
      refine lv_aload_n hx hb dMS_take_9 rfl (lv_at hl 2 rfl) ?_
      refine lv_iload_n hx hb dMS_take_10 rfl (lv_at hl 3 rfl) ?_
      refine lv_iload hx hb dMS_take_11 (lv_at hl 0 rfl) ?_
      refine mi_iadd hx hb dMS_take_13 ?_
      refine lv_aload_n hx hb dMS_take_14 rfl (lv_at hl 1 rfl) ?_
      refine mc_i (wc := [(h0, .inr (9, [.ref sa, .ref ta, .ref ca, .ref ra, .ref ua, .int (nI rt), .int (nI ps), .int x3])), (sa, .inl (g.2.1 2, 25, .inr (.inl fs))), (ta, .inl (g.2.1 2, 25, .inr (.inl ft))), (ca, .inl (g.2.1 2, 5, .inr (.inl fc))), (ra, .inl (g.2.1 2, 24, .inr (.inl fr))), (ua, .inl (g.2.1 0, 25, .inl fu))]) (wr := [(b, .inl (g.2.1 1, 8192, .inl fb))]) hP hD hS hA [0, 1, 2, 3, 4, 5] [6] rfl rfl rfl (by decide) (va_runV (As := []) (rest := [.int (nI (0 + i)), .ref b]) F (m_MS_next l g _ h0 sa ta ca ra ua x3 rt ps fs ft fc fr fu (by omega) (by omega)) (cwV 0 hts (wg_app (wg_c kw_1641 (wg_c kw_1642 (wg_c kw_1643 (wg_c kw_10 wg_n)))) kw_1644) rfl rfl rfl (by decide +kernel) ⟨by decide, by decide⟩) (pr_V (en_ok g) (q0 := 0) hK hP hD hS hA hE [0, 1, 2, 3, 4, 5] rfl rfl rfl rfl) rfl rfl hl.1 rfl (lv_room (Nat.le_of_ble_eq_true rfl)) dMS_take_15 ⟨(by decide), (by decide)⟩) (fun r1 u1 H locs hu1 hP hD hS => ?_)
      obtain ⟨k1, fm1, fm2, fm3⟩ := u1
      have hu1 : k1 ≤ rt := hu1
      have hP : va_P g.1 vcl [(b, .inl (g.2.1 1, 8192, .inl fb)), (h0, .inr (9, [.ref sa, .ref ta, .ref ca, .ref ra, .ref ua, .int (nI rt), .int (nI k1), .int x3])), (sa, .inl (g.2.1 2, 25, .inr (.inl fm1))), (ta, .inl (g.2.1 2, 25, .inr (.inl fm2))), (ca, .inl (g.2.1 2, 5, .inr (.inl fm3))), (ra, .inl (g.2.1 2, 24, .inr (.inl fr))), (ua, .inl (g.2.1 0, 25, .inl fu))] _ := hP
      have hD : va_D _ [(b, .inl (g.2.1 1, 8192, .inl fb)), (h0, .inr (9, [.ref sa, .ref ta, .ref ca, .ref ra, .ref ua, .int (nI rt), .int (nI k1), .int x3])), (sa, .inl (g.2.1 2, 25, .inr (.inl fm1))), (ta, .inl (g.2.1 2, 25, .inr (.inl fm2))), (ca, .inl (g.2.1 2, 5, .inr (.inl fm3))), (ra, .inl (g.2.1 2, 24, .inr (.inl fr))), (ua, .inl (g.2.1 0, 25, .inl fu))] := hD
      refine W.widen (k := 0) (n := 0) (by omega) (by omega) ?_
      refine lv_i2b hx hb dMS_take_18 rfl ?_
      refine mi_any (fun z1 => ?_)
      refine ma_bast hx hb hK hP hD hS 0 1 rfl rfl (vp_in_nI (by omega) (by decide)) dMS_take_19 (fun f1 H locs hP hD hS => ?_)
      have hP : va_P g.1 vcl [(b, .inl (g.2.1 1, 8192, .inl f1)), (h0, .inr (9, [.ref sa, .ref ta, .ref ca, .ref ra, .ref ua, .int (nI rt), .int (nI k1), .int x3])), (sa, .inl (g.2.1 2, 25, .inr (.inl fm1))), (ta, .inl (g.2.1 2, 25, .inr (.inl fm2))), (ca, .inl (g.2.1 2, 5, .inr (.inl fm3))), (ra, .inl (g.2.1 2, 24, .inr (.inl fr))), (ua, .inl (g.2.1 0, 25, .inl fu))] _ := hP
      have hD : va_D _ [(b, .inl (g.2.1 1, 8192, .inl f1)), (h0, .inr (9, [.ref sa, .ref ta, .ref ca, .ref ra, .ref ua, .int (nI rt), .int (nI k1), .int x3])), (sa, .inl (g.2.1 2, 25, .inr (.inl fm1))), (ta, .inl (g.2.1 2, 25, .inr (.inl fm2))), (ca, .inl (g.2.1 2, 5, .inr (.inl fm3))), (ra, .inl (g.2.1 2, 24, .inr (.inl fr))), (ua, .inl (g.2.1 0, 25, .inl fu))] := hD
      refine mi_iinc (k := 0) (x := i) (d := 1) (y := i + 1) (lv' := [(4, .int (nI (i + 1))), (0, .ref h0), (1, .ref b), (2, .int (nI 0)), (3, .int (nI len))]) hx hb dMS_take_20 hl rfl (by decide) rfl (by decide) rfl (fun ls hl => ?_)
      refine lv_goto (tgt := 3) hx hb dMS_take_23 (by decide) ?_
      have hP := hP.sub (ws' := [(h0, .inr (9, [.ref sa, .ref ta, .ref ca, .ref ra, .ref ua, .int (nI rt), .int (nI k1), .int x3])), (sa, .inl (g.2.1 2, 25, .inr (.inl fm1))), (ta, .inl (g.2.1 2, 25, .inr (.inl fm2))), (ca, .inl (g.2.1 2, 5, .inr (.inl fm3))), (ra, .inl (g.2.1 2, 24, .inr (.inl fr))), (ua, .inl (g.2.1 0, 25, .inl fu)), (b, .inl (g.2.1 1, 8192, .inl f1))]) [1, 2, 3, 4, 5, 6, 0] rfl
      have hD := hD.sub (ws' := [(h0, .inr (9, [.ref sa, .ref ta, .ref ca, .ref ra, .ref ua, .int (nI rt), .int (nI k1), .int x3])), (sa, .inl (g.2.1 2, 25, .inr (.inl fm1))), (ta, .inl (g.2.1 2, 25, .inr (.inl fm2))), (ca, .inl (g.2.1 2, 5, .inr (.inl fm3))), (ra, .inl (g.2.1 2, 24, .inr (.inl fr))), (ua, .inl (g.2.1 0, 25, .inl fu)), (b, .inl (g.2.1 1, 8192, .inl f1))]) [1, 2, 3, 4, 5, 6, 0] (by decide) rfl
      exact ihloop (i + 1) k1 fm1 fm2 fm3 f1 ls _ _ (by omega) (by omega) (lv_sub hl [0, 1, 2, 3, 4] rfl) hP hD hS
  refine lv_iconst (v := nI 0) hx hb dMS_take_0 (by decide) ?_
  refine lv_istore (lv' := [(4, .int (nI 0)), (0, .ref h0), (1, .ref b), (2, .int (nI 0)), (3, .int (nI len))]) hx hb dMS_take_1 hl (by decide) rfl (fun ls hl => ?_)
  exact loop len 0 ps fs ft fc fb ls _ _ (by omega) hps (lv_sub hl [0, 1, 2, 3, 4] rfl) hP hD hS
