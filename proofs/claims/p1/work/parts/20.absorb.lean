abbrev c_SP_absorb : ByteArray := prog_10_method_3_code
abbrev y_SP_absorb : MethodName := ⟨"LatticeKeys$Sponge", "absorb", "([BII)V"⟩
abbrev w_SP_absorb : List Cond := Cond.code y_SP_absorb c_SP_absorb 5 none :: WG
theorem dSP_absorb_0 : decode c_SP_absorb 0 = .ok (.iconst 0, 1) := by decide +kernel
theorem dSP_absorb_1 : decode c_SP_absorb 1 = .ok (.istore 4, 2) := by decide +kernel
theorem dSP_absorb_3 : decode c_SP_absorb 3 = .ok (.iload 4, 2) := by decide +kernel
theorem dSP_absorb_5 : decode c_SP_absorb 5 = .ok (.iload_n 3, 1) := by decide +kernel
theorem dSP_absorb_6 : decode c_SP_absorb 6 = .ok (.if_icmp .ge 19, 3) := by decide +kernel
theorem dSP_absorb_9 : decode c_SP_absorb 9 = .ok (.aload_n 0, 1) := by decide +kernel
theorem dSP_absorb_10 : decode c_SP_absorb 10 = .ok (.aload_n 1, 1) := by decide +kernel
theorem dSP_absorb_11 : decode c_SP_absorb 11 = .ok (.iload_n 2, 1) := by decide +kernel
theorem dSP_absorb_12 : decode c_SP_absorb 12 = .ok (.iload 4, 2) := by decide +kernel
theorem dSP_absorb_14 : decode c_SP_absorb 14 = .ok (.iadd, 1) := by decide +kernel
theorem dSP_absorb_15 : decode c_SP_absorb 15 = .ok (.baload, 1) := by decide +kernel
theorem dSP_absorb_16 : decode c_SP_absorb 16 = .ok (.invokevirtual 36, 3) := by decide +kernel
theorem dSP_absorb_19 : decode c_SP_absorb 19 = .ok (.iinc 4 1, 3) := by decide +kernel
theorem dSP_absorb_22 : decode c_SP_absorb 22 = .ok (.goto (-19), 3) := by decide +kernel
theorem dSP_absorb_25 : decode c_SP_absorb 25 = .ok (.return_, 1) := by decide +kernel
set_option maxHeartbeats 400000 in
set_option maxRecDepth 100000 in
theorem m_SP_absorb0 (l : Launch) (g : Gd) (sz : Nat) (h0 b : Nat)  : Met l y_SP_absorb w_SP_absorb ({ frames := 0, cells := 0, slots := 0, locals := 0 } : Room) (va_Pc [.ref h0, .ref b, .int (nI 0), .int (nI 0)] (pr (en g) g.1 vcl sz [])) (va_Qv (fun (u : Unit) => True) (po g.1 vcl (va_A [] sz) (fun (u : Unit) => [])) (va_A [] sz)) 0 0 (va_A [] sz) := by
  refine mc_entry (cc := c_SP_absorb) (maxL := 5) (ret := none) (by decide) rfl (Nat.le_of_ble_eq_true rfl) ?_
  intro p e s m args below meth c ls F hr hlk hnm hsz hP hD hE hA hl
  obtain ⟨hx, hb, hml, hown, hts⟩ := id F
  have hK := hE.1
  generalize va_A [] sz = A at hD hE hA ⊢
  have hS : va_S A s.heap s.heap [] := va_S.rf
  have hl : lv_has ls 5 [(0, .ref h0), (1, .ref b), (2, .int (nI 0)), (3, .int (nI 0))] := hl
  refine lv_iconst (v := nI 0) hx hb dSP_absorb_0 (by decide) ?_
  refine lv_istore (lv' := [(4, .int (nI 0)), (0, .ref h0), (1, .ref b), (2, .int (nI 0)), (3, .int (nI 0))]) hx hb dSP_absorb_1 hl (by decide) rfl (fun ls hl => ?_)
  refine lv_iload hx hb dSP_absorb_3 (lv_at hl 0 rfl) ?_
  refine lv_iload_n hx hb dSP_absorb_5 rfl (lv_at hl 4 rfl) ?_
  refine mi_ge (tgt := 25) hx hb dSP_absorb_6 (by decide) (by omega) (by omega) (fun h1 => ?_) (fun h1 => absurd h1 (by omega))
  exact mc_vret hx hb hr hlk hP hD hS () trivial [] rfl rfl (by omega) (by omega) dSP_absorb_25
