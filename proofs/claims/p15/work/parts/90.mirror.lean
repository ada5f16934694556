abbrev c_RG_mirrored : ByteArray := prog_9_method_2_code
abbrev y_RG_mirrored : MethodName := ⟨"LatticeKeys$Ring", "mirrored", "(II)I"⟩
abbrev w_RG_mirrored : List Cond := Cond.code y_RG_mirrored c_RG_mirrored 4 (some .int) :: WG
theorem dRG_mirrored_0 : decode c_RG_mirrored 0 = .ok (.iconst 0, 1) := by decide +kernel
theorem dRG_mirrored_1 : decode c_RG_mirrored 1 = .ok (.istore_n 2, 1) := by decide +kernel
theorem dRG_mirrored_2 : decode c_RG_mirrored 2 = .ok (.iconst 0, 1) := by decide +kernel
theorem dRG_mirrored_3 : decode c_RG_mirrored 3 = .ok (.istore_n 3, 1) := by decide +kernel
theorem dRG_mirrored_4 : decode c_RG_mirrored 4 = .ok (.iload_n 3, 1) := by decide +kernel
theorem dRG_mirrored_5 : decode c_RG_mirrored 5 = .ok (.iload_n 1, 1) := by decide +kernel
theorem dRG_mirrored_6 : decode c_RG_mirrored 6 = .ok (.if_icmp .ge 19, 3) := by decide +kernel
theorem dRG_mirrored_9 : decode c_RG_mirrored 9 = .ok (.iload_n 2, 1) := by decide +kernel
theorem dRG_mirrored_10 : decode c_RG_mirrored 10 = .ok (.iconst 1, 1) := by decide +kernel
theorem dRG_mirrored_11 : decode c_RG_mirrored 11 = .ok (.ishl, 1) := by decide +kernel
theorem dRG_mirrored_12 : decode c_RG_mirrored 12 = .ok (.iload_n 0, 1) := by decide +kernel
theorem dRG_mirrored_13 : decode c_RG_mirrored 13 = .ok (.iload_n 3, 1) := by decide +kernel
theorem dRG_mirrored_14 : decode c_RG_mirrored 14 = .ok (.ishr, 1) := by decide +kernel
theorem dRG_mirrored_15 : decode c_RG_mirrored 15 = .ok (.iconst 1, 1) := by decide +kernel
theorem dRG_mirrored_16 : decode c_RG_mirrored 16 = .ok (.iand, 1) := by decide +kernel
theorem dRG_mirrored_17 : decode c_RG_mirrored 17 = .ok (.ior, 1) := by decide +kernel
theorem dRG_mirrored_18 : decode c_RG_mirrored 18 = .ok (.istore_n 2, 1) := by decide +kernel
theorem dRG_mirrored_19 : decode c_RG_mirrored 19 = .ok (.iinc 3 1, 3) := by decide +kernel
theorem dRG_mirrored_22 : decode c_RG_mirrored 22 = .ok (.goto (-18), 3) := by decide +kernel
theorem dRG_mirrored_25 : decode c_RG_mirrored 25 = .ok (.iload_n 2, 1) := by decide +kernel
theorem dRG_mirrored_26 : decode c_RG_mirrored 26 = .ok (.ireturn, 1) := by decide +kernel
set_option maxHeartbeats 4000000 in
set_option maxRecDepth 100000 in
theorem m_RG_mirrored (l : Launch) (g : Gd) (sz : Nat) (i b : Nat) (hi : i < 65536) (hbb : b ≤ 8) : Met l y_RG_mirrored w_RG_mirrored ({ frames := 0, cells := 0, slots := 0, locals := 0 } : Room) (va_Pc [.int (nI i), .int (nI b)] (pr (en g) g.1 vcl sz [])) (va_Qi (fun (r : Int32) (u : Unit) => ∃ z : Nat, z < 2 ^ b ∧ r = nI z) (po g.1 vcl (va_A [] sz) (fun (u : Unit) => [])) (va_A [] sz)) 0 0 (va_A [] sz) := by
  refine mc_entry (cc := c_RG_mirrored) (maxL := 4) (ret := (some .int)) (by decide) rfl (Nat.le_of_ble_eq_true rfl) ?_
  intro p e s m args below meth c ls F hr hlk hnm hsz hP hD hE hA hl
  obtain ⟨hx, hb, hml, hown, hts⟩ := id F
  have hK := hE.1
  generalize va_A [] sz = A at hD hE hA ⊢
  have hS : va_S A s.heap s.heap [] := va_S.rf
  have hl : lv_has ls 4 [(0, .int (nI i)), (1, .int (nI b))] := hl
  have loop : ∀ (n k v : Nat) (ls : Array Slot), n + k = b → v < 2 ^ k → lv_has ls 4 [(3, .int (nI k)), (2, .int (nI v)), (0, .int (nI i)), (1, .int (nI b))] → W p l e ({ frames := 0, cells := 0, slots := 0, locals := 0 } : Room) s m args below meth c s.heap [] 0 0 (MQ below (va_Qi (fun (r : Int32) (u : Unit) => ∃ z : Nat, z < 2 ^ b ∧ r = nI z) (po g.1 vcl A (fun (u : Unit) => [])) A) args s 0 0 A) (F0 m 4 ls []) := by
    intro n
    induction n with
    | zero =>
      intro k v ls hk hv hl
      refine lv_iload_n hx hb dRG_mirrored_4 rfl (lv_at hl 0 rfl) ?_
      refine lv_iload_n hx hb dRG_mirrored_5 rfl (lv_at hl 3 rfl) ?_
      refine mi_ge (tgt := 25) hx hb dRG_mirrored_6 (by decide) (by omega) (by omega) (fun h1 => ?_) (fun h1 => absurd h1 (by omega))
      refine lv_iload_n hx hb dRG_mirrored_25 rfl (lv_at hl 1 rfl) ?_
      exact mc_iret hx hb hr hlk hP hD hS () ⟨v, by rw [show b = k by omega]; exact hv, rfl⟩ [] rfl rfl (by omega) (by omega) dRG_mirrored_26
    | succ n ih =>
      intro k v ls hk hv hl
      have hv8 : v < 2 ^ 8 := Nat.lt_of_lt_of_le hv (Nat.pow_le_pow_right (by decide) (by omega))
      refine lv_iload_n hx hb dRG_mirrored_4 rfl (lv_at hl 0 rfl) ?_
      refine lv_iload_n hx hb dRG_mirrored_5 rfl (lv_at hl 3 rfl) ?_
      refine mi_ge (tgt := 25) hx hb dRG_mirrored_6 (by decide) (by omega) (by omega) (fun h1 => absurd h1 (by omega)) (fun h1 => ?_)
      refine lv_iload_n hx hb dRG_mirrored_9 rfl (lv_at hl 1 rfl) ?_
      refine lv_iconst (v := nI 1) hx hb dRG_mirrored_10 (by decide) ?_
      refine mi_ishl hx hb dRG_mirrored_11 (by omega) (by decide) ?_
      refine lv_iload_n hx hb dRG_mirrored_12 rfl (lv_at hl 2 rfl) ?_
      refine lv_iload_n hx hb dRG_mirrored_13 rfl (lv_at hl 0 rfl) ?_
      refine lv_ishr hx hb dRG_mirrored_14 ?_
      refine mi_any (fun z1 => ?_)
      refine lv_iconst (v := nI 1) hx hb dRG_mirrored_15 (by decide) ?_
      refine mi_iand hx hb 1 dRG_mirrored_16 (by decide) (fun z hz => ?_)
      refine mi_ior hx hb (k + 1) dRG_mirrored_17 (by rw [Nat.pow_succ]; omega) (Nat.lt_of_lt_of_le hz (Nat.pow_le_pow_right (by decide) (by omega))) (fun v1 hv1 => ?_)
      refine lv_istore_n (lv' := [(2, .int (nI v1)), (3, .int (nI k)), (0, .int (nI i)), (1, .int (nI b))]) hx hb dRG_mirrored_18 rfl hl (by decide) rfl (fun ls hl => ?_)
      refine mi_iinc (k := 1) (x := k) (d := 1) (y := k + 1) (lv' := [(3, .int (nI (k + 1))), (2, .int (nI v1)), (0, .int (nI i)), (1, .int (nI b))]) hx hb dRG_mirrored_19 hl rfl (by decide) rfl (by decide) rfl (fun ls hl => ?_)
      refine lv_goto (tgt := 4) hx hb dRG_mirrored_22 (by decide) ?_
      exact ih (k + 1) v1 ls (by omega) hv1 (lv_sub hl [0, 1, 2, 3] rfl)
  refine lv_iconst (v := nI 0) hx hb dRG_mirrored_0 (by decide) ?_
  refine lv_istore_n (lv' := [(2, .int (nI 0)), (0, .int (nI i)), (1, .int (nI b))]) hx hb dRG_mirrored_1 rfl hl (by decide) rfl (fun ls hl => ?_)
  refine lv_iconst (v := nI 0) hx hb dRG_mirrored_2 (by decide) ?_
  refine lv_istore_n (lv' := [(3, .int (nI 0)), (2, .int (nI 0)), (0, .int (nI i)), (1, .int (nI b))]) hx hb dRG_mirrored_3 rfl hl (by decide) rfl (fun ls hl => ?_)
  exact loop b 0 0 ls (by omega) (by decide) (lv_sub hl [0, 1, 2, 3] rfl)
