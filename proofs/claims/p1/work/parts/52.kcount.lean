abbrev c_K_count : ByteArray := prog_1_method_17_code
abbrev y_K_count : MethodName := ⟨"LatticeKeys", "count", "(I)I"⟩
abbrev w_K_count : List Cond := Cond.code y_K_count c_K_count 2 (some .int) :: WG
theorem dK_count_0 : decode c_K_count 0 = .ok (.iload_n 1, 1) := by decide +kernel
theorem dK_count_1 : decode c_K_count 1 = .ok (.tableswitch 42 0 2 #[27, 32, 37], 27) := by decide +kernel
theorem dK_count_28 : decode c_K_count 28 = .ok (.aload_n 0, 1) := by decide +kernel
theorem dK_count_29 : decode c_K_count 29 = .ok (.getfield 13, 3) := by decide +kernel
theorem dK_count_32 : decode c_K_count 32 = .ok (.ireturn, 1) := by decide +kernel
theorem dK_count_33 : decode c_K_count 33 = .ok (.aload_n 0, 1) := by decide +kernel
theorem dK_count_34 : decode c_K_count 34 = .ok (.getfield 29, 3) := by decide +kernel
theorem dK_count_37 : decode c_K_count 37 = .ok (.ireturn, 1) := by decide +kernel
theorem dK_count_38 : decode c_K_count 38 = .ok (.aload_n 0, 1) := by decide +kernel
theorem dK_count_39 : decode c_K_count 39 = .ok (.getfield 20, 3) := by decide +kernel
theorem dK_count_42 : decode c_K_count 42 = .ok (.ireturn, 1) := by decide +kernel
theorem dK_count_43 : decode c_K_count 43 = .ok (.iconst (-1), 1) := by decide +kernel
theorem dK_count_44 : decode c_K_count 44 = .ok (.ireturn, 1) := by decide +kernel
def cnt (v : Int32) : Int32 := if v = 0 then nI 0 else if v = 1 then nI 0 else if v = 2 then nI 0 else -1
set_option maxHeartbeats 400000 in
set_option maxRecDepth 100000 in
theorem m_K_count (l : Launch) (g : Gd) (sz : Nat) (h0 : Nat) (u : Nat → Nat) (v : Int32)  : Met l y_K_count w_K_count ({ frames := 0, cells := 0, slots := 0, locals := 0 } : Room) (va_Pc [.ref h0, .int v] (pr (en g) g.1 vcl sz [(h0, .inr (0, [.ref (u 0), .int (nI 0), .ref (u 1), .int (nI 0), .ref (u 12), .int (nI 0), .ref (u 2), .ref (u 3), .ref (u 4), .ref (u 13), .ref (u 14)]))])) (va_Qi (fun (r : Int32) (u : Unit) => r = cnt v) (po g.1 vcl (va_A [(h0, .inr (0, [.ref (u 0), .int (nI 0), .ref (u 1), .int (nI 0), .ref (u 12), .int (nI 0), .ref (u 2), .ref (u 3), .ref (u 4), .ref (u 13), .ref (u 14)]))] sz) (fun (u : Unit) => [])) (va_A [(h0, .inr (0, [.ref (u 0), .int (nI 0), .ref (u 1), .int (nI 0), .ref (u 12), .int (nI 0), .ref (u 2), .ref (u 3), .ref (u 4), .ref (u 13), .ref (u 14)]))] sz)) 0 0 (fun _ => False) := by
  refine mc_entry (cc := c_K_count) (maxL := 2) (ret := (some .int)) (by decide) rfl (Nat.le_of_ble_eq_true rfl) ?_
  intro p e s m args below meth c ls F hr hlk hnm hsz hP hD hE hA hl
  obtain ⟨hx, hb, hml, hown, hts⟩ := id F
  have hK := hE.1
  generalize va_A [(h0, .inr (0, [.ref (u 0), .int (nI 0), .ref (u 1), .int (nI 0), .ref (u 12), .int (nI 0), .ref (u 2), .ref (u 3), .ref (u 4), .ref (u 13), .ref (u 14)]))] sz = A at hD hE hA ⊢
  have hS : va_S A s.heap s.heap [] := va_S.rf
  have hl : lv_has ls 2 [(0, .ref h0), (1, .int v)] := hl
  refine lv_iload_n hx hb dK_count_0 rfl (lv_at hl 1 rfl) ?_
  by_cases hq0 : v = 0
  · subst hq0
    refine lv_tableIn (off := 27) (tgt := 28) hx hb dK_count_1 (by decide) (by decide) (by decide) (by decide) ?_
    refine lv_aload_n hx hb dK_count_28 rfl (lv_at hl 0 rfl) ?_
    refine va_get (D := g.1) (ci := 0) (C := "LatticeKeys") (T := T_K) (N := 11) hx hb hts (wg_ft i_K) hown hK hP 0 rfl rfl 1 (by decide) (hts _ (wg_t kw_375)) (fun _ h9 => h9) rfl dK_count_29 ?_
    exact mr_iret hx hb hr hlk hP hD hS () rfl [] rfl rfl (by omega) (by omega) dK_count_32
  by_cases hq1 : v = 1
  · subst hq1
    refine lv_tableIn (off := 32) (tgt := 33) hx hb dK_count_1 (by decide) (by decide) (by decide) (by decide) ?_
    refine lv_aload_n hx hb dK_count_33 rfl (lv_at hl 0 rfl) ?_
    refine va_get (D := g.1) (ci := 0) (C := "LatticeKeys") (T := T_K) (N := 11) hx hb hts (wg_ft i_K) hown hK hP 0 rfl rfl 5 (by decide) (hts _ (wg_t kw_379)) (fun _ h9 => h9) rfl dK_count_34 ?_
    exact mr_iret hx hb hr hlk hP hD hS () rfl [] rfl rfl (by omega) (by omega) dK_count_37
  by_cases hq2 : v = 2
  · subst hq2
    refine lv_tableIn (off := 37) (tgt := 38) hx hb dK_count_1 (by decide) (by decide) (by decide) (by decide) ?_
    refine lv_aload_n hx hb dK_count_38 rfl (lv_at hl 0 rfl) ?_
    refine va_get (D := g.1) (ci := 0) (C := "LatticeKeys") (T := T_K) (N := 11) hx hb hts (wg_ft i_K) hown hK hP 0 rfl rfl 3 (by decide) (hts _ (wg_t kw_377)) (fun _ h9 => h9) rfl dK_count_39 ?_
    exact mr_iret hx hb hr hlk hP hD hS () rfl [] rfl rfl (by omega) (by omega) dK_count_42
  refine lv_tableOut (tgt := 43) hx hb dK_count_1 (by have e0 := lv_neT (a := 0) hq0 (by decide); have e1 := lv_neT (a := 1) hq1 (by decide); have e2 := lv_neT (a := 2) hq2 (by decide); omega) (by decide) ?_
  refine lv_iconst (v := (-1)) hx hb dK_count_43 (by decide) ?_
  exact mr_iret hx hb hr hlk hP hD hS () (by unfold cnt; rw [if_neg hq0, if_neg hq1, if_neg hq2]) [] rfl rfl (by omega) (by omega) dK_count_44
