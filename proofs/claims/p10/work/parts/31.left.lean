set_option linter.all false
abbrev c_MS_left : ByteArray := prog_16_method_2_code
abbrev y_MS_left : MethodName := ⟨"LatticeKeysModel$Sponge", "left", "(JI)J"⟩
abbrev w_MS_left : List Cond := Cond.code y_MS_left c_MS_left 3 (some .long) :: WG
theorem dMS_left_0 : decode c_MS_left 0 = .ok (.lload_n 0, 1) := by decide +kernel
theorem dMS_left_1 : decode c_MS_left 1 = .ok (.iload_n 2, 1) := by decide +kernel
theorem dMS_left_2 : decode c_MS_left 2 = .ok (.lshl, 1) := by decide +kernel
theorem dMS_left_3 : decode c_MS_left 3 = .ok (.lload_n 0, 1) := by decide +kernel
theorem dMS_left_4 : decode c_MS_left 4 = .ok (.iconst 1, 1) := by decide +kernel
theorem dMS_left_5 : decode c_MS_left 5 = .ok (.lushr, 1) := by decide +kernel
theorem dMS_left_6 : decode c_MS_left 6 = .ok (.bipush 63, 2) := by decide +kernel
theorem dMS_left_8 : decode c_MS_left 8 = .ok (.iload_n 2, 1) := by decide +kernel
theorem dMS_left_9 : decode c_MS_left 9 = .ok (.isub, 1) := by decide +kernel
theorem dMS_left_10 : decode c_MS_left 10 = .ok (.lushr, 1) := by decide +kernel
theorem dMS_left_11 : decode c_MS_left 11 = .ok (.lor, 1) := by decide +kernel
theorem dMS_left_12 : decode c_MS_left 12 = .ok (.lreturn, 1) := by decide +kernel
set_option maxHeartbeats 400000 in
set_option maxRecDepth 100000 in
theorem m_MS_left (l : Launch) (g : Gd) (sz : Nat) (v : Int64) (k : Int32)  : Met l y_MS_left w_MS_left ({ frames := 0, cells := 0, slots := 0, locals := 0 } : Room) (va_Pc [.long v, .int k] (pr (en g) g.1 vcl sz [])) (va_Ql (fun (r : Int64) (u : Unit) => True) (po g.1 vcl (va_A [] sz) (fun (u : Unit) => [])) (va_A [] sz)) 0 0 (va_A [] sz) := by
  refine mc_entry (cc := c_MS_left) (maxL := 3) (ret := (some .long)) (by decide) rfl (Nat.le_of_ble_eq_true rfl) ?_
  intro p e s m args below meth c ls F hr hlk hnm hsz hP hD hE hA hl
  obtain ⟨hx, hb, hml, hown, hts⟩ := id F
  have hK := hE.1
  generalize va_A [] sz = A at hD hE hA ⊢
  have hS : va_S A s.heap s.heap [] := va_S.rf
  have hl : lv_has ls 3 [(0, .long v), (2, .int k)] := hl
  refine lv_lload_n hx hb dMS_left_0 rfl (lv_at hl 0 rfl) ?_
  refine lv_iload_n hx hb dMS_left_1 rfl (lv_at hl 1 rfl) ?_
  refine lv_lshl hx hb dMS_left_2 rfl ?_
  refine ml_any (fun y1 => ?_)
  refine lv_lload_n hx hb dMS_left_3 rfl (lv_at hl 0 rfl) ?_
  refine lv_iconst (v := nI 1) hx hb dMS_left_4 (by decide) ?_
  refine lv_lushr hx hb dMS_left_5 rfl ?_
  refine ml_any (fun y2 => ?_)
  refine lv_bipush (v := nI 63) hx hb dMS_left_6 (by decide) ?_
  refine lv_iload_n hx hb dMS_left_8 rfl (lv_at hl 1 rfl) ?_
  refine lv_isub hx hb dMS_left_9 ?_
  refine mi_any (fun z1 => ?_)
  refine lv_lushr hx hb dMS_left_10 rfl ?_
  refine ml_any (fun y3 => ?_)
  refine lv_lor hx hb dMS_left_11 ?_
  refine ml_any (fun y4 => ?_)
  exact mc_lret hx hb hr hlk hP hD hS () trivial [] rfl rfl (by omega) (by omega) dMS_left_12
