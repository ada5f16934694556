set_option linter.all false
abbrev c_KP_init : ByteArray := prog_8_method_1_code
abbrev y_KP_init : MethodName := ⟨"LatticeKeys$KeyPair", "<init>", "(I[B[B)V"⟩
abbrev w_KP_init : List Cond := Cond.code y_KP_init c_KP_init 4 none :: WG
theorem dKP_init_0 : decode c_KP_init 0 = .ok (.aload_n 0, 1) := by decide +kernel
theorem dKP_init_1 : decode c_KP_init 1 = .ok (.invokespecial 1, 3) := by decide +kernel
theorem dKP_init_4 : decode c_KP_init 4 = .ok (.aload_n 0, 1) := by decide +kernel
theorem dKP_init_5 : decode c_KP_init 5 = .ok (.iload_n 1, 1) := by decide +kernel
theorem dKP_init_6 : decode c_KP_init 6 = .ok (.putfield 7, 3) := by decide +kernel
theorem dKP_init_9 : decode c_KP_init 9 = .ok (.aload_n 0, 1) := by decide +kernel
theorem dKP_init_10 : decode c_KP_init 10 = .ok (.aload_n 2, 1) := by decide +kernel
theorem dKP_init_11 : decode c_KP_init 11 = .ok (.putfield 13, 3) := by decide +kernel
theorem dKP_init_14 : decode c_KP_init 14 = .ok (.aload_n 0, 1) := by decide +kernel
theorem dKP_init_15 : decode c_KP_init 15 = .ok (.aload_n 3, 1) := by decide +kernel
theorem dKP_init_16 : decode c_KP_init 16 = .ok (.putfield 17, 3) := by decide +kernel
theorem dKP_init_19 : decode c_KP_init 19 = .ok (.return_, 1) := by decide +kernel
abbrev c_K_isSet : ByteArray := prog_1_method_19_code
abbrev y_K_isSet : MethodName := ⟨"LatticeKeys", "isSet", "(I)Z"⟩
abbrev w_K_isSet : List Cond := Cond.code y_K_isSet c_K_isSet 1 (some .boolean) :: WG
theorem dK_isSet_0 : decode c_K_isSet 0 = .ok (.iload_n 0, 1) := by decide +kernel
theorem dK_isSet_1 : decode c_K_isSet 1 = .ok (.ifCond .lt 13, 3) := by decide +kernel
theorem dK_isSet_4 : decode c_K_isSet 4 = .ok (.iload_n 0, 1) := by decide +kernel
theorem dK_isSet_5 : decode c_K_isSet 5 = .ok (.bipush 6, 2) := by decide +kernel
theorem dK_isSet_7 : decode c_K_isSet 7 = .ok (.if_icmp .ge 7, 3) := by decide +kernel
theorem dK_isSet_10 : decode c_K_isSet 10 = .ok (.iconst 1, 1) := by decide +kernel
theorem dK_isSet_11 : decode c_K_isSet 11 = .ok (.goto 4, 3) := by decide +kernel
theorem dK_isSet_14 : decode c_K_isSet 14 = .ok (.iconst 0, 1) := by decide +kernel
theorem dK_isSet_15 : decode c_K_isSet 15 = .ok (.ireturn, 1) := by decide +kernel
abbrev c_K_seedLength : ByteArray := prog_1_method_20_code
abbrev y_K_seedLength : MethodName := ⟨"LatticeKeys", "seedLength", "(I)I"⟩
abbrev w_K_seedLength : List Cond := Cond.code y_K_seedLength c_K_seedLength 1 (some .int) :: WG
theorem dK_seedLength_0 : decode c_K_seedLength 0 = .ok (.iload_n 0, 1) := by decide +kernel
theorem dK_seedLength_1 : decode c_K_seedLength 1 = .ok (.iconst 3, 1) := by decide +kernel
theorem dK_seedLength_2 : decode c_K_seedLength 2 = .ok (.if_icmp .ge 8, 3) := by decide +kernel
theorem dK_seedLength_5 : decode c_K_seedLength 5 = .ok (.bipush 64, 2) := by decide +kernel
theorem dK_seedLength_7 : decode c_K_seedLength 7 = .ok (.goto 5, 3) := by decide +kernel
theorem dK_seedLength_10 : decode c_K_seedLength 10 = .ok (.bipush 32, 2) := by decide +kernel
theorem dK_seedLength_12 : decode c_K_seedLength 12 = .ok (.ireturn, 1) := by decide +kernel
abbrev c_K_publicLength : ByteArray := prog_1_method_21_code
abbrev y_K_publicLength : MethodName := ⟨"LatticeKeys", "publicLength", "(I)I"⟩
abbrev w_K_publicLength : List Cond := Cond.code y_K_publicLength c_K_publicLength 2 (some .int) :: WG
theorem dK_publicLength_0 : decode c_K_publicLength 0 = .ok (.iload_n 1, 1) := by decide +kernel
theorem dK_publicLength_1 : decode c_K_publicLength 1 = .ok (.iconst 3, 1) := by decide +kernel
theorem dK_publicLength_2 : decode c_K_publicLength 2 = .ok (.if_icmp .ge 15, 3) := by decide +kernel
theorem dK_publicLength_5 : decode c_K_publicLength 5 = .ok (.aload_n 0, 1) := by decide +kernel
theorem dK_publicLength_6 : decode c_K_publicLength 6 = .ok (.getfield 34, 3) := by decide +kernel
theorem dK_publicLength_9 : decode c_K_publicLength 9 = .ok (.iload_n 1, 1) := by decide +kernel
theorem dK_publicLength_10 : decode c_K_publicLength 10 = .ok (.aaload, 1) := by decide +kernel
theorem dK_publicLength_11 : decode c_K_publicLength 11 = .ok (.getfield 243, 3) := by decide +kernel
theorem dK_publicLength_14 : decode c_K_publicLength 14 = .ok (.goto 14, 3) := by decide +kernel
theorem dK_publicLength_17 : decode c_K_publicLength 17 = .ok (.aload_n 0, 1) := by decide +kernel
theorem dK_publicLength_18 : decode c_K_publicLength 18 = .ok (.getfield 40, 3) := by decide +kernel
theorem dK_publicLength_21 : decode c_K_publicLength 21 = .ok (.iload_n 1, 1) := by decide +kernel
theorem dK_publicLength_22 : decode c_K_publicLength 22 = .ok (.iconst 3, 1) := by decide +kernel
theorem dK_publicLength_23 : decode c_K_publicLength 23 = .ok (.isub, 1) := by decide +kernel
theorem dK_publicLength_24 : decode c_K_publicLength 24 = .ok (.aaload, 1) := by decide +kernel
theorem dK_publicLength_25 : decode c_K_publicLength 25 = .ok (.getfield 245, 3) := by decide +kernel
theorem dK_publicLength_28 : decode c_K_publicLength 28 = .ok (.ireturn, 1) := by decide +kernel
abbrev c_K_secretLength : ByteArray := prog_1_method_22_code
abbrev y_K_secretLength : MethodName := ⟨"LatticeKeys", "secretLength", "(I)I"⟩
abbrev w_K_secretLength : List Cond := Cond.code y_K_secretLength c_K_secretLength 2 (some .int) :: WG
theorem dK_secretLength_0 : decode c_K_secretLength 0 = .ok (.iload_n 1, 1) := by decide +kernel
theorem dK_secretLength_1 : decode c_K_secretLength 1 = .ok (.iconst 3, 1) := by decide +kernel
theorem dK_secretLength_2 : decode c_K_secretLength 2 = .ok (.if_icmp .ge 15, 3) := by decide +kernel
theorem dK_secretLength_5 : decode c_K_secretLength 5 = .ok (.aload_n 0, 1) := by decide +kernel
theorem dK_secretLength_6 : decode c_K_secretLength 6 = .ok (.getfield 34, 3) := by decide +kernel
theorem dK_secretLength_9 : decode c_K_secretLength 9 = .ok (.iload_n 1, 1) := by decide +kernel
theorem dK_secretLength_10 : decode c_K_secretLength 10 = .ok (.aaload, 1) := by decide +kernel
theorem dK_secretLength_11 : decode c_K_secretLength 11 = .ok (.getfield 246, 3) := by decide +kernel
theorem dK_secretLength_14 : decode c_K_secretLength 14 = .ok (.goto 14, 3) := by decide +kernel
theorem dK_secretLength_17 : decode c_K_secretLength 17 = .ok (.aload_n 0, 1) := by decide +kernel
theorem dK_secretLength_18 : decode c_K_secretLength 18 = .ok (.getfield 40, 3) := by decide +kernel
theorem dK_secretLength_21 : decode c_K_secretLength 21 = .ok (.iload_n 1, 1) := by decide +kernel
theorem dK_secretLength_22 : decode c_K_secretLength 22 = .ok (.iconst 3, 1) := by decide +kernel
theorem dK_secretLength_23 : decode c_K_secretLength 23 = .ok (.isub, 1) := by decide +kernel
theorem dK_secretLength_24 : decode c_K_secretLength 24 = .ok (.aaload, 1) := by decide +kernel
theorem dK_secretLength_25 : decode c_K_secretLength 25 = .ok (.getfield 248, 3) := by decide +kernel
theorem dK_secretLength_28 : decode c_K_secretLength 28 = .ok (.ireturn, 1) := by decide +kernel
abbrev c_K_keep : ByteArray := prog_1_method_26_code
abbrev y_K_keep : MethodName := ⟨"LatticeKeys", "keep", "(LLatticeKeys$KeyPair;)I"⟩
abbrev w_K_keep : List Cond := Cond.code y_K_keep c_K_keep 2 (some .int) :: WG
theorem dK_keep_0 : decode c_K_keep 0 = .ok (.aload_n 0, 1) := by decide +kernel
theorem dK_keep_1 : decode c_K_keep 1 = .ok (.getfield 25, 3) := by decide +kernel
theorem dK_keep_4 : decode c_K_keep 4 = .ok (.aload_n 0, 1) := by decide +kernel
theorem dK_keep_5 : decode c_K_keep 5 = .ok (.getfield 29, 3) := by decide +kernel
theorem dK_keep_8 : decode c_K_keep 8 = .ok (.aload_n 1, 1) := by decide +kernel
theorem dK_keep_9 : decode c_K_keep 9 = .ok (.aastore, 1) := by decide +kernel
theorem dK_keep_10 : decode c_K_keep 10 = .ok (.aload_n 0, 1) := by decide +kernel
theorem dK_keep_11 : decode c_K_keep 11 = .ok (.dup, 1) := by decide +kernel
theorem dK_keep_12 : decode c_K_keep 12 = .ok (.getfield 29, 3) := by decide +kernel
theorem dK_keep_15 : decode c_K_keep 15 = .ok (.iconst 1, 1) := by decide +kernel
theorem dK_keep_16 : decode c_K_keep 16 = .ok (.iadd, 1) := by decide +kernel
theorem dK_keep_17 : decode c_K_keep 17 = .ok (.putfield 29, 3) := by decide +kernel
theorem dK_keep_20 : decode c_K_keep 20 = .ok (.aload_n 0, 1) := by decide +kernel
theorem dK_keep_21 : decode c_K_keep 21 = .ok (.getfield 29, 3) := by decide +kernel
theorem dK_keep_24 : decode c_K_keep 24 = .ok (.iconst 1, 1) := by decide +kernel
theorem dK_keep_25 : decode c_K_keep 25 = .ok (.isub, 1) := by decide +kernel
theorem dK_keep_26 : decode c_K_keep 26 = .ok (.ireturn, 1) := by decide +kernel
set_option maxHeartbeats 400000 in
set_option maxRecDepth 100000 in
theorem m_KP_init_s (l : Launch) (g : Gd) (sz : Nat) (h0 pb sc : Nat) (st : Int32)  : Met l y_KP_init w_KP_init ({ frames := 1, cells := 0, slots := 0, locals := 40 } : Room) (va_Pc [.ref h0, .int st, .ref pb, .ref sc] (pr (en g) g.1 vcl sz [(h0, .inr (13, [.int 0, .null, .null]))])) (va_Qv (fun (u : Unit) => True) (po g.1 vcl (va_A [(h0, .inr (13, [.int 0, .null, .null]))] sz) (fun (u : Unit) => [(h0, .inr (13, [.int st, .ref pb, .ref sc]))])) (va_A [(h0, .inr (13, [.int 0, .null, .null]))] sz)) 0 0 (va_A [(h0, .inr (13, [.int 0, .null, .null]))] sz) := by
  refine mc_entry (cc := c_KP_init) (maxL := 4) (ret := none) (by decide) rfl (Nat.le_of_ble_eq_true rfl) ?_
  intro p e s m args below meth c ls F hr hlk hnm hsz hP hD hE hA hl
  obtain ⟨hx, hb, hml, hown, hts⟩ := id F
  have hK := hE.1
  generalize va_A [(h0, .inr (13, [.int 0, .null, .null]))] sz = A at hD hE hA ⊢
  have hS : va_S A s.heap s.heap [] := va_S.rf
  have hl : lv_has ls 4 [(0, .ref h0), (1, .int st), (2, .ref pb), (3, .ref sc)] := hl
  refine lv_aload_n hx hb dKP_init_0 rfl (lv_at hl 0 rfl) ?_
  refine W.objInit hx hb hown (hts _ (wg_t kw_744)) (hts _ (wg_t kw_41)) (hts _ (wg_t kobj)) rfl (by rw [hml]; exact hl.1) rfl dKP_init_1 (Nat.le_of_ble_eq_true rfl) (Nat.le_of_ble_eq_true rfl) ?_
  refine W.eq (g2 := F0 m 4 ls []) rfl ?_
  refine lv_aload_n hx hb dKP_init_4 rfl (lv_at hl 0 rfl) ?_
  refine lv_iload_n hx hb dKP_init_5 rfl (lv_at hl 1 rfl) ?_
  refine va_putF (D := g.1) (ci := 13) (v := .int st) (ty := .int) (C := "LatticeKeys$KeyPair") (T := T_KP) (N := 3) hx hb hts (wg_ft i_KP) ty_KP k_KP n_KP hown hK hP hD hS 0 rfl rfl 0 (by decide) (hts _ (wg_t kw_745)) (fun _ h9 => h9) rfl hnm rfl (by decide +kernel) rfl rfl (Nat.le_of_ble_eq_true rfl) dKP_init_6 (fun H locs hP hD hS => ?_)
  have hP : va_P g.1 vcl [(h0, .inr (13, [.int st, .null, .null]))] _ := hP
  have hD : va_D _ [(h0, .inr (13, [.int st, .null, .null]))] := hD
  refine lv_aload_n hx hb dKP_init_9 rfl (lv_at hl 0 rfl) ?_
  refine lv_aload_n hx hb dKP_init_10 rfl (lv_at hl 2 rfl) ?_
  refine va_putF (D := g.1) (ci := 13) (v := .ref pb) (ty := .array .byte) (C := "LatticeKeys$KeyPair") (T := T_KP) (N := 3) hx hb hts (wg_ft i_KP) ty_KP k_KP n_KP hown hK hP hD hS 0 rfl rfl 1 (by decide) (hts _ (wg_t kw_747)) (fun _ h9 => h9) rfl hnm rfl (by decide +kernel) rfl rfl (Nat.le_of_ble_eq_true rfl) dKP_init_11 (fun H locs hP hD hS => ?_)
  have hP : va_P g.1 vcl [(h0, .inr (13, [.int st, .ref pb, .null]))] _ := hP
  have hD : va_D _ [(h0, .inr (13, [.int st, .ref pb, .null]))] := hD
  refine lv_aload_n hx hb dKP_init_14 rfl (lv_at hl 0 rfl) ?_
  refine lv_aload_n hx hb dKP_init_15 rfl (lv_at hl 3 rfl) ?_
  refine va_putF (D := g.1) (ci := 13) (v := .ref sc) (ty := .array .byte) (C := "LatticeKeys$KeyPair") (T := T_KP) (N := 3) hx hb hts (wg_ft i_KP) ty_KP k_KP n_KP hown hK hP hD hS 0 rfl rfl 2 (by decide) (hts _ (wg_t kw_750)) (fun _ h9 => h9) rfl hnm rfl (by decide +kernel) rfl rfl (Nat.le_of_ble_eq_true rfl) dKP_init_16 (fun H locs hP hD hS => ?_)
  have hP : va_P g.1 vcl [(h0, .inr (13, [.int st, .ref pb, .ref sc]))] _ := hP
  have hD : va_D _ [(h0, .inr (13, [.int st, .ref pb, .ref sc]))] := hD
  exact mc_vret hx hb hr hlk hP hD hS () trivial [0] rfl rfl (by omega) (by omega) dKP_init_19
set_option maxHeartbeats 400000 in
set_option maxRecDepth 100000 in
theorem m_KP_init_n (l : Launch) (g : Gd) (sz : Nat) (h0 pb : Nat) (st : Int32)  : Met l y_KP_init w_KP_init ({ frames := 1, cells := 0, slots := 0, locals := 40 } : Room) (va_Pc [.ref h0, .int st, .ref pb, .null] (pr (en g) g.1 vcl sz [(h0, .inr (13, [.int 0, .null, .null]))])) (va_Qv (fun (u : Unit) => True) (po g.1 vcl (va_A [(h0, .inr (13, [.int 0, .null, .null]))] sz) (fun (u : Unit) => [(h0, .inr (13, [.int st, .ref pb, .null]))])) (va_A [(h0, .inr (13, [.int 0, .null, .null]))] sz)) 0 0 (va_A [(h0, .inr (13, [.int 0, .null, .null]))] sz) := by
  refine mc_entry (cc := c_KP_init) (maxL := 4) (ret := none) (by decide) rfl (Nat.le_of_ble_eq_true rfl) ?_
  intro p e s m args below meth c ls F hr hlk hnm hsz hP hD hE hA hl
  obtain ⟨hx, hb, hml, hown, hts⟩ := id F
  have hK := hE.1
  generalize va_A [(h0, .inr (13, [.int 0, .null, .null]))] sz = A at hD hE hA ⊢
  have hS : va_S A s.heap s.heap [] := va_S.rf
  have hl : lv_has ls 4 [(0, .ref h0), (1, .int st), (2, .ref pb), (3, .null)] := hl
  refine lv_aload_n hx hb dKP_init_0 rfl (lv_at hl 0 rfl) ?_
  refine W.objInit hx hb hown (hts _ (wg_t kw_744)) (hts _ (wg_t kw_41)) (hts _ (wg_t kobj)) rfl (by rw [hml]; exact hl.1) rfl dKP_init_1 (Nat.le_of_ble_eq_true rfl) (Nat.le_of_ble_eq_true rfl) ?_
  refine W.eq (g2 := F0 m 4 ls []) rfl ?_
  refine lv_aload_n hx hb dKP_init_4 rfl (lv_at hl 0 rfl) ?_
  refine lv_iload_n hx hb dKP_init_5 rfl (lv_at hl 1 rfl) ?_
  refine va_putF (D := g.1) (ci := 13) (v := .int st) (ty := .int) (C := "LatticeKeys$KeyPair") (T := T_KP) (N := 3) hx hb hts (wg_ft i_KP) ty_KP k_KP n_KP hown hK hP hD hS 0 rfl rfl 0 (by decide) (hts _ (wg_t kw_745)) (fun _ h9 => h9) rfl hnm rfl (by decide +kernel) rfl rfl (Nat.le_of_ble_eq_true rfl) dKP_init_6 (fun H locs hP hD hS => ?_)
  have hP : va_P g.1 vcl [(h0, .inr (13, [.int st, .null, .null]))] _ := hP
  have hD : va_D _ [(h0, .inr (13, [.int st, .null, .null]))] := hD
  refine lv_aload_n hx hb dKP_init_9 rfl (lv_at hl 0 rfl) ?_
  refine lv_aload_n hx hb dKP_init_10 rfl (lv_at hl 2 rfl) ?_
  refine va_putF (D := g.1) (ci := 13) (v := .ref pb) (ty := .array .byte) (C := "LatticeKeys$KeyPair") (T := T_KP) (N := 3) hx hb hts (wg_ft i_KP) ty_KP k_KP n_KP hown hK hP hD hS 0 rfl rfl 1 (by decide) (hts _ (wg_t kw_747)) (fun _ h9 => h9) rfl hnm rfl (by decide +kernel) rfl rfl (Nat.le_of_ble_eq_true rfl) dKP_init_11 (fun H locs hP hD hS => ?_)
  have hP : va_P g.1 vcl [(h0, .inr (13, [.int st, .ref pb, .null]))] _ := hP
  have hD : va_D _ [(h0, .inr (13, [.int st, .ref pb, .null]))] := hD
  refine lv_aload_n hx hb dKP_init_14 rfl (lv_at hl 0 rfl) ?_
  refine lv_aload_nN hx hb dKP_init_15 rfl (lv_at hl 3 rfl) ?_
  refine va_putF (D := g.1) (ci := 13) (v := .null) (ty := .array .byte) (C := "LatticeKeys$KeyPair") (T := T_KP) (N := 3) hx hb hts (wg_ft i_KP) ty_KP k_KP n_KP hown hK hP hD hS 0 rfl rfl 2 (by decide) (hts _ (wg_t kw_750)) (fun _ h9 => h9) rfl hnm rfl (by decide +kernel) rfl rfl (Nat.le_of_ble_eq_true rfl) dKP_init_16 (fun H locs hP hD hS => ?_)
  have hP : va_P g.1 vcl [(h0, .inr (13, [.int st, .ref pb, .null]))] _ := hP
  have hD : va_D _ [(h0, .inr (13, [.int st, .ref pb, .null]))] := hD
  exact mc_vret hx hb hr hlk hP hD hS () trivial [0] rfl rfl (by omega) (by omega) dKP_init_19
def M_K_isSet (k : Nat) : Prop := (0 : Nat) = 1
noncomputable def F_K_isSet (v : Int32) (s : Sto) : Int32 × Sto := if v < 0 then (nI 0, s) else if (nI 6) ≤ v then (nI 0, s) else bnd (v.toNatClampNeg) fun z21 => (nI 1, s)
set_option maxHeartbeats 2000000 in
set_option maxRecDepth 100000 in
theorem N_K_isSet (l : Launch) (g : Gd) (sz : Nat) (T : TyN) (s : Sto) (pl : va_W) (hO : okn g T s pl) (hU : inj T) (v : Int32)   : Met l y_K_isSet w_K_isSet ({ frames := 0, cells := 0, slots := 0, locals := 0 } : Room) (va_Pc [.int v] (pr (en g) g.1 vcl sz ([] ++ pl))) (va_Qi (fun (r : Int32) (u : (Int32 × Sto) × va_W) => (u.1 = F_K_isSet v s ∧ r = u.1.1 ∧ frm (M_K_isSet) s u.1.2 ∧ (u.1.1 = nI 0 ∨ (u.1.1 = nI 1 ∧ ∃ z : Nat, z < 6 ∧ v = nI z)) ∧ True) ∧ okn g T u.1.2 u.2) (po g.1 vcl (va_A ([] ++ pl) sz) (fun (u : (Int32 × Sto) × va_W) => [] ++ u.2)) (va_A ([] ++ pl) sz)) 0 0 (va_A ([] ++ pl) sz) := by
  refine mc_entry (cc := c_K_isSet) (maxL := 1) (ret := (some .boolean)) (by decide) rfl (Nat.le_of_ble_eq_true rfl) ?_
  intro p e s0 m args below meth c ls F hr hlk hnm hsz hP hD hE hA hl
  obtain ⟨hx, hb, hml, hown, hts⟩ := id F
  have hK := hE.1
  generalize va_A ([] ++ pl) sz = A at hD hE hA ⊢
  have hS : va_S A s0.heap s0.heap [] := va_S.rf
  have hl : lv_has ls 1 [(0, .int v)] := hl
  have hR : F_K_isSet v s = F_K_isSet v s := rfl
  have hF : frm (M_K_isSet) s s := frm_rf
  refine lv_iload_n hx hb dK_isSet_0 rfl (lv_at hl 0 rfl) ?_
  refine lv_if_lt (tgt := 14) hx hb dK_isSet_1 (by decide) (fun h21 => ?_) (fun h21 => ?_)
  · replace hR := hR.trans (if_pos h21)
    refine lv_iconst (v := nI 0) hx hb dK_isSet_14 (by decide) ?_
    exact mp_zret hx hb hr hlk rfl hP hD hS ((nI 0, s), pl) ⟨⟨hR.symm, rfl, hF, (Or.inl rfl), trivial⟩, hO⟩ [] rfl rfl rfl (by omega) (by omega) dK_isSet_15
  · replace hR := hR.trans (if_neg h21)
    refine lv_iload_n hx hb dK_isSet_4 rfl (lv_at hl 0 rfl) ?_
    refine lv_bipush (v := nI 6) hx hb dK_isSet_5 (by decide) ?_
    refine lv_icmp_ge (tgt := 14) hx hb dK_isSet_7 (by decide) (fun h22 => ?_) (fun h22 => ?_)
    · replace hR := hR.trans (if_pos h22)
      refine lv_iconst (v := nI 0) hx hb dK_isSet_14 (by decide) ?_
      exact mp_zret hx hb hr hlk rfl hP hD hS ((nI 0, s), pl) ⟨⟨hR.symm, rfl, hF, (Or.inl rfl), trivial⟩, hO⟩ [] rfl rfl rfl (by omega) (by omega) dK_isSet_15
    · replace hR := hR.trans (if_neg h22)
      obtain ⟨z21, hz21, hv21⟩ := i32_lt h21 (by omega) h22
      have ez21 : z21 = v.toNatClampNeg := by rw [hv21]; exact (nI_clamp (by omega)).symm
      replace hR := bnd_step hR ez21
      rw [hv21] at hl
      refine lv_iconst (v := nI 1) hx hb dK_isSet_10 (by decide) ?_
      refine lv_goto (tgt := 15) hx hb dK_isSet_11 (by decide) ?_
      exact mp_zret hx hb hr hlk rfl hP hD hS ((nI 1, s), pl) ⟨⟨hR.symm, rfl, hF, (Or.inr ⟨rfl, z21, by omega, hv21⟩), trivial⟩, hO⟩ [] rfl rfl rfl (by omega) (by omega) dK_isSet_15
def M_K_seedLength_0 (k : Nat) : Prop := (0 : Nat) = 1
noncomputable def F_K_seedLength_0 (s : Sto) : Int32 × Sto := (nI 64, s)
set_option maxHeartbeats 2000000 in
set_option maxRecDepth 100000 in
theorem N_K_seedLength_0 (l : Launch) (g : Gd) (sz : Nat) (T : TyN) (s : Sto) (pl : va_W) (hO : okn g T s pl) (hU : inj T)   : Met l y_K_seedLength w_K_seedLength ({ frames := 0, cells := 0, slots := 0, locals := 0 } : Room) (va_Pc [.int (nI 0)] (pr (en g) g.1 vcl sz ([] ++ pl))) (va_Qi (fun (r : Int32) (u : (Int32 × Sto) × va_W) => (u.1 = F_K_seedLength_0 s ∧ r = u.1.1 ∧ frm (M_K_seedLength_0) s u.1.2 ∧ (∃ x : Nat, u.1.1 = nI x ∧ x < 65) ∧ (u.1.1 = nI 64) ∧ True) ∧ okn g T u.1.2 u.2) (po g.1 vcl (va_A ([] ++ pl) sz) (fun (u : (Int32 × Sto) × va_W) => [] ++ u.2)) (va_A ([] ++ pl) sz)) 0 0 (va_A ([] ++ pl) sz) := by
  refine mc_entry (cc := c_K_seedLength) (maxL := 1) (ret := (some .int)) (by decide) rfl (Nat.le_of_ble_eq_true rfl) ?_
  intro p e s0 m args below meth c ls F hr hlk hnm hsz hP hD hE hA hl
  obtain ⟨hx, hb, hml, hown, hts⟩ := id F
  have hK := hE.1
  generalize va_A ([] ++ pl) sz = A at hD hE hA ⊢
  have hS : va_S A s0.heap s0.heap [] := va_S.rf
  have hl : lv_has ls 1 [(0, .int (nI 0))] := hl
  have hR : F_K_seedLength_0 s = F_K_seedLength_0 s := rfl
  have hF : frm (M_K_seedLength_0) s s := frm_rf
  refine lv_iload_n hx hb dK_seedLength_0 rfl (lv_at hl 0 rfl) ?_
  refine lv_iconst (v := nI 3) hx hb dK_seedLength_1 (by decide) ?_
  refine mi_ge (tgt := 10) hx hb dK_seedLength_2 (by decide) (by omega) (by omega) (fun h21 => absurd h21 (by omega)) (fun h21 => ?_)
  refine lv_bipush (v := nI 64) hx hb dK_seedLength_5 (by decide) ?_
  refine lv_goto (tgt := 12) hx hb dK_seedLength_7 (by decide) ?_
  exact mp_iret hx hb hr hlk hP hD hS ((nI 64, s), pl) ⟨⟨hR.symm, rfl, hF, ⟨64, rfl, by omega⟩, rfl, trivial⟩, hO⟩ [] rfl rfl rfl (by omega) (by omega) dK_seedLength_12
def M_K_publicLength_0 (k : Nat) : Prop := (0 : Nat) = 1
noncomputable def F_K_publicLength_0 (s : Sto) : Int32 × Sto := (nI 800, s)
set_option maxHeartbeats 2000000 in
set_option maxRecDepth 100000 in
theorem N_K_publicLength_0 (l : Launch) (g : Gd) (sz : Nat) (T : TyN) (s : Sto) (pl : va_W) (hO : okn g T s pl) (hU : inj T) (h0 : Nat) (k_h0 : T h0 = some 0)  : Met l y_K_publicLength w_K_publicLength ({ frames := 0, cells := 0, slots := 0, locals := 0 } : Room) (va_Pc [.ref h0, .int (nI 0)] (pr (en g) g.1 vcl sz ([] ++ pl))) (va_Qi (fun (r : Int32) (u : (Int32 × Sto) × va_W) => (u.1 = F_K_publicLength_0 s ∧ r = u.1.1 ∧ frm (M_K_publicLength_0) s u.1.2 ∧ (∃ x : Nat, u.1.1 = nI x ∧ x < 801) ∧ (u.1.1 = nI 800) ∧ True) ∧ okn g T u.1.2 u.2) (po g.1 vcl (va_A ([] ++ pl) sz) (fun (u : (Int32 × Sto) × va_W) => [] ++ u.2)) (va_A ([] ++ pl) sz)) 0 0 (va_A ([] ++ pl) sz) := by
  refine mc_entry (cc := c_K_publicLength) (maxL := 2) (ret := (some .int)) (by decide) rfl (Nat.le_of_ble_eq_true rfl) ?_
  intro p e s0 m args below meth c ls F hr hlk hnm hsz hP hD hE hA hl
  obtain ⟨hx, hb, hml, hown, hts⟩ := id F
  have hK := hE.1
  generalize va_A ([] ++ pl) sz = A at hD hE hA ⊢
  have hS : va_S A s0.heap s0.heap [] := va_S.rf
  have hl : lv_has ls 2 [(0, .ref h0), (1, .int (nI 0))] := hl
  have hR : F_K_publicLength_0 s = F_K_publicLength_0 s := rfl
  have hF : frm (M_K_publicLength_0) s s := frm_rf
  refine lv_iload_n hx hb dK_publicLength_0 rfl (lv_at hl 1 rfl) ?_
  refine lv_iconst (v := nI 3) hx hb dK_publicLength_1 (by decide) ?_
  refine mi_ge (tgt := 17) hx hb dK_publicLength_2 (by decide) (by omega) (by omega) (fun h21 => absurd h21 (by omega)) (fun h21 => ?_)
  refine lv_aload_n hx hb dK_publicLength_5 rfl (lv_at hl 0 rfl) ?_
  refine nw_get (C := "LatticeKeys") (TT := T_K) (N := 11) hx hb hts (wg_ft i_K) hown hK hO k_h0 (kn := 0) (ci := 0) (fl := [(3, 1), (0, 0), (3, 2), (0, 0), (3, 3), (0, 0), (3, 4), (3, 8), (3, 12), (3, 24), (3, 39)]) rfl hP rfl 6 (by decide) (hts _ (wg_t kw_380)) (fun _ h9 => h9) (cd := (3, 4)) rfl dK_publicLength_6 (fun v21 hv21 => ?_)
  obtain ⟨r21, rfl, kr21⟩ := (show ∃ r : Nat, v21 = .ref r ∧ T r = some 4 from hv21)
  refine lv_iload_n hx hb dK_publicLength_9 rfl (lv_at hl 1 rfl) ?_
  refine nw_aald6 hx hb hK hO kr21 (k := 4) (b := 5) rfl hP (by omega) (by omega) dK_publicLength_10 (fun r22 kr22 => ?_)
  refine nw_get (C := "LatticeKeys$KemSet") (TT := T_KS) (N := 10) hx hb hts (wg_ft i_KS) hown hK hO kr22 (kn := 5) (ci := 1) (fl := [(1, 2), (1, 3), (1, 10), (1, 4), (1, 800), (1, 1632), (1, 768), (1, 768), (1, 1568), (1, 1600)]) rfl hP rfl 4 (by decide) (hts _ (wg_t kw_240)) (fun _ h9 => h9) (cd := (1, 800)) rfl dK_publicLength_11 (fun v22 hv22 => ?_)
  obtain rfl := (show v22 = .int (nI 800) from hv22)
  refine lv_goto (tgt := 28) hx hb dK_publicLength_14 (by decide) ?_
  exact mp_iret hx hb hr hlk hP hD hS ((nI 800, s), pl) ⟨⟨hR.symm, rfl, hF, ⟨800, rfl, by omega⟩, rfl, trivial⟩, hO⟩ [] rfl rfl rfl (by omega) (by omega) dK_publicLength_28
def M_K_secretLength_0 (k : Nat) : Prop := (0 : Nat) = 1
noncomputable def F_K_secretLength_0 (s : Sto) : Int32 × Sto := (nI 1632, s)
set_option maxHeartbeats 2000000 in
set_option maxRecDepth 100000 in
theorem N_K_secretLength_0 (l : Launch) (g : Gd) (sz : Nat) (T : TyN) (s : Sto) (pl : va_W) (hO : okn g T s pl) (hU : inj T) (h0 : Nat) (k_h0 : T h0 = some 0)  : Met l y_K_secretLength w_K_secretLength ({ frames := 0, cells := 0, slots := 0, locals := 0 } : Room) (va_Pc [.ref h0, .int (nI 0)] (pr (en g) g.1 vcl sz ([] ++ pl))) (va_Qi (fun (r : Int32) (u : (Int32 × Sto) × va_W) => (u.1 = F_K_secretLength_0 s ∧ r = u.1.1 ∧ frm (M_K_secretLength_0) s u.1.2 ∧ (∃ x : Nat, u.1.1 = nI x ∧ x < 1633) ∧ (u.1.1 = nI 1632) ∧ True) ∧ okn g T u.1.2 u.2) (po g.1 vcl (va_A ([] ++ pl) sz) (fun (u : (Int32 × Sto) × va_W) => [] ++ u.2)) (va_A ([] ++ pl) sz)) 0 0 (va_A ([] ++ pl) sz) := by
  refine mc_entry (cc := c_K_secretLength) (maxL := 2) (ret := (some .int)) (by decide) rfl (Nat.le_of_ble_eq_true rfl) ?_
  intro p e s0 m args below meth c ls F hr hlk hnm hsz hP hD hE hA hl
  obtain ⟨hx, hb, hml, hown, hts⟩ := id F
  have hK := hE.1
  generalize va_A ([] ++ pl) sz = A at hD hE hA ⊢
  have hS : va_S A s0.heap s0.heap [] := va_S.rf
  have hl : lv_has ls 2 [(0, .ref h0), (1, .int (nI 0))] := hl
  have hR : F_K_secretLength_0 s = F_K_secretLength_0 s := rfl
  have hF : frm (M_K_secretLength_0) s s := frm_rf
  refine lv_iload_n hx hb dK_secretLength_0 rfl (lv_at hl 1 rfl) ?_
  refine lv_iconst (v := nI 3) hx hb dK_secretLength_1 (by decide) ?_
  refine mi_ge (tgt := 17) hx hb dK_secretLength_2 (by decide) (by omega) (by omega) (fun h21 => absurd h21 (by omega)) (fun h21 => ?_)
  refine lv_aload_n hx hb dK_secretLength_5 rfl (lv_at hl 0 rfl) ?_
  refine nw_get (C := "LatticeKeys") (TT := T_K) (N := 11) hx hb hts (wg_ft i_K) hown hK hO k_h0 (kn := 0) (ci := 0) (fl := [(3, 1), (0, 0), (3, 2), (0, 0), (3, 3), (0, 0), (3, 4), (3, 8), (3, 12), (3, 24), (3, 39)]) rfl hP rfl 6 (by decide) (hts _ (wg_t kw_380)) (fun _ h9 => h9) (cd := (3, 4)) rfl dK_secretLength_6 (fun v21 hv21 => ?_)
  obtain ⟨r21, rfl, kr21⟩ := (show ∃ r : Nat, v21 = .ref r ∧ T r = some 4 from hv21)
  refine lv_iload_n hx hb dK_secretLength_9 rfl (lv_at hl 1 rfl) ?_
  refine nw_aald6 hx hb hK hO kr21 (k := 4) (b := 5) rfl hP (by omega) (by omega) dK_secretLength_10 (fun r22 kr22 => ?_)
  refine nw_get (C := "LatticeKeys$KemSet") (TT := T_KS) (N := 10) hx hb hts (wg_ft i_KS) hown hK hO kr22 (kn := 5) (ci := 1) (fl := [(1, 2), (1, 3), (1, 10), (1, 4), (1, 800), (1, 1632), (1, 768), (1, 768), (1, 1568), (1, 1600)]) rfl hP rfl 5 (by decide) (hts _ (wg_t kw_242)) (fun _ h9 => h9) (cd := (1, 1632)) rfl dK_secretLength_11 (fun v22 hv22 => ?_)
  obtain rfl := (show v22 = .int (nI 1632) from hv22)
  refine lv_goto (tgt := 28) hx hb dK_secretLength_14 (by decide) ?_
  exact mp_iret hx hb hr hlk hP hD hS ((nI 1632, s), pl) ⟨⟨hR.symm, rfl, hF, ⟨1632, rfl, by omega⟩, rfl, trivial⟩, hO⟩ [] rfl rfl rfl (by omega) (by omega) dK_secretLength_28
def M_K_seedLength_1 (k : Nat) : Prop := (0 : Nat) = 1
noncomputable def F_K_seedLength_1 (s : Sto) : Int32 × Sto := (nI 64, s)
set_option maxHeartbeats 2000000 in
set_option maxRecDepth 100000 in
theorem N_K_seedLength_1 (l : Launch) (g : Gd) (sz : Nat) (T : TyN) (s : Sto) (pl : va_W) (hO : okn g T s pl) (hU : inj T)   : Met l y_K_seedLength w_K_seedLength ({ frames := 0, cells := 0, slots := 0, locals := 0 } : Room) (va_Pc [.int (nI 1)] (pr (en g) g.1 vcl sz ([] ++ pl))) (va_Qi (fun (r : Int32) (u : (Int32 × Sto) × va_W) => (u.1 = F_K_seedLength_1 s ∧ r = u.1.1 ∧ frm (M_K_seedLength_1) s u.1.2 ∧ (∃ x : Nat, u.1.1 = nI x ∧ x < 65) ∧ (u.1.1 = nI 64) ∧ True) ∧ okn g T u.1.2 u.2) (po g.1 vcl (va_A ([] ++ pl) sz) (fun (u : (Int32 × Sto) × va_W) => [] ++ u.2)) (va_A ([] ++ pl) sz)) 0 0 (va_A ([] ++ pl) sz) := by
  refine mc_entry (cc := c_K_seedLength) (maxL := 1) (ret := (some .int)) (by decide) rfl (Nat.le_of_ble_eq_true rfl) ?_
  intro p e s0 m args below meth c ls F hr hlk hnm hsz hP hD hE hA hl
  obtain ⟨hx, hb, hml, hown, hts⟩ := id F
  have hK := hE.1
  generalize va_A ([] ++ pl) sz = A at hD hE hA ⊢
  have hS : va_S A s0.heap s0.heap [] := va_S.rf
  have hl : lv_has ls 1 [(0, .int (nI 1))] := hl
  have hR : F_K_seedLength_1 s = F_K_seedLength_1 s := rfl
  have hF : frm (M_K_seedLength_1) s s := frm_rf
  refine lv_iload_n hx hb dK_seedLength_0 rfl (lv_at hl 0 rfl) ?_
  refine lv_iconst (v := nI 3) hx hb dK_seedLength_1 (by decide) ?_
  refine mi_ge (tgt := 10) hx hb dK_seedLength_2 (by decide) (by omega) (by omega) (fun h21 => absurd h21 (by omega)) (fun h21 => ?_)
  refine lv_bipush (v := nI 64) hx hb dK_seedLength_5 (by decide) ?_
  refine lv_goto (tgt := 12) hx hb dK_seedLength_7 (by decide) ?_
  exact mp_iret hx hb hr hlk hP hD hS ((nI 64, s), pl) ⟨⟨hR.symm, rfl, hF, ⟨64, rfl, by omega⟩, rfl, trivial⟩, hO⟩ [] rfl rfl rfl (by omega) (by omega) dK_seedLength_12
def M_K_publicLength_1 (k : Nat) : Prop := (0 : Nat) = 1
noncomputable def F_K_publicLength_1 (s : Sto) : Int32 × Sto := (nI 1184, s)
set_option maxHeartbeats 2000000 in
set_option maxRecDepth 100000 in
theorem N_K_publicLength_1 (l : Launch) (g : Gd) (sz : Nat) (T : TyN) (s : Sto) (pl : va_W) (hO : okn g T s pl) (hU : inj T) (h0 : Nat) (k_h0 : T h0 = some 0)  : Met l y_K_publicLength w_K_publicLength ({ frames := 0, cells := 0, slots := 0, locals := 0 } : Room) (va_Pc [.ref h0, .int (nI 1)] (pr (en g) g.1 vcl sz ([] ++ pl))) (va_Qi (fun (r : Int32) (u : (Int32 × Sto) × va_W) => (u.1 = F_K_publicLength_1 s ∧ r = u.1.1 ∧ frm (M_K_publicLength_1) s u.1.2 ∧ (∃ x : Nat, u.1.1 = nI x ∧ x < 1185) ∧ (u.1.1 = nI 1184) ∧ True) ∧ okn g T u.1.2 u.2) (po g.1 vcl (va_A ([] ++ pl) sz) (fun (u : (Int32 × Sto) × va_W) => [] ++ u.2)) (va_A ([] ++ pl) sz)) 0 0 (va_A ([] ++ pl) sz) := by
  refine mc_entry (cc := c_K_publicLength) (maxL := 2) (ret := (some .int)) (by decide) rfl (Nat.le_of_ble_eq_true rfl) ?_
  intro p e s0 m args below meth c ls F hr hlk hnm hsz hP hD hE hA hl
  obtain ⟨hx, hb, hml, hown, hts⟩ := id F
  have hK := hE.1
  generalize va_A ([] ++ pl) sz = A at hD hE hA ⊢
  have hS : va_S A s0.heap s0.heap [] := va_S.rf
  have hl : lv_has ls 2 [(0, .ref h0), (1, .int (nI 1))] := hl
  have hR : F_K_publicLength_1 s = F_K_publicLength_1 s := rfl
  have hF : frm (M_K_publicLength_1) s s := frm_rf
  refine lv_iload_n hx hb dK_publicLength_0 rfl (lv_at hl 1 rfl) ?_
  refine lv_iconst (v := nI 3) hx hb dK_publicLength_1 (by decide) ?_
  refine mi_ge (tgt := 17) hx hb dK_publicLength_2 (by decide) (by omega) (by omega) (fun h21 => absurd h21 (by omega)) (fun h21 => ?_)
  refine lv_aload_n hx hb dK_publicLength_5 rfl (lv_at hl 0 rfl) ?_
  refine nw_get (C := "LatticeKeys") (TT := T_K) (N := 11) hx hb hts (wg_ft i_K) hown hK hO k_h0 (kn := 0) (ci := 0) (fl := [(3, 1), (0, 0), (3, 2), (0, 0), (3, 3), (0, 0), (3, 4), (3, 8), (3, 12), (3, 24), (3, 39)]) rfl hP rfl 6 (by decide) (hts _ (wg_t kw_380)) (fun _ h9 => h9) (cd := (3, 4)) rfl dK_publicLength_6 (fun v21 hv21 => ?_)
  obtain ⟨r21, rfl, kr21⟩ := (show ∃ r : Nat, v21 = .ref r ∧ T r = some 4 from hv21)
  refine lv_iload_n hx hb dK_publicLength_9 rfl (lv_at hl 1 rfl) ?_
  refine nw_aald6 hx hb hK hO kr21 (k := 4) (b := 5) rfl hP (by omega) (by omega) dK_publicLength_10 (fun r22 kr22 => ?_)
  refine nw_get (C := "LatticeKeys$KemSet") (TT := T_KS) (N := 10) hx hb hts (wg_ft i_KS) hown hK hO kr22 (kn := 6) (ci := 1) (fl := [(1, 3), (1, 2), (1, 10), (1, 4), (1, 1184), (1, 2400), (1, 1088), (1, 1152), (1, 2336), (1, 2368)]) rfl hP rfl 4 (by decide) (hts _ (wg_t kw_240)) (fun _ h9 => h9) (cd := (1, 1184)) rfl dK_publicLength_11 (fun v22 hv22 => ?_)
  obtain rfl := (show v22 = .int (nI 1184) from hv22)
  refine lv_goto (tgt := 28) hx hb dK_publicLength_14 (by decide) ?_
  exact mp_iret hx hb hr hlk hP hD hS ((nI 1184, s), pl) ⟨⟨hR.symm, rfl, hF, ⟨1184, rfl, by omega⟩, rfl, trivial⟩, hO⟩ [] rfl rfl rfl (by omega) (by omega) dK_publicLength_28
def M_K_secretLength_1 (k : Nat) : Prop := (0 : Nat) = 1
noncomputable def F_K_secretLength_1 (s : Sto) : Int32 × Sto := (nI 2400, s)
set_option maxHeartbeats 2000000 in
set_option maxRecDepth 100000 in
theorem N_K_secretLength_1 (l : Launch) (g : Gd) (sz : Nat) (T : TyN) (s : Sto) (pl : va_W) (hO : okn g T s pl) (hU : inj T) (h0 : Nat) (k_h0 : T h0 = some 0)  : Met l y_K_secretLength w_K_secretLength ({ frames := 0, cells := 0, slots := 0, locals := 0 } : Room) (va_Pc [.ref h0, .int (nI 1)] (pr (en g) g.1 vcl sz ([] ++ pl))) (va_Qi (fun (r : Int32) (u : (Int32 × Sto) × va_W) => (u.1 = F_K_secretLength_1 s ∧ r = u.1.1 ∧ frm (M_K_secretLength_1) s u.1.2 ∧ (∃ x : Nat, u.1.1 = nI x ∧ x < 2401) ∧ (u.1.1 = nI 2400) ∧ True) ∧ okn g T u.1.2 u.2) (po g.1 vcl (va_A ([] ++ pl) sz) (fun (u : (Int32 × Sto) × va_W) => [] ++ u.2)) (va_A ([] ++ pl) sz)) 0 0 (va_A ([] ++ pl) sz) := by
  refine mc_entry (cc := c_K_secretLength) (maxL := 2) (ret := (some .int)) (by decide) rfl (Nat.le_of_ble_eq_true rfl) ?_
  intro p e s0 m args below meth c ls F hr hlk hnm hsz hP hD hE hA hl
  obtain ⟨hx, hb, hml, hown, hts⟩ := id F
  have hK := hE.1
  generalize va_A ([] ++ pl) sz = A at hD hE hA ⊢
  have hS : va_S A s0.heap s0.heap [] := va_S.rf
  have hl : lv_has ls 2 [(0, .ref h0), (1, .int (nI 1))] := hl
  have hR : F_K_secretLength_1 s = F_K_secretLength_1 s := rfl
  have hF : frm (M_K_secretLength_1) s s := frm_rf
  refine lv_iload_n hx hb dK_secretLength_0 rfl (lv_at hl 1 rfl) ?_
  refine lv_iconst (v := nI 3) hx hb dK_secretLength_1 (by decide) ?_
  refine mi_ge (tgt := 17) hx hb dK_secretLength_2 (by decide) (by omega) (by omega) (fun h21 => absurd h21 (by omega)) (fun h21 => ?_)
  refine lv_aload_n hx hb dK_secretLength_5 rfl (lv_at hl 0 rfl) ?_
  refine nw_get (C := "LatticeKeys") (TT := T_K) (N := 11) hx hb hts (wg_ft i_K) hown hK hO k_h0 (kn := 0) (ci := 0) (fl := [(3, 1), (0, 0), (3, 2), (0, 0), (3, 3), (0, 0), (3, 4), (3, 8), (3, 12), (3, 24), (3, 39)]) rfl hP rfl 6 (by decide) (hts _ (wg_t kw_380)) (fun _ h9 => h9) (cd := (3, 4)) rfl dK_secretLength_6 (fun v21 hv21 => ?_)
  obtain ⟨r21, rfl, kr21⟩ := (show ∃ r : Nat, v21 = .ref r ∧ T r = some 4 from hv21)
  refine lv_iload_n hx hb dK_secretLength_9 rfl (lv_at hl 1 rfl) ?_
  refine nw_aald6 hx hb hK hO kr21 (k := 4) (b := 5) rfl hP (by omega) (by omega) dK_secretLength_10 (fun r22 kr22 => ?_)
  refine nw_get (C := "LatticeKeys$KemSet") (TT := T_KS) (N := 10) hx hb hts (wg_ft i_KS) hown hK hO kr22 (kn := 6) (ci := 1) (fl := [(1, 3), (1, 2), (1, 10), (1, 4), (1, 1184), (1, 2400), (1, 1088), (1, 1152), (1, 2336), (1, 2368)]) rfl hP rfl 5 (by decide) (hts _ (wg_t kw_242)) (fun _ h9 => h9) (cd := (1, 2400)) rfl dK_secretLength_11 (fun v22 hv22 => ?_)
  obtain rfl := (show v22 = .int (nI 2400) from hv22)
  refine lv_goto (tgt := 28) hx hb dK_secretLength_14 (by decide) ?_
  exact mp_iret hx hb hr hlk hP hD hS ((nI 2400, s), pl) ⟨⟨hR.symm, rfl, hF, ⟨2400, rfl, by omega⟩, rfl, trivial⟩, hO⟩ [] rfl rfl rfl (by omega) (by omega) dK_secretLength_28
def M_K_seedLength_2 (k : Nat) : Prop := (0 : Nat) = 1
noncomputable def F_K_seedLength_2 (s : Sto) : Int32 × Sto := (nI 64, s)
set_option maxHeartbeats 2000000 in
set_option maxRecDepth 100000 in
theorem N_K_seedLength_2 (l : Launch) (g : Gd) (sz : Nat) (T : TyN) (s : Sto) (pl : va_W) (hO : okn g T s pl) (hU : inj T)   : Met l y_K_seedLength w_K_seedLength ({ frames := 0, cells := 0, slots := 0, locals := 0 } : Room) (va_Pc [.int (nI 2)] (pr (en g) g.1 vcl sz ([] ++ pl))) (va_Qi (fun (r : Int32) (u : (Int32 × Sto) × va_W) => (u.1 = F_K_seedLength_2 s ∧ r = u.1.1 ∧ frm (M_K_seedLength_2) s u.1.2 ∧ (∃ x : Nat, u.1.1 = nI x ∧ x < 65) ∧ (u.1.1 = nI 64) ∧ True) ∧ okn g T u.1.2 u.2) (po g.1 vcl (va_A ([] ++ pl) sz) (fun (u : (Int32 × Sto) × va_W) => [] ++ u.2)) (va_A ([] ++ pl) sz)) 0 0 (va_A ([] ++ pl) sz) := by
  refine mc_entry (cc := c_K_seedLength) (maxL := 1) (ret := (some .int)) (by decide) rfl (Nat.le_of_ble_eq_true rfl) ?_
  intro p e s0 m args below meth c ls F hr hlk hnm hsz hP hD hE hA hl
  obtain ⟨hx, hb, hml, hown, hts⟩ := id F
  have hK := hE.1
  generalize va_A ([] ++ pl) sz = A at hD hE hA ⊢
  have hS : va_S A s0.heap s0.heap [] := va_S.rf
  have hl : lv_has ls 1 [(0, .int (nI 2))] := hl
  have hR : F_K_seedLength_2 s = F_K_seedLength_2 s := rfl
  have hF : frm (M_K_seedLength_2) s s := frm_rf
  refine lv_iload_n hx hb dK_seedLength_0 rfl (lv_at hl 0 rfl) ?_
  refine lv_iconst (v := nI 3) hx hb dK_seedLength_1 (by decide) ?_
  refine mi_ge (tgt := 10) hx hb dK_seedLength_2 (by decide) (by omega) (by omega) (fun h21 => absurd h21 (by omega)) (fun h21 => ?_)
  refine lv_bipush (v := nI 64) hx hb dK_seedLength_5 (by decide) ?_
  refine lv_goto (tgt := 12) hx hb dK_seedLength_7 (by decide) ?_
  exact mp_iret hx hb hr hlk hP hD hS ((nI 64, s), pl) ⟨⟨hR.symm, rfl, hF, ⟨64, rfl, by omega⟩, rfl, trivial⟩, hO⟩ [] rfl rfl rfl (by omega) (by omega) dK_seedLength_12
def M_K_publicLength_2 (k : Nat) : Prop := (0 : Nat) = 1
noncomputable def F_K_publicLength_2 (s : Sto) : Int32 × Sto := (nI 1568, s)
set_option maxHeartbeats 2000000 in
set_option maxRecDepth 100000 in
theorem N_K_publicLength_2 (l : Launch) (g : Gd) (sz : Nat) (T : TyN) (s : Sto) (pl : va_W) (hO : okn g T s pl) (hU : inj T) (h0 : Nat) (k_h0 : T h0 = some 0)  : Met l y_K_publicLength w_K_publicLength ({ frames := 0, cells := 0, slots := 0, locals := 0 } : Room) (va_Pc [.ref h0, .int (nI 2)] (pr (en g) g.1 vcl sz ([] ++ pl))) (va_Qi (fun (r : Int32) (u : (Int32 × Sto) × va_W) => (u.1 = F_K_publicLength_2 s ∧ r = u.1.1 ∧ frm (M_K_publicLength_2) s u.1.2 ∧ (∃ x : Nat, u.1.1 = nI x ∧ x < 1569) ∧ (u.1.1 = nI 1568) ∧ True) ∧ okn g T u.1.2 u.2) (po g.1 vcl (va_A ([] ++ pl) sz) (fun (u : (Int32 × Sto) × va_W) => [] ++ u.2)) (va_A ([] ++ pl) sz)) 0 0 (va_A ([] ++ pl) sz) := by
  refine mc_entry (cc := c_K_publicLength) (maxL := 2) (ret := (some .int)) (by decide) rfl (Nat.le_of_ble_eq_true rfl) ?_
  intro p e s0 m args below meth c ls F hr hlk hnm hsz hP hD hE hA hl
  obtain ⟨hx, hb, hml, hown, hts⟩ := id F
  have hK := hE.1
  generalize va_A ([] ++ pl) sz = A at hD hE hA ⊢
  have hS : va_S A s0.heap s0.heap [] := va_S.rf
  have hl : lv_has ls 2 [(0, .ref h0), (1, .int (nI 2))] := hl
  have hR : F_K_publicLength_2 s = F_K_publicLength_2 s := rfl
  have hF : frm (M_K_publicLength_2) s s := frm_rf
  refine lv_iload_n hx hb dK_publicLength_0 rfl (lv_at hl 1 rfl) ?_
  refine lv_iconst (v := nI 3) hx hb dK_publicLength_1 (by decide) ?_
  refine mi_ge (tgt := 17) hx hb dK_publicLength_2 (by decide) (by omega) (by omega) (fun h21 => absurd h21 (by omega)) (fun h21 => ?_)
  refine lv_aload_n hx hb dK_publicLength_5 rfl (lv_at hl 0 rfl) ?_
  refine nw_get (C := "LatticeKeys") (TT := T_K) (N := 11) hx hb hts (wg_ft i_K) hown hK hO k_h0 (kn := 0) (ci := 0) (fl := [(3, 1), (0, 0), (3, 2), (0, 0), (3, 3), (0, 0), (3, 4), (3, 8), (3, 12), (3, 24), (3, 39)]) rfl hP rfl 6 (by decide) (hts _ (wg_t kw_380)) (fun _ h9 => h9) (cd := (3, 4)) rfl dK_publicLength_6 (fun v21 hv21 => ?_)
  obtain ⟨r21, rfl, kr21⟩ := (show ∃ r : Nat, v21 = .ref r ∧ T r = some 4 from hv21)
  refine lv_iload_n hx hb dK_publicLength_9 rfl (lv_at hl 1 rfl) ?_
  refine nw_aald6 hx hb hK hO kr21 (k := 4) (b := 5) rfl hP (by omega) (by omega) dK_publicLength_10 (fun r22 kr22 => ?_)
  refine nw_get (C := "LatticeKeys$KemSet") (TT := T_KS) (N := 10) hx hb hts (wg_ft i_KS) hown hK hO kr22 (kn := 7) (ci := 1) (fl := [(1, 4), (1, 2), (1, 11), (1, 5), (1, 1568), (1, 3168), (1, 1568), (1, 1536), (1, 3104), (1, 3136)]) rfl hP rfl 4 (by decide) (hts _ (wg_t kw_240)) (fun _ h9 => h9) (cd := (1, 1568)) rfl dK_publicLength_11 (fun v22 hv22 => ?_)
  obtain rfl := (show v22 = .int (nI 1568) from hv22)
  refine lv_goto (tgt := 28) hx hb dK_publicLength_14 (by decide) ?_
  exact mp_iret hx hb hr hlk hP hD hS ((nI 1568, s), pl) ⟨⟨hR.symm, rfl, hF, ⟨1568, rfl, by omega⟩, rfl, trivial⟩, hO⟩ [] rfl rfl rfl (by omega) (by omega) dK_publicLength_28
def M_K_secretLength_2 (k : Nat) : Prop := (0 : Nat) = 1
noncomputable def F_K_secretLength_2 (s : Sto) : Int32 × Sto := (nI 3168, s)
set_option maxHeartbeats 2000000 in
set_option maxRecDepth 100000 in
theorem N_K_secretLength_2 (l : Launch) (g : Gd) (sz : Nat) (T : TyN) (s : Sto) (pl : va_W) (hO : okn g T s pl) (hU : inj T) (h0 : Nat) (k_h0 : T h0 = some 0)  : Met l y_K_secretLength w_K_secretLength ({ frames := 0, cells := 0, slots := 0, locals := 0 } : Room) (va_Pc [.ref h0, .int (nI 2)] (pr (en g) g.1 vcl sz ([] ++ pl))) (va_Qi (fun (r : Int32) (u : (Int32 × Sto) × va_W) => (u.1 = F_K_secretLength_2 s ∧ r = u.1.1 ∧ frm (M_K_secretLength_2) s u.1.2 ∧ (∃ x : Nat, u.1.1 = nI x ∧ x < 3169) ∧ (u.1.1 = nI 3168) ∧ True) ∧ okn g T u.1.2 u.2) (po g.1 vcl (va_A ([] ++ pl) sz) (fun (u : (Int32 × Sto) × va_W) => [] ++ u.2)) (va_A ([] ++ pl) sz)) 0 0 (va_A ([] ++ pl) sz) := by
  refine mc_entry (cc := c_K_secretLength) (maxL := 2) (ret := (some .int)) (by decide) rfl (Nat.le_of_ble_eq_true rfl) ?_
  intro p e s0 m args below meth c ls F hr hlk hnm hsz hP hD hE hA hl
  obtain ⟨hx, hb, hml, hown, hts⟩ := id F
  have hK := hE.1
  generalize va_A ([] ++ pl) sz = A at hD hE hA ⊢
  have hS : va_S A s0.heap s0.heap [] := va_S.rf
  have hl : lv_has ls 2 [(0, .ref h0), (1, .int (nI 2))] := hl
  have hR : F_K_secretLength_2 s = F_K_secretLength_2 s := rfl
  have hF : frm (M_K_secretLength_2) s s := frm_rf
  refine lv_iload_n hx hb dK_secretLength_0 rfl (lv_at hl 1 rfl) ?_
  refine lv_iconst (v := nI 3) hx hb dK_secretLength_1 (by decide) ?_
  refine mi_ge (tgt := 17) hx hb dK_secretLength_2 (by decide) (by omega) (by omega) (fun h21 => absurd h21 (by omega)) (fun h21 => ?_)
  refine lv_aload_n hx hb dK_secretLength_5 rfl (lv_at hl 0 rfl) ?_
  refine nw_get (C := "LatticeKeys") (TT := T_K) (N := 11) hx hb hts (wg_ft i_K) hown hK hO k_h0 (kn := 0) (ci := 0) (fl := [(3, 1), (0, 0), (3, 2), (0, 0), (3, 3), (0, 0), (3, 4), (3, 8), (3, 12), (3, 24), (3, 39)]) rfl hP rfl 6 (by decide) (hts _ (wg_t kw_380)) (fun _ h9 => h9) (cd := (3, 4)) rfl dK_secretLength_6 (fun v21 hv21 => ?_)
  obtain ⟨r21, rfl, kr21⟩ := (show ∃ r : Nat, v21 = .ref r ∧ T r = some 4 from hv21)
  refine lv_iload_n hx hb dK_secretLength_9 rfl (lv_at hl 1 rfl) ?_
  refine nw_aald6 hx hb hK hO kr21 (k := 4) (b := 5) rfl hP (by omega) (by omega) dK_secretLength_10 (fun r22 kr22 => ?_)
  refine nw_get (C := "LatticeKeys$KemSet") (TT := T_KS) (N := 10) hx hb hts (wg_ft i_KS) hown hK hO kr22 (kn := 7) (ci := 1) (fl := [(1, 4), (1, 2), (1, 11), (1, 5), (1, 1568), (1, 3168), (1, 1568), (1, 1536), (1, 3104), (1, 3136)]) rfl hP rfl 5 (by decide) (hts _ (wg_t kw_242)) (fun _ h9 => h9) (cd := (1, 3168)) rfl dK_secretLength_11 (fun v22 hv22 => ?_)
  obtain rfl := (show v22 = .int (nI 3168) from hv22)
  refine lv_goto (tgt := 28) hx hb dK_secretLength_14 (by decide) ?_
  exact mp_iret hx hb hr hlk hP hD hS ((nI 3168, s), pl) ⟨⟨hR.symm, rfl, hF, ⟨3168, rfl, by omega⟩, rfl, trivial⟩, hO⟩ [] rfl rfl rfl (by omega) (by omega) dK_secretLength_28
def M_K_seedLength_3 (k : Nat) : Prop := (0 : Nat) = 1
noncomputable def F_K_seedLength_3 (s : Sto) : Int32 × Sto := (nI 32, s)
set_option maxHeartbeats 2000000 in
set_option maxRecDepth 100000 in
theorem N_K_seedLength_3 (l : Launch) (g : Gd) (sz : Nat) (T : TyN) (s : Sto) (pl : va_W) (hO : okn g T s pl) (hU : inj T)   : Met l y_K_seedLength w_K_seedLength ({ frames := 0, cells := 0, slots := 0, locals := 0 } : Room) (va_Pc [.int (nI 3)] (pr (en g) g.1 vcl sz ([] ++ pl))) (va_Qi (fun (r : Int32) (u : (Int32 × Sto) × va_W) => (u.1 = F_K_seedLength_3 s ∧ r = u.1.1 ∧ frm (M_K_seedLength_3) s u.1.2 ∧ (∃ x : Nat, u.1.1 = nI x ∧ x < 33) ∧ (u.1.1 = nI 32) ∧ True) ∧ okn g T u.1.2 u.2) (po g.1 vcl (va_A ([] ++ pl) sz) (fun (u : (Int32 × Sto) × va_W) => [] ++ u.2)) (va_A ([] ++ pl) sz)) 0 0 (va_A ([] ++ pl) sz) := by
  refine mc_entry (cc := c_K_seedLength) (maxL := 1) (ret := (some .int)) (by decide) rfl (Nat.le_of_ble_eq_true rfl) ?_
  intro p e s0 m args below meth c ls F hr hlk hnm hsz hP hD hE hA hl
  obtain ⟨hx, hb, hml, hown, hts⟩ := id F
  have hK := hE.1
  generalize va_A ([] ++ pl) sz = A at hD hE hA ⊢
  have hS : va_S A s0.heap s0.heap [] := va_S.rf
  have hl : lv_has ls 1 [(0, .int (nI 3))] := hl
  have hR : F_K_seedLength_3 s = F_K_seedLength_3 s := rfl
  have hF : frm (M_K_seedLength_3) s s := frm_rf
  refine lv_iload_n hx hb dK_seedLength_0 rfl (lv_at hl 0 rfl) ?_
  refine lv_iconst (v := nI 3) hx hb dK_seedLength_1 (by decide) ?_
  refine mi_ge (tgt := 10) hx hb dK_seedLength_2 (by decide) (by omega) (by omega) (fun h21 => ?_) (fun h21 => absurd h21 (by omega))
  refine lv_bipush (v := nI 32) hx hb dK_seedLength_10 (by decide) ?_
  exact mp_iret hx hb hr hlk hP hD hS ((nI 32, s), pl) ⟨⟨hR.symm, rfl, hF, ⟨32, rfl, by omega⟩, rfl, trivial⟩, hO⟩ [] rfl rfl rfl (by omega) (by omega) dK_seedLength_12
def M_K_publicLength_3 (k : Nat) : Prop := (0 : Nat) = 1
noncomputable def F_K_publicLength_3 (s : Sto) : Int32 × Sto := (nI 1312, s)
set_option maxHeartbeats 2000000 in
set_option maxRecDepth 100000 in
theorem N_K_publicLength_3 (l : Launch) (g : Gd) (sz : Nat) (T : TyN) (s : Sto) (pl : va_W) (hO : okn g T s pl) (hU : inj T) (h0 : Nat) (k_h0 : T h0 = some 0)  : Met l y_K_publicLength w_K_publicLength ({ frames := 0, cells := 0, slots := 0, locals := 0 } : Room) (va_Pc [.ref h0, .int (nI 3)] (pr (en g) g.1 vcl sz ([] ++ pl))) (va_Qi (fun (r : Int32) (u : (Int32 × Sto) × va_W) => (u.1 = F_K_publicLength_3 s ∧ r = u.1.1 ∧ frm (M_K_publicLength_3) s u.1.2 ∧ (∃ x : Nat, u.1.1 = nI x ∧ x < 1313) ∧ (u.1.1 = nI 1312) ∧ True) ∧ okn g T u.1.2 u.2) (po g.1 vcl (va_A ([] ++ pl) sz) (fun (u : (Int32 × Sto) × va_W) => [] ++ u.2)) (va_A ([] ++ pl) sz)) 0 0 (va_A ([] ++ pl) sz) := by
  refine mc_entry (cc := c_K_publicLength) (maxL := 2) (ret := (some .int)) (by decide) rfl (Nat.le_of_ble_eq_true rfl) ?_
  intro p e s0 m args below meth c ls F hr hlk hnm hsz hP hD hE hA hl
  obtain ⟨hx, hb, hml, hown, hts⟩ := id F
  have hK := hE.1
  generalize va_A ([] ++ pl) sz = A at hD hE hA ⊢
  have hS : va_S A s0.heap s0.heap [] := va_S.rf
  have hl : lv_has ls 2 [(0, .ref h0), (1, .int (nI 3))] := hl
  have hR : F_K_publicLength_3 s = F_K_publicLength_3 s := rfl
  have hF : frm (M_K_publicLength_3) s s := frm_rf
  refine lv_iload_n hx hb dK_publicLength_0 rfl (lv_at hl 1 rfl) ?_
  refine lv_iconst (v := nI 3) hx hb dK_publicLength_1 (by decide) ?_
  refine mi_ge (tgt := 17) hx hb dK_publicLength_2 (by decide) (by omega) (by omega) (fun h21 => ?_) (fun h21 => absurd h21 (by omega))
  refine lv_aload_n hx hb dK_publicLength_17 rfl (lv_at hl 0 rfl) ?_
  refine nw_get (C := "LatticeKeys") (TT := T_K) (N := 11) hx hb hts (wg_ft i_K) hown hK hO k_h0 (kn := 0) (ci := 0) (fl := [(3, 1), (0, 0), (3, 2), (0, 0), (3, 3), (0, 0), (3, 4), (3, 8), (3, 12), (3, 24), (3, 39)]) rfl hP rfl 7 (by decide) (hts _ (wg_t kw_381)) (fun _ h9 => h9) (cd := (3, 8)) rfl dK_publicLength_18 (fun v21 hv21 => ?_)
  obtain ⟨r21, rfl, kr21⟩ := (show ∃ r : Nat, v21 = .ref r ∧ T r = some 8 from hv21)
  refine lv_iload_n hx hb dK_publicLength_21 rfl (lv_at hl 1 rfl) ?_
  refine lv_iconst (v := nI 3) hx hb dK_publicLength_22 (by decide) ?_
  refine mi_isub hx hb dK_publicLength_23 (by omega) ?_
  refine mi_as (show nI (3 - 3) = nI 0 from rfl) ?_
  refine nw_aald7 hx hb hK hO kr21 (k := 8) (b := 9) rfl hP (by omega) (by omega) dK_publicLength_24 (fun r22 kr22 => ?_)
  refine nw_get (C := "LatticeKeys$DsaSet") (TT := T_DS) (N := 17) hx hb hts (wg_ft i_DS) hown hK hO kr22 (kn := 9) (ci := 2) (fl := [(1, 4), (1, 4), (1, 2), (1, 3), (1, 39), (1, 32), (1, 18), (1, 131072), (1, 44), (1, 6), (1, 95232), (1, 80), (1, 78), (1, 1312), (1, 2560), (1, 2336), (1, 2420)]) rfl hP rfl 13 (by decide) (hts _ (wg_t kw_331)) (fun _ h9 => h9) (cd := (1, 1312)) rfl dK_publicLength_25 (fun v22 hv22 => ?_)
  obtain rfl := (show v22 = .int (nI 1312) from hv22)
  exact mp_iret hx hb hr hlk hP hD hS ((nI 1312, s), pl) ⟨⟨hR.symm, rfl, hF, ⟨1312, rfl, by omega⟩, rfl, trivial⟩, hO⟩ [] rfl rfl rfl (by omega) (by omega) dK_publicLength_28
def M_K_secretLength_3 (k : Nat) : Prop := (0 : Nat) = 1
noncomputable def F_K_secretLength_3 (s : Sto) : Int32 × Sto := (nI 2560, s)
set_option maxHeartbeats 2000000 in
set_option maxRecDepth 100000 in
theorem N_K_secretLength_3 (l : Launch) (g : Gd) (sz : Nat) (T : TyN) (s : Sto) (pl : va_W) (hO : okn g T s pl) (hU : inj T) (h0 : Nat) (k_h0 : T h0 = some 0)  : Met l y_K_secretLength w_K_secretLength ({ frames := 0, cells := 0, slots := 0, locals := 0 } : Room) (va_Pc [.ref h0, .int (nI 3)] (pr (en g) g.1 vcl sz ([] ++ pl))) (va_Qi (fun (r : Int32) (u : (Int32 × Sto) × va_W) => (u.1 = F_K_secretLength_3 s ∧ r = u.1.1 ∧ frm (M_K_secretLength_3) s u.1.2 ∧ (∃ x : Nat, u.1.1 = nI x ∧ x < 2561) ∧ (u.1.1 = nI 2560) ∧ True) ∧ okn g T u.1.2 u.2) (po g.1 vcl (va_A ([] ++ pl) sz) (fun (u : (Int32 × Sto) × va_W) => [] ++ u.2)) (va_A ([] ++ pl) sz)) 0 0 (va_A ([] ++ pl) sz) := by
  refine mc_entry (cc := c_K_secretLength) (maxL := 2) (ret := (some .int)) (by decide) rfl (Nat.le_of_ble_eq_true rfl) ?_
  intro p e s0 m args below meth c ls F hr hlk hnm hsz hP hD hE hA hl
  obtain ⟨hx, hb, hml, hown, hts⟩ := id F
  have hK := hE.1
  generalize va_A ([] ++ pl) sz = A at hD hE hA ⊢
  have hS : va_S A s0.heap s0.heap [] := va_S.rf
  have hl : lv_has ls 2 [(0, .ref h0), (1, .int (nI 3))] := hl
  have hR : F_K_secretLength_3 s = F_K_secretLength_3 s := rfl
  have hF : frm (M_K_secretLength_3) s s := frm_rf
  refine lv_iload_n hx hb dK_secretLength_0 rfl (lv_at hl 1 rfl) ?_
  refine lv_iconst (v := nI 3) hx hb dK_secretLength_1 (by decide) ?_
  refine mi_ge (tgt := 17) hx hb dK_secretLength_2 (by decide) (by omega) (by omega) (fun h21 => ?_) (fun h21 => absurd h21 (by omega))
  refine lv_aload_n hx hb dK_secretLength_17 rfl (lv_at hl 0 rfl) ?_
  refine nw_get (C := "LatticeKeys") (TT := T_K) (N := 11) hx hb hts (wg_ft i_K) hown hK hO k_h0 (kn := 0) (ci := 0) (fl := [(3, 1), (0, 0), (3, 2), (0, 0), (3, 3), (0, 0), (3, 4), (3, 8), (3, 12), (3, 24), (3, 39)]) rfl hP rfl 7 (by decide) (hts _ (wg_t kw_381)) (fun _ h9 => h9) (cd := (3, 8)) rfl dK_secretLength_18 (fun v21 hv21 => ?_)
  obtain ⟨r21, rfl, kr21⟩ := (show ∃ r : Nat, v21 = .ref r ∧ T r = some 8 from hv21)
  refine lv_iload_n hx hb dK_secretLength_21 rfl (lv_at hl 1 rfl) ?_
  refine lv_iconst (v := nI 3) hx hb dK_secretLength_22 (by decide) ?_
  refine mi_isub hx hb dK_secretLength_23 (by omega) ?_
  refine mi_as (show nI (3 - 3) = nI 0 from rfl) ?_
  refine nw_aald7 hx hb hK hO kr21 (k := 8) (b := 9) rfl hP (by omega) (by omega) dK_secretLength_24 (fun r22 kr22 => ?_)
  refine nw_get (C := "LatticeKeys$DsaSet") (TT := T_DS) (N := 17) hx hb hts (wg_ft i_DS) hown hK hO kr22 (kn := 9) (ci := 2) (fl := [(1, 4), (1, 4), (1, 2), (1, 3), (1, 39), (1, 32), (1, 18), (1, 131072), (1, 44), (1, 6), (1, 95232), (1, 80), (1, 78), (1, 1312), (1, 2560), (1, 2336), (1, 2420)]) rfl hP rfl 14 (by decide) (hts _ (wg_t kw_333)) (fun _ h9 => h9) (cd := (1, 2560)) rfl dK_secretLength_25 (fun v22 hv22 => ?_)
  obtain rfl := (show v22 = .int (nI 2560) from hv22)
  exact mp_iret hx hb hr hlk hP hD hS ((nI 2560, s), pl) ⟨⟨hR.symm, rfl, hF, ⟨2560, rfl, by omega⟩, rfl, trivial⟩, hO⟩ [] rfl rfl rfl (by omega) (by omega) dK_secretLength_28
def M_K_seedLength_4 (k : Nat) : Prop := (0 : Nat) = 1
noncomputable def F_K_seedLength_4 (s : Sto) : Int32 × Sto := (nI 32, s)
set_option maxHeartbeats 2000000 in
set_option maxRecDepth 100000 in
theorem N_K_seedLength_4 (l : Launch) (g : Gd) (sz : Nat) (T : TyN) (s : Sto) (pl : va_W) (hO : okn g T s pl) (hU : inj T)   : Met l y_K_seedLength w_K_seedLength ({ frames := 0, cells := 0, slots := 0, locals := 0 } : Room) (va_Pc [.int (nI 4)] (pr (en g) g.1 vcl sz ([] ++ pl))) (va_Qi (fun (r : Int32) (u : (Int32 × Sto) × va_W) => (u.1 = F_K_seedLength_4 s ∧ r = u.1.1 ∧ frm (M_K_seedLength_4) s u.1.2 ∧ (∃ x : Nat, u.1.1 = nI x ∧ x < 33) ∧ (u.1.1 = nI 32) ∧ True) ∧ okn g T u.1.2 u.2) (po g.1 vcl (va_A ([] ++ pl) sz) (fun (u : (Int32 × Sto) × va_W) => [] ++ u.2)) (va_A ([] ++ pl) sz)) 0 0 (va_A ([] ++ pl) sz) := by
  refine mc_entry (cc := c_K_seedLength) (maxL := 1) (ret := (some .int)) (by decide) rfl (Nat.le_of_ble_eq_true rfl) ?_
  intro p e s0 m args below meth c ls F hr hlk hnm hsz hP hD hE hA hl
  obtain ⟨hx, hb, hml, hown, hts⟩ := id F
  have hK := hE.1
  generalize va_A ([] ++ pl) sz = A at hD hE hA ⊢
  have hS : va_S A s0.heap s0.heap [] := va_S.rf
  have hl : lv_has ls 1 [(0, .int (nI 4))] := hl
  have hR : F_K_seedLength_4 s = F_K_seedLength_4 s := rfl
  have hF : frm (M_K_seedLength_4) s s := frm_rf
  refine lv_iload_n hx hb dK_seedLength_0 rfl (lv_at hl 0 rfl) ?_
  refine lv_iconst (v := nI 3) hx hb dK_seedLength_1 (by decide) ?_
  refine mi_ge (tgt := 10) hx hb dK_seedLength_2 (by decide) (by omega) (by omega) (fun h21 => ?_) (fun h21 => absurd h21 (by omega))
  refine lv_bipush (v := nI 32) hx hb dK_seedLength_10 (by decide) ?_
  exact mp_iret hx hb hr hlk hP hD hS ((nI 32, s), pl) ⟨⟨hR.symm, rfl, hF, ⟨32, rfl, by omega⟩, rfl, trivial⟩, hO⟩ [] rfl rfl rfl (by omega) (by omega) dK_seedLength_12
def M_K_publicLength_4 (k : Nat) : Prop := (0 : Nat) = 1
noncomputable def F_K_publicLength_4 (s : Sto) : Int32 × Sto := (nI 1952, s)
set_option maxHeartbeats 2000000 in
set_option maxRecDepth 100000 in
theorem N_K_publicLength_4 (l : Launch) (g : Gd) (sz : Nat) (T : TyN) (s : Sto) (pl : va_W) (hO : okn g T s pl) (hU : inj T) (h0 : Nat) (k_h0 : T h0 = some 0)  : Met l y_K_publicLength w_K_publicLength ({ frames := 0, cells := 0, slots := 0, locals := 0 } : Room) (va_Pc [.ref h0, .int (nI 4)] (pr (en g) g.1 vcl sz ([] ++ pl))) (va_Qi (fun (r : Int32) (u : (Int32 × Sto) × va_W) => (u.1 = F_K_publicLength_4 s ∧ r = u.1.1 ∧ frm (M_K_publicLength_4) s u.1.2 ∧ (∃ x : Nat, u.1.1 = nI x ∧ x < 1953) ∧ (u.1.1 = nI 1952) ∧ True) ∧ okn g T u.1.2 u.2) (po g.1 vcl (va_A ([] ++ pl) sz) (fun (u : (Int32 × Sto) × va_W) => [] ++ u.2)) (va_A ([] ++ pl) sz)) 0 0 (va_A ([] ++ pl) sz) := by
  refine mc_entry (cc := c_K_publicLength) (maxL := 2) (ret := (some .int)) (by decide) rfl (Nat.le_of_ble_eq_true rfl) ?_
  intro p e s0 m args below meth c ls F hr hlk hnm hsz hP hD hE hA hl
  obtain ⟨hx, hb, hml, hown, hts⟩ := id F
  have hK := hE.1
  generalize va_A ([] ++ pl) sz = A at hD hE hA ⊢
  have hS : va_S A s0.heap s0.heap [] := va_S.rf
  have hl : lv_has ls 2 [(0, .ref h0), (1, .int (nI 4))] := hl
  have hR : F_K_publicLength_4 s = F_K_publicLength_4 s := rfl
  have hF : frm (M_K_publicLength_4) s s := frm_rf
  refine lv_iload_n hx hb dK_publicLength_0 rfl (lv_at hl 1 rfl) ?_
  refine lv_iconst (v := nI 3) hx hb dK_publicLength_1 (by decide) ?_
  refine mi_ge (tgt := 17) hx hb dK_publicLength_2 (by decide) (by omega) (by omega) (fun h21 => ?_) (fun h21 => absurd h21 (by omega))
  refine lv_aload_n hx hb dK_publicLength_17 rfl (lv_at hl 0 rfl) ?_
  refine nw_get (C := "LatticeKeys") (TT := T_K) (N := 11) hx hb hts (wg_ft i_K) hown hK hO k_h0 (kn := 0) (ci := 0) (fl := [(3, 1), (0, 0), (3, 2), (0, 0), (3, 3), (0, 0), (3, 4), (3, 8), (3, 12), (3, 24), (3, 39)]) rfl hP rfl 7 (by decide) (hts _ (wg_t kw_381)) (fun _ h9 => h9) (cd := (3, 8)) rfl dK_publicLength_18 (fun v21 hv21 => ?_)
  obtain ⟨r21, rfl, kr21⟩ := (show ∃ r : Nat, v21 = .ref r ∧ T r = some 8 from hv21)
  refine lv_iload_n hx hb dK_publicLength_21 rfl (lv_at hl 1 rfl) ?_
  refine lv_iconst (v := nI 3) hx hb dK_publicLength_22 (by decide) ?_
  refine mi_isub hx hb dK_publicLength_23 (by omega) ?_
  refine mi_as (show nI (4 - 3) = nI 1 from rfl) ?_
  refine nw_aald7 hx hb hK hO kr21 (k := 8) (b := 9) rfl hP (by omega) (by omega) dK_publicLength_24 (fun r22 kr22 => ?_)
  refine nw_get (C := "LatticeKeys$DsaSet") (TT := T_DS) (N := 17) hx hb hts (wg_ft i_DS) hown hK hO kr22 (kn := 10) (ci := 2) (fl := [(1, 6), (1, 5), (1, 4), (1, 4), (1, 49), (1, 48), (1, 20), (1, 524288), (1, 16), (1, 4), (1, 261888), (1, 55), (1, 196), (1, 1952), (1, 4032), (1, 3248), (1, 3309)]) rfl hP rfl 13 (by decide) (hts _ (wg_t kw_331)) (fun _ h9 => h9) (cd := (1, 1952)) rfl dK_publicLength_25 (fun v22 hv22 => ?_)
  obtain rfl := (show v22 = .int (nI 1952) from hv22)
  exact mp_iret hx hb hr hlk hP hD hS ((nI 1952, s), pl) ⟨⟨hR.symm, rfl, hF, ⟨1952, rfl, by omega⟩, rfl, trivial⟩, hO⟩ [] rfl rfl rfl (by omega) (by omega) dK_publicLength_28
def M_K_secretLength_4 (k : Nat) : Prop := (0 : Nat) = 1
noncomputable def F_K_secretLength_4 (s : Sto) : Int32 × Sto := (nI 4032, s)
set_option maxHeartbeats 2000000 in
set_option maxRecDepth 100000 in
theorem N_K_secretLength_4 (l : Launch) (g : Gd) (sz : Nat) (T : TyN) (s : Sto) (pl : va_W) (hO : okn g T s pl) (hU : inj T) (h0 : Nat) (k_h0 : T h0 = some 0)  : Met l y_K_secretLength w_K_secretLength ({ frames := 0, cells := 0, slots := 0, locals := 0 } : Room) (va_Pc [.ref h0, .int (nI 4)] (pr (en g) g.1 vcl sz ([] ++ pl))) (va_Qi (fun (r : Int32) (u : (Int32 × Sto) × va_W) => (u.1 = F_K_secretLength_4 s ∧ r = u.1.1 ∧ frm (M_K_secretLength_4) s u.1.2 ∧ (∃ x : Nat, u.1.1 = nI x ∧ x < 4033) ∧ (u.1.1 = nI 4032) ∧ True) ∧ okn g T u.1.2 u.2) (po g.1 vcl (va_A ([] ++ pl) sz) (fun (u : (Int32 × Sto) × va_W) => [] ++ u.2)) (va_A ([] ++ pl) sz)) 0 0 (va_A ([] ++ pl) sz) := by
  refine mc_entry (cc := c_K_secretLength) (maxL := 2) (ret := (some .int)) (by decide) rfl (Nat.le_of_ble_eq_true rfl) ?_
  intro p e s0 m args below meth c ls F hr hlk hnm hsz hP hD hE hA hl
  obtain ⟨hx, hb, hml, hown, hts⟩ := id F
  have hK := hE.1
  generalize va_A ([] ++ pl) sz = A at hD hE hA ⊢
  have hS : va_S A s0.heap s0.heap [] := va_S.rf
  have hl : lv_has ls 2 [(0, .ref h0), (1, .int (nI 4))] := hl
  have hR : F_K_secretLength_4 s = F_K_secretLength_4 s := rfl
  have hF : frm (M_K_secretLength_4) s s := frm_rf
  refine lv_iload_n hx hb dK_secretLength_0 rfl (lv_at hl 1 rfl) ?_
  refine lv_iconst (v := nI 3) hx hb dK_secretLength_1 (by decide) ?_
  refine mi_ge (tgt := 17) hx hb dK_secretLength_2 (by decide) (by omega) (by omega) (fun h21 => ?_) (fun h21 => absurd h21 (by omega))
  refine lv_aload_n hx hb dK_secretLength_17 rfl (lv_at hl 0 rfl) ?_
  refine nw_get (C := "LatticeKeys") (TT := T_K) (N := 11) hx hb hts (wg_ft i_K) hown hK hO k_h0 (kn := 0) (ci := 0) (fl := [(3, 1), (0, 0), (3, 2), (0, 0), (3, 3), (0, 0), (3, 4), (3, 8), (3, 12), (3, 24), (3, 39)]) rfl hP rfl 7 (by decide) (hts _ (wg_t kw_381)) (fun _ h9 => h9) (cd := (3, 8)) rfl dK_secretLength_18 (fun v21 hv21 => ?_)
  obtain ⟨r21, rfl, kr21⟩ := (show ∃ r : Nat, v21 = .ref r ∧ T r = some 8 from hv21)
  refine lv_iload_n hx hb dK_secretLength_21 rfl (lv_at hl 1 rfl) ?_
  refine lv_iconst (v := nI 3) hx hb dK_secretLength_22 (by decide) ?_
  refine mi_isub hx hb dK_secretLength_23 (by omega) ?_
  refine mi_as (show nI (4 - 3) = nI 1 from rfl) ?_
  refine nw_aald7 hx hb hK hO kr21 (k := 8) (b := 9) rfl hP (by omega) (by omega) dK_secretLength_24 (fun r22 kr22 => ?_)
  refine nw_get (C := "LatticeKeys$DsaSet") (TT := T_DS) (N := 17) hx hb hts (wg_ft i_DS) hown hK hO kr22 (kn := 10) (ci := 2) (fl := [(1, 6), (1, 5), (1, 4), (1, 4), (1, 49), (1, 48), (1, 20), (1, 524288), (1, 16), (1, 4), (1, 261888), (1, 55), (1, 196), (1, 1952), (1, 4032), (1, 3248), (1, 3309)]) rfl hP rfl 14 (by decide) (hts _ (wg_t kw_333)) (fun _ h9 => h9) (cd := (1, 4032)) rfl dK_secretLength_25 (fun v22 hv22 => ?_)
  obtain rfl := (show v22 = .int (nI 4032) from hv22)
  exact mp_iret hx hb hr hlk hP hD hS ((nI 4032, s), pl) ⟨⟨hR.symm, rfl, hF, ⟨4032, rfl, by omega⟩, rfl, trivial⟩, hO⟩ [] rfl rfl rfl (by omega) (by omega) dK_secretLength_28
def M_K_seedLength_5 (k : Nat) : Prop := (0 : Nat) = 1
noncomputable def F_K_seedLength_5 (s : Sto) : Int32 × Sto := (nI 32, s)
set_option maxHeartbeats 2000000 in
set_option maxRecDepth 100000 in
theorem N_K_seedLength_5 (l : Launch) (g : Gd) (sz : Nat) (T : TyN) (s : Sto) (pl : va_W) (hO : okn g T s pl) (hU : inj T)   : Met l y_K_seedLength w_K_seedLength ({ frames := 0, cells := 0, slots := 0, locals := 0 } : Room) (va_Pc [.int (nI 5)] (pr (en g) g.1 vcl sz ([] ++ pl))) (va_Qi (fun (r : Int32) (u : (Int32 × Sto) × va_W) => (u.1 = F_K_seedLength_5 s ∧ r = u.1.1 ∧ frm (M_K_seedLength_5) s u.1.2 ∧ (∃ x : Nat, u.1.1 = nI x ∧ x < 33) ∧ (u.1.1 = nI 32) ∧ True) ∧ okn g T u.1.2 u.2) (po g.1 vcl (va_A ([] ++ pl) sz) (fun (u : (Int32 × Sto) × va_W) => [] ++ u.2)) (va_A ([] ++ pl) sz)) 0 0 (va_A ([] ++ pl) sz) := by
  refine mc_entry (cc := c_K_seedLength) (maxL := 1) (ret := (some .int)) (by decide) rfl (Nat.le_of_ble_eq_true rfl) ?_
  intro p e s0 m args below meth c ls F hr hlk hnm hsz hP hD hE hA hl
  obtain ⟨hx, hb, hml, hown, hts⟩ := id F
  have hK := hE.1
  generalize va_A ([] ++ pl) sz = A at hD hE hA ⊢
  have hS : va_S A s0.heap s0.heap [] := va_S.rf
  have hl : lv_has ls 1 [(0, .int (nI 5))] := hl
  have hR : F_K_seedLength_5 s = F_K_seedLength_5 s := rfl
  have hF : frm (M_K_seedLength_5) s s := frm_rf
  refine lv_iload_n hx hb dK_seedLength_0 rfl (lv_at hl 0 rfl) ?_
  refine lv_iconst (v := nI 3) hx hb dK_seedLength_1 (by decide) ?_
  refine mi_ge (tgt := 10) hx hb dK_seedLength_2 (by decide) (by omega) (by omega) (fun h21 => ?_) (fun h21 => absurd h21 (by omega))
  refine lv_bipush (v := nI 32) hx hb dK_seedLength_10 (by decide) ?_
  exact mp_iret hx hb hr hlk hP hD hS ((nI 32, s), pl) ⟨⟨hR.symm, rfl, hF, ⟨32, rfl, by omega⟩, rfl, trivial⟩, hO⟩ [] rfl rfl rfl (by omega) (by omega) dK_seedLength_12
def M_K_publicLength_5 (k : Nat) : Prop := (0 : Nat) = 1
noncomputable def F_K_publicLength_5 (s : Sto) : Int32 × Sto := (nI 2592, s)
set_option maxHeartbeats 2000000 in
set_option maxRecDepth 100000 in
theorem N_K_publicLength_5 (l : Launch) (g : Gd) (sz : Nat) (T : TyN) (s : Sto) (pl : va_W) (hO : okn g T s pl) (hU : inj T) (h0 : Nat) (k_h0 : T h0 = some 0)  : Met l y_K_publicLength w_K_publicLength ({ frames := 0, cells := 0, slots := 0, locals := 0 } : Room) (va_Pc [.ref h0, .int (nI 5)] (pr (en g) g.1 vcl sz ([] ++ pl))) (va_Qi (fun (r : Int32) (u : (Int32 × Sto) × va_W) => (u.1 = F_K_publicLength_5 s ∧ r = u.1.1 ∧ frm (M_K_publicLength_5) s u.1.2 ∧ (∃ x : Nat, u.1.1 = nI x ∧ x < 2593) ∧ (u.1.1 = nI 2592) ∧ True) ∧ okn g T u.1.2 u.2) (po g.1 vcl (va_A ([] ++ pl) sz) (fun (u : (Int32 × Sto) × va_W) => [] ++ u.2)) (va_A ([] ++ pl) sz)) 0 0 (va_A ([] ++ pl) sz) := by
  refine mc_entry (cc := c_K_publicLength) (maxL := 2) (ret := (some .int)) (by decide) rfl (Nat.le_of_ble_eq_true rfl) ?_
  intro p e s0 m args below meth c ls F hr hlk hnm hsz hP hD hE hA hl
  obtain ⟨hx, hb, hml, hown, hts⟩ := id F
  have hK := hE.1
  generalize va_A ([] ++ pl) sz = A at hD hE hA ⊢
  have hS : va_S A s0.heap s0.heap [] := va_S.rf
  have hl : lv_has ls 2 [(0, .ref h0), (1, .int (nI 5))] := hl
  have hR : F_K_publicLength_5 s = F_K_publicLength_5 s := rfl
  have hF : frm (M_K_publicLength_5) s s := frm_rf
  refine lv_iload_n hx hb dK_publicLength_0 rfl (lv_at hl 1 rfl) ?_
  refine lv_iconst (v := nI 3) hx hb dK_publicLength_1 (by decide) ?_
  refine mi_ge (tgt := 17) hx hb dK_publicLength_2 (by decide) (by omega) (by omega) (fun h21 => ?_) (fun h21 => absurd h21 (by omega))
  refine lv_aload_n hx hb dK_publicLength_17 rfl (lv_at hl 0 rfl) ?_
  refine nw_get (C := "LatticeKeys") (TT := T_K) (N := 11) hx hb hts (wg_ft i_K) hown hK hO k_h0 (kn := 0) (ci := 0) (fl := [(3, 1), (0, 0), (3, 2), (0, 0), (3, 3), (0, 0), (3, 4), (3, 8), (3, 12), (3, 24), (3, 39)]) rfl hP rfl 7 (by decide) (hts _ (wg_t kw_381)) (fun _ h9 => h9) (cd := (3, 8)) rfl dK_publicLength_18 (fun v21 hv21 => ?_)
  obtain ⟨r21, rfl, kr21⟩ := (show ∃ r : Nat, v21 = .ref r ∧ T r = some 8 from hv21)
  refine lv_iload_n hx hb dK_publicLength_21 rfl (lv_at hl 1 rfl) ?_
  refine lv_iconst (v := nI 3) hx hb dK_publicLength_22 (by decide) ?_
  refine mi_isub hx hb dK_publicLength_23 (by omega) ?_
  refine mi_as (show nI (5 - 3) = nI 2 from rfl) ?_
  refine nw_aald7 hx hb hK hO kr21 (k := 8) (b := 9) rfl hP (by omega) (by omega) dK_publicLength_24 (fun r22 kr22 => ?_)
  refine nw_get (C := "LatticeKeys$DsaSet") (TT := T_DS) (N := 17) hx hb hts (wg_ft i_DS) hown hK hO kr22 (kn := 11) (ci := 2) (fl := [(1, 8), (1, 7), (1, 2), (1, 3), (1, 60), (1, 64), (1, 20), (1, 524288), (1, 16), (1, 4), (1, 261888), (1, 75), (1, 120), (1, 2592), (1, 4896), (1, 4544), (1, 4627)]) rfl hP rfl 13 (by decide) (hts _ (wg_t kw_331)) (fun _ h9 => h9) (cd := (1, 2592)) rfl dK_publicLength_25 (fun v22 hv22 => ?_)
  obtain rfl := (show v22 = .int (nI 2592) from hv22)
  exact mp_iret hx hb hr hlk hP hD hS ((nI 2592, s), pl) ⟨⟨hR.symm, rfl, hF, ⟨2592, rfl, by omega⟩, rfl, trivial⟩, hO⟩ [] rfl rfl rfl (by omega) (by omega) dK_publicLength_28
def M_K_secretLength_5 (k : Nat) : Prop := (0 : Nat) = 1
noncomputable def F_K_secretLength_5 (s : Sto) : Int32 × Sto := (nI 4896, s)
set_option maxHeartbeats 2000000 in
set_option maxRecDepth 100000 in
theorem N_K_secretLength_5 (l : Launch) (g : Gd) (sz : Nat) (T : TyN) (s : Sto) (pl : va_W) (hO : okn g T s pl) (hU : inj T) (h0 : Nat) (k_h0 : T h0 = some 0)  : Met l y_K_secretLength w_K_secretLength ({ frames := 0, cells := 0, slots := 0, locals := 0 } : Room) (va_Pc [.ref h0, .int (nI 5)] (pr (en g) g.1 vcl sz ([] ++ pl))) (va_Qi (fun (r : Int32) (u : (Int32 × Sto) × va_W) => (u.1 = F_K_secretLength_5 s ∧ r = u.1.1 ∧ frm (M_K_secretLength_5) s u.1.2 ∧ (∃ x : Nat, u.1.1 = nI x ∧ x < 4897) ∧ (u.1.1 = nI 4896) ∧ True) ∧ okn g T u.1.2 u.2) (po g.1 vcl (va_A ([] ++ pl) sz) (fun (u : (Int32 × Sto) × va_W) => [] ++ u.2)) (va_A ([] ++ pl) sz)) 0 0 (va_A ([] ++ pl) sz) := by
  refine mc_entry (cc := c_K_secretLength) (maxL := 2) (ret := (some .int)) (by decide) rfl (Nat.le_of_ble_eq_true rfl) ?_
  intro p e s0 m args below meth c ls F hr hlk hnm hsz hP hD hE hA hl
  obtain ⟨hx, hb, hml, hown, hts⟩ := id F
  have hK := hE.1
  generalize va_A ([] ++ pl) sz = A at hD hE hA ⊢
  have hS : va_S A s0.heap s0.heap [] := va_S.rf
  have hl : lv_has ls 2 [(0, .ref h0), (1, .int (nI 5))] := hl
  have hR : F_K_secretLength_5 s = F_K_secretLength_5 s := rfl
  have hF : frm (M_K_secretLength_5) s s := frm_rf
  refine lv_iload_n hx hb dK_secretLength_0 rfl (lv_at hl 1 rfl) ?_
  refine lv_iconst (v := nI 3) hx hb dK_secretLength_1 (by decide) ?_
  refine mi_ge (tgt := 17) hx hb dK_secretLength_2 (by decide) (by omega) (by omega) (fun h21 => ?_) (fun h21 => absurd h21 (by omega))
  refine lv_aload_n hx hb dK_secretLength_17 rfl (lv_at hl 0 rfl) ?_
  refine nw_get (C := "LatticeKeys") (TT := T_K) (N := 11) hx hb hts (wg_ft i_K) hown hK hO k_h0 (kn := 0) (ci := 0) (fl := [(3, 1), (0, 0), (3, 2), (0, 0), (3, 3), (0, 0), (3, 4), (3, 8), (3, 12), (3, 24), (3, 39)]) rfl hP rfl 7 (by decide) (hts _ (wg_t kw_381)) (fun _ h9 => h9) (cd := (3, 8)) rfl dK_secretLength_18 (fun v21 hv21 => ?_)
  obtain ⟨r21, rfl, kr21⟩ := (show ∃ r : Nat, v21 = .ref r ∧ T r = some 8 from hv21)
  refine lv_iload_n hx hb dK_secretLength_21 rfl (lv_at hl 1 rfl) ?_
  refine lv_iconst (v := nI 3) hx hb dK_secretLength_22 (by decide) ?_
  refine mi_isub hx hb dK_secretLength_23 (by omega) ?_
  refine mi_as (show nI (5 - 3) = nI 2 from rfl) ?_
  refine nw_aald7 hx hb hK hO kr21 (k := 8) (b := 9) rfl hP (by omega) (by omega) dK_secretLength_24 (fun r22 kr22 => ?_)
  refine nw_get (C := "LatticeKeys$DsaSet") (TT := T_DS) (N := 17) hx hb hts (wg_ft i_DS) hown hK hO kr22 (kn := 11) (ci := 2) (fl := [(1, 8), (1, 7), (1, 2), (1, 3), (1, 60), (1, 64), (1, 20), (1, 524288), (1, 16), (1, 4), (1, 261888), (1, 75), (1, 120), (1, 2592), (1, 4896), (1, 4544), (1, 4627)]) rfl hP rfl 14 (by decide) (hts _ (wg_t kw_333)) (fun _ h9 => h9) (cd := (1, 4896)) rfl dK_secretLength_25 (fun v22 hv22 => ?_)
  obtain rfl := (show v22 = .int (nI 4896) from hv22)
  exact mp_iret hx hb hr hlk hP hD hS ((nI 4896, s), pl) ⟨⟨hR.symm, rfl, hF, ⟨4896, rfl, by omega⟩, rfl, trivial⟩, hO⟩ [] rfl rfl rfl (by omega) (by omega) dK_secretLength_28
def M_K_keep (k : Nat) : Prop := k = 0 ∨ k = 3 ∨ (0 : Nat) = 1
noncomputable def F_K_keep (kc : Nat) (s : Sto) : Int32 × Sto := bnd ((s.1 0 5).toNatClampNeg) fun z21 => bnd (sI s 3 z21 (nI (kc + 1))) fun s21 => bnd ((s21.1 0 5).toNatClampNeg) fun z22 => bnd (sI s21 0 5 (nI (z22 + 1))) fun s22 => bnd ((s22.1 0 5).toNatClampNeg) fun z23 => (nI (z23 - 1), s22)
set_option maxHeartbeats 2000000 in
set_option maxRecDepth 100000 in
theorem N_K_keep (l : Launch) (g : Gd) (sz : Nat) (T : TyN) (s : Sto) (pl : va_W) (hO : okn g T s pl) (hU : inj T) (h0 kr : Nat) (kc : Nat) (tl : Nat) (al : Nat) (pn : Nat) (k_h0 : T h0 = some 0) (k_kr : T kr = some (379 + 36 * pn + 3 * kc)) (e_tl : s.1 0 1 = nI tl) (e_al : s.1 0 3 = nI al) (e_pn : s.1 0 5 = nI pn) (h1 : kc < 12) (h3 : pn < 8) (h4 : tl ≤ 16384) (h5 : al ≤ 8192)  : Met l y_K_keep w_K_keep ({ frames := 0, cells := 0, slots := 0, locals := 0 } : Room) (va_Pc [.ref h0, .ref kr] (pr (en g) g.1 vcl sz ([] ++ pl))) (va_Qi (fun (r : Int32) (u : (Int32 × Sto) × va_W) => (u.1 = F_K_keep kc s ∧ r = u.1.1 ∧ frm (M_K_keep) s u.1.2 ∧ (∃ x : Nat, u.1.2.1 0 1 = nI x ∧ x = tl) ∧ (∃ x : Nat, u.1.2.1 0 3 = nI x ∧ x = al) ∧ (∃ x : Nat, u.1.2.1 0 5 = nI x ∧ x = pn + 1) ∧ True) ∧ okn g T u.1.2 u.2) (po g.1 vcl (va_A ([] ++ pl) sz) (fun (u : (Int32 × Sto) × va_W) => [] ++ u.2)) (va_A ([] ++ pl) sz)) 0 0 (va_A ([] ++ pl) sz) := by
  refine mc_entry (cc := c_K_keep) (maxL := 2) (ret := (some .int)) (by decide) rfl (Nat.le_of_ble_eq_true rfl) ?_
  intro p e s0 m args below meth c ls F hr hlk hnm hsz hP hD hE hA hl
  obtain ⟨hx, hb, hml, hown, hts⟩ := id F
  have hK := hE.1
  generalize va_A ([] ++ pl) sz = A at hD hE hA ⊢
  have hS : va_S A s0.heap s0.heap [] := va_S.rf
  have hl : lv_has ls 2 [(0, .ref h0), (1, .ref kr)] := hl
  have hR : F_K_keep kc s = F_K_keep kc s := rfl
  have hF : frm (M_K_keep) s s := frm_rf
  refine lv_aload_n hx hb dK_keep_0 rfl (lv_at hl 0 rfl) ?_
  refine nw_get (C := "LatticeKeys") (TT := T_K) (N := 11) hx hb hts (wg_ft i_K) hown hK hO k_h0 (kn := 0) (ci := 0) (fl := [(3, 1), (0, 0), (3, 2), (0, 0), (3, 3), (0, 0), (3, 4), (3, 8), (3, 12), (3, 24), (3, 39)]) rfl hP rfl 4 (by decide) (hts _ (wg_t kw_378)) (fun _ h9 => h9) (cd := (3, 3)) rfl dK_keep_1 (fun v21 hv21 => ?_)
  obtain ⟨r21, rfl, kr21⟩ := (show ∃ r : Nat, v21 = .ref r ∧ T r = some 3 from hv21)
  refine lv_aload_n hx hb dK_keep_4 rfl (lv_at hl 0 rfl) ?_
  refine nw_get (C := "LatticeKeys") (TT := T_K) (N := 11) hx hb hts (wg_ft i_K) hown hK hO k_h0 (kn := 0) (ci := 0) (fl := [(3, 1), (0, 0), (3, 2), (0, 0), (3, 3), (0, 0), (3, 4), (3, 8), (3, 12), (3, 24), (3, 39)]) rfl hP rfl 5 (by decide) (hts _ (wg_t kw_379)) (fun _ h9 => h9) (cd := (0, 0)) rfl dK_keep_5 (fun v22 hv22 => ?_)
  obtain rfl := (show v22 = .int (s.1 0 5) from hv22)
  obtain ⟨z21, ez21, hz21, hz22⟩ := cl_of (b := 2147483648) e_pn (by omega) (by decide)
  replace hR := bnd_step hR ez21
  refine mi_as hz21 ?_
  refine lv_aload_n hx hb dK_keep_8 rfl (lv_at hl 1 rfl) ?_
  have kv21 : T kr = some (379 + 36 * z21 + 3 * kc) := by rw [show z21 = pn by omega]; exact k_kr
  refine nw_aast8 hx hb hK hO hU kr21 (k := 3) (b := 379) rfl kv21 (by omega) (pr_ob (by omega) (by omega)) hP hD hS (by omega) (by omega) dK_keep_9 (fun s21 pl H locs es21 hO hP hD hS => ?_)
  replace hR := bnd_step hR es21
  have hF := frm_sI hF es21 (by unfold M_K_keep; omega)
  have hf21 : s21.1 0 1 = nI tl := fc_ne e_tl es21 (by omega)
  have hf22 : s21.1 0 3 = nI al := fc_ne e_al es21 (by omega)
  have hf23 : s21.1 0 5 = nI pn := fc_ne e_pn es21 (by omega)
  refine lv_aload_n hx hb dK_keep_10 rfl (lv_at hl 0 rfl) ?_
  refine lv_dup hx hb dK_keep_11 rfl ?_
  refine nw_get (C := "LatticeKeys") (TT := T_K) (N := 11) hx hb hts (wg_ft i_K) hown hK hO k_h0 (kn := 0) (ci := 0) (fl := [(3, 1), (0, 0), (3, 2), (0, 0), (3, 3), (0, 0), (3, 4), (3, 8), (3, 12), (3, 24), (3, 39)]) rfl hP rfl 5 (by decide) (hts _ (wg_t kw_379)) (fun _ h9 => h9) (cd := (0, 0)) rfl dK_keep_12 (fun v23 hv23 => ?_)
  obtain rfl := (show v23 = .int (s21.1 0 5) from hv23)
  obtain ⟨z22, ez22, hz23, hz24⟩ := cl_of (b := 2147483648) hf23 (by omega) (by decide)
  replace hR := bnd_step hR ez22
  refine mi_as hz23 ?_
  refine lv_iconst (v := nI 1) hx hb dK_keep_15 (by decide) ?_
  refine mi_iadd hx hb dK_keep_16 ?_
  refine nw_put (C := "LatticeKeys") (TT := T_K) (N := 11) hx hb hts (wg_ft i_K) ty_K k_K n_K hown hK hO hU k_h0 (kn := 0) (ci := 0) (fl := [(3, 1), (0, 0), (3, 2), (0, 0), (3, 3), (0, 0), (3, 4), (3, 8), (3, 12), (3, 24), (3, 39)]) rfl hP hD hS rfl 5 (by decide) (hts _ (wg_t kw_379)) (fun _ h9 => h9) rfl (by decide +kernel) rfl dK_keep_17 (fun s22 pl H locs es22 hO hP hD hS => ?_)
  replace hR := bnd_step hR es22
  have hF := frm_sI hF es22 (by unfold M_K_keep; omega)
  have hf24 : s22.1 0 1 = nI tl := fc_ne hf21 es22 (by omega)
  have hf25 : s22.1 0 3 = nI al := fc_ne hf22 es22 (by omega)
  have hf27 : s22.1 0 5 = nI (z22 + 1) := fc_eq es22
  refine lv_aload_n hx hb dK_keep_20 rfl (lv_at hl 0 rfl) ?_
  refine nw_get (C := "LatticeKeys") (TT := T_K) (N := 11) hx hb hts (wg_ft i_K) hown hK hO k_h0 (kn := 0) (ci := 0) (fl := [(3, 1), (0, 0), (3, 2), (0, 0), (3, 3), (0, 0), (3, 4), (3, 8), (3, 12), (3, 24), (3, 39)]) rfl hP rfl 5 (by decide) (hts _ (wg_t kw_379)) (fun _ h9 => h9) (cd := (0, 0)) rfl dK_keep_21 (fun v24 hv24 => ?_)
  obtain rfl := (show v24 = .int (s22.1 0 5) from hv24)
  obtain ⟨z23, ez23, hz25, hz26⟩ := cl_of (b := 2147483648) hf27 (by omega) (by decide)
  replace hR := bnd_step hR ez23
  refine mi_as hz25 ?_
  refine lv_iconst (v := nI 1) hx hb dK_keep_24 (by decide) ?_
  refine mi_isub hx hb dK_keep_25 (by omega) ?_
  exact mp_iret hx hb hr hlk hP hD hS ((nI (z23 - 1), s22), pl) ⟨⟨hR.symm, rfl, hF, ⟨tl, hf24, by omega⟩, ⟨al, hf25, by omega⟩, ⟨z22 + 1, hf27, by omega⟩, trivial⟩, hO⟩ [] rfl rfl rfl (by omega) (by omega) dK_keep_26
