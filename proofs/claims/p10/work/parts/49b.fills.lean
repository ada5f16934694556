set_option linter.all false
abbrev c_AR_fillI : ByteArray := prog_33_method_103_code
abbrev y_AR_fillI : MethodName := ⟨"java/util/Arrays", "fill", "([II)V"⟩
abbrev w_AR_fillI : List Cond := Cond.code y_AR_fillI c_AR_fillI 4 none :: WG
theorem dAR_fillI_0 : decode c_AR_fillI 0 = .ok (.iconst 0, 1) := by decide +kernel
theorem dAR_fillI_1 : decode c_AR_fillI 1 = .ok (.istore_n 2, 1) := by decide +kernel
theorem dAR_fillI_2 : decode c_AR_fillI 2 = .ok (.aload_n 0, 1) := by decide +kernel
theorem dAR_fillI_3 : decode c_AR_fillI 3 = .ok (.arraylength, 1) := by decide +kernel
theorem dAR_fillI_4 : decode c_AR_fillI 4 = .ok (.istore_n 3, 1) := by decide +kernel
theorem dAR_fillI_5 : decode c_AR_fillI 5 = .ok (.iload_n 2, 1) := by decide +kernel
theorem dAR_fillI_6 : decode c_AR_fillI 6 = .ok (.iload_n 3, 1) := by decide +kernel
theorem dAR_fillI_7 : decode c_AR_fillI 7 = .ok (.if_icmp .ge 13, 3) := by decide +kernel
theorem dAR_fillI_10 : decode c_AR_fillI 10 = .ok (.aload_n 0, 1) := by decide +kernel
theorem dAR_fillI_11 : decode c_AR_fillI 11 = .ok (.iload_n 2, 1) := by decide +kernel
theorem dAR_fillI_12 : decode c_AR_fillI 12 = .ok (.iload_n 1, 1) := by decide +kernel
theorem dAR_fillI_13 : decode c_AR_fillI 13 = .ok (.iastore, 1) := by decide +kernel
theorem dAR_fillI_14 : decode c_AR_fillI 14 = .ok (.iinc 2 1, 3) := by decide +kernel
theorem dAR_fillI_17 : decode c_AR_fillI 17 = .ok (.goto (-12), 3) := by decide +kernel
theorem dAR_fillI_20 : decode c_AR_fillI 20 = .ok (.return_, 1) := by decide +kernel
abbrev c_AR_fillB : ByteArray := prog_33_method_109_code
abbrev y_AR_fillB : MethodName := ⟨"java/util/Arrays", "fill", "([BB)V"⟩
abbrev w_AR_fillB : List Cond := Cond.code y_AR_fillB c_AR_fillB 4 none :: WG
theorem dAR_fillB_0 : decode c_AR_fillB 0 = .ok (.iconst 0, 1) := by decide +kernel
theorem dAR_fillB_1 : decode c_AR_fillB 1 = .ok (.istore_n 2, 1) := by decide +kernel
theorem dAR_fillB_2 : decode c_AR_fillB 2 = .ok (.aload_n 0, 1) := by decide +kernel
theorem dAR_fillB_3 : decode c_AR_fillB 3 = .ok (.arraylength, 1) := by decide +kernel
theorem dAR_fillB_4 : decode c_AR_fillB 4 = .ok (.istore_n 3, 1) := by decide +kernel
theorem dAR_fillB_5 : decode c_AR_fillB 5 = .ok (.iload_n 2, 1) := by decide +kernel
theorem dAR_fillB_6 : decode c_AR_fillB 6 = .ok (.iload_n 3, 1) := by decide +kernel
theorem dAR_fillB_7 : decode c_AR_fillB 7 = .ok (.if_icmp .ge 13, 3) := by decide +kernel
theorem dAR_fillB_10 : decode c_AR_fillB 10 = .ok (.aload_n 0, 1) := by decide +kernel
theorem dAR_fillB_11 : decode c_AR_fillB 11 = .ok (.iload_n 2, 1) := by decide +kernel
theorem dAR_fillB_12 : decode c_AR_fillB 12 = .ok (.iload_n 1, 1) := by decide +kernel
theorem dAR_fillB_13 : decode c_AR_fillB 13 = .ok (.bastore, 1) := by decide +kernel
theorem dAR_fillB_14 : decode c_AR_fillB 14 = .ok (.iinc 2 1, 3) := by decide +kernel
theorem dAR_fillB_17 : decode c_AR_fillB 17 = .ok (.goto (-12), 3) := by decide +kernel
theorem dAR_fillB_20 : decode c_AR_fillB 20 = .ok (.return_, 1) := by decide +kernel
abbrev c_JI_bitCount : ByteArray := prog_23_method_49_code
abbrev y_JI_bitCount : MethodName := ⟨"java/lang/Integer", "bitCount", "(I)I"⟩
abbrev w_JI_bitCount : List Cond := Cond.code y_JI_bitCount c_JI_bitCount 1 (some .int) :: WG
theorem dJI_bitCount_0 : decode c_JI_bitCount 0 = .ok (.iload_n 0, 1) := by decide +kernel
theorem dJI_bitCount_1 : decode c_JI_bitCount 1 = .ok (.iload_n 0, 1) := by decide +kernel
theorem dJI_bitCount_2 : decode c_JI_bitCount 2 = .ok (.iconst 1, 1) := by decide +kernel
theorem dJI_bitCount_3 : decode c_JI_bitCount 3 = .ok (.iushr, 1) := by decide +kernel
theorem dJI_bitCount_4 : decode c_JI_bitCount 4 = .ok (.ldc_w 265, 3) := by decide +kernel
theorem dJI_bitCount_7 : decode c_JI_bitCount 7 = .ok (.iand, 1) := by decide +kernel
theorem dJI_bitCount_8 : decode c_JI_bitCount 8 = .ok (.isub, 1) := by decide +kernel
theorem dJI_bitCount_9 : decode c_JI_bitCount 9 = .ok (.istore_n 0, 1) := by decide +kernel
theorem dJI_bitCount_10 : decode c_JI_bitCount 10 = .ok (.iload_n 0, 1) := by decide +kernel
theorem dJI_bitCount_11 : decode c_JI_bitCount 11 = .ok (.ldc_w 266, 3) := by decide +kernel
theorem dJI_bitCount_14 : decode c_JI_bitCount 14 = .ok (.iand, 1) := by decide +kernel
theorem dJI_bitCount_15 : decode c_JI_bitCount 15 = .ok (.iload_n 0, 1) := by decide +kernel
theorem dJI_bitCount_16 : decode c_JI_bitCount 16 = .ok (.iconst 2, 1) := by decide +kernel
theorem dJI_bitCount_17 : decode c_JI_bitCount 17 = .ok (.iushr, 1) := by decide +kernel
theorem dJI_bitCount_18 : decode c_JI_bitCount 18 = .ok (.ldc_w 266, 3) := by decide +kernel
theorem dJI_bitCount_21 : decode c_JI_bitCount 21 = .ok (.iand, 1) := by decide +kernel
theorem dJI_bitCount_22 : decode c_JI_bitCount 22 = .ok (.iadd, 1) := by decide +kernel
theorem dJI_bitCount_23 : decode c_JI_bitCount 23 = .ok (.istore_n 0, 1) := by decide +kernel
theorem dJI_bitCount_24 : decode c_JI_bitCount 24 = .ok (.iload_n 0, 1) := by decide +kernel
theorem dJI_bitCount_25 : decode c_JI_bitCount 25 = .ok (.iload_n 0, 1) := by decide +kernel
theorem dJI_bitCount_26 : decode c_JI_bitCount 26 = .ok (.iconst 4, 1) := by decide +kernel
theorem dJI_bitCount_27 : decode c_JI_bitCount 27 = .ok (.iushr, 1) := by decide +kernel
theorem dJI_bitCount_28 : decode c_JI_bitCount 28 = .ok (.iadd, 1) := by decide +kernel
theorem dJI_bitCount_29 : decode c_JI_bitCount 29 = .ok (.ldc_w 267, 3) := by decide +kernel
theorem dJI_bitCount_32 : decode c_JI_bitCount 32 = .ok (.iand, 1) := by decide +kernel
theorem dJI_bitCount_33 : decode c_JI_bitCount 33 = .ok (.istore_n 0, 1) := by decide +kernel
theorem dJI_bitCount_34 : decode c_JI_bitCount 34 = .ok (.iload_n 0, 1) := by decide +kernel
theorem dJI_bitCount_35 : decode c_JI_bitCount 35 = .ok (.iload_n 0, 1) := by decide +kernel
theorem dJI_bitCount_36 : decode c_JI_bitCount 36 = .ok (.bipush 8, 2) := by decide +kernel
theorem dJI_bitCount_38 : decode c_JI_bitCount 38 = .ok (.iushr, 1) := by decide +kernel
theorem dJI_bitCount_39 : decode c_JI_bitCount 39 = .ok (.iadd, 1) := by decide +kernel
theorem dJI_bitCount_40 : decode c_JI_bitCount 40 = .ok (.istore_n 0, 1) := by decide +kernel
theorem dJI_bitCount_41 : decode c_JI_bitCount 41 = .ok (.iload_n 0, 1) := by decide +kernel
theorem dJI_bitCount_42 : decode c_JI_bitCount 42 = .ok (.iload_n 0, 1) := by decide +kernel
theorem dJI_bitCount_43 : decode c_JI_bitCount 43 = .ok (.bipush 16, 2) := by decide +kernel
theorem dJI_bitCount_45 : decode c_JI_bitCount 45 = .ok (.iushr, 1) := by decide +kernel
theorem dJI_bitCount_46 : decode c_JI_bitCount 46 = .ok (.iadd, 1) := by decide +kernel
theorem dJI_bitCount_47 : decode c_JI_bitCount 47 = .ok (.istore_n 0, 1) := by decide +kernel
theorem dJI_bitCount_48 : decode c_JI_bitCount 48 = .ok (.iload_n 0, 1) := by decide +kernel
theorem dJI_bitCount_49 : decode c_JI_bitCount 49 = .ok (.bipush 63, 2) := by decide +kernel
theorem dJI_bitCount_51 : decode c_JI_bitCount 51 = .ok (.iand, 1) := by decide +kernel
theorem dJI_bitCount_52 : decode c_JI_bitCount 52 = .ok (.ireturn, 1) := by decide +kernel
def M_AR_fillI (pf : Nat) (k : Nat) : Prop := k = pf ∨ (0 : Nat) = 1
noncomputable def F_AR_fillI_L0 (pf : Nat) (v : Int32) : Nat → Nat → Sto → Sto
  | 0, i21, s21 => s21
  | n21 + 1, i21, s21 => bnd (sI s21 pf i21 v) fun s22 => F_AR_fillI_L0 pf v n21 (i21 + 1) s22
noncomputable def F_AR_fillI (pf : Nat) (n : Nat) (v : Int32) (s : Sto) : Sto := F_AR_fillI_L0 pf v n 0 s
set_option maxHeartbeats 400000 in
set_option maxRecDepth 100000 in
theorem N_AR_fillI (l : Launch) (g : Gd) (sz : Nat) (T : TyN) (s : Sto) (pl : va_W) (hO : okn g T s pl) (hU : inj T) (f : Nat) (pf : Nat) (n : Nat) (v : Int32) (k_f : T f = some pf) (n_f : nsp pf = (0, n, [])) (hn : n < 2147483648)  : Met l y_AR_fillI w_AR_fillI ({ frames := 0, cells := 0, slots := 0, locals := 0 } : Room) (va_Pc [.ref f, .int v] (pr (en g) g.1 vcl sz ([] ++ pl))) (va_Qv (fun (u : (Sto) × va_W) => (u.1 = F_AR_fillI pf n v s ∧ frm (M_AR_fillI pf) s u.1 ∧ True) ∧ okn g T u.1 u.2) (po g.1 vcl (va_A ([] ++ pl) sz) (fun (u : (Sto) × va_W) => [] ++ u.2)) (va_A ([] ++ pl) sz)) 0 0 (va_A ([] ++ pl) sz) := by
  refine mc_entry (cc := c_AR_fillI) (maxL := 4) (ret := none) (by decide) rfl (Nat.le_of_ble_eq_true rfl) ?_
  intro p e s0 m args below meth c ls F hr hlk hnm hsz hP hD hE hA hl
  obtain ⟨hx, hb, hml, hown, hts⟩ := id F
  have hK := hE.1
  generalize va_A ([] ++ pl) sz = A at hD hE hA ⊢
  have hS : va_S A s0.heap s0.heap [] := va_S.rf
  have hl : lv_has ls 4 [(0, .ref f), (1, .int v)] := hl
  have hR : F_AR_fillI pf n v s = F_AR_fillI pf n v s := rfl
  have hF : frm (M_AR_fillI pf) s s := frm_rf
  refine lv_iconst (v := nI 0) hx hb dAR_fillI_0 (by decide) ?_
  refine lv_istore_n (lv' := [(2, .int (nI 0)), (0, .ref f), (1, .int v)]) hx hb dAR_fillI_1 rfl hl (by decide) rfl (fun ls hl => ?_)
  refine lv_aload_n hx hb dAR_fillI_2 rfl (lv_at hl 1 rfl) ?_
  refine nw_alen0 hx hb hK hO k_f (k := pf) n_f hP dAR_fillI_3 ?_
  refine lv_istore_n (lv' := [(3, .int (nI n)), (2, .int (nI 0)), (0, .ref f), (1, .int v)]) hx hb dAR_fillI_4 rfl hl (by decide) rfl (fun ls hl => ?_)
  have lp21 : ∀ (n21 : Nat) (i21 : Nat) (s21 : Sto) (pl : va_W) (ls : Array Slot) (H : Heap) (locs : List Loc), n21 + i21 = n → frm (M_AR_fillI pf) s s21 → F_AR_fillI pf n v s = F_AR_fillI_L0 pf v n21 i21 s21 → lv_has ls 4 [(3, .int (nI n)), (2, .int (nI i21)), (0, .ref f), (1, .int v)] → okn g T s21 pl → va_P g.1 vcl ([] ++ pl) H → va_D A ([] ++ pl) → va_S A s0.heap H locs → W p l e ({ frames := 0, cells := 0, slots := 0, locals := 0 } : Room) s0 m args below meth c H locs 0 0 (MQ below (va_Qv (fun (u : (Sto) × va_W) => (u.1 = F_AR_fillI pf n v s ∧ frm (M_AR_fillI pf) s u.1 ∧ True) ∧ okn g T u.1 u.2) (po g.1 vcl A (fun (u : (Sto) × va_W) => [] ++ u.2)) A) args s0 0 0 A) (F0 m 5 ls []) := by
    intro n21
    induction n21 with
    | zero =>
      intro i21 s21 pl ls H locs hm21 hF hR hl hO hP hD hS
      refine lv_iload_n hx hb dAR_fillI_5 rfl (lv_at hl 1 rfl) ?_
      refine lv_iload_n hx hb dAR_fillI_6 rfl (lv_at hl 0 rfl) ?_
      refine mi_ge (tgt := 20) hx hb dAR_fillI_7 (by decide) (by omega) (by omega) (fun h21 => ?_) (fun h21 => absurd h21 (by omega))
      exact mp_vret hx hb hr hlk hP hD hS (s21, pl) ⟨⟨hR.symm, hF, trivial⟩, hO⟩ [] rfl rfl rfl (by omega) (by omega) dAR_fillI_20
    | succ n21 ih21 =>
      intro i21 s21 pl ls H locs hm21 hF hR hl hO hP hD hS
      refine lv_iload_n hx hb dAR_fillI_5 rfl (lv_at hl 1 rfl) ?_
      refine lv_iload_n hx hb dAR_fillI_6 rfl (lv_at hl 0 rfl) ?_
      refine mi_ge (tgt := 20) hx hb dAR_fillI_7 (by decide) (by omega) (by omega) (fun h22 => absurd h22 (by omega)) (fun h22 => ?_)
      refine lv_aload_n hx hb dAR_fillI_10 rfl (lv_at hl 2 rfl) ?_
      refine lv_iload_n hx hb dAR_fillI_11 rfl (lv_at hl 1 rfl) ?_
      refine lv_iload_n hx hb dAR_fillI_12 rfl (lv_at hl 3 rfl) ?_
      refine nw_iast hx hb hK hO hU k_f (k := pf) n_f hP hD hS (by omega) (by omega) dAR_fillI_13 (fun s22 pl H locs es21 hO hP hD hS => ?_)
      replace hR := bnd_step hR es21
      have hF := frm_sI hF es21 (by unfold M_AR_fillI; omega)
      refine mi_iinc (k := 1) (x := i21) (d := 1) (y := i21 + 1) (lv' := [(2, .int (nI (i21 + 1))), (3, .int (nI n)), (0, .ref f), (1, .int v)]) hx hb dAR_fillI_14 hl rfl (by decide) rfl (by decide) rfl (fun ls hl => ?_)
      refine lv_goto (tgt := 5) hx hb dAR_fillI_17 (by decide) ?_
      exact ih21 (i21 + 1) s22 pl ls H locs (by omega) hF hR (lv_sub hl [1, 0, 2, 3] rfl) hO hP hD hS
  exact lp21 n 0 s pl ls _ _ (by omega) hF hR (lv_sub hl [0, 1, 2, 3] rfl) hO hP hD hS
def M_AR_fillB (pf : Nat) (k : Nat) : Prop := k = pf ∨ (0 : Nat) = 1
noncomputable def F_AR_fillB_L0 (pf : Nat) (v : Int32) : Nat → Nat → Sto → Sto
  | 0, i21, s21 => s21
  | n21 + 1, i21, s21 => bnd (sB s21 pf i21 v) fun s22 => F_AR_fillB_L0 pf v n21 (i21 + 1) s22
noncomputable def F_AR_fillB (pf : Nat) (n : Nat) (v : Int32) (s : Sto) : Sto := F_AR_fillB_L0 pf v n 0 s
set_option maxHeartbeats 400000 in
set_option maxRecDepth 100000 in
theorem N_AR_fillB (l : Launch) (g : Gd) (sz : Nat) (T : TyN) (s : Sto) (pl : va_W) (hO : okn g T s pl) (hU : inj T) (f : Nat) (pf : Nat) (n : Nat) (v : Int32) (k_f : T f = some pf) (n_f : nsp pf = (1, n, [])) (hn : n < 2147483648)  : Met l y_AR_fillB w_AR_fillB ({ frames := 0, cells := 0, slots := 0, locals := 0 } : Room) (va_Pc [.ref f, .int v] (pr (en g) g.1 vcl sz ([] ++ pl))) (va_Qv (fun (u : (Sto) × va_W) => (u.1 = F_AR_fillB pf n v s ∧ frm (M_AR_fillB pf) s u.1 ∧ True) ∧ okn g T u.1 u.2) (po g.1 vcl (va_A ([] ++ pl) sz) (fun (u : (Sto) × va_W) => [] ++ u.2)) (va_A ([] ++ pl) sz)) 0 0 (va_A ([] ++ pl) sz) := by
  refine mc_entry (cc := c_AR_fillB) (maxL := 4) (ret := none) (by decide) rfl (Nat.le_of_ble_eq_true rfl) ?_
  intro p e s0 m args below meth c ls F hr hlk hnm hsz hP hD hE hA hl
  obtain ⟨hx, hb, hml, hown, hts⟩ := id F
  have hK := hE.1
  generalize va_A ([] ++ pl) sz = A at hD hE hA ⊢
  have hS : va_S A s0.heap s0.heap [] := va_S.rf
  have hl : lv_has ls 4 [(0, .ref f), (1, .int v)] := hl
  have hR : F_AR_fillB pf n v s = F_AR_fillB pf n v s := rfl
  have hF : frm (M_AR_fillB pf) s s := frm_rf
  refine lv_iconst (v := nI 0) hx hb dAR_fillB_0 (by decide) ?_
  refine lv_istore_n (lv' := [(2, .int (nI 0)), (0, .ref f), (1, .int v)]) hx hb dAR_fillB_1 rfl hl (by decide) rfl (fun ls hl => ?_)
  refine lv_aload_n hx hb dAR_fillB_2 rfl (lv_at hl 1 rfl) ?_
  refine nw_alen1 hx hb hK hO k_f (k := pf) n_f hP dAR_fillB_3 ?_
  refine lv_istore_n (lv' := [(3, .int (nI n)), (2, .int (nI 0)), (0, .ref f), (1, .int v)]) hx hb dAR_fillB_4 rfl hl (by decide) rfl (fun ls hl => ?_)
  have lp21 : ∀ (n21 : Nat) (i21 : Nat) (s21 : Sto) (pl : va_W) (ls : Array Slot) (H : Heap) (locs : List Loc), n21 + i21 = n → frm (M_AR_fillB pf) s s21 → F_AR_fillB pf n v s = F_AR_fillB_L0 pf v n21 i21 s21 → lv_has ls 4 [(3, .int (nI n)), (2, .int (nI i21)), (0, .ref f), (1, .int v)] → okn g T s21 pl → va_P g.1 vcl ([] ++ pl) H → va_D A ([] ++ pl) → va_S A s0.heap H locs → W p l e ({ frames := 0, cells := 0, slots := 0, locals := 0 } : Room) s0 m args below meth c H locs 0 0 (MQ below (va_Qv (fun (u : (Sto) × va_W) => (u.1 = F_AR_fillB pf n v s ∧ frm (M_AR_fillB pf) s u.1 ∧ True) ∧ okn g T u.1 u.2) (po g.1 vcl A (fun (u : (Sto) × va_W) => [] ++ u.2)) A) args s0 0 0 A) (F0 m 5 ls []) := by
    intro n21
    induction n21 with
    | zero =>
      intro i21 s21 pl ls H locs hm21 hF hR hl hO hP hD hS
      refine lv_iload_n hx hb dAR_fillB_5 rfl (lv_at hl 1 rfl) ?_
      refine lv_iload_n hx hb dAR_fillB_6 rfl (lv_at hl 0 rfl) ?_
      refine mi_ge (tgt := 20) hx hb dAR_fillB_7 (by decide) (by omega) (by omega) (fun h21 => ?_) (fun h21 => absurd h21 (by omega))
      exact mp_vret hx hb hr hlk hP hD hS (s21, pl) ⟨⟨hR.symm, hF, trivial⟩, hO⟩ [] rfl rfl rfl (by omega) (by omega) dAR_fillB_20
    | succ n21 ih21 =>
      intro i21 s21 pl ls H locs hm21 hF hR hl hO hP hD hS
      refine lv_iload_n hx hb dAR_fillB_5 rfl (lv_at hl 1 rfl) ?_
      refine lv_iload_n hx hb dAR_fillB_6 rfl (lv_at hl 0 rfl) ?_
      refine mi_ge (tgt := 20) hx hb dAR_fillB_7 (by decide) (by omega) (by omega) (fun h22 => absurd h22 (by omega)) (fun h22 => ?_)
      refine lv_aload_n hx hb dAR_fillB_10 rfl (lv_at hl 2 rfl) ?_
      refine lv_iload_n hx hb dAR_fillB_11 rfl (lv_at hl 1 rfl) ?_
      refine lv_iload_n hx hb dAR_fillB_12 rfl (lv_at hl 3 rfl) ?_
      refine nw_bast hx hb hK hO hU k_f (k := pf) n_f hP hD hS (by omega) (by omega) dAR_fillB_13 (fun s22 pl H locs es21 hO hP hD hS => ?_)
      replace hR := bnd_step hR es21
      have hF := frm_sB hF es21 (by unfold M_AR_fillB; omega)
      refine mi_iinc (k := 1) (x := i21) (d := 1) (y := i21 + 1) (lv' := [(2, .int (nI (i21 + 1))), (3, .int (nI n)), (0, .ref f), (1, .int v)]) hx hb dAR_fillB_14 hl rfl (by decide) rfl (by decide) rfl (fun ls hl => ?_)
      refine lv_goto (tgt := 5) hx hb dAR_fillB_17 (by decide) ?_
      exact ih21 (i21 + 1) s22 pl ls H locs (by omega) hF hR (lv_sub hl [1, 0, 2, 3] rfl) hO hP hD hS
  exact lp21 n 0 s pl ls _ _ (by omega) hF hR (lv_sub hl [0, 1, 2, 3] rfl) hO hP hD hS
def M_AR_fillJ (k : Nat) : Prop := (0 : Nat) = 1
noncomputable def F_AR_fillJ_L0 (pf : Nat) (v : Int64) : Nat → Nat → Sto → Sto
  | 0, i21, s21 => s21
  | n21 + 1, i21, s21 => bnd (sL s21 pf i21 v) fun s22 => F_AR_fillJ_L0 pf v n21 (i21 + 1) s22
noncomputable def F_AR_fillJ (pf : Nat) (n : Nat) (v : Int64) (s : Sto) : Sto := F_AR_fillJ_L0 pf v n 0 s
set_option maxHeartbeats 400000 in
set_option maxRecDepth 100000 in
theorem N_AR_fillJ (l : Launch) (g : Gd) (sz : Nat) (T : TyN) (s : Sto) (pl : va_W) (hO : okn g T s pl) (hU : inj T) (f : Nat) (pf : Nat) (n : Nat) (v : Int64) (k_f : T f = some pf) (n_f : nsp pf = (2, n, [])) (hn : n < 2147483648)  : Met l y_AR_fillJ w_AR_fillJ ({ frames := 0, cells := 0, slots := 0, locals := 0 } : Room) (va_Pc [.ref f, .long v] (pr (en g) g.1 vcl sz ([] ++ pl))) (va_Qv (fun (u : (Sto) × va_W) => (u.1 = F_AR_fillJ pf n v s ∧ frm (M_AR_fillJ) s u.1 ∧ True) ∧ okn g T u.1 u.2) (po g.1 vcl (va_A ([] ++ pl) sz) (fun (u : (Sto) × va_W) => [] ++ u.2)) (va_A ([] ++ pl) sz)) 0 0 (va_A ([] ++ pl) sz) := by
  refine mc_entry (cc := c_AR_fillJ) (maxL := 5) (ret := none) (by decide) rfl (Nat.le_of_ble_eq_true rfl) ?_
  intro p e s0 m args below meth c ls F hr hlk hnm hsz hP hD hE hA hl
  obtain ⟨hx, hb, hml, hown, hts⟩ := id F
  have hK := hE.1
  generalize va_A ([] ++ pl) sz = A at hD hE hA ⊢
  have hS : va_S A s0.heap s0.heap [] := va_S.rf
  have hl : lv_has ls 5 [(0, .ref f), (1, .long v)] := hl
  have hR : F_AR_fillJ pf n v s = F_AR_fillJ pf n v s := rfl
  have hF : frm (M_AR_fillJ) s s := frm_rf
  refine lv_iconst (v := nI 0) hx hb dAR_fillJ_0 (by decide) ?_
  refine lv_istore_n (lv' := [(3, .int (nI 0)), (0, .ref f), (1, .long v)]) hx hb dAR_fillJ_1 rfl hl (by decide) rfl (fun ls hl => ?_)
  refine lv_aload_n hx hb dAR_fillJ_2 rfl (lv_at hl 1 rfl) ?_
  refine nw_alen2 hx hb hK hO k_f (k := pf) n_f hP dAR_fillJ_3 ?_
  refine lv_istore (lv' := [(4, .int (nI n)), (3, .int (nI 0)), (0, .ref f), (1, .long v)]) hx hb dAR_fillJ_4 hl (by decide) rfl (fun ls hl => ?_)
  have lp21 : ∀ (n21 : Nat) (i21 : Nat) (s21 : Sto) (pl : va_W) (ls : Array Slot) (H : Heap) (locs : List Loc), n21 + i21 = n → frm (M_AR_fillJ) s s21 → F_AR_fillJ pf n v s = F_AR_fillJ_L0 pf v n21 i21 s21 → lv_has ls 5 [(4, .int (nI n)), (3, .int (nI i21)), (0, .ref f), (1, .long v)] → okn g T s21 pl → va_P g.1 vcl ([] ++ pl) H → va_D A ([] ++ pl) → va_S A s0.heap H locs → W p l e ({ frames := 0, cells := 0, slots := 0, locals := 0 } : Room) s0 m args below meth c H locs 0 0 (MQ below (va_Qv (fun (u : (Sto) × va_W) => (u.1 = F_AR_fillJ pf n v s ∧ frm (M_AR_fillJ) s u.1 ∧ True) ∧ okn g T u.1 u.2) (po g.1 vcl A (fun (u : (Sto) × va_W) => [] ++ u.2)) A) args s0 0 0 A) (F0 m 6 ls []) := by
    intro n21
    induction n21 with
    | zero =>
      intro i21 s21 pl ls H locs hm21 hF hR hl hO hP hD hS
      refine lv_iload_n hx hb dAR_fillJ_6 rfl (lv_at hl 1 rfl) ?_
      refine lv_iload hx hb dAR_fillJ_7 (lv_at hl 0 rfl) ?_
      refine mi_ge (tgt := 22) hx hb dAR_fillJ_9 (by decide) (by omega) (by omega) (fun h21 => ?_) (fun h21 => absurd h21 (by omega))
      exact mp_vret hx hb hr hlk hP hD hS (s21, pl) ⟨⟨hR.symm, hF, trivial⟩, hO⟩ [] rfl rfl rfl (by omega) (by omega) dAR_fillJ_22
    | succ n21 ih21 =>
      intro i21 s21 pl ls H locs hm21 hF hR hl hO hP hD hS
      refine lv_iload_n hx hb dAR_fillJ_6 rfl (lv_at hl 1 rfl) ?_
      refine lv_iload hx hb dAR_fillJ_7 (lv_at hl 0 rfl) ?_
      refine mi_ge (tgt := 22) hx hb dAR_fillJ_9 (by decide) (by omega) (by omega) (fun h22 => absurd h22 (by omega)) (fun h22 => ?_)
      refine lv_aload_n hx hb dAR_fillJ_12 rfl (lv_at hl 2 rfl) ?_
      refine lv_iload_n hx hb dAR_fillJ_13 rfl (lv_at hl 1 rfl) ?_
      refine lv_lload_n hx hb dAR_fillJ_14 rfl (lv_at hl 3 rfl) ?_
      refine nw_last hx hb hK hO hU k_f (k := pf) n_f hP hD hS (by omega) (by omega) dAR_fillJ_15 (fun s22 pl H locs es21 hO hP hD hS => ?_)
      replace hR := bnd_step hR es21
      have hF := frm_sL hF es21
      refine mi_iinc (k := 1) (x := i21) (d := 1) (y := i21 + 1) (lv' := [(3, .int (nI (i21 + 1))), (4, .int (nI n)), (0, .ref f), (1, .long v)]) hx hb dAR_fillJ_16 hl rfl (by decide) rfl (by decide) rfl (fun ls hl => ?_)
      refine lv_goto (tgt := 6) hx hb dAR_fillJ_19 (by decide) ?_
      exact ih21 (i21 + 1) s22 pl ls H locs (by omega) hF hR (lv_sub hl [1, 0, 2, 3] rfl) hO hP hD hS
  exact lp21 n 0 s pl ls _ _ (by omega) hF hR (lv_sub hl [0, 1, 2, 3] rfl) hO hP hD hS
def M_JI_bitCount (k : Nat) : Prop := (0 : Nat) = 1
noncomputable def F_JI_bitCount (v : Int32) (s : Sto) : Int32 × Sto := bnd ((v - ((((v).toUInt32 >>> ((nI 1).toUInt32 &&& Int32.toUInt32 31)).toInt32) &&& (nI 1431655765)))) fun z21 => bnd (((z21 &&& (nI 858993459)) + ((((z21).toUInt32 >>> ((nI 2).toUInt32 &&& Int32.toUInt32 31)).toInt32) &&& (nI 858993459)))) fun z22 => bnd (((z22 + (((z22).toUInt32 >>> ((nI 4).toUInt32 &&& Int32.toUInt32 31)).toInt32)) &&& (nI 252645135))) fun z23 => bnd ((z23 + (((z23).toUInt32 >>> ((nI 8).toUInt32 &&& Int32.toUInt32 31)).toInt32))) fun z24 => bnd ((z24 + (((z24).toUInt32 >>> ((nI 16).toUInt32 &&& Int32.toUInt32 31)).toInt32))) fun z25 => ((z25 &&& (nI 63)), s)
set_option maxHeartbeats 400000 in
set_option maxRecDepth 100000 in
theorem N_JI_bitCount (l : Launch) (g : Gd) (sz : Nat) (T : TyN) (s : Sto) (pl : va_W) (hO : okn g T s pl) (hU : inj T) (v : Int32)   : Met l y_JI_bitCount w_JI_bitCount ({ frames := 0, cells := 0, slots := 0, locals := 0 } : Room) (va_Pc [.int v] (pr (en g) g.1 vcl sz ([] ++ pl))) (va_Qi (fun (r : Int32) (u : (Int32 × Sto) × va_W) => (u.1 = F_JI_bitCount v s ∧ r = u.1.1 ∧ frm (M_JI_bitCount) s u.1.2 ∧ True) ∧ okn g T u.1.2 u.2) (po g.1 vcl (va_A ([] ++ pl) sz) (fun (u : (Int32 × Sto) × va_W) => [] ++ u.2)) (va_A ([] ++ pl) sz)) 0 0 (va_A ([] ++ pl) sz) := by
  refine mc_entry (cc := c_JI_bitCount) (maxL := 1) (ret := (some .int)) (by decide) rfl (Nat.le_of_ble_eq_true rfl) ?_
  intro p e s0 m args below meth c ls F hr hlk hnm hsz hP hD hE hA hl
  obtain ⟨hx, hb, hml, hown, hts⟩ := id F
  have hK := hE.1
  generalize va_A ([] ++ pl) sz = A at hD hE hA ⊢
  have hS : va_S A s0.heap s0.heap [] := va_S.rf
  have hl : lv_has ls 1 [(0, .int v)] := hl
  have hR : F_JI_bitCount v s = F_JI_bitCount v s := rfl
  have hF : frm (M_JI_bitCount) s s := frm_rf
  refine lv_iload_n hx hb dJI_bitCount_0 rfl (lv_at hl 0 rfl) ?_
  refine lv_iload_n hx hb dJI_bitCount_1 rfl (lv_at hl 0 rfl) ?_
  refine lv_iconst (v := nI 1) hx hb dJI_bitCount_2 (by decide) ?_
  refine lv_iushr hx hb dJI_bitCount_3 rfl ?_
  refine lv_ldcw (v := 1431655765) hx hb hown (hts _ (wg_t kw_633)) dJI_bitCount_4 ?_
  refine mi_as (show (1431655765 : Int32) = nI 1431655765 by decide) ?_
  refine lv_iand hx hb dJI_bitCount_7 ?_
  refine lv_isub hx hb dJI_bitCount_8 ?_
  refine mi_eqv (fun z21 ez21 => ?_)
  replace hR := bnd_step hR ez21
  refine lv_istore_n (lv' := [(0, .int z21)]) hx hb dJI_bitCount_9 rfl hl (by decide) rfl (fun ls hl => ?_)
  refine lv_iload_n hx hb dJI_bitCount_10 rfl (lv_at hl 0 rfl) ?_
  refine lv_ldcw (v := 858993459) hx hb hown (hts _ (wg_t kw_634)) dJI_bitCount_11 ?_
  refine mi_as (show (858993459 : Int32) = nI 858993459 by decide) ?_
  refine lv_iand hx hb dJI_bitCount_14 ?_
  refine lv_iload_n hx hb dJI_bitCount_15 rfl (lv_at hl 0 rfl) ?_
  refine lv_iconst (v := nI 2) hx hb dJI_bitCount_16 (by decide) ?_
  refine lv_iushr hx hb dJI_bitCount_17 rfl ?_
  refine lv_ldcw (v := 858993459) hx hb hown (hts _ (wg_t kw_634)) dJI_bitCount_18 ?_
  refine mi_as (show (858993459 : Int32) = nI 858993459 by decide) ?_
  refine lv_iand hx hb dJI_bitCount_21 ?_
  refine lv_iadd hx hb dJI_bitCount_22 ?_
  refine mi_eqv (fun z22 ez22 => ?_)
  replace hR := bnd_step hR ez22
  refine lv_istore_n (lv' := [(0, .int z22)]) hx hb dJI_bitCount_23 rfl hl (by decide) rfl (fun ls hl => ?_)
  refine lv_iload_n hx hb dJI_bitCount_24 rfl (lv_at hl 0 rfl) ?_
  refine lv_iload_n hx hb dJI_bitCount_25 rfl (lv_at hl 0 rfl) ?_
  refine lv_iconst (v := nI 4) hx hb dJI_bitCount_26 (by decide) ?_
  refine lv_iushr hx hb dJI_bitCount_27 rfl ?_
  refine lv_iadd hx hb dJI_bitCount_28 ?_
  refine lv_ldcw (v := 252645135) hx hb hown (hts _ (wg_t kw_635)) dJI_bitCount_29 ?_
  refine mi_as (show (252645135 : Int32) = nI 252645135 by decide) ?_
  refine lv_iand hx hb dJI_bitCount_32 ?_
  refine mi_eqv (fun z23 ez23 => ?_)
  replace hR := bnd_step hR ez23
  refine lv_istore_n (lv' := [(0, .int z23)]) hx hb dJI_bitCount_33 rfl hl (by decide) rfl (fun ls hl => ?_)
  refine lv_iload_n hx hb dJI_bitCount_34 rfl (lv_at hl 0 rfl) ?_
  refine lv_iload_n hx hb dJI_bitCount_35 rfl (lv_at hl 0 rfl) ?_
  refine lv_bipush (v := nI 8) hx hb dJI_bitCount_36 (by decide) ?_
  refine lv_iushr hx hb dJI_bitCount_38 rfl ?_
  refine lv_iadd hx hb dJI_bitCount_39 ?_
  refine mi_eqv (fun z24 ez24 => ?_)
  replace hR := bnd_step hR ez24
  refine lv_istore_n (lv' := [(0, .int z24)]) hx hb dJI_bitCount_40 rfl hl (by decide) rfl (fun ls hl => ?_)
  refine lv_iload_n hx hb dJI_bitCount_41 rfl (lv_at hl 0 rfl) ?_
  refine lv_iload_n hx hb dJI_bitCount_42 rfl (lv_at hl 0 rfl) ?_
  refine lv_bipush (v := nI 16) hx hb dJI_bitCount_43 (by decide) ?_
  refine lv_iushr hx hb dJI_bitCount_45 rfl ?_
  refine lv_iadd hx hb dJI_bitCount_46 ?_
  refine mi_eqv (fun z25 ez25 => ?_)
  replace hR := bnd_step hR ez25
  refine lv_istore_n (lv' := [(0, .int z25)]) hx hb dJI_bitCount_47 rfl hl (by decide) rfl (fun ls hl => ?_)
  refine lv_iload_n hx hb dJI_bitCount_48 rfl (lv_at hl 0 rfl) ?_
  refine lv_bipush (v := nI 63) hx hb dJI_bitCount_49 (by decide) ?_
  refine lv_iand hx hb dJI_bitCount_51 ?_
  exact mp_iret hx hb hr hlk hP hD hS (((z25 &&& (nI 63)), s), pl) ⟨⟨hR.symm, rfl, hF, trivial⟩, hO⟩ [] rfl rfl rfl (by omega) (by omega) dJI_bitCount_52
