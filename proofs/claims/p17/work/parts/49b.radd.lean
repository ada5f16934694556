abbrev c_RG_add : ByteArray := prog_9_method_9_code
abbrev y_RG_add : MethodName := ⟨"LatticeKeys$Ring", "add", "([I[I)V"⟩
abbrev w_RG_add : List Cond := Cond.code y_RG_add c_RG_add 5 none :: WG
theorem dRG_add_0 : decode c_RG_add 0 = .ok (.iconst 0, 1) := by decide +kernel
theorem dRG_add_1 : decode c_RG_add 1 = .ok (.istore_n 3, 1) := by decide +kernel
theorem dRG_add_2 : decode c_RG_add 2 = .ok (.iload_n 3, 1) := by decide +kernel
theorem dRG_add_3 : decode c_RG_add 3 = .ok (.sipush 256, 3) := by decide +kernel
theorem dRG_add_6 : decode c_RG_add 6 = .ok (.if_icmp .ge 42, 3) := by decide +kernel
theorem dRG_add_9 : decode c_RG_add 9 = .ok (.aload_n 1, 1) := by decide +kernel
theorem dRG_add_10 : decode c_RG_add 10 = .ok (.iload_n 3, 1) := by decide +kernel
theorem dRG_add_11 : decode c_RG_add 11 = .ok (.iaload, 1) := by decide +kernel
theorem dRG_add_12 : decode c_RG_add 12 = .ok (.aload_n 2, 1) := by decide +kernel
theorem dRG_add_13 : decode c_RG_add 13 = .ok (.iload_n 3, 1) := by decide +kernel
theorem dRG_add_14 : decode c_RG_add 14 = .ok (.iaload, 1) := by decide +kernel
theorem dRG_add_15 : decode c_RG_add 15 = .ok (.iadd, 1) := by decide +kernel
theorem dRG_add_16 : decode c_RG_add 16 = .ok (.istore 4, 2) := by decide +kernel
theorem dRG_add_18 : decode c_RG_add 18 = .ok (.aload_n 1, 1) := by decide +kernel
theorem dRG_add_19 : decode c_RG_add 19 = .ok (.iload_n 3, 1) := by decide +kernel
theorem dRG_add_20 : decode c_RG_add 20 = .ok (.iload 4, 2) := by decide +kernel
theorem dRG_add_22 : decode c_RG_add 22 = .ok (.aload_n 0, 1) := by decide +kernel
theorem dRG_add_23 : decode c_RG_add 23 = .ok (.getfield 7, 3) := by decide +kernel
theorem dRG_add_26 : decode c_RG_add 26 = .ok (.if_icmp .lt 13, 3) := by decide +kernel
theorem dRG_add_29 : decode c_RG_add 29 = .ok (.iload 4, 2) := by decide +kernel
theorem dRG_add_31 : decode c_RG_add 31 = .ok (.aload_n 0, 1) := by decide +kernel
theorem dRG_add_32 : decode c_RG_add 32 = .ok (.getfield 7, 3) := by decide +kernel
theorem dRG_add_35 : decode c_RG_add 35 = .ok (.isub, 1) := by decide +kernel
theorem dRG_add_36 : decode c_RG_add 36 = .ok (.goto 5, 3) := by decide +kernel
theorem dRG_add_39 : decode c_RG_add 39 = .ok (.iload 4, 2) := by decide +kernel
theorem dRG_add_41 : decode c_RG_add 41 = .ok (.iastore, 1) := by decide +kernel
theorem dRG_add_42 : decode c_RG_add 42 = .ok (.iinc 3 1, 3) := by decide +kernel
theorem dRG_add_45 : decode c_RG_add 45 = .ok (.goto (-43), 3) := by decide +kernel
theorem dRG_add_48 : decode c_RG_add 48 = .ok (.return_, 1) := by decide +kernel
abbrev c_RG_subtract : ByteArray := prog_9_method_10_code
abbrev y_RG_subtract : MethodName := ⟨"LatticeKeys$Ring", "subtract", "([I[I)V"⟩
abbrev w_RG_subtract : List Cond := Cond.code y_RG_subtract c_RG_subtract 5 none :: WG
theorem dRG_subtract_0 : decode c_RG_subtract 0 = .ok (.iconst 0, 1) := by decide +kernel
theorem dRG_subtract_1 : decode c_RG_subtract 1 = .ok (.istore_n 3, 1) := by decide +kernel
theorem dRG_subtract_2 : decode c_RG_subtract 2 = .ok (.iload_n 3, 1) := by decide +kernel
theorem dRG_subtract_3 : decode c_RG_subtract 3 = .ok (.sipush 256, 3) := by decide +kernel
theorem dRG_subtract_6 : decode c_RG_subtract 6 = .ok (.if_icmp .ge 38, 3) := by decide +kernel
theorem dRG_subtract_9 : decode c_RG_subtract 9 = .ok (.aload_n 1, 1) := by decide +kernel
theorem dRG_subtract_10 : decode c_RG_subtract 10 = .ok (.iload_n 3, 1) := by decide +kernel
theorem dRG_subtract_11 : decode c_RG_subtract 11 = .ok (.iaload, 1) := by decide +kernel
theorem dRG_subtract_12 : decode c_RG_subtract 12 = .ok (.aload_n 2, 1) := by decide +kernel
theorem dRG_subtract_13 : decode c_RG_subtract 13 = .ok (.iload_n 3, 1) := by decide +kernel
theorem dRG_subtract_14 : decode c_RG_subtract 14 = .ok (.iaload, 1) := by decide +kernel
theorem dRG_subtract_15 : decode c_RG_subtract 15 = .ok (.isub, 1) := by decide +kernel
theorem dRG_subtract_16 : decode c_RG_subtract 16 = .ok (.istore 4, 2) := by decide +kernel
theorem dRG_subtract_18 : decode c_RG_subtract 18 = .ok (.aload_n 1, 1) := by decide +kernel
theorem dRG_subtract_19 : decode c_RG_subtract 19 = .ok (.iload_n 3, 1) := by decide +kernel
theorem dRG_subtract_20 : decode c_RG_subtract 20 = .ok (.iload 4, 2) := by decide +kernel
theorem dRG_subtract_22 : decode c_RG_subtract 22 = .ok (.ifCond .ge 13, 3) := by decide +kernel
theorem dRG_subtract_25 : decode c_RG_subtract 25 = .ok (.iload 4, 2) := by decide +kernel
theorem dRG_subtract_27 : decode c_RG_subtract 27 = .ok (.aload_n 0, 1) := by decide +kernel
theorem dRG_subtract_28 : decode c_RG_subtract 28 = .ok (.getfield 7, 3) := by decide +kernel
theorem dRG_subtract_31 : decode c_RG_subtract 31 = .ok (.iadd, 1) := by decide +kernel
theorem dRG_subtract_32 : decode c_RG_subtract 32 = .ok (.goto 5, 3) := by decide +kernel
theorem dRG_subtract_35 : decode c_RG_subtract 35 = .ok (.iload 4, 2) := by decide +kernel
theorem dRG_subtract_37 : decode c_RG_subtract 37 = .ok (.iastore, 1) := by decide +kernel
theorem dRG_subtract_38 : decode c_RG_subtract 38 = .ok (.iinc 3 1, 3) := by decide +kernel
theorem dRG_subtract_41 : decode c_RG_subtract 41 = .ok (.goto (-39), 3) := by decide +kernel
theorem dRG_subtract_44 : decode c_RG_subtract 44 = .ok (.return_, 1) := by decide +kernel
noncomputable def F_RG_add_7_L0 (pf : Nat) (pg : Nat) : Nat → Nat → Sto → Sto
  | 0, i21, s21 => s21
  | n21 + 1, i21, s21 => bnd (((s21.1 pf i21) + (s21.1 pg i21))) fun z21 => if z21 < (nI 3329) then bnd (sI s21 pf i21 z21) fun s22 => F_RG_add_7_L0 pf pg n21 (i21 + 1) s22 else bnd (sI s21 pf i21 (z21 - (nI 3329))) fun s23 => F_RG_add_7_L0 pf pg n21 (i21 + 1) s23
noncomputable def F_RG_add_7 (pf : Nat) (pg : Nat) (s : Sto) : Sto := F_RG_add_7_L0 pf pg 256 0 s
set_option maxHeartbeats 400000 in
set_option maxRecDepth 100000 in
theorem N_RG_add_7 (l : Launch) (g : Gd) (sz : Nat) (T : TyN) (s : Sto) (pl : va_W) (hO : okn g T s pl) (hU : inj T) (h0 f fg : Nat) (pf : Nat) (pg : Nat) (k_h0 : T h0 = some 20) (k_f : T f = some pf) (n_f : nsp pf = (0, 256, [])) (k_fg : T fg = some pg) (n_fg : nsp pg = (0, 256, []))  : Met l y_RG_add w_RG_add ({ frames := 0, cells := 0, slots := 0, locals := 0 } : Room) (va_Pc [.ref h0, .ref f, .ref fg] (pr (en g) g.1 vcl sz ([] ++ pl))) (va_Qv (fun (u : (Sto) × va_W) => (u.1 = F_RG_add_7 pf pg s) ∧ okn g T u.1 u.2) (po g.1 vcl (va_A ([] ++ pl) sz) (fun (u : (Sto) × va_W) => [] ++ u.2)) (va_A ([] ++ pl) sz)) 0 0 (va_A ([] ++ pl) sz) := by
  refine mc_entry (cc := c_RG_add) (maxL := 5) (ret := none) (by decide) rfl (Nat.le_of_ble_eq_true rfl) ?_
  intro p e s0 m args below meth c ls F hr hlk hnm hsz hP hD hE hA hl
  obtain ⟨hx, hb, hml, hown, hts⟩ := id F
  have hK := hE.1
  generalize va_A ([] ++ pl) sz = A at hD hE hA ⊢
  have hS : va_S A s0.heap s0.heap [] := va_S.rf
  have hl : lv_has ls 5 [(0, .ref h0), (1, .ref f), (2, .ref fg)] := hl
  have hR : F_RG_add_7 pf pg s = F_RG_add_7 pf pg s := rfl
  refine lv_iconst (v := nI 0) hx hb dRG_add_0 (by decide) ?_
  refine lv_istore_n (lv' := [(3, .int (nI 0)), (0, .ref h0), (1, .ref f), (2, .ref fg)]) hx hb dRG_add_1 rfl hl (by decide) rfl (fun ls hl => ?_)
  have lp21 : ∀ (n21 : Nat) (i21 : Nat) (s21 : Sto) (pl : va_W) (ls : Array Slot) (H : Heap) (locs : List Loc), n21 + i21 = 256 → F_RG_add_7 pf pg s = F_RG_add_7_L0 pf pg n21 i21 s21 → lv_has ls 5 [(3, .int (nI i21)), (0, .ref h0), (1, .ref f), (2, .ref fg)] → okn g T s21 pl → va_P g.1 vcl ([] ++ pl) H → va_D A ([] ++ pl) → va_S A s0.heap H locs → W p l e ({ frames := 0, cells := 0, slots := 0, locals := 0 } : Room) s0 m args below meth c H locs 0 0 (MQ below (va_Qv (fun (u : (Sto) × va_W) => (u.1 = F_RG_add_7 pf pg s) ∧ okn g T u.1 u.2) (po g.1 vcl A (fun (u : (Sto) × va_W) => [] ++ u.2)) A) args s0 0 0 A) (F0 m 2 ls []) := by
    intro n21
    induction n21 with
    | zero =>
      intro i21 s21 pl ls H locs hm21 hR hl hO hP hD hS
      refine lv_iload_n hx hb dRG_add_2 rfl (lv_at hl 0 rfl) ?_
      refine lv_sipush (v := nI 256) hx hb dRG_add_3 (by decide) ?_
      refine mi_ge (tgt := 48) hx hb dRG_add_6 (by decide) (by omega) (by omega) (fun h21 => ?_) (fun h21 => absurd h21 (by omega))
      exact mp_vret hx hb hr hlk hP hD hS (s21, pl) ⟨hR.symm, hO⟩ [] rfl rfl rfl (by omega) (by omega) dRG_add_48
    | succ n21 ih21 =>
      intro i21 s21 pl ls H locs hm21 hR hl hO hP hD hS
      refine lv_iload_n hx hb dRG_add_2 rfl (lv_at hl 0 rfl) ?_
      refine lv_sipush (v := nI 256) hx hb dRG_add_3 (by decide) ?_
      refine mi_ge (tgt := 48) hx hb dRG_add_6 (by decide) (by omega) (by omega) (fun h22 => absurd h22 (by omega)) (fun h22 => ?_)
      refine lv_aload_n hx hb dRG_add_9 rfl (lv_at hl 2 rfl) ?_
      refine lv_iload_n hx hb dRG_add_10 rfl (lv_at hl 0 rfl) ?_
      refine nw_iald hx hb hK hO k_f (k := pf) n_f hP (by omega) (by omega) dRG_add_11 ?_
      refine lv_aload_n hx hb dRG_add_12 rfl (lv_at hl 3 rfl) ?_
      refine lv_iload_n hx hb dRG_add_13 rfl (lv_at hl 0 rfl) ?_
      refine nw_iald hx hb hK hO k_fg (k := pg) n_fg hP (by omega) (by omega) dRG_add_14 ?_
      refine lv_iadd hx hb dRG_add_15 ?_
      refine mi_eqv (fun z21 ez21 => ?_)
      replace hR := bnd_step hR ez21
      refine lv_istore (lv' := [(4, .int z21), (3, .int (nI i21)), (0, .ref h0), (1, .ref f), (2, .ref fg)]) hx hb dRG_add_16 hl (by decide) rfl (fun ls hl => ?_)
      refine lv_aload_n hx hb dRG_add_18 rfl (lv_at hl 3 rfl) ?_
      refine lv_iload_n hx hb dRG_add_19 rfl (lv_at hl 1 rfl) ?_
      refine lv_iload hx hb dRG_add_20 (lv_at hl 0 rfl) ?_
      refine lv_aload_n hx hb dRG_add_22 rfl (lv_at hl 2 rfl) ?_
      refine nw_get (C := "LatticeKeys$Ring") (TT := T_RG) (N := 4) hx hb hts (wg_ft i_RG) hown hK hO k_h0 (kn := 20) (ci := 4) (fl := [(1, 3329), (1, 7), (1, 3303), (3, 21)]) rfl hP rfl 0 (by decide) (hts _ (wg_t kw_91)) (fun _ h9 => h9) (cd := (1, 3329)) rfl dRG_add_23 (fun v21 hv21 => ?_)
      obtain rfl := (show v21 = .int (nI 3329) from hv21)
      refine lv_icmp_lt (tgt := 39) hx hb dRG_add_26 (by decide) (fun h23 => ?_) (fun h23 => ?_)
      · replace hR := hR.trans (if_pos h23)
        refine lv_iload hx hb dRG_add_39 (lv_at hl 0 rfl) ?_
        refine nw_iast hx hb hK hO hU k_f (k := pf) n_f hP hD hS (by omega) (by omega) dRG_add_41 (fun s22 pl H locs es21 hO hP hD hS => ?_)
        replace hR := bnd_step hR es21
        refine mi_iinc (k := 1) (x := i21) (d := 1) (y := i21 + 1) (lv' := [(3, .int (nI (i21 + 1))), (4, .int z21), (0, .ref h0), (1, .ref f), (2, .ref fg)]) hx hb dRG_add_42 hl rfl (by decide) rfl (by decide) rfl (fun ls hl => ?_)
        refine lv_goto (tgt := 2) hx hb dRG_add_45 (by decide) ?_
        exact ih21 (i21 + 1) s22 pl ls H locs (by omega) hR (lv_sub hl [0, 2, 3, 4] rfl) hO hP hD hS
      · replace hR := hR.trans (if_neg h23)
        refine lv_iload hx hb dRG_add_29 (lv_at hl 0 rfl) ?_
        refine lv_aload_n hx hb dRG_add_31 rfl (lv_at hl 2 rfl) ?_
        refine nw_get (C := "LatticeKeys$Ring") (TT := T_RG) (N := 4) hx hb hts (wg_ft i_RG) hown hK hO k_h0 (kn := 20) (ci := 4) (fl := [(1, 3329), (1, 7), (1, 3303), (3, 21)]) rfl hP rfl 0 (by decide) (hts _ (wg_t kw_91)) (fun _ h9 => h9) (cd := (1, 3329)) rfl dRG_add_32 (fun v22 hv22 => ?_)
        obtain rfl := (show v22 = .int (nI 3329) from hv22)
        refine lv_isub hx hb dRG_add_35 ?_
        refine lv_goto (tgt := 41) hx hb dRG_add_36 (by decide) ?_
        refine nw_iast hx hb hK hO hU k_f (k := pf) n_f hP hD hS (by omega) (by omega) dRG_add_41 (fun s23 pl H locs es22 hO hP hD hS => ?_)
        replace hR := bnd_step hR es22
        refine mi_iinc (k := 1) (x := i21) (d := 1) (y := i21 + 1) (lv' := [(3, .int (nI (i21 + 1))), (4, .int z21), (0, .ref h0), (1, .ref f), (2, .ref fg)]) hx hb dRG_add_42 hl rfl (by decide) rfl (by decide) rfl (fun ls hl => ?_)
        refine lv_goto (tgt := 2) hx hb dRG_add_45 (by decide) ?_
        exact ih21 (i21 + 1) s23 pl ls H locs (by omega) hR (lv_sub hl [0, 2, 3, 4] rfl) hO hP hD hS
  exact lp21 256 0 s pl ls _ _ (by omega) hR (lv_sub hl [0, 1, 2, 3] rfl) hO hP hD hS
noncomputable def F_RG_add_8_L0 (pf : Nat) (pg : Nat) : Nat → Nat → Sto → Sto
  | 0, i21, s21 => s21
  | n21 + 1, i21, s21 => bnd (((s21.1 pf i21) + (s21.1 pg i21))) fun z21 => if z21 < (nI 8380417) then bnd (sI s21 pf i21 z21) fun s22 => F_RG_add_8_L0 pf pg n21 (i21 + 1) s22 else bnd (sI s21 pf i21 (z21 - (nI 8380417))) fun s23 => F_RG_add_8_L0 pf pg n21 (i21 + 1) s23
noncomputable def F_RG_add_8 (pf : Nat) (pg : Nat) (s : Sto) : Sto := F_RG_add_8_L0 pf pg 256 0 s
set_option maxHeartbeats 400000 in
set_option maxRecDepth 100000 in
theorem N_RG_add_8 (l : Launch) (g : Gd) (sz : Nat) (T : TyN) (s : Sto) (pl : va_W) (hO : okn g T s pl) (hU : inj T) (h0 f fg : Nat) (pf : Nat) (pg : Nat) (k_h0 : T h0 = some 22) (k_f : T f = some pf) (n_f : nsp pf = (0, 256, [])) (k_fg : T fg = some pg) (n_fg : nsp pg = (0, 256, []))  : Met l y_RG_add w_RG_add ({ frames := 0, cells := 0, slots := 0, locals := 0 } : Room) (va_Pc [.ref h0, .ref f, .ref fg] (pr (en g) g.1 vcl sz ([] ++ pl))) (va_Qv (fun (u : (Sto) × va_W) => (u.1 = F_RG_add_8 pf pg s) ∧ okn g T u.1 u.2) (po g.1 vcl (va_A ([] ++ pl) sz) (fun (u : (Sto) × va_W) => [] ++ u.2)) (va_A ([] ++ pl) sz)) 0 0 (va_A ([] ++ pl) sz) := by
  refine mc_entry (cc := c_RG_add) (maxL := 5) (ret := none) (by decide) rfl (Nat.le_of_ble_eq_true rfl) ?_
  intro p e s0 m args below meth c ls F hr hlk hnm hsz hP hD hE hA hl
  obtain ⟨hx, hb, hml, hown, hts⟩ := id F
  have hK := hE.1
  generalize va_A ([] ++ pl) sz = A at hD hE hA ⊢
  have hS : va_S A s0.heap s0.heap [] := va_S.rf
  have hl : lv_has ls 5 [(0, .ref h0), (1, .ref f), (2, .ref fg)] := hl
  have hR : F_RG_add_8 pf pg s = F_RG_add_8 pf pg s := rfl
  refine lv_iconst (v := nI 0) hx hb dRG_add_0 (by decide) ?_
  refine lv_istore_n (lv' := [(3, .int (nI 0)), (0, .ref h0), (1, .ref f), (2, .ref fg)]) hx hb dRG_add_1 rfl hl (by decide) rfl (fun ls hl => ?_)
  have lp21 : ∀ (n21 : Nat) (i21 : Nat) (s21 : Sto) (pl : va_W) (ls : Array Slot) (H : Heap) (locs : List Loc), n21 + i21 = 256 → F_RG_add_8 pf pg s = F_RG_add_8_L0 pf pg n21 i21 s21 → lv_has ls 5 [(3, .int (nI i21)), (0, .ref h0), (1, .ref f), (2, .ref fg)] → okn g T s21 pl → va_P g.1 vcl ([] ++ pl) H → va_D A ([] ++ pl) → va_S A s0.heap H locs → W p l e ({ frames := 0, cells := 0, slots := 0, locals := 0 } : Room) s0 m args below meth c H locs 0 0 (MQ below (va_Qv (fun (u : (Sto) × va_W) => (u.1 = F_RG_add_8 pf pg s) ∧ okn g T u.1 u.2) (po g.1 vcl A (fun (u : (Sto) × va_W) => [] ++ u.2)) A) args s0 0 0 A) (F0 m 2 ls []) := by
    intro n21
    induction n21 with
    | zero =>
      intro i21 s21 pl ls H locs hm21 hR hl hO hP hD hS
      refine lv_iload_n hx hb dRG_add_2 rfl (lv_at hl 0 rfl) ?_
      refine lv_sipush (v := nI 256) hx hb dRG_add_3 (by decide) ?_
      refine mi_ge (tgt := 48) hx hb dRG_add_6 (by decide) (by omega) (by omega) (fun h21 => ?_) (fun h21 => absurd h21 (by omega))
      exact mp_vret hx hb hr hlk hP hD hS (s21, pl) ⟨hR.symm, hO⟩ [] rfl rfl rfl (by omega) (by omega) dRG_add_48
    | succ n21 ih21 =>
      intro i21 s21 pl ls H locs hm21 hR hl hO hP hD hS
      refine lv_iload_n hx hb dRG_add_2 rfl (lv_at hl 0 rfl) ?_
      refine lv_sipush (v := nI 256) hx hb dRG_add_3 (by decide) ?_
      refine mi_ge (tgt := 48) hx hb dRG_add_6 (by decide) (by omega) (by omega) (fun h22 => absurd h22 (by omega)) (fun h22 => ?_)
      refine lv_aload_n hx hb dRG_add_9 rfl (lv_at hl 2 rfl) ?_
      refine lv_iload_n hx hb dRG_add_10 rfl (lv_at hl 0 rfl) ?_
      refine nw_iald hx hb hK hO k_f (k := pf) n_f hP (by omega) (by omega) dRG_add_11 ?_
      refine lv_aload_n hx hb dRG_add_12 rfl (lv_at hl 3 rfl) ?_
      refine lv_iload_n hx hb dRG_add_13 rfl (lv_at hl 0 rfl) ?_
      refine nw_iald hx hb hK hO k_fg (k := pg) n_fg hP (by omega) (by omega) dRG_add_14 ?_
      refine lv_iadd hx hb dRG_add_15 ?_
      refine mi_eqv (fun z21 ez21 => ?_)
      replace hR := bnd_step hR ez21
      refine lv_istore (lv' := [(4, .int z21), (3, .int (nI i21)), (0, .ref h0), (1, .ref f), (2, .ref fg)]) hx hb dRG_add_16 hl (by decide) rfl (fun ls hl => ?_)
      refine lv_aload_n hx hb dRG_add_18 rfl (lv_at hl 3 rfl) ?_
      refine lv_iload_n hx hb dRG_add_19 rfl (lv_at hl 1 rfl) ?_
      refine lv_iload hx hb dRG_add_20 (lv_at hl 0 rfl) ?_
      refine lv_aload_n hx hb dRG_add_22 rfl (lv_at hl 2 rfl) ?_
      refine nw_get (C := "LatticeKeys$Ring") (TT := T_RG) (N := 4) hx hb hts (wg_ft i_RG) hown hK hO k_h0 (kn := 22) (ci := 4) (fl := [(1, 8380417), (1, 8), (1, 8347681), (3, 23)]) rfl hP rfl 0 (by decide) (hts _ (wg_t kw_91)) (fun _ h9 => h9) (cd := (1, 8380417)) rfl dRG_add_23 (fun v21 hv21 => ?_)
      obtain rfl := (show v21 = .int (nI 8380417) from hv21)
      refine lv_icmp_lt (tgt := 39) hx hb dRG_add_26 (by decide) (fun h23 => ?_) (fun h23 => ?_)
      · replace hR := hR.trans (if_pos h23)
        refine lv_iload hx hb dRG_add_39 (lv_at hl 0 rfl) ?_
        refine nw_iast hx hb hK hO hU k_f (k := pf) n_f hP hD hS (by omega) (by omega) dRG_add_41 (fun s22 pl H locs es21 hO hP hD hS => ?_)
        replace hR := bnd_step hR es21
        refine mi_iinc (k := 1) (x := i21) (d := 1) (y := i21 + 1) (lv' := [(3, .int (nI (i21 + 1))), (4, .int z21), (0, .ref h0), (1, .ref f), (2, .ref fg)]) hx hb dRG_add_42 hl rfl (by decide) rfl (by decide) rfl (fun ls hl => ?_)
        refine lv_goto (tgt := 2) hx hb dRG_add_45 (by decide) ?_
        exact ih21 (i21 + 1) s22 pl ls H locs (by omega) hR (lv_sub hl [0, 2, 3, 4] rfl) hO hP hD hS
      · replace hR := hR.trans (if_neg h23)
        refine lv_iload hx hb dRG_add_29 (lv_at hl 0 rfl) ?_
        refine lv_aload_n hx hb dRG_add_31 rfl (lv_at hl 2 rfl) ?_
        refine nw_get (C := "LatticeKeys$Ring") (TT := T_RG) (N := 4) hx hb hts (wg_ft i_RG) hown hK hO k_h0 (kn := 22) (ci := 4) (fl := [(1, 8380417), (1, 8), (1, 8347681), (3, 23)]) rfl hP rfl 0 (by decide) (hts _ (wg_t kw_91)) (fun _ h9 => h9) (cd := (1, 8380417)) rfl dRG_add_32 (fun v22 hv22 => ?_)
        obtain rfl := (show v22 = .int (nI 8380417) from hv22)
        refine lv_isub hx hb dRG_add_35 ?_
        refine lv_goto (tgt := 41) hx hb dRG_add_36 (by decide) ?_
        refine nw_iast hx hb hK hO hU k_f (k := pf) n_f hP hD hS (by omega) (by omega) dRG_add_41 (fun s23 pl H locs es22 hO hP hD hS => ?_)
        replace hR := bnd_step hR es22
        refine mi_iinc (k := 1) (x := i21) (d := 1) (y := i21 + 1) (lv' := [(3, .int (nI (i21 + 1))), (4, .int z21), (0, .ref h0), (1, .ref f), (2, .ref fg)]) hx hb dRG_add_42 hl rfl (by decide) rfl (by decide) rfl (fun ls hl => ?_)
        refine lv_goto (tgt := 2) hx hb dRG_add_45 (by decide) ?_
        exact ih21 (i21 + 1) s23 pl ls H locs (by omega) hR (lv_sub hl [0, 2, 3, 4] rfl) hO hP hD hS
  exact lp21 256 0 s pl ls _ _ (by omega) hR (lv_sub hl [0, 1, 2, 3] rfl) hO hP hD hS
noncomputable def F_RG_sub_7_L0 (pf : Nat) (pg : Nat) : Nat → Nat → Sto → Sto
  | 0, i21, s21 => s21
  | n21 + 1, i21, s21 => bnd (((s21.1 pf i21) - (s21.1 pg i21))) fun z21 => if 0 ≤ z21 then bnd (sI s21 pf i21 z21) fun s22 => F_RG_sub_7_L0 pf pg n21 (i21 + 1) s22 else bnd (sI s21 pf i21 (z21 + (nI 3329))) fun s23 => F_RG_sub_7_L0 pf pg n21 (i21 + 1) s23
noncomputable def F_RG_sub_7 (pf : Nat) (pg : Nat) (s : Sto) : Sto := F_RG_sub_7_L0 pf pg 256 0 s
set_option maxHeartbeats 400000 in
set_option maxRecDepth 100000 in
theorem N_RG_sub_7 (l : Launch) (g : Gd) (sz : Nat) (T : TyN) (s : Sto) (pl : va_W) (hO : okn g T s pl) (hU : inj T) (h0 f fg : Nat) (pf : Nat) (pg : Nat) (k_h0 : T h0 = some 20) (k_f : T f = some pf) (n_f : nsp pf = (0, 256, [])) (k_fg : T fg = some pg) (n_fg : nsp pg = (0, 256, []))  : Met l y_RG_subtract w_RG_subtract ({ frames := 0, cells := 0, slots := 0, locals := 0 } : Room) (va_Pc [.ref h0, .ref f, .ref fg] (pr (en g) g.1 vcl sz ([] ++ pl))) (va_Qv (fun (u : (Sto) × va_W) => (u.1 = F_RG_sub_7 pf pg s) ∧ okn g T u.1 u.2) (po g.1 vcl (va_A ([] ++ pl) sz) (fun (u : (Sto) × va_W) => [] ++ u.2)) (va_A ([] ++ pl) sz)) 0 0 (va_A ([] ++ pl) sz) := by
  refine mc_entry (cc := c_RG_subtract) (maxL := 5) (ret := none) (by decide) rfl (Nat.le_of_ble_eq_true rfl) ?_
  intro p e s0 m args below meth c ls F hr hlk hnm hsz hP hD hE hA hl
  obtain ⟨hx, hb, hml, hown, hts⟩ := id F
  have hK := hE.1
  generalize va_A ([] ++ pl) sz = A at hD hE hA ⊢
  have hS : va_S A s0.heap s0.heap [] := va_S.rf
  have hl : lv_has ls 5 [(0, .ref h0), (1, .ref f), (2, .ref fg)] := hl
  have hR : F_RG_sub_7 pf pg s = F_RG_sub_7 pf pg s := rfl
  refine lv_iconst (v := nI 0) hx hb dRG_subtract_0 (by decide) ?_
  refine lv_istore_n (lv' := [(3, .int (nI 0)), (0, .ref h0), (1, .ref f), (2, .ref fg)]) hx hb dRG_subtract_1 rfl hl (by decide) rfl (fun ls hl => ?_)
  have lp21 : ∀ (n21 : Nat) (i21 : Nat) (s21 : Sto) (pl : va_W) (ls : Array Slot) (H : Heap) (locs : List Loc), n21 + i21 = 256 → F_RG_sub_7 pf pg s = F_RG_sub_7_L0 pf pg n21 i21 s21 → lv_has ls 5 [(3, .int (nI i21)), (0, .ref h0), (1, .ref f), (2, .ref fg)] → okn g T s21 pl → va_P g.1 vcl ([] ++ pl) H → va_D A ([] ++ pl) → va_S A s0.heap H locs → W p l e ({ frames := 0, cells := 0, slots := 0, locals := 0 } : Room) s0 m args below meth c H locs 0 0 (MQ below (va_Qv (fun (u : (Sto) × va_W) => (u.1 = F_RG_sub_7 pf pg s) ∧ okn g T u.1 u.2) (po g.1 vcl A (fun (u : (Sto) × va_W) => [] ++ u.2)) A) args s0 0 0 A) (F0 m 2 ls []) := by
    intro n21
    induction n21 with
    | zero =>
      intro i21 s21 pl ls H locs hm21 hR hl hO hP hD hS
      refine lv_iload_n hx hb dRG_subtract_2 rfl (lv_at hl 0 rfl) ?_
      refine lv_sipush (v := nI 256) hx hb dRG_subtract_3 (by decide) ?_
      refine mi_ge (tgt := 44) hx hb dRG_subtract_6 (by decide) (by omega) (by omega) (fun h21 => ?_) (fun h21 => absurd h21 (by omega))
      exact mp_vret hx hb hr hlk hP hD hS (s21, pl) ⟨hR.symm, hO⟩ [] rfl rfl rfl (by omega) (by omega) dRG_subtract_44
    | succ n21 ih21 =>
      intro i21 s21 pl ls H locs hm21 hR hl hO hP hD hS
      refine lv_iload_n hx hb dRG_subtract_2 rfl (lv_at hl 0 rfl) ?_
      refine lv_sipush (v := nI 256) hx hb dRG_subtract_3 (by decide) ?_
      refine mi_ge (tgt := 44) hx hb dRG_subtract_6 (by decide) (by omega) (by omega) (fun h22 => absurd h22 (by omega)) (fun h22 => ?_)
      refine lv_aload_n hx hb dRG_subtract_9 rfl (lv_at hl 2 rfl) ?_
      refine lv_iload_n hx hb dRG_subtract_10 rfl (lv_at hl 0 rfl) ?_
      refine nw_iald hx hb hK hO k_f (k := pf) n_f hP (by omega) (by omega) dRG_subtract_11 ?_
      refine lv_aload_n hx hb dRG_subtract_12 rfl (lv_at hl 3 rfl) ?_
      refine lv_iload_n hx hb dRG_subtract_13 rfl (lv_at hl 0 rfl) ?_
      refine nw_iald hx hb hK hO k_fg (k := pg) n_fg hP (by omega) (by omega) dRG_subtract_14 ?_
      refine lv_isub hx hb dRG_subtract_15 ?_
      refine mi_eqv (fun z21 ez21 => ?_)
      replace hR := bnd_step hR ez21
      refine lv_istore (lv' := [(4, .int z21), (3, .int (nI i21)), (0, .ref h0), (1, .ref f), (2, .ref fg)]) hx hb dRG_subtract_16 hl (by decide) rfl (fun ls hl => ?_)
      refine lv_aload_n hx hb dRG_subtract_18 rfl (lv_at hl 3 rfl) ?_
      refine lv_iload_n hx hb dRG_subtract_19 rfl (lv_at hl 1 rfl) ?_
      refine lv_iload hx hb dRG_subtract_20 (lv_at hl 0 rfl) ?_
      refine lv_if_ge (tgt := 35) hx hb dRG_subtract_22 (by decide) (fun h23 => ?_) (fun h23 => ?_)
      · replace hR := hR.trans (if_pos h23)
        refine lv_iload hx hb dRG_subtract_35 (lv_at hl 0 rfl) ?_
        refine nw_iast hx hb hK hO hU k_f (k := pf) n_f hP hD hS (by omega) (by omega) dRG_subtract_37 (fun s22 pl H locs es21 hO hP hD hS => ?_)
        replace hR := bnd_step hR es21
        refine mi_iinc (k := 1) (x := i21) (d := 1) (y := i21 + 1) (lv' := [(3, .int (nI (i21 + 1))), (4, .int z21), (0, .ref h0), (1, .ref f), (2, .ref fg)]) hx hb dRG_subtract_38 hl rfl (by decide) rfl (by decide) rfl (fun ls hl => ?_)
        refine lv_goto (tgt := 2) hx hb dRG_subtract_41 (by decide) ?_
        exact ih21 (i21 + 1) s22 pl ls H locs (by omega) hR (lv_sub hl [0, 2, 3, 4] rfl) hO hP hD hS
      · replace hR := hR.trans (if_neg h23)
        refine lv_iload hx hb dRG_subtract_25 (lv_at hl 0 rfl) ?_
        refine lv_aload_n hx hb dRG_subtract_27 rfl (lv_at hl 2 rfl) ?_
        refine nw_get (C := "LatticeKeys$Ring") (TT := T_RG) (N := 4) hx hb hts (wg_ft i_RG) hown hK hO k_h0 (kn := 20) (ci := 4) (fl := [(1, 3329), (1, 7), (1, 3303), (3, 21)]) rfl hP rfl 0 (by decide) (hts _ (wg_t kw_91)) (fun _ h9 => h9) (cd := (1, 3329)) rfl dRG_subtract_28 (fun v21 hv21 => ?_)
        obtain rfl := (show v21 = .int (nI 3329) from hv21)
        refine lv_iadd hx hb dRG_subtract_31 ?_
        refine lv_goto (tgt := 37) hx hb dRG_subtract_32 (by decide) ?_
        refine nw_iast hx hb hK hO hU k_f (k := pf) n_f hP hD hS (by omega) (by omega) dRG_subtract_37 (fun s23 pl H locs es22 hO hP hD hS => ?_)
        replace hR := bnd_step hR es22
        refine mi_iinc (k := 1) (x := i21) (d := 1) (y := i21 + 1) (lv' := [(3, .int (nI (i21 + 1))), (4, .int z21), (0, .ref h0), (1, .ref f), (2, .ref fg)]) hx hb dRG_subtract_38 hl rfl (by decide) rfl (by decide) rfl (fun ls hl => ?_)
        refine lv_goto (tgt := 2) hx hb dRG_subtract_41 (by decide) ?_
        exact ih21 (i21 + 1) s23 pl ls H locs (by omega) hR (lv_sub hl [0, 2, 3, 4] rfl) hO hP hD hS
  exact lp21 256 0 s pl ls _ _ (by omega) hR (lv_sub hl [0, 1, 2, 3] rfl) hO hP hD hS
noncomputable def F_RG_sub_8_L0 (pf : Nat) (pg : Nat) : Nat → Nat → Sto → Sto
  | 0, i21, s21 => s21
  | n21 + 1, i21, s21 => bnd (((s21.1 pf i21) - (s21.1 pg i21))) fun z21 => if 0 ≤ z21 then bnd (sI s21 pf i21 z21) fun s22 => F_RG_sub_8_L0 pf pg n21 (i21 + 1) s22 else bnd (sI s21 pf i21 (z21 + (nI 8380417))) fun s23 => F_RG_sub_8_L0 pf pg n21 (i21 + 1) s23
noncomputable def F_RG_sub_8 (pf : Nat) (pg : Nat) (s : Sto) : Sto := F_RG_sub_8_L0 pf pg 256 0 s
set_option maxHeartbeats 400000 in
set_option maxRecDepth 100000 in
theorem N_RG_sub_8 (l : Launch) (g : Gd) (sz : Nat) (T : TyN) (s : Sto) (pl : va_W) (hO : okn g T s pl) (hU : inj T) (h0 f fg : Nat) (pf : Nat) (pg : Nat) (k_h0 : T h0 = some 22) (k_f : T f = some pf) (n_f : nsp pf = (0, 256, [])) (k_fg : T fg = some pg) (n_fg : nsp pg = (0, 256, []))  : Met l y_RG_subtract w_RG_subtract ({ frames := 0, cells := 0, slots := 0, locals := 0 } : Room) (va_Pc [.ref h0, .ref f, .ref fg] (pr (en g) g.1 vcl sz ([] ++ pl))) (va_Qv (fun (u : (Sto) × va_W) => (u.1 = F_RG_sub_8 pf pg s) ∧ okn g T u.1 u.2) (po g.1 vcl (va_A ([] ++ pl) sz) (fun (u : (Sto) × va_W) => [] ++ u.2)) (va_A ([] ++ pl) sz)) 0 0 (va_A ([] ++ pl) sz) := by
  refine mc_entry (cc := c_RG_subtract) (maxL := 5) (ret := none) (by decide) rfl (Nat.le_of_ble_eq_true rfl) ?_
  intro p e s0 m args below meth c ls F hr hlk hnm hsz hP hD hE hA hl
  obtain ⟨hx, hb, hml, hown, hts⟩ := id F
  have hK := hE.1
  generalize va_A ([] ++ pl) sz = A at hD hE hA ⊢
  have hS : va_S A s0.heap s0.heap [] := va_S.rf
  have hl : lv_has ls 5 [(0, .ref h0), (1, .ref f), (2, .ref fg)] := hl
  have hR : F_RG_sub_8 pf pg s = F_RG_sub_8 pf pg s := rfl
  refine lv_iconst (v := nI 0) hx hb dRG_subtract_0 (by decide) ?_
  refine lv_istore_n (lv' := [(3, .int (nI 0)), (0, .ref h0), (1, .ref f), (2, .ref fg)]) hx hb dRG_subtract_1 rfl hl (by decide) rfl (fun ls hl => ?_)
  have lp21 : ∀ (n21 : Nat) (i21 : Nat) (s21 : Sto) (pl : va_W) (ls : Array Slot) (H : Heap) (locs : List Loc), n21 + i21 = 256 → F_RG_sub_8 pf pg s = F_RG_sub_8_L0 pf pg n21 i21 s21 → lv_has ls 5 [(3, .int (nI i21)), (0, .ref h0), (1, .ref f), (2, .ref fg)] → okn g T s21 pl → va_P g.1 vcl ([] ++ pl) H → va_D A ([] ++ pl) → va_S A s0.heap H locs → W p l e ({ frames := 0, cells := 0, slots := 0, locals := 0 } : Room) s0 m args below meth c H locs 0 0 (MQ below (va_Qv (fun (u : (Sto) × va_W) => (u.1 = F_RG_sub_8 pf pg s) ∧ okn g T u.1 u.2) (po g.1 vcl A (fun (u : (Sto) × va_W) => [] ++ u.2)) A) args s0 0 0 A) (F0 m 2 ls []) := by
    intro n21
    induction n21 with
    | zero =>
      intro i21 s21 pl ls H locs hm21 hR hl hO hP hD hS
      refine lv_iload_n hx hb dRG_subtract_2 rfl (lv_at hl 0 rfl) ?_
      refine lv_sipush (v := nI 256) hx hb dRG_subtract_3 (by decide) ?_
      refine mi_ge (tgt := 44) hx hb dRG_subtract_6 (by decide) (by omega) (by omega) (fun h21 => ?_) (fun h21 => absurd h21 (by omega))
      exact mp_vret hx hb hr hlk hP hD hS (s21, pl) ⟨hR.symm, hO⟩ [] rfl rfl rfl (by omega) (by omega) dRG_subtract_44
    | succ n21 ih21 =>
      intro i21 s21 pl ls H locs hm21 hR hl hO hP hD hS
      refine lv_iload_n hx hb dRG_subtract_2 rfl (lv_at hl 0 rfl) ?_
      refine lv_sipush (v := nI 256) hx hb dRG_subtract_3 (by decide) ?_
      refine mi_ge (tgt := 44) hx hb dRG_subtract_6 (by decide) (by omega) (by omega) (fun h22 => absurd h22 (by omega)) (fun h22 => ?_)
      refine lv_aload_n hx hb dRG_subtract_9 rfl (lv_at hl 2 rfl) ?_
      refine lv_iload_n hx hb dRG_subtract_10 rfl (lv_at hl 0 rfl) ?_
      refine nw_iald hx hb hK hO k_f (k := pf) n_f hP (by omega) (by omega) dRG_subtract_11 ?_
      refine lv_aload_n hx hb dRG_subtract_12 rfl (lv_at hl 3 rfl) ?_
      refine lv_iload_n hx hb dRG_subtract_13 rfl (lv_at hl 0 rfl) ?_
      refine nw_iald hx hb hK hO k_fg (k := pg) n_fg hP (by omega) (by omega) dRG_subtract_14 ?_
      refine lv_isub hx hb dRG_subtract_15 ?_
      refine mi_eqv (fun z21 ez21 => ?_)
      replace hR := bnd_step hR ez21
      refine lv_istore (lv' := [(4, .int z21), (3, .int (nI i21)), (0, .ref h0), (1, .ref f), (2, .ref fg)]) hx hb dRG_subtract_16 hl (by decide) rfl (fun ls hl => ?_)
      refine lv_aload_n hx hb dRG_subtract_18 rfl (lv_at hl 3 rfl) ?_
      refine lv_iload_n hx hb dRG_subtract_19 rfl (lv_at hl 1 rfl) ?_
      refine lv_iload hx hb dRG_subtract_20 (lv_at hl 0 rfl) ?_
      refine lv_if_ge (tgt := 35) hx hb dRG_subtract_22 (by decide) (fun h23 => ?_) (fun h23 => ?_)
      · replace hR := hR.trans (if_pos h23)
        refine lv_iload hx hb dRG_subtract_35 (lv_at hl 0 rfl) ?_
        refine nw_iast hx hb hK hO hU k_f (k := pf) n_f hP hD hS (by omega) (by omega) dRG_subtract_37 (fun s22 pl H locs es21 hO hP hD hS => ?_)
        replace hR := bnd_step hR es21
        refine mi_iinc (k := 1) (x := i21) (d := 1) (y := i21 + 1) (lv' := [(3, .int (nI (i21 + 1))), (4, .int z21), (0, .ref h0), (1, .ref f), (2, .ref fg)]) hx hb dRG_subtract_38 hl rfl (by decide) rfl (by decide) rfl (fun ls hl => ?_)
        refine lv_goto (tgt := 2) hx hb dRG_subtract_41 (by decide) ?_
        exact ih21 (i21 + 1) s22 pl ls H locs (by omega) hR (lv_sub hl [0, 2, 3, 4] rfl) hO hP hD hS
      · replace hR := hR.trans (if_neg h23)
        refine lv_iload hx hb dRG_subtract_25 (lv_at hl 0 rfl) ?_
        refine lv_aload_n hx hb dRG_subtract_27 rfl (lv_at hl 2 rfl) ?_
        refine nw_get (C := "LatticeKeys$Ring") (TT := T_RG) (N := 4) hx hb hts (wg_ft i_RG) hown hK hO k_h0 (kn := 22) (ci := 4) (fl := [(1, 8380417), (1, 8), (1, 8347681), (3, 23)]) rfl hP rfl 0 (by decide) (hts _ (wg_t kw_91)) (fun _ h9 => h9) (cd := (1, 8380417)) rfl dRG_subtract_28 (fun v21 hv21 => ?_)
        obtain rfl := (show v21 = .int (nI 8380417) from hv21)
        refine lv_iadd hx hb dRG_subtract_31 ?_
        refine lv_goto (tgt := 37) hx hb dRG_subtract_32 (by decide) ?_
        refine nw_iast hx hb hK hO hU k_f (k := pf) n_f hP hD hS (by omega) (by omega) dRG_subtract_37 (fun s23 pl H locs es22 hO hP hD hS => ?_)
        replace hR := bnd_step hR es22
        refine mi_iinc (k := 1) (x := i21) (d := 1) (y := i21 + 1) (lv' := [(3, .int (nI (i21 + 1))), (4, .int z21), (0, .ref h0), (1, .ref f), (2, .ref fg)]) hx hb dRG_subtract_38 hl rfl (by decide) rfl (by decide) rfl (fun ls hl => ?_)
        refine lv_goto (tgt := 2) hx hb dRG_subtract_41 (by decide) ?_
        exact ih21 (i21 + 1) s23 pl ls H locs (by omega) hR (lv_sub hl [0, 2, 3, 4] rfl) hO hP hD hS
  exact lp21 256 0 s pl ls _ _ (by omega) hR (lv_sub hl [0, 1, 2, 3] rfl) hO hP hD hS
