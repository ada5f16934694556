set_option linter.all false
abbrev c_ME_draw : ByteArray := prog_15_method_6_code
abbrev y_ME_draw : MethodName := ⟨"LatticeKeysModel$Secrets", "draw", "([I)V"⟩
abbrev w_ME_draw : List Cond := Cond.code y_ME_draw c_ME_draw 8 none :: WG
theorem dME_draw_0 : decode c_ME_draw 0 = .ok (.iconst 0, 1) := by decide +kernel
theorem dME_draw_1 : decode c_ME_draw 1 = .ok (.istore_n 2, 1) := by decide +kernel
theorem dME_draw_2 : decode c_ME_draw 2 = .ok (.iload_n 2, 1) := by decide +kernel
theorem dME_draw_3 : decode c_ME_draw 3 = .ok (.sipush 256, 3) := by decide +kernel
theorem dME_draw_6 : decode c_ME_draw 6 = .ok (.if_icmp .ge 97, 3) := by decide +kernel
theorem dME_draw_9 : decode c_ME_draw 9 = .ok (.aload_n 0, 1) := by decide +kernel
theorem dME_draw_10 : decode c_ME_draw 10 = .ok (.getfield 58, 3) := by decide +kernel
theorem dME_draw_13 : decode c_ME_draw 13 = .ok (.invokevirtual 91, 3) := by decide +kernel
theorem dME_draw_16 : decode c_ME_draw 16 = .ok (.istore_n 3, 1) := by decide +kernel
theorem dME_draw_17 : decode c_ME_draw 17 = .ok (.aload_n 0, 1) := by decide +kernel
theorem dME_draw_18 : decode c_ME_draw 18 = .ok (.getfield 58, 3) := by decide +kernel
theorem dME_draw_21 : decode c_ME_draw 21 = .ok (.invokevirtual 91, 3) := by decide +kernel
theorem dME_draw_24 : decode c_ME_draw 24 = .ok (.istore 4, 2) := by decide +kernel
theorem dME_draw_26 : decode c_ME_draw 26 = .ok (.aload_n 0, 1) := by decide +kernel
theorem dME_draw_27 : decode c_ME_draw 27 = .ok (.getfield 58, 3) := by decide +kernel
theorem dME_draw_30 : decode c_ME_draw 30 = .ok (.invokevirtual 91, 3) := by decide +kernel
theorem dME_draw_33 : decode c_ME_draw 33 = .ok (.istore 5, 2) := by decide +kernel
theorem dME_draw_35 : decode c_ME_draw 35 = .ok (.iload_n 3, 1) := by decide +kernel
theorem dME_draw_36 : decode c_ME_draw 36 = .ok (.sipush 256, 3) := by decide +kernel
theorem dME_draw_39 : decode c_ME_draw 39 = .ok (.iload 4, 2) := by decide +kernel
theorem dME_draw_41 : decode c_ME_draw 41 = .ok (.bipush 16, 2) := by decide +kernel
theorem dME_draw_43 : decode c_ME_draw 43 = .ok (.irem, 1) := by decide +kernel
theorem dME_draw_44 : decode c_ME_draw 44 = .ok (.imul, 1) := by decide +kernel
theorem dME_draw_45 : decode c_ME_draw 45 = .ok (.iadd, 1) := by decide +kernel
theorem dME_draw_46 : decode c_ME_draw 46 = .ok (.istore 6, 2) := by decide +kernel
theorem dME_draw_48 : decode c_ME_draw 48 = .ok (.iload 4, 2) := by decide +kernel
theorem dME_draw_50 : decode c_ME_draw 50 = .ok (.bipush 16, 2) := by decide +kernel
theorem dME_draw_52 : decode c_ME_draw 52 = .ok (.idiv, 1) := by decide +kernel
theorem dME_draw_53 : decode c_ME_draw 53 = .ok (.bipush 16, 2) := by decide +kernel
theorem dME_draw_55 : decode c_ME_draw 55 = .ok (.iload 5, 2) := by decide +kernel
theorem dME_draw_57 : decode c_ME_draw 57 = .ok (.imul, 1) := by decide +kernel
theorem dME_draw_58 : decode c_ME_draw 58 = .ok (.iadd, 1) := by decide +kernel
theorem dME_draw_59 : decode c_ME_draw 59 = .ok (.istore 7, 2) := by decide +kernel
theorem dME_draw_61 : decode c_ME_draw 61 = .ok (.iload 6, 2) := by decide +kernel
theorem dME_draw_63 : decode c_ME_draw 63 = .ok (.sipush 3329, 3) := by decide +kernel
theorem dME_draw_66 : decode c_ME_draw 66 = .ok (.if_icmp .ge 11, 3) := by decide +kernel
theorem dME_draw_69 : decode c_ME_draw 69 = .ok (.aload_n 1, 1) := by decide +kernel
theorem dME_draw_70 : decode c_ME_draw 70 = .ok (.iload_n 2, 1) := by decide +kernel
theorem dME_draw_71 : decode c_ME_draw 71 = .ok (.iload 6, 2) := by decide +kernel
theorem dME_draw_73 : decode c_ME_draw 73 = .ok (.iastore, 1) := by decide +kernel
theorem dME_draw_74 : decode c_ME_draw 74 = .ok (.iinc 2 1, 3) := by decide +kernel
theorem dME_draw_77 : decode c_ME_draw 77 = .ok (.iload 7, 2) := by decide +kernel
theorem dME_draw_79 : decode c_ME_draw 79 = .ok (.sipush 3329, 3) := by decide +kernel
theorem dME_draw_82 : decode c_ME_draw 82 = .ok (.if_icmp .ge 18, 3) := by decide +kernel
theorem dME_draw_85 : decode c_ME_draw 85 = .ok (.iload_n 2, 1) := by decide +kernel
theorem dME_draw_86 : decode c_ME_draw 86 = .ok (.sipush 256, 3) := by decide +kernel
theorem dME_draw_89 : decode c_ME_draw 89 = .ok (.if_icmp .ge 11, 3) := by decide +kernel
theorem dME_draw_92 : decode c_ME_draw 92 = .ok (.aload_n 1, 1) := by decide +kernel
theorem dME_draw_93 : decode c_ME_draw 93 = .ok (.iload_n 2, 1) := by decide +kernel
theorem dME_draw_94 : decode c_ME_draw 94 = .ok (.iload 7, 2) := by decide +kernel
theorem dME_draw_96 : decode c_ME_draw 96 = .ok (.iastore, 1) := by decide +kernel
theorem dME_draw_97 : decode c_ME_draw 97 = .ok (.iinc 2 1, 3) := by decide +kernel
theorem dME_draw_100 : decode c_ME_draw 100 = .ok (.goto (-98), 3) := by decide +kernel
theorem dME_draw_103 : decode c_ME_draw 103 = .ok (.return_, 1) := by decide +kernel
abbrev c_ME_expand : ByteArray := prog_15_method_5_code
abbrev y_ME_expand : MethodName := ⟨"LatticeKeysModel$Secrets", "expand", "([BII)V"⟩
abbrev w_ME_expand : List Cond := Cond.code y_ME_expand c_ME_expand 6 none :: WG
theorem dME_expand_0 : decode c_ME_expand 0 = .ok (.iconst 0, 1) := by decide +kernel
theorem dME_expand_1 : decode c_ME_expand 1 = .ok (.istore 4, 2) := by decide +kernel
theorem dME_expand_3 : decode c_ME_expand 3 = .ok (.iload 4, 2) := by decide +kernel
theorem dME_expand_5 : decode c_ME_expand 5 = .ok (.iload_n 3, 1) := by decide +kernel
theorem dME_expand_6 : decode c_ME_expand 6 = .ok (.if_icmp .ge 88, 3) := by decide +kernel
theorem dME_expand_9 : decode c_ME_expand 9 = .ok (.iconst 0, 1) := by decide +kernel
theorem dME_expand_10 : decode c_ME_expand 10 = .ok (.istore 5, 2) := by decide +kernel
theorem dME_expand_12 : decode c_ME_expand 12 = .ok (.iload 5, 2) := by decide +kernel
theorem dME_expand_14 : decode c_ME_expand 14 = .ok (.iload_n 3, 1) := by decide +kernel
theorem dME_expand_15 : decode c_ME_expand 15 = .ok (.if_icmp .ge 73, 3) := by decide +kernel
theorem dME_expand_18 : decode c_ME_expand 18 = .ok (.aload_n 0, 1) := by decide +kernel
theorem dME_expand_19 : decode c_ME_expand 19 = .ok (.getfield 58, 3) := by decide +kernel
theorem dME_expand_22 : decode c_ME_expand 22 = .ok (.sipush 168, 3) := by decide +kernel
theorem dME_expand_25 : decode c_ME_expand 25 = .ok (.bipush 31, 2) := by decide +kernel
theorem dME_expand_27 : decode c_ME_expand 27 = .ok (.invokevirtual 71, 3) := by decide +kernel
theorem dME_expand_30 : decode c_ME_expand 30 = .ok (.aload_n 0, 1) := by decide +kernel
theorem dME_expand_31 : decode c_ME_expand 31 = .ok (.getfield 58, 3) := by decide +kernel
theorem dME_expand_34 : decode c_ME_expand 34 = .ok (.aload_n 1, 1) := by decide +kernel
theorem dME_expand_35 : decode c_ME_expand 35 = .ok (.iload_n 2, 1) := by decide +kernel
theorem dME_expand_36 : decode c_ME_expand 36 = .ok (.bipush 32, 2) := by decide +kernel
theorem dME_expand_38 : decode c_ME_expand 38 = .ok (.invokevirtual 77, 3) := by decide +kernel
theorem dME_expand_41 : decode c_ME_expand 41 = .ok (.aload_n 0, 1) := by decide +kernel
theorem dME_expand_42 : decode c_ME_expand 42 = .ok (.getfield 58, 3) := by decide +kernel
theorem dME_expand_45 : decode c_ME_expand 45 = .ok (.iload 5, 2) := by decide +kernel
theorem dME_expand_47 : decode c_ME_expand 47 = .ok (.invokevirtual 81, 3) := by decide +kernel
theorem dME_expand_50 : decode c_ME_expand 50 = .ok (.aload_n 0, 1) := by decide +kernel
theorem dME_expand_51 : decode c_ME_expand 51 = .ok (.getfield 58, 3) := by decide +kernel
theorem dME_expand_54 : decode c_ME_expand 54 = .ok (.iload 4, 2) := by decide +kernel
theorem dME_expand_56 : decode c_ME_expand 56 = .ok (.invokevirtual 81, 3) := by decide +kernel
theorem dME_expand_59 : decode c_ME_expand 59 = .ok (.aload_n 0, 1) := by decide +kernel
theorem dME_expand_60 : decode c_ME_expand 60 = .ok (.getfield 58, 3) := by decide +kernel
theorem dME_expand_63 : decode c_ME_expand 63 = .ok (.invokevirtual 84, 3) := by decide +kernel
theorem dME_expand_66 : decode c_ME_expand 66 = .ok (.aload_n 0, 1) := by decide +kernel
theorem dME_expand_67 : decode c_ME_expand 67 = .ok (.aload_n 0, 1) := by decide +kernel
theorem dME_expand_68 : decode c_ME_expand 68 = .ok (.getfield 20, 3) := by decide +kernel
theorem dME_expand_71 : decode c_ME_expand 71 = .ok (.iconst 4, 1) := by decide +kernel
theorem dME_expand_72 : decode c_ME_expand 72 = .ok (.iload 4, 2) := by decide +kernel
theorem dME_expand_74 : decode c_ME_expand 74 = .ok (.imul, 1) := by decide +kernel
theorem dME_expand_75 : decode c_ME_expand 75 = .ok (.iload 5, 2) := by decide +kernel
theorem dME_expand_77 : decode c_ME_expand 77 = .ok (.iadd, 1) := by decide +kernel
theorem dME_expand_78 : decode c_ME_expand 78 = .ok (.aaload, 1) := by decide +kernel
theorem dME_expand_79 : decode c_ME_expand 79 = .ok (.invokevirtual 87, 3) := by decide +kernel
theorem dME_expand_82 : decode c_ME_expand 82 = .ok (.iinc 5 1, 3) := by decide +kernel
theorem dME_expand_85 : decode c_ME_expand 85 = .ok (.goto (-73), 3) := by decide +kernel
theorem dME_expand_88 : decode c_ME_expand 88 = .ok (.iinc 4 1, 3) := by decide +kernel
theorem dME_expand_91 : decode c_ME_expand 91 = .ok (.goto (-88), 3) := by decide +kernel
theorem dME_expand_94 : decode c_ME_expand 94 = .ok (.return_, 1) := by decide +kernel
def M_ME_draw (pt : Nat) (k : Nat) : Prop := k = 172 ∨ k = pt ∨ (0 : Nat) = 1
noncomputable def F_ME_draw_L0 (pt : Nat) : Nat → Nat → Sto → Sto
  | 0, nn21, s21 => s21
  | n21 + 1, nn21, s21 => if 256 ≤ nn21 then s21 else bnd (F_MS_next  s21) fun q21 => bnd (q21.1.toNatClampNeg) fun z21 => bnd (F_MS_next  q21.2) fun q22 => bnd (q22.1.toNatClampNeg) fun z22 => bnd (F_MS_next  q22.2) fun q23 => bnd (q23.1.toNatClampNeg) fun z23 => if 3329 ≤ z21 + (256 * (z22 % 16)) then if 3329 ≤ (z22 / 16) + (16 * z23) then F_ME_draw_L0 pt n21 nn21 q23.2 else if 256 ≤ nn21 then F_ME_draw_L0 pt n21 nn21 q23.2 else bnd (sI q23.2 pt nn21 (nI ((z22 / 16) + (16 * z23)))) fun s22 => F_ME_draw_L0 pt n21 (nn21 + 1) s22 else bnd (sI q23.2 pt nn21 (nI (z21 + (256 * (z22 % 16))))) fun s23 => if 3329 ≤ (z22 / 16) + (16 * z23) then F_ME_draw_L0 pt n21 (nn21 + 1) s23 else if 256 ≤ nn21 + 1 then F_ME_draw_L0 pt n21 (nn21 + 1) s23 else bnd (sI s23 pt (nn21 + 1) (nI ((z22 / 16) + (16 * z23)))) fun s24 => F_ME_draw_L0 pt n21 (nn21 + 1 + 1) s24
noncomputable def E_ME_draw_L0 (pt : Nat) : Nat → Nat → Sto → Prop
  | 0, nn21, s21 => (256 ≤ nn21) ∧ (True)
  | n21 + 1, nn21, s21 => if 256 ≤ nn21 then True else bnd (F_MS_next  s21) fun q21 => bnd (q21.1.toNatClampNeg) fun z21 => bnd (F_MS_next  q21.2) fun q22 => bnd (q22.1.toNatClampNeg) fun z22 => bnd (F_MS_next  q22.2) fun q23 => bnd (q23.1.toNatClampNeg) fun z23 => if 3329 ≤ z21 + (256 * (z22 % 16)) then if 3329 ≤ (z22 / 16) + (16 * z23) then E_ME_draw_L0 pt n21 nn21 q23.2 else if 256 ≤ nn21 then E_ME_draw_L0 pt n21 nn21 q23.2 else bnd (sI q23.2 pt nn21 (nI ((z22 / 16) + (16 * z23)))) fun s22 => E_ME_draw_L0 pt n21 (nn21 + 1) s22 else bnd (sI q23.2 pt nn21 (nI (z21 + (256 * (z22 % 16))))) fun s23 => if 3329 ≤ (z22 / 16) + (16 * z23) then E_ME_draw_L0 pt n21 (nn21 + 1) s23 else if 256 ≤ nn21 + 1 then E_ME_draw_L0 pt n21 (nn21 + 1) s23 else bnd (sI s23 pt (nn21 + 1) (nI ((z22 / 16) + (16 * z23)))) fun s24 => E_ME_draw_L0 pt n21 (nn21 + 1 + 1) s24
noncomputable def F_ME_draw (pt : Nat) (s : Sto) : Sto := F_ME_draw_L0 pt 1000000 0 s
noncomputable def E_ME_draw (pt : Nat) (s : Sto) : Prop := E_ME_draw_L0 pt 1000000 0 s
set_option maxHeartbeats 8000000 in
set_option maxRecDepth 100000 in
theorem N_ME_draw (l : Launch) (g : Gd) (sz : Nat) (T : TyN) (s : Sto) (pl : va_W) (hO : okn g T s pl) (hU : inj T) (h0 to : Nat) (pt : Nat) (ps : Nat) (rt : Nat) (k_h0 : T h0 = some 184) (k_to : T to = some pt) (n_to : nsp pt = (0, 256, [])) (e_ps : s.1 172 6 = nI ps) (e_rt : s.1 172 5 = nI rt) (hps : ps ≤ 168) (hrt : rt = 168) (hE : E_ME_draw pt s)  : Met l y_ME_draw w_ME_draw ({ frames := 3, cells := 0, slots := 0, locals := 66 } : Room) (va_Pc [.ref h0, .ref to] (pr (en g) g.1 vcl sz ([] ++ pl))) (va_Qv (fun (u : (Sto) × va_W) => (u.1 = F_ME_draw pt s ∧ frm (M_ME_draw pt) s u.1 ∧ (∃ x : Nat, u.1.1 172 6 = nI x ∧ x ≤ 168) ∧ (∃ x : Nat, u.1.1 172 5 = nI x ∧ x = rt) ∧ True) ∧ okn g T u.1 u.2) (po g.1 vcl (va_A ([] ++ pl) sz) (fun (u : (Sto) × va_W) => [] ++ u.2)) (va_A ([] ++ pl) sz)) 0 0 (va_A ([] ++ pl) sz) := by
  refine mc_entry (cc := c_ME_draw) (maxL := 8) (ret := none) (by decide) rfl (Nat.le_of_ble_eq_true rfl) ?_
  intro p e s0 m args below meth c ls F hr hlk hnm hsz hP hD hEn hA hl
  obtain ⟨hx, hb, hml, hown, hts⟩ := id F
  have hK := hEn.1
  generalize va_A ([] ++ pl) sz = A at hD hEn hA ⊢
  have hS : va_S A s0.heap s0.heap [] := va_S.rf
  have hl : lv_has ls 8 [(0, .ref h0), (1, .ref to)] := hl
  have hR : F_ME_draw pt s = F_ME_draw pt s := rfl
  have hF : frm (M_ME_draw pt) s s := frm_rf
  have ne_172_pt : 172 ≠ pt := nsp_ne (p := 172) rfl n_to (show (5 : Nat) ≠ 0 by decide)
  refine lv_iconst (v := nI 0) hx hb dME_draw_0 (by decide) ?_
  refine lv_istore_n (lv' := [(2, .int (nI 0)), (0, .ref h0), (1, .ref to)]) hx hb dME_draw_1 rfl hl (by decide) rfl (fun ls hl => ?_)
  have lp21 : ∀ (n21 : Nat) (nn21 : Nat) (s21 : Sto) (ps21 : Nat) (pl : va_W) (ls : Array Slot) (H : Heap) (locs : List Loc), 0 = 0 → (nn21 ≤ 256) → (ps21 ≤ 168) → frm (M_ME_draw pt) s s21 → s21.1 172 6 = nI ps21 → s21.1 172 5 = nI rt → E_ME_draw_L0 pt n21 nn21 s21 → F_ME_draw pt s = F_ME_draw_L0 pt n21 nn21 s21 → lv_has ls 8 [(2, .int (nI nn21)), (0, .ref h0), (1, .ref to)] → okn g T s21 pl → va_P g.1 vcl ([] ++ pl) H → va_D A ([] ++ pl) → va_S A s0.heap H locs → W p l e ({ frames := 3, cells := 0, slots := 0, locals := 66 } : Room) s0 m args below meth c H locs 0 0 (MQ below (va_Qv (fun (u : (Sto) × va_W) => (u.1 = F_ME_draw pt s ∧ frm (M_ME_draw pt) s u.1 ∧ (∃ x : Nat, u.1.1 172 6 = nI x ∧ x ≤ 168) ∧ (∃ x : Nat, u.1.1 172 5 = nI x ∧ x = rt) ∧ True) ∧ okn g T u.1 u.2) (po g.1 vcl A (fun (u : (Sto) × va_W) => [] ++ u.2)) A) args s0 0 0 A) (F0 m 2 ls []) := by
    intro n21
    induction n21 with
    | zero =>
      intro nn21 s21 ps21 pl ls H locs hm21 hi21 hi22 hF hf21 hf22 hE hR hl hO hP hD hS
      refine lv_iload_n hx hb dME_draw_2 rfl (lv_at hl 0 rfl) ?_
      refine lv_sipush (v := nI 256) hx hb dME_draw_3 (by decide) ?_
      refine mi_ge (tgt := 103) hx hb dME_draw_6 (by decide) (by omega) (by omega) (fun h21 => ?_) (fun h21 => absurd h21 (by have h9 : 256 ≤ nn21 := hE.1; omega))
      replace hE := hE.2
      exact mp_vret hx hb hr hlk hP hD hS (s21, pl) ⟨⟨hR.symm, hF, ⟨ps21, hf21, by omega⟩, ⟨rt, hf22, by omega⟩, trivial⟩, hO⟩ [] rfl rfl rfl (by omega) (by omega) dME_draw_103
    | succ n21 ih21 =>
      intro nn21 s21 ps21 pl ls H locs hm21 hi21 hi22 hF hf23 hf24 hE hR hl hO hP hD hS
      refine lv_iload_n hx hb dME_draw_2 rfl (lv_at hl 0 rfl) ?_
      refine lv_sipush (v := nI 256) hx hb dME_draw_3 (by decide) ?_
      refine mi_ge (tgt := 103) hx hb dME_draw_6 (by decide) (by omega) (by omega) (fun h22 => ?_) (fun h22 => ?_)
      · replace hR := hR.trans (if_pos h22)
        replace hE := iteP_pos h22 hE
        exact mp_vret hx hb hr hlk hP hD hS (s21, pl) ⟨⟨hR.symm, hF, ⟨ps21, hf23, by omega⟩, ⟨rt, hf24, by omega⟩, trivial⟩, hO⟩ [] rfl rfl rfl (by omega) (by omega) dME_draw_103
      · replace hR := hR.trans (if_neg (Nat.not_le.mpr h22))
        replace hE := iteP_neg (Nat.not_le.mpr h22) hE
        refine lv_aload_n hx hb dME_draw_9 rfl (lv_at hl 1 rfl) ?_
        refine nw_get (C := "LatticeKeysModel$Secrets") (TT := T_ME) (N := 14) hx hb hts (wg_ft i_ME) hown hK hO k_h0 (kn := 184) (ci := 11) (fl := [(3, 172), (3, 178), (3, 185), (3, 202), (3, 207), (3, 212), (3, 217), (3, 218), (3, 219), (3, 220), (3, 221), (3, 222), (3, 223), (3, 224)]) rfl hP rfl 0 (by decide) (hts _ (wg_t kw_1379)) (fun _ h9 => h9) (cd := (3, 172)) rfl dME_draw_10 (fun v21 hv21 => ?_)
        obtain ⟨r21, rfl, kr21⟩ := (show ∃ r : Nat, v21 = .ref r ∧ T r = some 172 from hv21)
        refine mp_i (cx := []) (wr := []) hP hD hS hA [] [] rfl rfl rfl (by decide) (va_runV (As := []) (rest := []) F (N_MS_next l g _ T s21 pl hO hU r21 ps21 rt kr21 hf23 hf24 (by omega) (by omega)) (cwV 0 hts (wg_app (wg_c kw_1653 (wg_c kw_1642 (wg_c kw_1643 (wg_c kw_10 wg_n)))) kw_1644) rfl rfl rfl (by decide +kernel) ⟨by decide, by decide⟩) (pn_W "LatticeKeysModel$Sponge" (en_ok g) (ci := 9) (kn := 172) (fl := [(3, 173), (3, 174), (3, 175), (3, 176), (3, 177), (0, 0), (0, 0), (0, 0)]) hK hO kr21 rfl hP hD hS hA hEn [] rfl rfl rfl) rfl rfl hl.1 rfl (lv_room (Nat.le_of_ble_eq_true rfl)) dME_draw_13 ⟨by omega, by omega⟩) (fun r22 u21 H locs hu21 hP hD hS => ?_)
        obtain ⟨q21, pl⟩ := u21
        obtain ⟨⟨eq21, rfl, hFc21, ⟨x23, hx_23, hb_23⟩, ⟨x21, hx_21, hb_21⟩, ⟨x22, hx_22, hb_22⟩, -⟩, hO⟩ := hu21
        have hO : okn g T q21.2 pl := hO
        have hP : va_P g.1 vcl ([] ++ pl) _ := hP
        have hD : va_D _ ([] ++ pl) := hD
        have hFc21 : frm (M_MS_next) s21 q21.2 := hFc21
        have hb_21 : x21 ≤ rt := hb_21
        have hb_22 : x22 = rt := hb_22
        have hb_23 : x23 < 256 := hb_23
        replace hR := bnd_step hR eq21
        replace hE := bndP_step hE eq21
        have hF := frm_tr hF hFc21 (fun k hk => by unfold M_MS_next at hk; unfold M_ME_draw; omega)
        obtain ⟨z21, ez21, hz21, hz22⟩ := cl_of (b := 2147483648) hx_23 (by omega) (by decide)
        replace hR := bnd_step hR ez21
        replace hE := bndP_step hE ez21
        refine mi_as hz21 ?_
        refine W.widen (k := 0) (n := 0) (by omega) (by omega) ?_
        refine lv_istore_n (lv' := [(3, .int (nI z21)), (2, .int (nI nn21)), (0, .ref h0), (1, .ref to)]) hx hb dME_draw_16 rfl hl (by decide) rfl (fun ls hl => ?_)
        refine lv_aload_n hx hb dME_draw_17 rfl (lv_at hl 2 rfl) ?_
        refine nw_get (C := "LatticeKeysModel$Secrets") (TT := T_ME) (N := 14) hx hb hts (wg_ft i_ME) hown hK hO k_h0 (kn := 184) (ci := 11) (fl := [(3, 172), (3, 178), (3, 185), (3, 202), (3, 207), (3, 212), (3, 217), (3, 218), (3, 219), (3, 220), (3, 221), (3, 222), (3, 223), (3, 224)]) rfl hP rfl 0 (by decide) (hts _ (wg_t kw_1379)) (fun _ h9 => h9) (cd := (3, 172)) rfl dME_draw_18 (fun v22 hv22 => ?_)
        obtain ⟨r23, rfl, kr22⟩ := (show ∃ r : Nat, v22 = .ref r ∧ T r = some 172 from hv22)
        refine mp_i (cx := []) (wr := []) hP hD hS hA [] [] rfl rfl rfl (by decide) (va_runV (As := []) (rest := []) F (N_MS_next l g _ T q21.2 pl hO hU r23 x21 x22 kr22 hx_21 hx_22 (by omega) (by omega)) (cwV 0 hts (wg_app (wg_c kw_1653 (wg_c kw_1642 (wg_c kw_1643 (wg_c kw_10 wg_n)))) kw_1644) rfl rfl rfl (by decide +kernel) ⟨by decide, by decide⟩) (pn_W "LatticeKeysModel$Sponge" (en_ok g) (ci := 9) (kn := 172) (fl := [(3, 173), (3, 174), (3, 175), (3, 176), (3, 177), (0, 0), (0, 0), (0, 0)]) hK hO kr22 rfl hP hD hS hA hEn [] rfl rfl rfl) rfl rfl hl.1 rfl (lv_room (Nat.le_of_ble_eq_true rfl)) dME_draw_21 ⟨by omega, by omega⟩) (fun r24 u22 H locs hu22 hP hD hS => ?_)
        obtain ⟨q22, pl⟩ := u22
        obtain ⟨⟨eq22, rfl, hFc22, ⟨x26, hx_26, hb_26⟩, ⟨x24, hx_24, hb_24⟩, ⟨x25, hx_25, hb_25⟩, -⟩, hO⟩ := hu22
        have hO : okn g T q22.2 pl := hO
        have hP : va_P g.1 vcl ([] ++ pl) _ := hP
        have hD : va_D _ ([] ++ pl) := hD
        have hFc22 : frm (M_MS_next) q21.2 q22.2 := hFc22
        have hb_24 : x24 ≤ x22 := hb_24
        have hb_25 : x25 = x22 := hb_25
        have hb_26 : x26 < 256 := hb_26
        replace hR := bnd_step hR eq22
        replace hE := bndP_step hE eq22
        have hF := frm_tr hF hFc22 (fun k hk => by unfold M_MS_next at hk; unfold M_ME_draw; omega)
        obtain ⟨z22, ez22, hz23, hz24⟩ := cl_of (b := 2147483648) hx_26 (by omega) (by decide)
        replace hR := bnd_step hR ez22
        replace hE := bndP_step hE ez22
        refine mi_as hz23 ?_
        refine W.widen (k := 0) (n := 0) (by omega) (by omega) ?_
        refine lv_istore (lv' := [(4, .int (nI z22)), (3, .int (nI z21)), (2, .int (nI nn21)), (0, .ref h0), (1, .ref to)]) hx hb dME_draw_24 hl (by decide) rfl (fun ls hl => ?_)
        refine lv_aload_n hx hb dME_draw_26 rfl (lv_at hl 3 rfl) ?_
        refine nw_get (C := "LatticeKeysModel$Secrets") (TT := T_ME) (N := 14) hx hb hts (wg_ft i_ME) hown hK hO k_h0 (kn := 184) (ci := 11) (fl := [(3, 172), (3, 178), (3, 185), (3, 202), (3, 207), (3, 212), (3, 217), (3, 218), (3, 219), (3, 220), (3, 221), (3, 222), (3, 223), (3, 224)]) rfl hP rfl 0 (by decide) (hts _ (wg_t kw_1379)) (fun _ h9 => h9) (cd := (3, 172)) rfl dME_draw_27 (fun v23 hv23 => ?_)
        obtain ⟨r25, rfl, kr23⟩ := (show ∃ r : Nat, v23 = .ref r ∧ T r = some 172 from hv23)
        refine mp_i (cx := []) (wr := []) hP hD hS hA [] [] rfl rfl rfl (by decide) (va_runV (As := []) (rest := []) F (N_MS_next l g _ T q22.2 pl hO hU r25 x24 x25 kr23 hx_24 hx_25 (by omega) (by omega)) (cwV 0 hts (wg_app (wg_c kw_1653 (wg_c kw_1642 (wg_c kw_1643 (wg_c kw_10 wg_n)))) kw_1644) rfl rfl rfl (by decide +kernel) ⟨by decide, by decide⟩) (pn_W "LatticeKeysModel$Sponge" (en_ok g) (ci := 9) (kn := 172) (fl := [(3, 173), (3, 174), (3, 175), (3, 176), (3, 177), (0, 0), (0, 0), (0, 0)]) hK hO kr23 rfl hP hD hS hA hEn [] rfl rfl rfl) rfl rfl hl.1 rfl (lv_room (Nat.le_of_ble_eq_true rfl)) dME_draw_30 ⟨by omega, by omega⟩) (fun r26 u23 H locs hu23 hP hD hS => ?_)
        obtain ⟨q23, pl⟩ := u23
        obtain ⟨⟨eq23, rfl, hFc23, ⟨x29, hx_29, hb_29⟩, ⟨x27, hx_27, hb_27⟩, ⟨x28, hx_28, hb_28⟩, -⟩, hO⟩ := hu23
        have hO : okn g T q23.2 pl := hO
        have hP : va_P g.1 vcl ([] ++ pl) _ := hP
        have hD : va_D _ ([] ++ pl) := hD
        have hFc23 : frm (M_MS_next) q22.2 q23.2 := hFc23
        have hb_27 : x27 ≤ x25 := hb_27
        have hb_28 : x28 = x25 := hb_28
        have hb_29 : x29 < 256 := hb_29
        replace hR := bnd_step hR eq23
        replace hE := bndP_step hE eq23
        have hF := frm_tr hF hFc23 (fun k hk => by unfold M_MS_next at hk; unfold M_ME_draw; omega)
        obtain ⟨z23, ez23, hz25, hz26⟩ := cl_of (b := 2147483648) hx_29 (by omega) (by decide)
        replace hR := bnd_step hR ez23
        replace hE := bndP_step hE ez23
        refine mi_as hz25 ?_
        refine W.widen (k := 0) (n := 0) (by omega) (by omega) ?_
        refine lv_istore (lv' := [(5, .int (nI z23)), (4, .int (nI z22)), (3, .int (nI z21)), (2, .int (nI nn21)), (0, .ref h0), (1, .ref to)]) hx hb dME_draw_33 hl (by decide) rfl (fun ls hl => ?_)
        refine lv_iload_n hx hb dME_draw_35 rfl (lv_at hl 2 rfl) ?_
        refine lv_sipush (v := nI 256) hx hb dME_draw_36 (by decide) ?_
        refine lv_iload hx hb dME_draw_39 (lv_at hl 1 rfl) ?_
        refine lv_bipush (v := nI 16) hx hb dME_draw_41 (by decide) ?_
        refine mi_irem hx hb dME_draw_43 (by omega) (by omega) (by omega) ?_
        refine mi_imul hx hb dME_draw_44 ?_
        refine mi_iadd hx hb dME_draw_45 ?_
        refine lv_istore (lv' := [(6, .int (nI (z21 + (256 * (z22 % 16))))), (5, .int (nI z23)), (4, .int (nI z22)), (3, .int (nI z21)), (2, .int (nI nn21)), (0, .ref h0), (1, .ref to)]) hx hb dME_draw_46 hl (by decide) rfl (fun ls hl => ?_)
        refine lv_iload hx hb dME_draw_48 (lv_at hl 2 rfl) ?_
        refine lv_bipush (v := nI 16) hx hb dME_draw_50 (by decide) ?_
        refine mi_idiv hx hb dME_draw_52 (by omega) (by omega) (by omega) ?_
        refine lv_bipush (v := nI 16) hx hb dME_draw_53 (by decide) ?_
        refine lv_iload hx hb dME_draw_55 (lv_at hl 1 rfl) ?_
        refine mi_imul hx hb dME_draw_57 ?_
        refine mi_iadd hx hb dME_draw_58 ?_
        refine lv_istore (lv' := [(7, .int (nI ((z22 / 16) + (16 * z23)))), (6, .int (nI (z21 + (256 * (z22 % 16))))), (5, .int (nI z23)), (4, .int (nI z22)), (3, .int (nI z21)), (2, .int (nI nn21)), (0, .ref h0), (1, .ref to)]) hx hb dME_draw_59 hl (by decide) rfl (fun ls hl => ?_)
        refine lv_iload hx hb dME_draw_61 (lv_at hl 1 rfl) ?_
        refine lv_sipush (v := nI 3329) hx hb dME_draw_63 (by decide) ?_
        refine mi_ge (tgt := 77) hx hb dME_draw_66 (by decide) (by omega) (by omega) (fun h23 => ?_) (fun h23 => ?_)
        · replace hR := hR.trans (if_pos h23)
          replace hE := iteP_pos h23 hE
          refine lv_iload hx hb dME_draw_77 (lv_at hl 0 rfl) ?_
          refine lv_sipush (v := nI 3329) hx hb dME_draw_79 (by decide) ?_
          refine mi_ge (tgt := 100) hx hb dME_draw_82 (by decide) (by omega) (by omega) (fun h24 => ?_) (fun h24 => ?_)
          · replace hR := hR.trans (if_pos h24)
            replace hE := iteP_pos h24 hE
            refine lv_goto (tgt := 2) hx hb dME_draw_100 (by decide) ?_
            exact ih21 nn21 q23.2 x27 pl ls H locs (by omega) (by omega) (by omega) hF hx_27 (by have h9 := hx_28; rw [show x28 = rt by omega] at h9; exact h9) hE hR (lv_sub hl [5, 6, 7] rfl) hO hP hD hS
          · replace hR := hR.trans (if_neg (Nat.not_le.mpr h24))
            replace hE := iteP_neg (Nat.not_le.mpr h24) hE
            refine lv_iload_n hx hb dME_draw_85 rfl (lv_at hl 5 rfl) ?_
            refine lv_sipush (v := nI 256) hx hb dME_draw_86 (by decide) ?_
            refine mi_ge (tgt := 100) hx hb dME_draw_89 (by decide) (by omega) (by omega) (fun h25 => ?_) (fun h25 => ?_)
            · replace hR := hR.trans (if_pos h25)
              replace hE := iteP_pos h25 hE
              refine lv_goto (tgt := 2) hx hb dME_draw_100 (by decide) ?_
              exact ih21 nn21 q23.2 x27 pl ls H locs (by omega) (by omega) (by omega) hF hx_27 (by have h9 := hx_28; rw [show x28 = rt by omega] at h9; exact h9) hE hR (lv_sub hl [5, 6, 7] rfl) hO hP hD hS
            · replace hR := hR.trans (if_neg (Nat.not_le.mpr h25))
              replace hE := iteP_neg (Nat.not_le.mpr h25) hE
              refine lv_aload_n hx hb dME_draw_92 rfl (lv_at hl 7 rfl) ?_
              refine lv_iload_n hx hb dME_draw_93 rfl (lv_at hl 5 rfl) ?_
              refine lv_iload hx hb dME_draw_94 (lv_at hl 0 rfl) ?_
              refine nw_iast hx hb hK hO hU k_to (k := pt) n_to hP hD hS (by omega) (by omega) dME_draw_96 (fun s22 pl H locs es21 hO hP hD hS => ?_)
              replace hR := bnd_step hR es21
              replace hE := bndP_step hE es21
              have hF := frm_sI hF es21 (by unfold M_ME_draw; omega)
              have hf25 : s22.1 172 6 = nI x27 := fc_ne hx_27 es21 (by omega)
              have hf26 : s22.1 172 5 = nI x28 := fc_ne hx_28 es21 (by omega)
              refine mi_iinc (k := 5) (x := nn21) (d := 1) (y := nn21 + 1) (lv' := [(2, .int (nI (nn21 + 1))), (7, .int (nI ((z22 / 16) + (16 * z23)))), (6, .int (nI (z21 + (256 * (z22 % 16))))), (5, .int (nI z23)), (4, .int (nI z22)), (3, .int (nI z21)), (0, .ref h0), (1, .ref to)]) hx hb dME_draw_97 hl rfl (by decide) rfl (by decide) rfl (fun ls hl => ?_)
              refine lv_goto (tgt := 2) hx hb dME_draw_100 (by decide) ?_
              exact ih21 (nn21 + 1) s22 x27 pl ls H locs (by omega) (by omega) (by omega) hF hf25 (by have h9 := hf26; rw [show x28 = rt by omega] at h9; exact h9) hE hR (lv_sub hl [0, 6, 7] rfl) hO hP hD hS
        · replace hR := hR.trans (if_neg (Nat.not_le.mpr h23))
          replace hE := iteP_neg (Nat.not_le.mpr h23) hE
          refine lv_aload_n hx hb dME_draw_69 rfl (lv_at hl 7 rfl) ?_
          refine lv_iload_n hx hb dME_draw_70 rfl (lv_at hl 5 rfl) ?_
          refine lv_iload hx hb dME_draw_71 (lv_at hl 1 rfl) ?_
          refine nw_iast hx hb hK hO hU k_to (k := pt) n_to hP hD hS (by omega) (by omega) dME_draw_73 (fun s23 pl H locs es22 hO hP hD hS => ?_)
          replace hR := bnd_step hR es22
          replace hE := bndP_step hE es22
          have hF := frm_sI hF es22 (by unfold M_ME_draw; omega)
          have hf27 : s23.1 172 6 = nI x27 := fc_ne hx_27 es22 (by omega)
          have hf28 : s23.1 172 5 = nI x28 := fc_ne hx_28 es22 (by omega)
          refine mi_iinc (k := 5) (x := nn21) (d := 1) (y := nn21 + 1) (lv' := [(2, .int (nI (nn21 + 1))), (7, .int (nI ((z22 / 16) + (16 * z23)))), (6, .int (nI (z21 + (256 * (z22 % 16))))), (5, .int (nI z23)), (4, .int (nI z22)), (3, .int (nI z21)), (0, .ref h0), (1, .ref to)]) hx hb dME_draw_74 hl rfl (by decide) rfl (by decide) rfl (fun ls hl => ?_)
          refine lv_iload hx hb dME_draw_77 (lv_at hl 1 rfl) ?_
          refine lv_sipush (v := nI 3329) hx hb dME_draw_79 (by decide) ?_
          refine mi_ge (tgt := 100) hx hb dME_draw_82 (by decide) (by omega) (by omega) (fun h26 => ?_) (fun h26 => ?_)
          · replace hR := hR.trans (if_pos h26)
            replace hE := iteP_pos h26 hE
            refine lv_goto (tgt := 2) hx hb dME_draw_100 (by decide) ?_
            exact ih21 (nn21 + 1) s23 x27 pl ls H locs (by omega) (by omega) (by omega) hF hf27 (by have h9 := hf28; rw [show x28 = rt by omega] at h9; exact h9) hE hR (lv_sub hl [0, 6, 7] rfl) hO hP hD hS
          · replace hR := hR.trans (if_neg (Nat.not_le.mpr h26))
            replace hE := iteP_neg (Nat.not_le.mpr h26) hE
            refine lv_iload_n hx hb dME_draw_85 rfl (lv_at hl 0 rfl) ?_
            refine lv_sipush (v := nI 256) hx hb dME_draw_86 (by decide) ?_
            refine mi_ge (tgt := 100) hx hb dME_draw_89 (by decide) (by omega) (by omega) (fun h27 => ?_) (fun h27 => ?_)
            · replace hR := hR.trans (if_pos h27)
              replace hE := iteP_pos h27 hE
              refine lv_goto (tgt := 2) hx hb dME_draw_100 (by decide) ?_
              exact ih21 (nn21 + 1) s23 x27 pl ls H locs (by omega) (by omega) (by omega) hF hf27 (by have h9 := hf28; rw [show x28 = rt by omega] at h9; exact h9) hE hR (lv_sub hl [0, 6, 7] rfl) hO hP hD hS
            · replace hR := hR.trans (if_neg (Nat.not_le.mpr h27))
              replace hE := iteP_neg (Nat.not_le.mpr h27) hE
              refine lv_aload_n hx hb dME_draw_92 rfl (lv_at hl 7 rfl) ?_
              refine lv_iload_n hx hb dME_draw_93 rfl (lv_at hl 0 rfl) ?_
              refine lv_iload hx hb dME_draw_94 (lv_at hl 1 rfl) ?_
              refine nw_iast hx hb hK hO hU k_to (k := pt) n_to hP hD hS (by omega) (by omega) dME_draw_96 (fun s24 pl H locs es23 hO hP hD hS => ?_)
              replace hR := bnd_step hR es23
              replace hE := bndP_step hE es23
              have hF := frm_sI hF es23 (by unfold M_ME_draw; omega)
              have hf29 : s24.1 172 6 = nI x27 := fc_ne hf27 es23 (by omega)
              have hf30 : s24.1 172 5 = nI x28 := fc_ne hf28 es23 (by omega)
              refine mi_iinc (k := 0) (x := nn21 + 1) (d := 1) (y := nn21 + 1 + 1) (lv' := [(2, .int (nI (nn21 + 1 + 1))), (7, .int (nI ((z22 / 16) + (16 * z23)))), (6, .int (nI (z21 + (256 * (z22 % 16))))), (5, .int (nI z23)), (4, .int (nI z22)), (3, .int (nI z21)), (0, .ref h0), (1, .ref to)]) hx hb dME_draw_97 hl rfl (by decide) rfl (by decide) rfl (fun ls hl => ?_)
              refine lv_goto (tgt := 2) hx hb dME_draw_100 (by decide) ?_
              exact ih21 (nn21 + 1 + 1) s24 x27 pl ls H locs (by omega) (by omega) (by omega) hF hf29 (by have h9 := hf30; rw [show x28 = rt by omega] at h9; exact h9) hE hR (lv_sub hl [0, 6, 7] rfl) hO hP hD hS
  exact lp21 1000000 0 s ps pl ls _ _ (by omega) (by omega) (by omega) hF e_ps e_rt hE hR (lv_sub hl [0, 1, 2] rfl) hO hP hD hS
def M_ME_expand_2 (k : Nat) : Prop := (186 ≤ k ∧ k < 202) ∨ k = 172 ∨ (0 : Nat) = 1
noncomputable def F_ME_expand_2_L1 (pb : Nat) (n : Nat) (at_ : Nat) (i21 : Nat) (kk : Nat → Sto → Sto) : Nat → Nat → Sto → Sto
  | 0, i22, s22 => kk (i21 + 1) s22
  | n22 + 1, i22, s22 => bnd (F_MS_begin 168 (nI 31) s22) fun s23 => bnd (F_MS_puts pb n at_ 32 s23) fun s24 => bnd (F_MS_put (nI i22) s24) fun s25 => bnd (F_MS_put (nI i21) s25) fun s26 => bnd (F_MS_end  s26) fun s27 => bnd (F_ME_draw (186 + ((4 * i21) + i22)) s27) fun s28 => F_ME_expand_2_L1 pb n at_ i21 kk n22 (i22 + 1) s28
noncomputable def E_ME_expand_2_L1 (pb : Nat) (n : Nat) (at_ : Nat) (i21 : Nat) (ke : Nat → Sto → Prop) : Nat → Nat → Sto → Prop
  | 0, i22, s22 => ke (i21 + 1) s22
  | n22 + 1, i22, s22 => bnd (F_MS_begin 168 (nI 31) s22) fun s23 => bnd (F_MS_puts pb n at_ 32 s23) fun s24 => bnd (F_MS_put (nI i22) s24) fun s25 => bnd (F_MS_put (nI i21) s25) fun s26 => bnd (F_MS_end  s26) fun s27 => (E_ME_draw (186 + ((4 * i21) + i22)) s27) ∧ (bnd (F_ME_draw (186 + ((4 * i21) + i22)) s27) fun s28 => E_ME_expand_2_L1 pb n at_ i21 ke n22 (i22 + 1) s28)
noncomputable def F_ME_expand_2_L0 (pb : Nat) (n : Nat) (at_ : Nat) : Nat → Nat → Sto → Sto
  | 0, i21, s21 => s21
  | n21 + 1, i21, s21 => F_ME_expand_2_L1 pb n at_ i21 (F_ME_expand_2_L0 pb n at_ n21) 2 0 s21
noncomputable def E_ME_expand_2_L0 (pb : Nat) (n : Nat) (at_ : Nat) : Nat → Nat → Sto → Prop
  | 0, i21, s21 => True
  | n21 + 1, i21, s21 => E_ME_expand_2_L1 pb n at_ i21 (E_ME_expand_2_L0 pb n at_ n21) 2 0 s21
noncomputable def F_ME_expand_2 (pb : Nat) (n : Nat) (at_ : Nat) (s : Sto) : Sto := F_ME_expand_2_L0 pb n at_ 2 0 s
noncomputable def E_ME_expand_2 (pb : Nat) (n : Nat) (at_ : Nat) (s : Sto) : Prop := E_ME_expand_2_L0 pb n at_ 2 0 s
set_option maxHeartbeats 8000000 in
set_option maxRecDepth 100000 in
theorem N_ME_expand_2 (l : Launch) (g : Gd) (sz : Nat) (T : TyN) (s : Sto) (pl : va_W) (hO : okn g T s pl) (hU : inj T) (h0 b : Nat) (pb : Nat) (n : Nat) (at_ : Nat) (k_h0 : T h0 = some 184) (k_b : T b = some pb) (n_b : nsp pb = (1, n, [])) (h1 : at_ + 32 ≤ n) (h2 : n < 65536) (hE : E_ME_expand_2 pb n at_ s)  : Met l y_ME_expand w_ME_expand ({ frames := 4, cells := 0, slots := 0, locals := 93 } : Room) (va_Pc [.ref h0, .ref b, .int (nI at_), .int (nI 2)] (pr (en g) g.1 vcl sz ([] ++ pl))) (va_Qv (fun (u : (Sto) × va_W) => (u.1 = F_ME_expand_2 pb n at_ s ∧ frm (M_ME_expand_2) s u.1 ∧ True) ∧ okn g T u.1 u.2) (po g.1 vcl (va_A ([] ++ pl) sz) (fun (u : (Sto) × va_W) => [] ++ u.2)) (va_A ([] ++ pl) sz)) 0 0 (va_A ([] ++ pl) sz) := by
  refine mc_entry (cc := c_ME_expand) (maxL := 6) (ret := none) (by decide) rfl (Nat.le_of_ble_eq_true rfl) ?_
  intro p e s0 m args below meth c ls F hr hlk hnm hsz hP hD hEn hA hl
  obtain ⟨hx, hb, hml, hown, hts⟩ := id F
  have hK := hEn.1
  generalize va_A ([] ++ pl) sz = A at hD hEn hA ⊢
  have hS : va_S A s0.heap s0.heap [] := va_S.rf
  have hl : lv_has ls 6 [(0, .ref h0), (1, .ref b), (2, .int (nI at_)), (3, .int (nI 2))] := hl
  have hR : F_ME_expand_2 pb n at_ s = F_ME_expand_2 pb n at_ s := rfl
  have hF : frm (M_ME_expand_2) s s := frm_rf
  refine lv_iconst (v := nI 0) hx hb dME_expand_0 (by decide) ?_
  refine lv_istore (lv' := [(4, .int (nI 0)), (0, .ref h0), (1, .ref b), (2, .int (nI at_)), (3, .int (nI 2))]) hx hb dME_expand_1 hl (by decide) rfl (fun ls hl => ?_)
  have lp21 : ∀ (n21 : Nat) (i21 : Nat) (s21 : Sto) (pl : va_W) (ls : Array Slot) (H : Heap) (locs : List Loc), n21 + i21 = 2 → frm (M_ME_expand_2) s s21 → E_ME_expand_2_L0 pb n at_ n21 i21 s21 → F_ME_expand_2 pb n at_ s = F_ME_expand_2_L0 pb n at_ n21 i21 s21 → lv_has ls 6 [(4, .int (nI i21)), (0, .ref h0), (1, .ref b), (2, .int (nI at_)), (3, .int (nI 2))] → okn g T s21 pl → va_P g.1 vcl ([] ++ pl) H → va_D A ([] ++ pl) → va_S A s0.heap H locs → W p l e ({ frames := 4, cells := 0, slots := 0, locals := 93 } : Room) s0 m args below meth c H locs 0 0 (MQ below (va_Qv (fun (u : (Sto) × va_W) => (u.1 = F_ME_expand_2 pb n at_ s ∧ frm (M_ME_expand_2) s u.1 ∧ True) ∧ okn g T u.1 u.2) (po g.1 vcl A (fun (u : (Sto) × va_W) => [] ++ u.2)) A) args s0 0 0 A) (F0 m 3 ls []) := by
    intro n21
    induction n21 with
    | zero =>
      intro i21 s21 pl ls H locs hm21 hF hE hR hl hO hP hD hS
      refine lv_iload hx hb dME_expand_3 (lv_at hl 0 rfl) ?_
      refine lv_iload_n hx hb dME_expand_5 rfl (lv_at hl 4 rfl) ?_
      refine mi_ge (tgt := 94) hx hb dME_expand_6 (by decide) (by omega) (by omega) (fun h21 => ?_) (fun h21 => absurd h21 (by omega))
      exact mp_vret hx hb hr hlk hP hD hS (s21, pl) ⟨⟨hR.symm, hF, trivial⟩, hO⟩ [] rfl rfl rfl (by omega) (by omega) dME_expand_94
    | succ n21 ih21 =>
      intro i21 s21 pl ls H locs hm21 hF hE hR hl hO hP hD hS
      refine lv_iload hx hb dME_expand_3 (lv_at hl 0 rfl) ?_
      refine lv_iload_n hx hb dME_expand_5 rfl (lv_at hl 4 rfl) ?_
      refine mi_ge (tgt := 94) hx hb dME_expand_6 (by decide) (by omega) (by omega) (fun h22 => absurd h22 (by omega)) (fun h22 => ?_)
      refine lv_iconst (v := nI 0) hx hb dME_expand_9 (by decide) ?_
      refine lv_istore (lv' := [(5, .int (nI 0)), (4, .int (nI i21)), (0, .ref h0), (1, .ref b), (2, .int (nI at_)), (3, .int (nI 2))]) hx hb dME_expand_10 hl (by decide) rfl (fun ls hl => ?_)
      have lp22 : ∀ (n22 : Nat) (i22 : Nat) (s22 : Sto) (pl : va_W) (ls : Array Slot) (H : Heap) (locs : List Loc), n22 + i22 = 2 → frm (M_ME_expand_2) s s22 → E_ME_expand_2_L1 pb n at_ i21 (E_ME_expand_2_L0 pb n at_ n21) n22 i22 s22 → F_ME_expand_2 pb n at_ s = F_ME_expand_2_L1 pb n at_ i21 (F_ME_expand_2_L0 pb n at_ n21) n22 i22 s22 → lv_has ls 6 [(5, .int (nI i22)), (4, .int (nI i21)), (0, .ref h0), (1, .ref b), (2, .int (nI at_)), (3, .int (nI 2))] → okn g T s22 pl → va_P g.1 vcl ([] ++ pl) H → va_D A ([] ++ pl) → va_S A s0.heap H locs → W p l e ({ frames := 4, cells := 0, slots := 0, locals := 93 } : Room) s0 m args below meth c H locs 0 0 (MQ below (va_Qv (fun (u : (Sto) × va_W) => (u.1 = F_ME_expand_2 pb n at_ s ∧ frm (M_ME_expand_2) s u.1 ∧ True) ∧ okn g T u.1 u.2) (po g.1 vcl A (fun (u : (Sto) × va_W) => [] ++ u.2)) A) args s0 0 0 A) (F0 m 12 ls []) := by
        intro n22
        induction n22 with
        | zero =>
          intro i22 s22 pl ls H locs hm22 hF hE hR hl hO hP hD hS
          refine lv_iload hx hb dME_expand_12 (lv_at hl 0 rfl) ?_
          refine lv_iload_n hx hb dME_expand_14 rfl (lv_at hl 5 rfl) ?_
          refine mi_ge (tgt := 88) hx hb dME_expand_15 (by decide) (by omega) (by omega) (fun h23 => ?_) (fun h23 => absurd h23 (by omega))
          refine mi_iinc (k := 1) (x := i21) (d := 1) (y := i21 + 1) (lv' := [(4, .int (nI (i21 + 1))), (5, .int (nI i22)), (0, .ref h0), (1, .ref b), (2, .int (nI at_)), (3, .int (nI 2))]) hx hb dME_expand_88 hl rfl (by decide) rfl (by decide) rfl (fun ls hl => ?_)
          refine lv_goto (tgt := 3) hx hb dME_expand_91 (by decide) ?_
          exact ih21 (i21 + 1) s22 pl ls H locs (by omega) hF hE hR (lv_sub hl [0, 2, 3, 4, 5] rfl) hO hP hD hS
        | succ n22 ih22 =>
          intro i22 s22 pl ls H locs hm22 hF hE hR hl hO hP hD hS
          refine lv_iload hx hb dME_expand_12 (lv_at hl 0 rfl) ?_
          refine lv_iload_n hx hb dME_expand_14 rfl (lv_at hl 5 rfl) ?_
          refine mi_ge (tgt := 88) hx hb dME_expand_15 (by decide) (by omega) (by omega) (fun h24 => absurd h24 (by omega)) (fun h24 => ?_)
          refine lv_aload_n hx hb dME_expand_18 rfl (lv_at hl 2 rfl) ?_
          refine nw_get (C := "LatticeKeysModel$Secrets") (TT := T_ME) (N := 14) hx hb hts (wg_ft i_ME) hown hK hO k_h0 (kn := 184) (ci := 11) (fl := [(3, 172), (3, 178), (3, 185), (3, 202), (3, 207), (3, 212), (3, 217), (3, 218), (3, 219), (3, 220), (3, 221), (3, 222), (3, 223), (3, 224)]) rfl hP rfl 0 (by decide) (hts _ (wg_t kw_1379)) (fun _ h9 => h9) (cd := (3, 172)) rfl dME_expand_19 (fun v21 hv21 => ?_)
          obtain ⟨r21, rfl, kr21⟩ := (show ∃ r : Nat, v21 = .ref r ∧ T r = some 172 from hv21)
          refine lv_sipush (v := nI 168) hx hb dME_expand_22 (by decide) ?_
          refine lv_bipush (v := nI 31) hx hb dME_expand_25 (by decide) ?_
          refine mp_v (cx := []) (wr := []) hP hD hS hA [] [] rfl rfl rfl (by decide) (va_runV (As := [.int (nI 168), .int (nI 31)]) (rest := []) F (N_MS_begin l g _ T s22 pl hO hU r21 168 (nI 31) kr21 (by omega)) (cwV 2 hts (wg_app (wg_c kw_1607 (wg_c kw_1608 (wg_c kw_1609 (wg_c kw_10 wg_n)))) kw_1610) rfl rfl rfl (by decide +kernel) ⟨by decide, by decide⟩) (pn_W "LatticeKeysModel$Sponge" (en_ok g) (ci := 9) (kn := 172) (fl := [(3, 173), (3, 174), (3, 175), (3, 176), (3, 177), (0, 0), (0, 0), (0, 0)]) hK hO kr21 rfl hP hD hS hA hEn [] rfl rfl rfl) rfl rfl hl.1 rfl (lv_room (Nat.le_of_ble_eq_true rfl)) dME_expand_27 ⟨by omega, by omega⟩) (fun  u21 H locs hu21 hP hD hS => ?_)
          obtain ⟨s23, pl⟩ := u21
          obtain ⟨⟨eq21, hFc21, ⟨x21, hx_21, hb_21⟩, ⟨x22, hx_22, hb_22⟩, -⟩, hO⟩ := hu21
          have hO : okn g T s23 pl := hO
          have hP : va_P g.1 vcl ([] ++ pl) _ := hP
          have hD : va_D _ ([] ++ pl) := hD
          have hFc21 : frm (M_MS_begin) s22 s23 := hFc21
          have hb_21 : x21 = 0 := hb_21
          have hb_22 : x22 = 168 := hb_22
          replace hR := bnd_step hR eq21
          replace hE := bndP_step hE eq21
          have hF := frm_tr hF hFc21 (fun k hk => by unfold M_MS_begin at hk; unfold M_ME_expand_2; omega)
          refine W.widen (k := 0) (n := 0) (by omega) (by omega) ?_
          refine lv_aload_n hx hb dME_expand_30 rfl (lv_at hl 2 rfl) ?_
          refine nw_get (C := "LatticeKeysModel$Secrets") (TT := T_ME) (N := 14) hx hb hts (wg_ft i_ME) hown hK hO k_h0 (kn := 184) (ci := 11) (fl := [(3, 172), (3, 178), (3, 185), (3, 202), (3, 207), (3, 212), (3, 217), (3, 218), (3, 219), (3, 220), (3, 221), (3, 222), (3, 223), (3, 224)]) rfl hP rfl 0 (by decide) (hts _ (wg_t kw_1379)) (fun _ h9 => h9) (cd := (3, 172)) rfl dME_expand_31 (fun v22 hv22 => ?_)
          obtain ⟨r22, rfl, kr22⟩ := (show ∃ r : Nat, v22 = .ref r ∧ T r = some 172 from hv22)
          refine lv_aload_n hx hb dME_expand_34 rfl (lv_at hl 3 rfl) ?_
          refine lv_iload_n hx hb dME_expand_35 rfl (lv_at hl 4 rfl) ?_
          refine lv_bipush (v := nI 32) hx hb dME_expand_36 (by decide) ?_
          refine mp_v (cx := []) (wr := []) hP hD hS hA [] [] rfl rfl rfl (by decide) (va_runV (As := [.ref b, .int (nI at_), .int (nI 32)]) (rest := []) F (N_MS_puts l g _ T s23 pl hO hU r22 b pb n at_ 32 x21 x22 kr22 k_b n_b hx_21 hx_22 (by omega) (by omega) (by omega) (by omega)) (cwV 3 hts (wg_app (wg_c kw_1611 (wg_c kw_1612 (wg_c kw_1613 (wg_c kw_10 wg_n)))) kw_1614) rfl rfl rfl (by decide +kernel) ⟨by decide, by decide⟩) (pn_W "LatticeKeysModel$Sponge" (en_ok g) (ci := 9) (kn := 172) (fl := [(3, 173), (3, 174), (3, 175), (3, 176), (3, 177), (0, 0), (0, 0), (0, 0)]) hK hO kr22 rfl hP hD hS hA hEn [] rfl rfl rfl) rfl rfl hl.1 rfl (lv_room (Nat.le_of_ble_eq_true rfl)) dME_expand_38 ⟨by omega, by omega⟩) (fun  u22 H locs hu22 hP hD hS => ?_)
          obtain ⟨s24, pl⟩ := u22
          obtain ⟨⟨eq22, hFc22, ⟨x24, hx_24, hb_24⟩, ⟨x25, hx_25, hb_25⟩, -⟩, hO⟩ := hu22
          have hO : okn g T s24 pl := hO
          have hP : va_P g.1 vcl ([] ++ pl) _ := hP
          have hD : va_D _ ([] ++ pl) := hD
          have hFc22 : frm (M_MS_puts) s23 s24 := hFc22
          have hb_24 : x24 < x22 := hb_24
          have hb_25 : x25 = x22 := hb_25
          replace hR := bnd_step hR eq22
          replace hE := bndP_step hE eq22
          have hF := frm_tr hF hFc22 (fun k hk => by unfold M_MS_puts at hk; unfold M_ME_expand_2; omega)
          refine W.widen (k := 0) (n := 0) (by omega) (by omega) ?_
          refine lv_aload_n hx hb dME_expand_41 rfl (lv_at hl 2 rfl) ?_
          refine nw_get (C := "LatticeKeysModel$Secrets") (TT := T_ME) (N := 14) hx hb hts (wg_ft i_ME) hown hK hO k_h0 (kn := 184) (ci := 11) (fl := [(3, 172), (3, 178), (3, 185), (3, 202), (3, 207), (3, 212), (3, 217), (3, 218), (3, 219), (3, 220), (3, 221), (3, 222), (3, 223), (3, 224)]) rfl hP rfl 0 (by decide) (hts _ (wg_t kw_1379)) (fun _ h9 => h9) (cd := (3, 172)) rfl dME_expand_42 (fun v23 hv23 => ?_)
          obtain ⟨r23, rfl, kr23⟩ := (show ∃ r : Nat, v23 = .ref r ∧ T r = some 172 from hv23)
          refine lv_iload hx hb dME_expand_45 (lv_at hl 0 rfl) ?_
          refine mp_v (cx := []) (wr := []) hP hD hS hA [] [] rfl rfl rfl (by decide) (va_runV (As := [.int (nI i22)]) (rest := []) F (N_MS_put l g _ T s24 pl hO hU r23 (nI i22) x24 x25 kr23 hx_24 hx_25 (by omega) (by omega)) (cwV 1 hts (wg_app (wg_c kw_1632 (wg_c kw_1616 (wg_c kw_1617 (wg_c kw_10 wg_n)))) kw_1618) rfl rfl rfl (by decide +kernel) ⟨by decide, by decide⟩) (pn_W "LatticeKeysModel$Sponge" (en_ok g) (ci := 9) (kn := 172) (fl := [(3, 173), (3, 174), (3, 175), (3, 176), (3, 177), (0, 0), (0, 0), (0, 0)]) hK hO kr23 rfl hP hD hS hA hEn [] rfl rfl rfl) rfl rfl hl.1 rfl (lv_room (Nat.le_of_ble_eq_true rfl)) dME_expand_47 ⟨by omega, by omega⟩) (fun  u23 H locs hu23 hP hD hS => ?_)
          obtain ⟨s25, pl⟩ := u23
          obtain ⟨⟨eq23, hFc23, ⟨x27, hx_27, hb_27⟩, ⟨x28, hx_28, hb_28⟩, -⟩, hO⟩ := hu23
          have hO : okn g T s25 pl := hO
          have hP : va_P g.1 vcl ([] ++ pl) _ := hP
          have hD : va_D _ ([] ++ pl) := hD
          have hFc23 : frm (M_MS_put) s24 s25 := hFc23
          have hb_27 : x27 < x25 := hb_27
          have hb_28 : x28 = x25 := hb_28
          replace hR := bnd_step hR eq23
          replace hE := bndP_step hE eq23
          have hF := frm_tr hF hFc23 (fun k hk => by unfold M_MS_put at hk; unfold M_ME_expand_2; omega)
          refine W.widen (k := 0) (n := 0) (by omega) (by omega) ?_
          refine lv_aload_n hx hb dME_expand_50 rfl (lv_at hl 2 rfl) ?_
          refine nw_get (C := "LatticeKeysModel$Secrets") (TT := T_ME) (N := 14) hx hb hts (wg_ft i_ME) hown hK hO k_h0 (kn := 184) (ci := 11) (fl := [(3, 172), (3, 178), (3, 185), (3, 202), (3, 207), (3, 212), (3, 217), (3, 218), (3, 219), (3, 220), (3, 221), (3, 222), (3, 223), (3, 224)]) rfl hP rfl 0 (by decide) (hts _ (wg_t kw_1379)) (fun _ h9 => h9) (cd := (3, 172)) rfl dME_expand_51 (fun v24 hv24 => ?_)
          obtain ⟨r24, rfl, kr24⟩ := (show ∃ r : Nat, v24 = .ref r ∧ T r = some 172 from hv24)
          refine lv_iload hx hb dME_expand_54 (lv_at hl 1 rfl) ?_
          refine mp_v (cx := []) (wr := []) hP hD hS hA [] [] rfl rfl rfl (by decide) (va_runV (As := [.int (nI i21)]) (rest := []) F (N_MS_put l g _ T s25 pl hO hU r24 (nI i21) x27 x28 kr24 hx_27 hx_28 (by omega) (by omega)) (cwV 1 hts (wg_app (wg_c kw_1632 (wg_c kw_1616 (wg_c kw_1617 (wg_c kw_10 wg_n)))) kw_1618) rfl rfl rfl (by decide +kernel) ⟨by decide, by decide⟩) (pn_W "LatticeKeysModel$Sponge" (en_ok g) (ci := 9) (kn := 172) (fl := [(3, 173), (3, 174), (3, 175), (3, 176), (3, 177), (0, 0), (0, 0), (0, 0)]) hK hO kr24 rfl hP hD hS hA hEn [] rfl rfl rfl) rfl rfl hl.1 rfl (lv_room (Nat.le_of_ble_eq_true rfl)) dME_expand_56 ⟨by omega, by omega⟩) (fun  u24 H locs hu24 hP hD hS => ?_)
          obtain ⟨s26, pl⟩ := u24
          obtain ⟨⟨eq24, hFc24, ⟨x30, hx_30, hb_30⟩, ⟨x31, hx_31, hb_31⟩, -⟩, hO⟩ := hu24
          have hO : okn g T s26 pl := hO
          have hP : va_P g.1 vcl ([] ++ pl) _ := hP
          have hD : va_D _ ([] ++ pl) := hD
          have hFc24 : frm (M_MS_put) s25 s26 := hFc24
          have hb_30 : x30 < x28 := hb_30
          have hb_31 : x31 = x28 := hb_31
          replace hR := bnd_step hR eq24
          replace hE := bndP_step hE eq24
          have hF := frm_tr hF hFc24 (fun k hk => by unfold M_MS_put at hk; unfold M_ME_expand_2; omega)
          refine W.widen (k := 0) (n := 0) (by omega) (by omega) ?_
          refine lv_aload_n hx hb dME_expand_59 rfl (lv_at hl 2 rfl) ?_
          refine nw_get (C := "LatticeKeysModel$Secrets") (TT := T_ME) (N := 14) hx hb hts (wg_ft i_ME) hown hK hO k_h0 (kn := 184) (ci := 11) (fl := [(3, 172), (3, 178), (3, 185), (3, 202), (3, 207), (3, 212), (3, 217), (3, 218), (3, 219), (3, 220), (3, 221), (3, 222), (3, 223), (3, 224)]) rfl hP rfl 0 (by decide) (hts _ (wg_t kw_1379)) (fun _ h9 => h9) (cd := (3, 172)) rfl dME_expand_60 (fun v25 hv25 => ?_)
          obtain ⟨r25, rfl, kr25⟩ := (show ∃ r : Nat, v25 = .ref r ∧ T r = some 172 from hv25)
          refine mp_v (cx := []) (wr := []) hP hD hS hA [] [] rfl rfl rfl (by decide) (va_runV (As := []) (rest := []) F (N_MS_end l g _ T s26 pl hO hU r25 x30 x31 kr25 hx_30 hx_31 (by omega) (by omega)) (cwV 0 hts (wg_app (wg_c kw_1633 (wg_c kw_1634 (wg_c kw_1635 (wg_c kw_10 wg_n)))) kw_1636) rfl rfl rfl (by decide +kernel) ⟨by decide, by decide⟩) (pn_W "LatticeKeysModel$Sponge" (en_ok g) (ci := 9) (kn := 172) (fl := [(3, 173), (3, 174), (3, 175), (3, 176), (3, 177), (0, 0), (0, 0), (0, 0)]) hK hO kr25 rfl hP hD hS hA hEn [] rfl rfl rfl) rfl rfl hl.1 rfl (lv_room (Nat.le_of_ble_eq_true rfl)) dME_expand_63 ⟨by omega, by omega⟩) (fun  u25 H locs hu25 hP hD hS => ?_)
          obtain ⟨s27, pl⟩ := u25
          obtain ⟨⟨eq25, hFc25, ⟨x33, hx_33, hb_33⟩, ⟨x34, hx_34, hb_34⟩, -⟩, hO⟩ := hu25
          have hO : okn g T s27 pl := hO
          have hP : va_P g.1 vcl ([] ++ pl) _ := hP
          have hD : va_D _ ([] ++ pl) := hD
          have hFc25 : frm (M_MS_end) s26 s27 := hFc25
          have hb_33 : x33 = 0 := hb_33
          have hb_34 : x34 = x31 := hb_34
          replace hR := bnd_step hR eq25
          replace hE := bndP_step hE eq25
          have hF := frm_tr hF hFc25 (fun k hk => by unfold M_MS_end at hk; unfold M_ME_expand_2; omega)
          refine W.widen (k := 0) (n := 0) (by omega) (by omega) ?_
          refine lv_aload_n hx hb dME_expand_66 rfl (lv_at hl 2 rfl) ?_
          refine lv_aload_n hx hb dME_expand_67 rfl (lv_at hl 2 rfl) ?_
          refine nw_get (C := "LatticeKeysModel$Secrets") (TT := T_ME) (N := 14) hx hb hts (wg_ft i_ME) hown hK hO k_h0 (kn := 184) (ci := 11) (fl := [(3, 172), (3, 178), (3, 185), (3, 202), (3, 207), (3, 212), (3, 217), (3, 218), (3, 219), (3, 220), (3, 221), (3, 222), (3, 223), (3, 224)]) rfl hP rfl 2 (by decide) (hts _ (wg_t kw_1381)) (fun _ h9 => h9) (cd := (3, 185)) rfl dME_expand_68 (fun v26 hv26 => ?_)
          obtain ⟨r26, rfl, kr26⟩ := (show ∃ r : Nat, v26 = .ref r ∧ T r = some 185 from hv26)
          refine lv_iconst (v := nI 4) hx hb dME_expand_71 (by decide) ?_
          refine lv_iload hx hb dME_expand_72 (lv_at hl 1 rfl) ?_
          refine mi_imul hx hb dME_expand_74 ?_
          refine lv_iload hx hb dME_expand_75 (lv_at hl 0 rfl) ?_
          refine mi_iadd hx hb dME_expand_77 ?_
          refine nw_aald3 hx hb hK hO kr26 (k := 185) (b := 186) rfl hP (by omega) (by omega) dME_expand_78 (fun r27 kr27 => ?_)
          have hn21 : nsp (186 + ((4 * i21) + i22)) = (0, 256, []) := rows_ok 186 16 (by decide) _ (by omega)
          refine mp_v (cx := []) (wr := []) hP hD hS hA [] [] rfl rfl rfl (by decide) (va_runV (As := [.ref r27]) (rest := []) F (N_ME_draw l g _ T s27 pl hO hU h0 r27 (186 + ((4 * i21) + i22)) x33 x34 k_h0 kr27 hn21 hx_33 hx_34 (by omega) (by omega) hE.1) (cwV 1 hts (wg_app (wg_c kw_1649 (wg_c kw_1651 (wg_c ks_55 (wg_c kw_11 wg_n)))) kw_1652) rfl rfl rfl (by decide +kernel) ⟨by decide, by decide⟩) (pn_W "LatticeKeysModel$Secrets" (en_ok g) (ci := 11) (kn := 184) (fl := [(3, 172), (3, 178), (3, 185), (3, 202), (3, 207), (3, 212), (3, 217), (3, 218), (3, 219), (3, 220), (3, 221), (3, 222), (3, 223), (3, 224)]) hK hO k_h0 rfl hP hD hS hA hEn [] rfl rfl rfl) rfl rfl hl.1 rfl (lv_room (Nat.le_of_ble_eq_true rfl)) dME_expand_79 ⟨by omega, by omega⟩) (fun  u26 H locs hu26 hP hD hS => ?_)
          obtain ⟨s28, pl⟩ := u26
          obtain ⟨⟨eq26, hFc26, ⟨x36, hx_36, hb_36⟩, ⟨x37, hx_37, hb_37⟩, -⟩, hO⟩ := hu26
          have hO : okn g T s28 pl := hO
          have hP : va_P g.1 vcl ([] ++ pl) _ := hP
          have hD : va_D _ ([] ++ pl) := hD
          have hFc26 : frm (M_ME_draw (186 + ((4 * i21) + i22))) s27 s28 := hFc26
          have hb_36 : x36 ≤ 168 := hb_36
          have hb_37 : x37 = x34 := hb_37
          replace hE := hE.2
          replace hR := bnd_step hR eq26
          replace hE := bndP_step hE eq26
          have hF := frm_tr hF hFc26 (fun k hk => by unfold M_ME_draw at hk; unfold M_ME_expand_2; omega)
          refine W.widen (k := 0) (n := 0) (by omega) (by omega) ?_
          refine mi_iinc (k := 0) (x := i22) (d := 1) (y := i22 + 1) (lv' := [(5, .int (nI (i22 + 1))), (4, .int (nI i21)), (0, .ref h0), (1, .ref b), (2, .int (nI at_)), (3, .int (nI 2))]) hx hb dME_expand_82 hl rfl (by decide) rfl (by decide) rfl (fun ls hl => ?_)
          refine lv_goto (tgt := 12) hx hb dME_expand_85 (by decide) ?_
          exact ih22 (i22 + 1) s28 pl ls H locs (by omega) hF hE hR (lv_sub hl [0, 1, 2, 3, 4, 5] rfl) hO hP hD hS
      exact lp22 2 0 s21 pl ls _ _ (by omega) hF hE hR (lv_sub hl [0, 1, 2, 3, 4, 5] rfl) hO hP hD hS
  exact lp21 2 0 s pl ls _ _ (by omega) hF hE hR (lv_sub hl [0, 1, 2, 3, 4] rfl) hO hP hD hS
def M_ME_expand_3 (k : Nat) : Prop := (186 ≤ k ∧ k < 202) ∨ k = 172 ∨ (0 : Nat) = 1
noncomputable def F_ME_expand_3_L1 (pb : Nat) (n : Nat) (at_ : Nat) (i21 : Nat) (kk : Nat → Sto → Sto) : Nat → Nat → Sto → Sto
  | 0, i22, s22 => kk (i21 + 1) s22
  | n22 + 1, i22, s22 => bnd (F_MS_begin 168 (nI 31) s22) fun s23 => bnd (F_MS_puts pb n at_ 32 s23) fun s24 => bnd (F_MS_put (nI i22) s24) fun s25 => bnd (F_MS_put (nI i21) s25) fun s26 => bnd (F_MS_end  s26) fun s27 => bnd (F_ME_draw (186 + ((4 * i21) + i22)) s27) fun s28 => F_ME_expand_3_L1 pb n at_ i21 kk n22 (i22 + 1) s28
noncomputable def E_ME_expand_3_L1 (pb : Nat) (n : Nat) (at_ : Nat) (i21 : Nat) (ke : Nat → Sto → Prop) : Nat → Nat → Sto → Prop
  | 0, i22, s22 => ke (i21 + 1) s22
  | n22 + 1, i22, s22 => bnd (F_MS_begin 168 (nI 31) s22) fun s23 => bnd (F_MS_puts pb n at_ 32 s23) fun s24 => bnd (F_MS_put (nI i22) s24) fun s25 => bnd (F_MS_put (nI i21) s25) fun s26 => bnd (F_MS_end  s26) fun s27 => (E_ME_draw (186 + ((4 * i21) + i22)) s27) ∧ (bnd (F_ME_draw (186 + ((4 * i21) + i22)) s27) fun s28 => E_ME_expand_3_L1 pb n at_ i21 ke n22 (i22 + 1) s28)
noncomputable def F_ME_expand_3_L0 (pb : Nat) (n : Nat) (at_ : Nat) : Nat → Nat → Sto → Sto
  | 0, i21, s21 => s21
  | n21 + 1, i21, s21 => F_ME_expand_3_L1 pb n at_ i21 (F_ME_expand_3_L0 pb n at_ n21) 3 0 s21
noncomputable def E_ME_expand_3_L0 (pb : Nat) (n : Nat) (at_ : Nat) : Nat → Nat → Sto → Prop
  | 0, i21, s21 => True
  | n21 + 1, i21, s21 => E_ME_expand_3_L1 pb n at_ i21 (E_ME_expand_3_L0 pb n at_ n21) 3 0 s21
noncomputable def F_ME_expand_3 (pb : Nat) (n : Nat) (at_ : Nat) (s : Sto) : Sto := F_ME_expand_3_L0 pb n at_ 3 0 s
noncomputable def E_ME_expand_3 (pb : Nat) (n : Nat) (at_ : Nat) (s : Sto) : Prop := E_ME_expand_3_L0 pb n at_ 3 0 s
set_option maxHeartbeats 8000000 in
set_option maxRecDepth 100000 in
theorem N_ME_expand_3 (l : Launch) (g : Gd) (sz : Nat) (T : TyN) (s : Sto) (pl : va_W) (hO : okn g T s pl) (hU : inj T) (h0 b : Nat) (pb : Nat) (n : Nat) (at_ : Nat) (k_h0 : T h0 = some 184) (k_b : T b = some pb) (n_b : nsp pb = (1, n, [])) (h1 : at_ + 32 ≤ n) (h2 : n < 65536) (hE : E_ME_expand_3 pb n at_ s)  : Met l y_ME_expand w_ME_expand ({ frames := 4, cells := 0, slots := 0, locals := 93 } : Room) (va_Pc [.ref h0, .ref b, .int (nI at_), .int (nI 3)] (pr (en g) g.1 vcl sz ([] ++ pl))) (va_Qv (fun (u : (Sto) × va_W) => (u.1 = F_ME_expand_3 pb n at_ s ∧ frm (M_ME_expand_3) s u.1 ∧ True) ∧ okn g T u.1 u.2) (po g.1 vcl (va_A ([] ++ pl) sz) (fun (u : (Sto) × va_W) => [] ++ u.2)) (va_A ([] ++ pl) sz)) 0 0 (va_A ([] ++ pl) sz) := by
  refine mc_entry (cc := c_ME_expand) (maxL := 6) (ret := none) (by decide) rfl (Nat.le_of_ble_eq_true rfl) ?_
  intro p e s0 m args below meth c ls F hr hlk hnm hsz hP hD hEn hA hl
  obtain ⟨hx, hb, hml, hown, hts⟩ := id F
  have hK := hEn.1
  generalize va_A ([] ++ pl) sz = A at hD hEn hA ⊢
  have hS : va_S A s0.heap s0.heap [] := va_S.rf
  have hl : lv_has ls 6 [(0, .ref h0), (1, .ref b), (2, .int (nI at_)), (3, .int (nI 3))] := hl
  have hR : F_ME_expand_3 pb n at_ s = F_ME_expand_3 pb n at_ s := rfl
  have hF : frm (M_ME_expand_3) s s := frm_rf
  refine lv_iconst (v := nI 0) hx hb dME_expand_0 (by decide) ?_
  refine lv_istore (lv' := [(4, .int (nI 0)), (0, .ref h0), (1, .ref b), (2, .int (nI at_)), (3, .int (nI 3))]) hx hb dME_expand_1 hl (by decide) rfl (fun ls hl => ?_)
  have lp21 : ∀ (n21 : Nat) (i21 : Nat) (s21 : Sto) (pl : va_W) (ls : Array Slot) (H : Heap) (locs : List Loc), n21 + i21 = 3 → frm (M_ME_expand_3) s s21 → E_ME_expand_3_L0 pb n at_ n21 i21 s21 → F_ME_expand_3 pb n at_ s = F_ME_expand_3_L0 pb n at_ n21 i21 s21 → lv_has ls 6 [(4, .int (nI i21)), (0, .ref h0), (1, .ref b), (2, .int (nI at_)), (3, .int (nI 3))] → okn g T s21 pl → va_P g.1 vcl ([] ++ pl) H → va_D A ([] ++ pl) → va_S A s0.heap H locs → W p l e ({ frames := 4, cells := 0, slots := 0, locals := 93 } : Room) s0 m args below meth c H locs 0 0 (MQ below (va_Qv (fun (u : (Sto) × va_W) => (u.1 = F_ME_expand_3 pb n at_ s ∧ frm (M_ME_expand_3) s u.1 ∧ True) ∧ okn g T u.1 u.2) (po g.1 vcl A (fun (u : (Sto) × va_W) => [] ++ u.2)) A) args s0 0 0 A) (F0 m 3 ls []) := by
    intro n21
    induction n21 with
    | zero =>
      intro i21 s21 pl ls H locs hm21 hF hE hR hl hO hP hD hS
      refine lv_iload hx hb dME_expand_3 (lv_at hl 0 rfl) ?_
      refine lv_iload_n hx hb dME_expand_5 rfl (lv_at hl 4 rfl) ?_
      refine mi_ge (tgt := 94) hx hb dME_expand_6 (by decide) (by omega) (by omega) (fun h21 => ?_) (fun h21 => absurd h21 (by omega))
      exact mp_vret hx hb hr hlk hP hD hS (s21, pl) ⟨⟨hR.symm, hF, trivial⟩, hO⟩ [] rfl rfl rfl (by omega) (by omega) dME_expand_94
    | succ n21 ih21 =>
      intro i21 s21 pl ls H locs hm21 hF hE hR hl hO hP hD hS
      refine lv_iload hx hb dME_expand_3 (lv_at hl 0 rfl) ?_
      refine lv_iload_n hx hb dME_expand_5 rfl (lv_at hl 4 rfl) ?_
      refine mi_ge (tgt := 94) hx hb dME_expand_6 (by decide) (by omega) (by omega) (fun h22 => absurd h22 (by omega)) (fun h22 => ?_)
      refine lv_iconst (v := nI 0) hx hb dME_expand_9 (by decide) ?_
      refine lv_istore (lv' := [(5, .int (nI 0)), (4, .int (nI i21)), (0, .ref h0), (1, .ref b), (2, .int (nI at_)), (3, .int (nI 3))]) hx hb dME_expand_10 hl (by decide) rfl (fun ls hl => ?_)
      have lp22 : ∀ (n22 : Nat) (i22 : Nat) (s22 : Sto) (pl : va_W) (ls : Array Slot) (H : Heap) (locs : List Loc), n22 + i22 = 3 → frm (M_ME_expand_3) s s22 → E_ME_expand_3_L1 pb n at_ i21 (E_ME_expand_3_L0 pb n at_ n21) n22 i22 s22 → F_ME_expand_3 pb n at_ s = F_ME_expand_3_L1 pb n at_ i21 (F_ME_expand_3_L0 pb n at_ n21) n22 i22 s22 → lv_has ls 6 [(5, .int (nI i22)), (4, .int (nI i21)), (0, .ref h0), (1, .ref b), (2, .int (nI at_)), (3, .int (nI 3))] → okn g T s22 pl → va_P g.1 vcl ([] ++ pl) H → va_D A ([] ++ pl) → va_S A s0.heap H locs → W p l e ({ frames := 4, cells := 0, slots := 0, locals := 93 } : Room) s0 m args below meth c H locs 0 0 (MQ below (va_Qv (fun (u : (Sto) × va_W) => (u.1 = F_ME_expand_3 pb n at_ s ∧ frm (M_ME_expand_3) s u.1 ∧ True) ∧ okn g T u.1 u.2) (po g.1 vcl A (fun (u : (Sto) × va_W) => [] ++ u.2)) A) args s0 0 0 A) (F0 m 12 ls []) := by
        intro n22
        induction n22 with
        | zero =>
          intro i22 s22 pl ls H locs hm22 hF hE hR hl hO hP hD hS
          refine lv_iload hx hb dME_expand_12 (lv_at hl 0 rfl) ?_
          refine lv_iload_n hx hb dME_expand_14 rfl (lv_at hl 5 rfl) ?_
          refine mi_ge (tgt := 88) hx hb dME_expand_15 (by decide) (by omega) (by omega) (fun h23 => ?_) (fun h23 => absurd h23 (by omega))
          refine mi_iinc (k := 1) (x := i21) (d := 1) (y := i21 + 1) (lv' := [(4, .int (nI (i21 + 1))), (5, .int (nI i22)), (0, .ref h0), (1, .ref b), (2, .int (nI at_)), (3, .int (nI 3))]) hx hb dME_expand_88 hl rfl (by decide) rfl (by decide) rfl (fun ls hl => ?_)
          refine lv_goto (tgt := 3) hx hb dME_expand_91 (by decide) ?_
          exact ih21 (i21 + 1) s22 pl ls H locs (by omega) hF hE hR (lv_sub hl [0, 2, 3, 4, 5] rfl) hO hP hD hS
        | succ n22 ih22 =>
          intro i22 s22 pl ls H locs hm22 hF hE hR hl hO hP hD hS
          refine lv_iload hx hb dME_expand_12 (lv_at hl 0 rfl) ?_
          refine lv_iload_n hx hb dME_expand_14 rfl (lv_at hl 5 rfl) ?_
          refine mi_ge (tgt := 88) hx hb dME_expand_15 (by decide) (by omega) (by omega) (fun h24 => absurd h24 (by omega)) (fun h24 => ?_)
          refine lv_aload_n hx hb dME_expand_18 rfl (lv_at hl 2 rfl) ?_
          refine nw_get (C := "LatticeKeysModel$Secrets") (TT := T_ME) (N := 14) hx hb hts (wg_ft i_ME) hown hK hO k_h0 (kn := 184) (ci := 11) (fl := [(3, 172), (3, 178), (3, 185), (3, 202), (3, 207), (3, 212), (3, 217), (3, 218), (3, 219), (3, 220), (3, 221), (3, 222), (3, 223), (3, 224)]) rfl hP rfl 0 (by decide) (hts _ (wg_t kw_1379)) (fun _ h9 => h9) (cd := (3, 172)) rfl dME_expand_19 (fun v21 hv21 => ?_)
          obtain ⟨r21, rfl, kr21⟩ := (show ∃ r : Nat, v21 = .ref r ∧ T r = some 172 from hv21)
          refine lv_sipush (v := nI 168) hx hb dME_expand_22 (by decide) ?_
          refine lv_bipush (v := nI 31) hx hb dME_expand_25 (by decide) ?_
          refine mp_v (cx := []) (wr := []) hP hD hS hA [] [] rfl rfl rfl (by decide) (va_runV (As := [.int (nI 168), .int (nI 31)]) (rest := []) F (N_MS_begin l g _ T s22 pl hO hU r21 168 (nI 31) kr21 (by omega)) (cwV 2 hts (wg_app (wg_c kw_1607 (wg_c kw_1608 (wg_c kw_1609 (wg_c kw_10 wg_n)))) kw_1610) rfl rfl rfl (by decide +kernel) ⟨by decide, by decide⟩) (pn_W "LatticeKeysModel$Sponge" (en_ok g) (ci := 9) (kn := 172) (fl := [(3, 173), (3, 174), (3, 175), (3, 176), (3, 177), (0, 0), (0, 0), (0, 0)]) hK hO kr21 rfl hP hD hS hA hEn [] rfl rfl rfl) rfl rfl hl.1 rfl (lv_room (Nat.le_of_ble_eq_true rfl)) dME_expand_27 ⟨by omega, by omega⟩) (fun  u21 H locs hu21 hP hD hS => ?_)
          obtain ⟨s23, pl⟩ := u21
          obtain ⟨⟨eq21, hFc21, ⟨x21, hx_21, hb_21⟩, ⟨x22, hx_22, hb_22⟩, -⟩, hO⟩ := hu21
          have hO : okn g T s23 pl := hO
          have hP : va_P g.1 vcl ([] ++ pl) _ := hP
          have hD : va_D _ ([] ++ pl) := hD
          have hFc21 : frm (M_MS_begin) s22 s23 := hFc21
          have hb_21 : x21 = 0 := hb_21
          have hb_22 : x22 = 168 := hb_22
          replace hR := bnd_step hR eq21
          replace hE := bndP_step hE eq21
          have hF := frm_tr hF hFc21 (fun k hk => by unfold M_MS_begin at hk; unfold M_ME_expand_3; omega)
          refine W.widen (k := 0) (n := 0) (by omega) (by omega) ?_
          refine lv_aload_n hx hb dME_expand_30 rfl (lv_at hl 2 rfl) ?_
          refine nw_get (C := "LatticeKeysModel$Secrets") (TT := T_ME) (N := 14) hx hb hts (wg_ft i_ME) hown hK hO k_h0 (kn := 184) (ci := 11) (fl := [(3, 172), (3, 178), (3, 185), (3, 202), (3, 207), (3, 212), (3, 217), (3, 218), (3, 219), (3, 220), (3, 221), (3, 222), (3, 223), (3, 224)]) rfl hP rfl 0 (by decide) (hts _ (wg_t kw_1379)) (fun _ h9 => h9) (cd := (3, 172)) rfl dME_expand_31 (fun v22 hv22 => ?_)
          obtain ⟨r22, rfl, kr22⟩ := (show ∃ r : Nat, v22 = .ref r ∧ T r = some 172 from hv22)
          refine lv_aload_n hx hb dME_expand_34 rfl (lv_at hl 3 rfl) ?_
          refine lv_iload_n hx hb dME_expand_35 rfl (lv_at hl 4 rfl) ?_
          refine lv_bipush (v := nI 32) hx hb dME_expand_36 (by decide) ?_
          refine mp_v (cx := []) (wr := []) hP hD hS hA [] [] rfl rfl rfl (by decide) (va_runV (As := [.ref b, .int (nI at_), .int (nI 32)]) (rest := []) F (N_MS_puts l g _ T s23 pl hO hU r22 b pb n at_ 32 x21 x22 kr22 k_b n_b hx_21 hx_22 (by omega) (by omega) (by omega) (by omega)) (cwV 3 hts (wg_app (wg_c kw_1611 (wg_c kw_1612 (wg_c kw_1613 (wg_c kw_10 wg_n)))) kw_1614) rfl rfl rfl (by decide +kernel) ⟨by decide, by decide⟩) (pn_W "LatticeKeysModel$Sponge" (en_ok g) (ci := 9) (kn := 172) (fl := [(3, 173), (3, 174), (3, 175), (3, 176), (3, 177), (0, 0), (0, 0), (0, 0)]) hK hO kr22 rfl hP hD hS hA hEn [] rfl rfl rfl) rfl rfl hl.1 rfl (lv_room (Nat.le_of_ble_eq_true rfl)) dME_expand_38 ⟨by omega, by omega⟩) (fun  u22 H locs hu22 hP hD hS => ?_)
          obtain ⟨s24, pl⟩ := u22
          obtain ⟨⟨eq22, hFc22, ⟨x24, hx_24, hb_24⟩, ⟨x25, hx_25, hb_25⟩, -⟩, hO⟩ := hu22
          have hO : okn g T s24 pl := hO
          have hP : va_P g.1 vcl ([] ++ pl) _ := hP
          have hD : va_D _ ([] ++ pl) := hD
          have hFc22 : frm (M_MS_puts) s23 s24 := hFc22
          have hb_24 : x24 < x22 := hb_24
          have hb_25 : x25 = x22 := hb_25
          replace hR := bnd_step hR eq22
          replace hE := bndP_step hE eq22
          have hF := frm_tr hF hFc22 (fun k hk => by unfold M_MS_puts at hk; unfold M_ME_expand_3; omega)
          refine W.widen (k := 0) (n := 0) (by omega) (by omega) ?_
          refine lv_aload_n hx hb dME_expand_41 rfl (lv_at hl 2 rfl) ?_
          refine nw_get (C := "LatticeKeysModel$Secrets") (TT := T_ME) (N := 14) hx hb hts (wg_ft i_ME) hown hK hO k_h0 (kn := 184) (ci := 11) (fl := [(3, 172), (3, 178), (3, 185), (3, 202), (3, 207), (3, 212), (3, 217), (3, 218), (3, 219), (3, 220), (3, 221), (3, 222), (3, 223), (3, 224)]) rfl hP rfl 0 (by decide) (hts _ (wg_t kw_1379)) (fun _ h9 => h9) (cd := (3, 172)) rfl dME_expand_42 (fun v23 hv23 => ?_)
          obtain ⟨r23, rfl, kr23⟩ := (show ∃ r : Nat, v23 = .ref r ∧ T r = some 172 from hv23)
          refine lv_iload hx hb dME_expand_45 (lv_at hl 0 rfl) ?_
          refine mp_v (cx := []) (wr := []) hP hD hS hA [] [] rfl rfl rfl (by decide) (va_runV (As := [.int (nI i22)]) (rest := []) F (N_MS_put l g _ T s24 pl hO hU r23 (nI i22) x24 x25 kr23 hx_24 hx_25 (by omega) (by omega)) (cwV 1 hts (wg_app (wg_c kw_1632 (wg_c kw_1616 (wg_c kw_1617 (wg_c kw_10 wg_n)))) kw_1618) rfl rfl rfl (by decide +kernel) ⟨by decide, by decide⟩) (pn_W "LatticeKeysModel$Sponge" (en_ok g) (ci := 9) (kn := 172) (fl := [(3, 173), (3, 174), (3, 175), (3, 176), (3, 177), (0, 0), (0, 0), (0, 0)]) hK hO kr23 rfl hP hD hS hA hEn [] rfl rfl rfl) rfl rfl hl.1 rfl (lv_room (Nat.le_of_ble_eq_true rfl)) dME_expand_47 ⟨by omega, by omega⟩) (fun  u23 H locs hu23 hP hD hS => ?_)
          obtain ⟨s25, pl⟩ := u23
          obtain ⟨⟨eq23, hFc23, ⟨x27, hx_27, hb_27⟩, ⟨x28, hx_28, hb_28⟩, -⟩, hO⟩ := hu23
          have hO : okn g T s25 pl := hO
          have hP : va_P g.1 vcl ([] ++ pl) _ := hP
          have hD : va_D _ ([] ++ pl) := hD
          have hFc23 : frm (M_MS_put) s24 s25 := hFc23
          have hb_27 : x27 < x25 := hb_27
          have hb_28 : x28 = x25 := hb_28
          replace hR := bnd_step hR eq23
          replace hE := bndP_step hE eq23
          have hF := frm_tr hF hFc23 (fun k hk => by unfold M_MS_put at hk; unfold M_ME_expand_3; omega)
          refine W.widen (k := 0) (n := 0) (by omega) (by omega) ?_
          refine lv_aload_n hx hb dME_expand_50 rfl (lv_at hl 2 rfl) ?_
          refine nw_get (C := "LatticeKeysModel$Secrets") (TT := T_ME) (N := 14) hx hb hts (wg_ft i_ME) hown hK hO k_h0 (kn := 184) (ci := 11) (fl := [(3, 172), (3, 178), (3, 185), (3, 202), (3, 207), (3, 212), (3, 217), (3, 218), (3, 219), (3, 220), (3, 221), (3, 222), (3, 223), (3, 224)]) rfl hP rfl 0 (by decide) (hts _ (wg_t kw_1379)) (fun _ h9 => h9) (cd := (3, 172)) rfl dME_expand_51 (fun v24 hv24 => ?_)
          obtain ⟨r24, rfl, kr24⟩ := (show ∃ r : Nat, v24 = .ref r ∧ T r = some 172 from hv24)
          refine lv_iload hx hb dME_expand_54 (lv_at hl 1 rfl) ?_
          refine mp_v (cx := []) (wr := []) hP hD hS hA [] [] rfl rfl rfl (by decide) (va_runV (As := [.int (nI i21)]) (rest := []) F (N_MS_put l g _ T s25 pl hO hU r24 (nI i21) x27 x28 kr24 hx_27 hx_28 (by omega) (by omega)) (cwV 1 hts (wg_app (wg_c kw_1632 (wg_c kw_1616 (wg_c kw_1617 (wg_c kw_10 wg_n)))) kw_1618) rfl rfl rfl (by decide +kernel) ⟨by decide, by decide⟩) (pn_W "LatticeKeysModel$Sponge" (en_ok g) (ci := 9) (kn := 172) (fl := [(3, 173), (3, 174), (3, 175), (3, 176), (3, 177), (0, 0), (0, 0), (0, 0)]) hK hO kr24 rfl hP hD hS hA hEn [] rfl rfl rfl) rfl rfl hl.1 rfl (lv_room (Nat.le_of_ble_eq_true rfl)) dME_expand_56 ⟨by omega, by omega⟩) (fun  u24 H locs hu24 hP hD hS => ?_)
          obtain ⟨s26, pl⟩ := u24
          obtain ⟨⟨eq24, hFc24, ⟨x30, hx_30, hb_30⟩, ⟨x31, hx_31, hb_31⟩, -⟩, hO⟩ := hu24
          have hO : okn g T s26 pl := hO
          have hP : va_P g.1 vcl ([] ++ pl) _ := hP
          have hD : va_D _ ([] ++ pl) := hD
          have hFc24 : frm (M_MS_put) s25 s26 := hFc24
          have hb_30 : x30 < x28 := hb_30
          have hb_31 : x31 = x28 := hb_31
          replace hR := bnd_step hR eq24
          replace hE := bndP_step hE eq24
          have hF := frm_tr hF hFc24 (fun k hk => by unfold M_MS_put at hk; unfold M_ME_expand_3; omega)
          refine W.widen (k := 0) (n := 0) (by omega) (by omega) ?_
          refine lv_aload_n hx hb dME_expand_59 rfl (lv_at hl 2 rfl) ?_
          refine nw_get (C := "LatticeKeysModel$Secrets") (TT := T_ME) (N := 14) hx hb hts (wg_ft i_ME) hown hK hO k_h0 (kn := 184) (ci := 11) (fl := [(3, 172), (3, 178), (3, 185), (3, 202), (3, 207), (3, 212), (3, 217), (3, 218), (3, 219), (3, 220), (3, 221), (3, 222), (3, 223), (3, 224)]) rfl hP rfl 0 (by decide) (hts _ (wg_t kw_1379)) (fun _ h9 => h9) (cd := (3, 172)) rfl dME_expand_60 (fun v25 hv25 => ?_)
          obtain ⟨r25, rfl, kr25⟩ := (show ∃ r : Nat, v25 = .ref r ∧ T r = some 172 from hv25)
          refine mp_v (cx := []) (wr := []) hP hD hS hA [] [] rfl rfl rfl (by decide) (va_runV (As := []) (rest := []) F (N_MS_end l g _ T s26 pl hO hU r25 x30 x31 kr25 hx_30 hx_31 (by omega) (by omega)) (cwV 0 hts (wg_app (wg_c kw_1633 (wg_c kw_1634 (wg_c kw_1635 (wg_c kw_10 wg_n)))) kw_1636) rfl rfl rfl (by decide +kernel) ⟨by decide, by decide⟩) (pn_W "LatticeKeysModel$Sponge" (en_ok g) (ci := 9) (kn := 172) (fl := [(3, 173), (3, 174), (3, 175), (3, 176), (3, 177), (0, 0), (0, 0), (0, 0)]) hK hO kr25 rfl hP hD hS hA hEn [] rfl rfl rfl) rfl rfl hl.1 rfl (lv_room (Nat.le_of_ble_eq_true rfl)) dME_expand_63 ⟨by omega, by omega⟩) (fun  u25 H locs hu25 hP hD hS => ?_)
          obtain ⟨s27, pl⟩ := u25
          obtain ⟨⟨eq25, hFc25, ⟨x33, hx_33, hb_33⟩, ⟨x34, hx_34, hb_34⟩, -⟩, hO⟩ := hu25
          have hO : okn g T s27 pl := hO
          have hP : va_P g.1 vcl ([] ++ pl) _ := hP
          have hD : va_D _ ([] ++ pl) := hD
          have hFc25 : frm (M_MS_end) s26 s27 := hFc25
          have hb_33 : x33 = 0 := hb_33
          have hb_34 : x34 = x31 := hb_34
          replace hR := bnd_step hR eq25
          replace hE := bndP_step hE eq25
          have hF := frm_tr hF hFc25 (fun k hk => by unfold M_MS_end at hk; unfold M_ME_expand_3; omega)
          refine W.widen (k := 0) (n := 0) (by omega) (by omega) ?_
          refine lv_aload_n hx hb dME_expand_66 rfl (lv_at hl 2 rfl) ?_
          refine lv_aload_n hx hb dME_expand_67 rfl (lv_at hl 2 rfl) ?_
          refine nw_get (C := "LatticeKeysModel$Secrets") (TT := T_ME) (N := 14) hx hb hts (wg_ft i_ME) hown hK hO k_h0 (kn := 184) (ci := 11) (fl := [(3, 172), (3, 178), (3, 185), (3, 202), (3, 207), (3, 212), (3, 217), (3, 218), (3, 219), (3, 220), (3, 221), (3, 222), (3, 223), (3, 224)]) rfl hP rfl 2 (by decide) (hts _ (wg_t kw_1381)) (fun _ h9 => h9) (cd := (3, 185)) rfl dME_expand_68 (fun v26 hv26 => ?_)
          obtain ⟨r26, rfl, kr26⟩ := (show ∃ r : Nat, v26 = .ref r ∧ T r = some 185 from hv26)
          refine lv_iconst (v := nI 4) hx hb dME_expand_71 (by decide) ?_
          refine lv_iload hx hb dME_expand_72 (lv_at hl 1 rfl) ?_
          refine mi_imul hx hb dME_expand_74 ?_
          refine lv_iload hx hb dME_expand_75 (lv_at hl 0 rfl) ?_
          refine mi_iadd hx hb dME_expand_77 ?_
          refine nw_aald3 hx hb hK hO kr26 (k := 185) (b := 186) rfl hP (by omega) (by omega) dME_expand_78 (fun r27 kr27 => ?_)
          have hn21 : nsp (186 + ((4 * i21) + i22)) = (0, 256, []) := rows_ok 186 16 (by decide) _ (by omega)
          refine mp_v (cx := []) (wr := []) hP hD hS hA [] [] rfl rfl rfl (by decide) (va_runV (As := [.ref r27]) (rest := []) F (N_ME_draw l g _ T s27 pl hO hU h0 r27 (186 + ((4 * i21) + i22)) x33 x34 k_h0 kr27 hn21 hx_33 hx_34 (by omega) (by omega) hE.1) (cwV 1 hts (wg_app (wg_c kw_1649 (wg_c kw_1651 (wg_c ks_55 (wg_c kw_11 wg_n)))) kw_1652) rfl rfl rfl (by decide +kernel) ⟨by decide, by decide⟩) (pn_W "LatticeKeysModel$Secrets" (en_ok g) (ci := 11) (kn := 184) (fl := [(3, 172), (3, 178), (3, 185), (3, 202), (3, 207), (3, 212), (3, 217), (3, 218), (3, 219), (3, 220), (3, 221), (3, 222), (3, 223), (3, 224)]) hK hO k_h0 rfl hP hD hS hA hEn [] rfl rfl rfl) rfl rfl hl.1 rfl (lv_room (Nat.le_of_ble_eq_true rfl)) dME_expand_79 ⟨by omega, by omega⟩) (fun  u26 H locs hu26 hP hD hS => ?_)
          obtain ⟨s28, pl⟩ := u26
          obtain ⟨⟨eq26, hFc26, ⟨x36, hx_36, hb_36⟩, ⟨x37, hx_37, hb_37⟩, -⟩, hO⟩ := hu26
          have hO : okn g T s28 pl := hO
          have hP : va_P g.1 vcl ([] ++ pl) _ := hP
          have hD : va_D _ ([] ++ pl) := hD
          have hFc26 : frm (M_ME_draw (186 + ((4 * i21) + i22))) s27 s28 := hFc26
          have hb_36 : x36 ≤ 168 := hb_36
          have hb_37 : x37 = x34 := hb_37
          replace hE := hE.2
          replace hR := bnd_step hR eq26
          replace hE := bndP_step hE eq26
          have hF := frm_tr hF hFc26 (fun k hk => by unfold M_ME_draw at hk; unfold M_ME_expand_3; omega)
          refine W.widen (k := 0) (n := 0) (by omega) (by omega) ?_
          refine mi_iinc (k := 0) (x := i22) (d := 1) (y := i22 + 1) (lv' := [(5, .int (nI (i22 + 1))), (4, .int (nI i21)), (0, .ref h0), (1, .ref b), (2, .int (nI at_)), (3, .int (nI 3))]) hx hb dME_expand_82 hl rfl (by decide) rfl (by decide) rfl (fun ls hl => ?_)
          refine lv_goto (tgt := 12) hx hb dME_expand_85 (by decide) ?_
          exact ih22 (i22 + 1) s28 pl ls H locs (by omega) hF hE hR (lv_sub hl [0, 1, 2, 3, 4, 5] rfl) hO hP hD hS
      exact lp22 3 0 s21 pl ls _ _ (by omega) hF hE hR (lv_sub hl [0, 1, 2, 3, 4, 5] rfl) hO hP hD hS
  exact lp21 3 0 s pl ls _ _ (by omega) hF hE hR (lv_sub hl [0, 1, 2, 3, 4] rfl) hO hP hD hS
def M_ME_expand_4 (k : Nat) : Prop := (186 ≤ k ∧ k < 202) ∨ k = 172 ∨ (0 : Nat) = 1
noncomputable def F_ME_expand_4_L1 (pb : Nat) (n : Nat) (at_ : Nat) (i21 : Nat) (kk : Nat → Sto → Sto) : Nat → Nat → Sto → Sto
  | 0, i22, s22 => kk (i21 + 1) s22
  | n22 + 1, i22, s22 => bnd (F_MS_begin 168 (nI 31) s22) fun s23 => bnd (F_MS_puts pb n at_ 32 s23) fun s24 => bnd (F_MS_put (nI i22) s24) fun s25 => bnd (F_MS_put (nI i21) s25) fun s26 => bnd (F_MS_end  s26) fun s27 => bnd (F_ME_draw (186 + ((4 * i21) + i22)) s27) fun s28 => F_ME_expand_4_L1 pb n at_ i21 kk n22 (i22 + 1) s28
noncomputable def E_ME_expand_4_L1 (pb : Nat) (n : Nat) (at_ : Nat) (i21 : Nat) (ke : Nat → Sto → Prop) : Nat → Nat → Sto → Prop
  | 0, i22, s22 => ke (i21 + 1) s22
  | n22 + 1, i22, s22 => bnd (F_MS_begin 168 (nI 31) s22) fun s23 => bnd (F_MS_puts pb n at_ 32 s23) fun s24 => bnd (F_MS_put (nI i22) s24) fun s25 => bnd (F_MS_put (nI i21) s25) fun s26 => bnd (F_MS_end  s26) fun s27 => (E_ME_draw (186 + ((4 * i21) + i22)) s27) ∧ (bnd (F_ME_draw (186 + ((4 * i21) + i22)) s27) fun s28 => E_ME_expand_4_L1 pb n at_ i21 ke n22 (i22 + 1) s28)
noncomputable def F_ME_expand_4_L0 (pb : Nat) (n : Nat) (at_ : Nat) : Nat → Nat → Sto → Sto
  | 0, i21, s21 => s21
  | n21 + 1, i21, s21 => F_ME_expand_4_L1 pb n at_ i21 (F_ME_expand_4_L0 pb n at_ n21) 4 0 s21
noncomputable def E_ME_expand_4_L0 (pb : Nat) (n : Nat) (at_ : Nat) : Nat → Nat → Sto → Prop
  | 0, i21, s21 => True
  | n21 + 1, i21, s21 => E_ME_expand_4_L1 pb n at_ i21 (E_ME_expand_4_L0 pb n at_ n21) 4 0 s21
noncomputable def F_ME_expand_4 (pb : Nat) (n : Nat) (at_ : Nat) (s : Sto) : Sto := F_ME_expand_4_L0 pb n at_ 4 0 s
noncomputable def E_ME_expand_4 (pb : Nat) (n : Nat) (at_ : Nat) (s : Sto) : Prop := E_ME_expand_4_L0 pb n at_ 4 0 s
set_option maxHeartbeats 8000000 in
set_option maxRecDepth 100000 in
theorem N_ME_expand_4 (l : Launch) (g : Gd) (sz : Nat) (T : TyN) (s : Sto) (pl : va_W) (hO : okn g T s pl) (hU : inj T) (h0 b : Nat) (pb : Nat) (n : Nat) (at_ : Nat) (k_h0 : T h0 = some 184) (k_b : T b = some pb) (n_b : nsp pb = (1, n, [])) (h1 : at_ + 32 ≤ n) (h2 : n < 65536) (hE : E_ME_expand_4 pb n at_ s)  : Met l y_ME_expand w_ME_expand ({ frames := 4, cells := 0, slots := 0, locals := 93 } : Room) (va_Pc [.ref h0, .ref b, .int (nI at_), .int (nI 4)] (pr (en g) g.1 vcl sz ([] ++ pl))) (va_Qv (fun (u : (Sto) × va_W) => (u.1 = F_ME_expand_4 pb n at_ s ∧ frm (M_ME_expand_4) s u.1 ∧ True) ∧ okn g T u.1 u.2) (po g.1 vcl (va_A ([] ++ pl) sz) (fun (u : (Sto) × va_W) => [] ++ u.2)) (va_A ([] ++ pl) sz)) 0 0 (va_A ([] ++ pl) sz) := by
  refine mc_entry (cc := c_ME_expand) (maxL := 6) (ret := none) (by decide) rfl (Nat.le_of_ble_eq_true rfl) ?_
  intro p e s0 m args below meth c ls F hr hlk hnm hsz hP hD hEn hA hl
  obtain ⟨hx, hb, hml, hown, hts⟩ := id F
  have hK := hEn.1
  generalize va_A ([] ++ pl) sz = A at hD hEn hA ⊢
  have hS : va_S A s0.heap s0.heap [] := va_S.rf
  have hl : lv_has ls 6 [(0, .ref h0), (1, .ref b), (2, .int (nI at_)), (3, .int (nI 4))] := hl
  have hR : F_ME_expand_4 pb n at_ s = F_ME_expand_4 pb n at_ s := rfl
  have hF : frm (M_ME_expand_4) s s := frm_rf
  refine lv_iconst (v := nI 0) hx hb dME_expand_0 (by decide) ?_
  refine lv_istore (lv' := [(4, .int (nI 0)), (0, .ref h0), (1, .ref b), (2, .int (nI at_)), (3, .int (nI 4))]) hx hb dME_expand_1 hl (by decide) rfl (fun ls hl => ?_)
  have lp21 : ∀ (n21 : Nat) (i21 : Nat) (s21 : Sto) (pl : va_W) (ls : Array Slot) (H : Heap) (locs : List Loc), n21 + i21 = 4 → frm (M_ME_expand_4) s s21 → E_ME_expand_4_L0 pb n at_ n21 i21 s21 → F_ME_expand_4 pb n at_ s = F_ME_expand_4_L0 pb n at_ n21 i21 s21 → lv_has ls 6 [(4, .int (nI i21)), (0, .ref h0), (1, .ref b), (2, .int (nI at_)), (3, .int (nI 4))] → okn g T s21 pl → va_P g.1 vcl ([] ++ pl) H → va_D A ([] ++ pl) → va_S A s0.heap H locs → W p l e ({ frames := 4, cells := 0, slots := 0, locals := 93 } : Room) s0 m args below meth c H locs 0 0 (MQ below (va_Qv (fun (u : (Sto) × va_W) => (u.1 = F_ME_expand_4 pb n at_ s ∧ frm (M_ME_expand_4) s u.1 ∧ True) ∧ okn g T u.1 u.2) (po g.1 vcl A (fun (u : (Sto) × va_W) => [] ++ u.2)) A) args s0 0 0 A) (F0 m 3 ls []) := by
    intro n21
    induction n21 with
    | zero =>
      intro i21 s21 pl ls H locs hm21 hF hE hR hl hO hP hD hS
      refine lv_iload hx hb dME_expand_3 (lv_at hl 0 rfl) ?_
      refine lv_iload_n hx hb dME_expand_5 rfl (lv_at hl 4 rfl) ?_
      refine mi_ge (tgt := 94) hx hb dME_expand_6 (by decide) (by omega) (by omega) (fun h21 => ?_) (fun h21 => absurd h21 (by omega))
      exact mp_vret hx hb hr hlk hP hD hS (s21, pl) ⟨⟨hR.symm, hF, trivial⟩, hO⟩ [] rfl rfl rfl (by omega) (by omega) dME_expand_94
    | succ n21 ih21 =>
      intro i21 s21 pl ls H locs hm21 hF hE hR hl hO hP hD hS
      refine lv_iload hx hb dME_expand_3 (lv_at hl 0 rfl) ?_
      refine lv_iload_n hx hb dME_expand_5 rfl (lv_at hl 4 rfl) ?_
      refine mi_ge (tgt := 94) hx hb dME_expand_6 (by decide) (by omega) (by omega) (fun h22 => absurd h22 (by omega)) (fun h22 => ?_)
      refine lv_iconst (v := nI 0) hx hb dME_expand_9 (by decide) ?_
      refine lv_istore (lv' := [(5, .int (nI 0)), (4, .int (nI i21)), (0, .ref h0), (1, .ref b), (2, .int (nI at_)), (3, .int (nI 4))]) hx hb dME_expand_10 hl (by decide) rfl (fun ls hl => ?_)
      have lp22 : ∀ (n22 : Nat) (i22 : Nat) (s22 : Sto) (pl : va_W) (ls : Array Slot) (H : Heap) (locs : List Loc), n22 + i22 = 4 → frm (M_ME_expand_4) s s22 → E_ME_expand_4_L1 pb n at_ i21 (E_ME_expand_4_L0 pb n at_ n21) n22 i22 s22 → F_ME_expand_4 pb n at_ s = F_ME_expand_4_L1 pb n at_ i21 (F_ME_expand_4_L0 pb n at_ n21) n22 i22 s22 → lv_has ls 6 [(5, .int (nI i22)), (4, .int (nI i21)), (0, .ref h0), (1, .ref b), (2, .int (nI at_)), (3, .int (nI 4))] → okn g T s22 pl → va_P g.1 vcl ([] ++ pl) H → va_D A ([] ++ pl) → va_S A s0.heap H locs → W p l e ({ frames := 4, cells := 0, slots := 0, locals := 93 } : Room) s0 m args below meth c H locs 0 0 (MQ below (va_Qv (fun (u : (Sto) × va_W) => (u.1 = F_ME_expand_4 pb n at_ s ∧ frm (M_ME_expand_4) s u.1 ∧ True) ∧ okn g T u.1 u.2) (po g.1 vcl A (fun (u : (Sto) × va_W) => [] ++ u.2)) A) args s0 0 0 A) (F0 m 12 ls []) := by
        intro n22
        induction n22 with
        | zero =>
          intro i22 s22 pl ls H locs hm22 hF hE hR hl hO hP hD hS
          refine lv_iload hx hb dME_expand_12 (lv_at hl 0 rfl) ?_
          refine lv_iload_n hx hb dME_expand_14 rfl (lv_at hl 5 rfl) ?_
          refine mi_ge (tgt := 88) hx hb dME_expand_15 (by decide) (by omega) (by omega) (fun h23 => ?_) (fun h23 => absurd h23 (by omega))
          refine mi_iinc (k := 1) (x := i21) (d := 1) (y := i21 + 1) (lv' := [(4, .int (nI (i21 + 1))), (5, .int (nI i22)), (0, .ref h0), (1, .ref b), (2, .int (nI at_)), (3, .int (nI 4))]) hx hb dME_expand_88 hl rfl (by decide) rfl (by decide) rfl (fun ls hl => ?_)
          refine lv_goto (tgt := 3) hx hb dME_expand_91 (by decide) ?_
          exact ih21 (i21 + 1) s22 pl ls H locs (by omega) hF hE hR (lv_sub hl [0, 2, 3, 4, 5] rfl) hO hP hD hS
        | succ n22 ih22 =>
          intro i22 s22 pl ls H locs hm22 hF hE hR hl hO hP hD hS
          refine lv_iload hx hb dME_expand_12 (lv_at hl 0 rfl) ?_
          refine lv_iload_n hx hb dME_expand_14 rfl (lv_at hl 5 rfl) ?_
          refine mi_ge (tgt := 88) hx hb dME_expand_15 (by decide) (by omega) (by omega) (fun h24 => absurd h24 (by omega)) (fun h24 => ?_)
          refine lv_aload_n hx hb dME_expand_18 rfl (lv_at hl 2 rfl) ?_
          refine nw_get (C := "LatticeKeysModel$Secrets") (TT := T_ME) (N := 14) hx hb hts (wg_ft i_ME) hown hK hO k_h0 (kn := 184) (ci := 11) (fl := [(3, 172), (3, 178), (3, 185), (3, 202), (3, 207), (3, 212), (3, 217), (3, 218), (3, 219), (3, 220), (3, 221), (3, 222), (3, 223), (3, 224)]) rfl hP rfl 0 (by decide) (hts _ (wg_t kw_1379)) (fun _ h9 => h9) (cd := (3, 172)) rfl dME_expand_19 (fun v21 hv21 => ?_)
          obtain ⟨r21, rfl, kr21⟩ := (show ∃ r : Nat, v21 = .ref r ∧ T r = some 172 from hv21)
          refine lv_sipush (v := nI 168) hx hb dME_expand_22 (by decide) ?_
          refine lv_bipush (v := nI 31) hx hb dME_expand_25 (by decide) ?_
          refine mp_v (cx := []) (wr := []) hP hD hS hA [] [] rfl rfl rfl (by decide) (va_runV (As := [.int (nI 168), .int (nI 31)]) (rest := []) F (N_MS_begin l g _ T s22 pl hO hU r21 168 (nI 31) kr21 (by omega)) (cwV 2 hts (wg_app (wg_c kw_1607 (wg_c kw_1608 (wg_c kw_1609 (wg_c kw_10 wg_n)))) kw_1610) rfl rfl rfl (by decide +kernel) ⟨by decide, by decide⟩) (pn_W "LatticeKeysModel$Sponge" (en_ok g) (ci := 9) (kn := 172) (fl := [(3, 173), (3, 174), (3, 175), (3, 176), (3, 177), (0, 0), (0, 0), (0, 0)]) hK hO kr21 rfl hP hD hS hA hEn [] rfl rfl rfl) rfl rfl hl.1 rfl (lv_room (Nat.le_of_ble_eq_true rfl)) dME_expand_27 ⟨by omega, by omega⟩) (fun  u21 H locs hu21 hP hD hS => ?_)
          obtain ⟨s23, pl⟩ := u21
          obtain ⟨⟨eq21, hFc21, ⟨x21, hx_21, hb_21⟩, ⟨x22, hx_22, hb_22⟩, -⟩, hO⟩ := hu21
          have hO : okn g T s23 pl := hO
          have hP : va_P g.1 vcl ([] ++ pl) _ := hP
          have hD : va_D _ ([] ++ pl) := hD
          have hFc21 : frm (M_MS_begin) s22 s23 := hFc21
          have hb_21 : x21 = 0 := hb_21
          have hb_22 : x22 = 168 := hb_22
          replace hR := bnd_step hR eq21
          replace hE := bndP_step hE eq21
          have hF := frm_tr hF hFc21 (fun k hk => by unfold M_MS_begin at hk; unfold M_ME_expand_4; omega)
          refine W.widen (k := 0) (n := 0) (by omega) (by omega) ?_
          refine lv_aload_n hx hb dME_expand_30 rfl (lv_at hl 2 rfl) ?_
          refine nw_get (C := "LatticeKeysModel$Secrets") (TT := T_ME) (N := 14) hx hb hts (wg_ft i_ME) hown hK hO k_h0 (kn := 184) (ci := 11) (fl := [(3, 172), (3, 178), (3, 185), (3, 202), (3, 207), (3, 212), (3, 217), (3, 218), (3, 219), (3, 220), (3, 221), (3, 222), (3, 223), (3, 224)]) rfl hP rfl 0 (by decide) (hts _ (wg_t kw_1379)) (fun _ h9 => h9) (cd := (3, 172)) rfl dME_expand_31 (fun v22 hv22 => ?_)
          obtain ⟨r22, rfl, kr22⟩ := (show ∃ r : Nat, v22 = .ref r ∧ T r = some 172 from hv22)
          refine lv_aload_n hx hb dME_expand_34 rfl (lv_at hl 3 rfl) ?_
          refine lv_iload_n hx hb dME_expand_35 rfl (lv_at hl 4 rfl) ?_
          refine lv_bipush (v := nI 32) hx hb dME_expand_36 (by decide) ?_
          refine mp_v (cx := []) (wr := []) hP hD hS hA [] [] rfl rfl rfl (by decide) (va_runV (As := [.ref b, .int (nI at_), .int (nI 32)]) (rest := []) F (N_MS_puts l g _ T s23 pl hO hU r22 b pb n at_ 32 x21 x22 kr22 k_b n_b hx_21 hx_22 (by omega) (by omega) (by omega) (by omega)) (cwV 3 hts (wg_app (wg_c kw_1611 (wg_c kw_1612 (wg_c kw_1613 (wg_c kw_10 wg_n)))) kw_1614) rfl rfl rfl (by decide +kernel) ⟨by decide, by decide⟩) (pn_W "LatticeKeysModel$Sponge" (en_ok g) (ci := 9) (kn := 172) (fl := [(3, 173), (3, 174), (3, 175), (3, 176), (3, 177), (0, 0), (0, 0), (0, 0)]) hK hO kr22 rfl hP hD hS hA hEn [] rfl rfl rfl) rfl rfl hl.1 rfl (lv_room (Nat.le_of_ble_eq_true rfl)) dME_expand_38 ⟨by omega, by omega⟩) (fun  u22 H locs hu22 hP hD hS => ?_)
          obtain ⟨s24, pl⟩ := u22
          obtain ⟨⟨eq22, hFc22, ⟨x24, hx_24, hb_24⟩, ⟨x25, hx_25, hb_25⟩, -⟩, hO⟩ := hu22
          have hO : okn g T s24 pl := hO
          have hP : va_P g.1 vcl ([] ++ pl) _ := hP
          have hD : va_D _ ([] ++ pl) := hD
          have hFc22 : frm (M_MS_puts) s23 s24 := hFc22
          have hb_24 : x24 < x22 := hb_24
          have hb_25 : x25 = x22 := hb_25
          replace hR := bnd_step hR eq22
          replace hE := bndP_step hE eq22
          have hF := frm_tr hF hFc22 (fun k hk => by unfold M_MS_puts at hk; unfold M_ME_expand_4; omega)
          refine W.widen (k := 0) (n := 0) (by omega) (by omega) ?_
          refine lv_aload_n hx hb dME_expand_41 rfl (lv_at hl 2 rfl) ?_
          refine nw_get (C := "LatticeKeysModel$Secrets") (TT := T_ME) (N := 14) hx hb hts (wg_ft i_ME) hown hK hO k_h0 (kn := 184) (ci := 11) (fl := [(3, 172), (3, 178), (3, 185), (3, 202), (3, 207), (3, 212), (3, 217), (3, 218), (3, 219), (3, 220), (3, 221), (3, 222), (3, 223), (3, 224)]) rfl hP rfl 0 (by decide) (hts _ (wg_t kw_1379)) (fun _ h9 => h9) (cd := (3, 172)) rfl dME_expand_42 (fun v23 hv23 => ?_)
          obtain ⟨r23, rfl, kr23⟩ := (show ∃ r : Nat, v23 = .ref r ∧ T r = some 172 from hv23)
          refine lv_iload hx hb dME_expand_45 (lv_at hl 0 rfl) ?_
          refine mp_v (cx := []) (wr := []) hP hD hS hA [] [] rfl rfl rfl (by decide) (va_runV (As := [.int (nI i22)]) (rest := []) F (N_MS_put l g _ T s24 pl hO hU r23 (nI i22) x24 x25 kr23 hx_24 hx_25 (by omega) (by omega)) (cwV 1 hts (wg_app (wg_c kw_1632 (wg_c kw_1616 (wg_c kw_1617 (wg_c kw_10 wg_n)))) kw_1618) rfl rfl rfl (by decide +kernel) ⟨by decide, by decide⟩) (pn_W "LatticeKeysModel$Sponge" (en_ok g) (ci := 9) (kn := 172) (fl := [(3, 173), (3, 174), (3, 175), (3, 176), (3, 177), (0, 0), (0, 0), (0, 0)]) hK hO kr23 rfl hP hD hS hA hEn [] rfl rfl rfl) rfl rfl hl.1 rfl (lv_room (Nat.le_of_ble_eq_true rfl)) dME_expand_47 ⟨by omega, by omega⟩) (fun  u23 H locs hu23 hP hD hS => ?_)
          obtain ⟨s25, pl⟩ := u23
          obtain ⟨⟨eq23, hFc23, ⟨x27, hx_27, hb_27⟩, ⟨x28, hx_28, hb_28⟩, -⟩, hO⟩ := hu23
          have hO : okn g T s25 pl := hO
          have hP : va_P g.1 vcl ([] ++ pl) _ := hP
          have hD : va_D _ ([] ++ pl) := hD
          have hFc23 : frm (M_MS_put) s24 s25 := hFc23
          have hb_27 : x27 < x25 := hb_27
          have hb_28 : x28 = x25 := hb_28
          replace hR := bnd_step hR eq23
          replace hE := bndP_step hE eq23
          have hF := frm_tr hF hFc23 (fun k hk => by unfold M_MS_put at hk; unfold M_ME_expand_4; omega)
          refine W.widen (k := 0) (n := 0) (by omega) (by omega) ?_
          refine lv_aload_n hx hb dME_expand_50 rfl (lv_at hl 2 rfl) ?_
          refine nw_get (C := "LatticeKeysModel$Secrets") (TT := T_ME) (N := 14) hx hb hts (wg_ft i_ME) hown hK hO k_h0 (kn := 184) (ci := 11) (fl := [(3, 172), (3, 178), (3, 185), (3, 202), (3, 207), (3, 212), (3, 217), (3, 218), (3, 219), (3, 220), (3, 221), (3, 222), (3, 223), (3, 224)]) rfl hP rfl 0 (by decide) (hts _ (wg_t kw_1379)) (fun _ h9 => h9) (cd := (3, 172)) rfl dME_expand_51 (fun v24 hv24 => ?_)
          obtain ⟨r24, rfl, kr24⟩ := (show ∃ r : Nat, v24 = .ref r ∧ T r = some 172 from hv24)
          refine lv_iload hx hb dME_expand_54 (lv_at hl 1 rfl) ?_
          refine mp_v (cx := []) (wr := []) hP hD hS hA [] [] rfl rfl rfl (by decide) (va_runV (As := [.int (nI i21)]) (rest := []) F (N_MS_put l g _ T s25 pl hO hU r24 (nI i21) x27 x28 kr24 hx_27 hx_28 (by omega) (by omega)) (cwV 1 hts (wg_app (wg_c kw_1632 (wg_c kw_1616 (wg_c kw_1617 (wg_c kw_10 wg_n)))) kw_1618) rfl rfl rfl (by decide +kernel) ⟨by decide, by decide⟩) (pn_W "LatticeKeysModel$Sponge" (en_ok g) (ci := 9) (kn := 172) (fl := [(3, 173), (3, 174), (3, 175), (3, 176), (3, 177), (0, 0), (0, 0), (0, 0)]) hK hO kr24 rfl hP hD hS hA hEn [] rfl rfl rfl) rfl rfl hl.1 rfl (lv_room (Nat.le_of_ble_eq_true rfl)) dME_expand_56 ⟨by omega, by omega⟩) (fun  u24 H locs hu24 hP hD hS => ?_)
          obtain ⟨s26, pl⟩ := u24
          obtain ⟨⟨eq24, hFc24, ⟨x30, hx_30, hb_30⟩, ⟨x31, hx_31, hb_31⟩, -⟩, hO⟩ := hu24
          have hO : okn g T s26 pl := hO
          have hP : va_P g.1 vcl ([] ++ pl) _ := hP
          have hD : va_D _ ([] ++ pl) := hD
          have hFc24 : frm (M_MS_put) s25 s26 := hFc24
          have hb_30 : x30 < x28 := hb_30
          have hb_31 : x31 = x28 := hb_31
          replace hR := bnd_step hR eq24
          replace hE := bndP_step hE eq24
          have hF := frm_tr hF hFc24 (fun k hk => by unfold M_MS_put at hk; unfold M_ME_expand_4; omega)
          refine W.widen (k := 0) (n := 0) (by omega) (by omega) ?_
          refine lv_aload_n hx hb dME_expand_59 rfl (lv_at hl 2 rfl) ?_
          refine nw_get (C := "LatticeKeysModel$Secrets") (TT := T_ME) (N := 14) hx hb hts (wg_ft i_ME) hown hK hO k_h0 (kn := 184) (ci := 11) (fl := [(3, 172), (3, 178), (3, 185), (3, 202), (3, 207), (3, 212), (3, 217), (3, 218), (3, 219), (3, 220), (3, 221), (3, 222), (3, 223), (3, 224)]) rfl hP rfl 0 (by decide) (hts _ (wg_t kw_1379)) (fun _ h9 => h9) (cd := (3, 172)) rfl dME_expand_60 (fun v25 hv25 => ?_)
          obtain ⟨r25, rfl, kr25⟩ := (show ∃ r : Nat, v25 = .ref r ∧ T r = some 172 from hv25)
          refine mp_v (cx := []) (wr := []) hP hD hS hA [] [] rfl rfl rfl (by decide) (va_runV (As := []) (rest := []) F (N_MS_end l g _ T s26 pl hO hU r25 x30 x31 kr25 hx_30 hx_31 (by omega) (by omega)) (cwV 0 hts (wg_app (wg_c kw_1633 (wg_c kw_1634 (wg_c kw_1635 (wg_c kw_10 wg_n)))) kw_1636) rfl rfl rfl (by decide +kernel) ⟨by decide, by decide⟩) (pn_W "LatticeKeysModel$Sponge" (en_ok g) (ci := 9) (kn := 172) (fl := [(3, 173), (3, 174), (3, 175), (3, 176), (3, 177), (0, 0), (0, 0), (0, 0)]) hK hO kr25 rfl hP hD hS hA hEn [] rfl rfl rfl) rfl rfl hl.1 rfl (lv_room (Nat.le_of_ble_eq_true rfl)) dME_expand_63 ⟨by omega, by omega⟩) (fun  u25 H locs hu25 hP hD hS => ?_)
          obtain ⟨s27, pl⟩ := u25
          obtain ⟨⟨eq25, hFc25, ⟨x33, hx_33, hb_33⟩, ⟨x34, hx_34, hb_34⟩, -⟩, hO⟩ := hu25
          have hO : okn g T s27 pl := hO
          have hP : va_P g.1 vcl ([] ++ pl) _ := hP
          have hD : va_D _ ([] ++ pl) := hD
          have hFc25 : frm (M_MS_end) s26 s27 := hFc25
          have hb_33 : x33 = 0 := hb_33
          have hb_34 : x34 = x31 := hb_34
          replace hR := bnd_step hR eq25
          replace hE := bndP_step hE eq25
          have hF := frm_tr hF hFc25 (fun k hk => by unfold M_MS_end at hk; unfold M_ME_expand_4; omega)
          refine W.widen (k := 0) (n := 0) (by omega) (by omega) ?_
          refine lv_aload_n hx hb dME_expand_66 rfl (lv_at hl 2 rfl) ?_
          refine lv_aload_n hx hb dME_expand_67 rfl (lv_at hl 2 rfl) ?_
          refine nw_get (C := "LatticeKeysModel$Secrets") (TT := T_ME) (N := 14) hx hb hts (wg_ft i_ME) hown hK hO k_h0 (kn := 184) (ci := 11) (fl := [(3, 172), (3, 178), (3, 185), (3, 202), (3, 207), (3, 212), (3, 217), (3, 218), (3, 219), (3, 220), (3, 221), (3, 222), (3, 223), (3, 224)]) rfl hP rfl 2 (by decide) (hts _ (wg_t kw_1381)) (fun _ h9 => h9) (cd := (3, 185)) rfl dME_expand_68 (fun v26 hv26 => ?_)
          obtain ⟨r26, rfl, kr26⟩ := (show ∃ r : Nat, v26 = .ref r ∧ T r = some 185 from hv26)
          refine lv_iconst (v := nI 4) hx hb dME_expand_71 (by decide) ?_
          refine lv_iload hx hb dME_expand_72 (lv_at hl 1 rfl) ?_
          refine mi_imul hx hb dME_expand_74 ?_
          refine lv_iload hx hb dME_expand_75 (lv_at hl 0 rfl) ?_
          refine mi_iadd hx hb dME_expand_77 ?_
          refine nw_aald3 hx hb hK hO kr26 (k := 185) (b := 186) rfl hP (by omega) (by omega) dME_expand_78 (fun r27 kr27 => ?_)
          have hn21 : nsp (186 + ((4 * i21) + i22)) = (0, 256, []) := rows_ok 186 16 (by decide) _ (by omega)
          refine mp_v (cx := []) (wr := []) hP hD hS hA [] [] rfl rfl rfl (by decide) (va_runV (As := [.ref r27]) (rest := []) F (N_ME_draw l g _ T s27 pl hO hU h0 r27 (186 + ((4 * i21) + i22)) x33 x34 k_h0 kr27 hn21 hx_33 hx_34 (by omega) (by omega) hE.1) (cwV 1 hts (wg_app (wg_c kw_1649 (wg_c kw_1651 (wg_c ks_55 (wg_c kw_11 wg_n)))) kw_1652) rfl rfl rfl (by decide +kernel) ⟨by decide, by decide⟩) (pn_W "LatticeKeysModel$Secrets" (en_ok g) (ci := 11) (kn := 184) (fl := [(3, 172), (3, 178), (3, 185), (3, 202), (3, 207), (3, 212), (3, 217), (3, 218), (3, 219), (3, 220), (3, 221), (3, 222), (3, 223), (3, 224)]) hK hO k_h0 rfl hP hD hS hA hEn [] rfl rfl rfl) rfl rfl hl.1 rfl (lv_room (Nat.le_of_ble_eq_true rfl)) dME_expand_79 ⟨by omega, by omega⟩) (fun  u26 H locs hu26 hP hD hS => ?_)
          obtain ⟨s28, pl⟩ := u26
          obtain ⟨⟨eq26, hFc26, ⟨x36, hx_36, hb_36⟩, ⟨x37, hx_37, hb_37⟩, -⟩, hO⟩ := hu26
          have hO : okn g T s28 pl := hO
          have hP : va_P g.1 vcl ([] ++ pl) _ := hP
          have hD : va_D _ ([] ++ pl) := hD
          have hFc26 : frm (M_ME_draw (186 + ((4 * i21) + i22))) s27 s28 := hFc26
          have hb_36 : x36 ≤ 168 := hb_36
          have hb_37 : x37 = x34 := hb_37
          replace hE := hE.2
          replace hR := bnd_step hR eq26
          replace hE := bndP_step hE eq26
          have hF := frm_tr hF hFc26 (fun k hk => by unfold M_ME_draw at hk; unfold M_ME_expand_4; omega)
          refine W.widen (k := 0) (n := 0) (by omega) (by omega) ?_
          refine mi_iinc (k := 0) (x := i22) (d := 1) (y := i22 + 1) (lv' := [(5, .int (nI (i22 + 1))), (4, .int (nI i21)), (0, .ref h0), (1, .ref b), (2, .int (nI at_)), (3, .int (nI 4))]) hx hb dME_expand_82 hl rfl (by decide) rfl (by decide) rfl (fun ls hl => ?_)
          refine lv_goto (tgt := 12) hx hb dME_expand_85 (by decide) ?_
          exact ih22 (i22 + 1) s28 pl ls H locs (by omega) hF hE hR (lv_sub hl [0, 1, 2, 3, 4, 5] rfl) hO hP hD hS
      exact lp22 4 0 s21 pl ls _ _ (by omega) hF hE hR (lv_sub hl [0, 1, 2, 3, 4, 5] rfl) hO hP hD hS
  exact lp21 4 0 s pl ls _ _ (by omega) hF hE hR (lv_sub hl [0, 1, 2, 3, 4] rfl) hO hP hD hS
