set_option linter.all false
abbrev c_BT_pack : ByteArray := prog_2_method_2_code
abbrev y_BT_pack : MethodName := ⟨"LatticeKeys$Bits", "pack", "([II[BI)V"⟩
abbrev w_BT_pack : List Cond := Cond.code y_BT_pack c_BT_pack 8 none :: WG
theorem dBT_pack_0 : decode c_BT_pack 0 = .ok (.iconst 0, 1) := by decide +kernel
theorem dBT_pack_1 : decode c_BT_pack 1 = .ok (.istore 4, 2) := by decide +kernel
theorem dBT_pack_3 : decode c_BT_pack 3 = .ok (.iconst 0, 1) := by decide +kernel
theorem dBT_pack_4 : decode c_BT_pack 4 = .ok (.istore 5, 2) := by decide +kernel
theorem dBT_pack_6 : decode c_BT_pack 6 = .ok (.iload_n 3, 1) := by decide +kernel
theorem dBT_pack_7 : decode c_BT_pack 7 = .ok (.istore 6, 2) := by decide +kernel
theorem dBT_pack_9 : decode c_BT_pack 9 = .ok (.iconst 0, 1) := by decide +kernel
theorem dBT_pack_10 : decode c_BT_pack 10 = .ok (.istore 7, 2) := by decide +kernel
theorem dBT_pack_12 : decode c_BT_pack 12 = .ok (.iload 7, 2) := by decide +kernel
theorem dBT_pack_14 : decode c_BT_pack 14 = .ok (.sipush 256, 3) := by decide +kernel
theorem dBT_pack_17 : decode c_BT_pack 17 = .ok (.if_icmp .ge 57, 3) := by decide +kernel
theorem dBT_pack_20 : decode c_BT_pack 20 = .ok (.iload 4, 2) := by decide +kernel
theorem dBT_pack_22 : decode c_BT_pack 22 = .ok (.aload_n 0, 1) := by decide +kernel
theorem dBT_pack_23 : decode c_BT_pack 23 = .ok (.iload 7, 2) := by decide +kernel
theorem dBT_pack_25 : decode c_BT_pack 25 = .ok (.iaload, 1) := by decide +kernel
theorem dBT_pack_26 : decode c_BT_pack 26 = .ok (.iload 5, 2) := by decide +kernel
theorem dBT_pack_28 : decode c_BT_pack 28 = .ok (.ishl, 1) := by decide +kernel
theorem dBT_pack_29 : decode c_BT_pack 29 = .ok (.ior, 1) := by decide +kernel
theorem dBT_pack_30 : decode c_BT_pack 30 = .ok (.istore 4, 2) := by decide +kernel
theorem dBT_pack_32 : decode c_BT_pack 32 = .ok (.iload 5, 2) := by decide +kernel
theorem dBT_pack_34 : decode c_BT_pack 34 = .ok (.iload_n 1, 1) := by decide +kernel
theorem dBT_pack_35 : decode c_BT_pack 35 = .ok (.iadd, 1) := by decide +kernel
theorem dBT_pack_36 : decode c_BT_pack 36 = .ok (.istore 5, 2) := by decide +kernel
theorem dBT_pack_38 : decode c_BT_pack 38 = .ok (.iload 5, 2) := by decide +kernel
theorem dBT_pack_40 : decode c_BT_pack 40 = .ok (.bipush 8, 2) := by decide +kernel
theorem dBT_pack_42 : decode c_BT_pack 42 = .ok (.if_icmp .lt 26, 3) := by decide +kernel
theorem dBT_pack_45 : decode c_BT_pack 45 = .ok (.aload_n 2, 1) := by decide +kernel
theorem dBT_pack_46 : decode c_BT_pack 46 = .ok (.iload 6, 2) := by decide +kernel
theorem dBT_pack_48 : decode c_BT_pack 48 = .ok (.iload 4, 2) := by decide +kernel
theorem dBT_pack_50 : decode c_BT_pack 50 = .ok (.i2b, 1) := by decide +kernel
theorem dBT_pack_51 : decode c_BT_pack 51 = .ok (.bastore, 1) := by decide +kernel
theorem dBT_pack_52 : decode c_BT_pack 52 = .ok (.iinc 6 1, 3) := by decide +kernel
theorem dBT_pack_55 : decode c_BT_pack 55 = .ok (.iload 4, 2) := by decide +kernel
theorem dBT_pack_57 : decode c_BT_pack 57 = .ok (.bipush 8, 2) := by decide +kernel
theorem dBT_pack_59 : decode c_BT_pack 59 = .ok (.iushr, 1) := by decide +kernel
theorem dBT_pack_60 : decode c_BT_pack 60 = .ok (.istore 4, 2) := by decide +kernel
theorem dBT_pack_62 : decode c_BT_pack 62 = .ok (.iinc 5 (-8), 3) := by decide +kernel
theorem dBT_pack_65 : decode c_BT_pack 65 = .ok (.goto (-27), 3) := by decide +kernel
theorem dBT_pack_68 : decode c_BT_pack 68 = .ok (.iinc 7 1, 3) := by decide +kernel
theorem dBT_pack_71 : decode c_BT_pack 71 = .ok (.goto (-59), 3) := by decide +kernel
theorem dBT_pack_74 : decode c_BT_pack 74 = .ok (.return_, 1) := by decide +kernel
abbrev c_BT_unpack : ByteArray := prog_2_method_3_code
abbrev y_BT_unpack : MethodName := ⟨"LatticeKeys$Bits", "unpack", "([II[BI)V"⟩
abbrev w_BT_unpack : List Cond := Cond.code y_BT_unpack c_BT_unpack 9 none :: WG
theorem dBT_unpack_0 : decode c_BT_unpack 0 = .ok (.iconst 0, 1) := by decide +kernel
theorem dBT_unpack_1 : decode c_BT_unpack 1 = .ok (.istore 4, 2) := by decide +kernel
theorem dBT_unpack_3 : decode c_BT_unpack 3 = .ok (.iconst 0, 1) := by decide +kernel
theorem dBT_unpack_4 : decode c_BT_unpack 4 = .ok (.istore 5, 2) := by decide +kernel
theorem dBT_unpack_6 : decode c_BT_unpack 6 = .ok (.iload_n 3, 1) := by decide +kernel
theorem dBT_unpack_7 : decode c_BT_unpack 7 = .ok (.istore 6, 2) := by decide +kernel
theorem dBT_unpack_9 : decode c_BT_unpack 9 = .ok (.iconst 1, 1) := by decide +kernel
theorem dBT_unpack_10 : decode c_BT_unpack 10 = .ok (.iload_n 1, 1) := by decide +kernel
theorem dBT_unpack_11 : decode c_BT_unpack 11 = .ok (.ishl, 1) := by decide +kernel
theorem dBT_unpack_12 : decode c_BT_unpack 12 = .ok (.iconst 1, 1) := by decide +kernel
theorem dBT_unpack_13 : decode c_BT_unpack 13 = .ok (.isub, 1) := by decide +kernel
theorem dBT_unpack_14 : decode c_BT_unpack 14 = .ok (.istore 7, 2) := by decide +kernel
theorem dBT_unpack_16 : decode c_BT_unpack 16 = .ok (.iconst 0, 1) := by decide +kernel
theorem dBT_unpack_17 : decode c_BT_unpack 17 = .ok (.istore 8, 2) := by decide +kernel
theorem dBT_unpack_19 : decode c_BT_unpack 19 = .ok (.iload 8, 2) := by decide +kernel
theorem dBT_unpack_21 : decode c_BT_unpack 21 = .ok (.sipush 256, 3) := by decide +kernel
theorem dBT_unpack_24 : decode c_BT_unpack 24 = .ok (.if_icmp .ge 61, 3) := by decide +kernel
theorem dBT_unpack_27 : decode c_BT_unpack 27 = .ok (.iload 5, 2) := by decide +kernel
theorem dBT_unpack_29 : decode c_BT_unpack 29 = .ok (.iload_n 1, 1) := by decide +kernel
theorem dBT_unpack_30 : decode c_BT_unpack 30 = .ok (.if_icmp .ge 28, 3) := by decide +kernel
theorem dBT_unpack_33 : decode c_BT_unpack 33 = .ok (.iload 4, 2) := by decide +kernel
theorem dBT_unpack_35 : decode c_BT_unpack 35 = .ok (.aload_n 2, 1) := by decide +kernel
theorem dBT_unpack_36 : decode c_BT_unpack 36 = .ok (.iload 6, 2) := by decide +kernel
theorem dBT_unpack_38 : decode c_BT_unpack 38 = .ok (.baload, 1) := by decide +kernel
theorem dBT_unpack_39 : decode c_BT_unpack 39 = .ok (.sipush 255, 3) := by decide +kernel
theorem dBT_unpack_42 : decode c_BT_unpack 42 = .ok (.iand, 1) := by decide +kernel
theorem dBT_unpack_43 : decode c_BT_unpack 43 = .ok (.iload 5, 2) := by decide +kernel
theorem dBT_unpack_45 : decode c_BT_unpack 45 = .ok (.ishl, 1) := by decide +kernel
theorem dBT_unpack_46 : decode c_BT_unpack 46 = .ok (.ior, 1) := by decide +kernel
theorem dBT_unpack_47 : decode c_BT_unpack 47 = .ok (.istore 4, 2) := by decide +kernel
theorem dBT_unpack_49 : decode c_BT_unpack 49 = .ok (.iinc 6 1, 3) := by decide +kernel
theorem dBT_unpack_52 : decode c_BT_unpack 52 = .ok (.iinc 5 8, 3) := by decide +kernel
theorem dBT_unpack_55 : decode c_BT_unpack 55 = .ok (.goto (-28), 3) := by decide +kernel
theorem dBT_unpack_58 : decode c_BT_unpack 58 = .ok (.aload_n 0, 1) := by decide +kernel
theorem dBT_unpack_59 : decode c_BT_unpack 59 = .ok (.iload 8, 2) := by decide +kernel
theorem dBT_unpack_61 : decode c_BT_unpack 61 = .ok (.iload 4, 2) := by decide +kernel
theorem dBT_unpack_63 : decode c_BT_unpack 63 = .ok (.iload 7, 2) := by decide +kernel
theorem dBT_unpack_65 : decode c_BT_unpack 65 = .ok (.iand, 1) := by decide +kernel
theorem dBT_unpack_66 : decode c_BT_unpack 66 = .ok (.iastore, 1) := by decide +kernel
theorem dBT_unpack_67 : decode c_BT_unpack 67 = .ok (.iload 4, 2) := by decide +kernel
theorem dBT_unpack_69 : decode c_BT_unpack 69 = .ok (.iload_n 1, 1) := by decide +kernel
theorem dBT_unpack_70 : decode c_BT_unpack 70 = .ok (.iushr, 1) := by decide +kernel
theorem dBT_unpack_71 : decode c_BT_unpack 71 = .ok (.istore 4, 2) := by decide +kernel
theorem dBT_unpack_73 : decode c_BT_unpack 73 = .ok (.iload 5, 2) := by decide +kernel
theorem dBT_unpack_75 : decode c_BT_unpack 75 = .ok (.iload_n 1, 1) := by decide +kernel
theorem dBT_unpack_76 : decode c_BT_unpack 76 = .ok (.isub, 1) := by decide +kernel
theorem dBT_unpack_77 : decode c_BT_unpack 77 = .ok (.istore 5, 2) := by decide +kernel
theorem dBT_unpack_79 : decode c_BT_unpack 79 = .ok (.iinc 8 1, 3) := by decide +kernel
theorem dBT_unpack_82 : decode c_BT_unpack 82 = .ok (.goto (-63), 3) := by decide +kernel
theorem dBT_unpack_85 : decode c_BT_unpack 85 = .ok (.return_, 1) := by decide +kernel
def M_BT_pack (pt : Nat) (k : Nat) : Prop := k = pt ∨ (0 : Nat) = 1
noncomputable def F_BT_pack_L1 (pt : Nat) (i21 : Nat) (kk : Nat → Nat → Nat → Int32 → Sto → Sto) : Nat → Nat → Int32 → Nat → Sto → Sto
  | 0, cn22, z23, pz22, s22 => kk (i21 + 1) pz22 cn22 z23 s22
  | n22 + 1, cn22, z23, pz22, s22 => bnd (sB s22 pt pz22 (z23.toInt8.toInt32)) fun s23 => bnd (((z23).toUInt32 >>> ((nI 8).toUInt32 &&& Int32.toUInt32 31)).toInt32) fun z24 => F_BT_pack_L1 pt i21 kk n22 (cn22 - 8) z24 (pz22 + 1) s23
noncomputable def F_BT_pack_L0 (pf : Nat) (b : Nat) (pt : Nat) : Nat → Nat → Nat → Nat → Int32 → Sto → Sto
  | 0, i21, pz21, cn21, z21, s21 => s21
  | n21 + 1, i21, pz21, cn21, z21, s21 => bnd ((z21 ||| ((s21.1 pf i21) <<< ((nI cn21) &&& 31)))) fun z22 => F_BT_pack_L1 pt i21 (F_BT_pack_L0 pf b pt n21) ((cn21 + b) / 8) (cn21 + b) z22 pz21 s21
noncomputable def F_BT_pack (pf : Nat) (b : Nat) (pt : Nat) (n : Nat) (at_ : Nat) (s : Sto) : Sto := F_BT_pack_L0 pf b pt 256 0 at_ 0 (nI 0) s
set_option maxHeartbeats 400000 in
set_option maxRecDepth 100000 in
theorem N_BT_pack (l : Launch) (g : Gd) (sz : Nat) (T : TyN) (s : Sto) (pl : va_W) (hO : okn g T s pl) (hU : inj T) (f to : Nat) (pf : Nat) (b : Nat) (pt : Nat) (n : Nat) (at_ : Nat) (k_f : T f = some pf) (n_f : nsp pf = (0, 256, [])) (k_to : T to = some pt) (n_to : nsp pt = (1, n, [])) (h1 : at_ + 32 * b ≤ n) (h2 : n < 65536) (h3 : b < 32)  : Met l y_BT_pack w_BT_pack ({ frames := 0, cells := 0, slots := 0, locals := 0 } : Room) (va_Pc [.ref f, .int (nI b), .ref to, .int (nI at_)] (pr (en g) g.1 vcl sz ([] ++ pl))) (va_Qv (fun (u : (Sto) × va_W) => (u.1 = F_BT_pack pf b pt n at_ s ∧ frm (M_BT_pack pt) s u.1 ∧ True) ∧ okn g T u.1 u.2) (po g.1 vcl (va_A ([] ++ pl) sz) (fun (u : (Sto) × va_W) => [] ++ u.2)) (va_A ([] ++ pl) sz)) 0 0 (va_A ([] ++ pl) sz) := by
  refine mc_entry (cc := c_BT_pack) (maxL := 8) (ret := none) (by decide) rfl (Nat.le_of_ble_eq_true rfl) ?_
  intro p e s0 m args below meth c ls F hr hlk hnm hsz hP hD hE hA hl
  obtain ⟨hx, hb, hml, hown, hts⟩ := id F
  have hK := hE.1
  generalize va_A ([] ++ pl) sz = A at hD hE hA ⊢
  have hS : va_S A s0.heap s0.heap [] := va_S.rf
  have hl : lv_has ls 8 [(0, .ref f), (1, .int (nI b)), (2, .ref to), (3, .int (nI at_))] := hl
  have hR : F_BT_pack pf b pt n at_ s = F_BT_pack pf b pt n at_ s := rfl
  have hF : frm (M_BT_pack pt) s s := frm_rf
  refine lv_iconst (v := nI 0) hx hb dBT_pack_0 (by decide) ?_
  refine lv_istore (lv' := [(4, .int (nI 0)), (0, .ref f), (1, .int (nI b)), (2, .ref to), (3, .int (nI at_))]) hx hb dBT_pack_1 hl (by decide) rfl (fun ls hl => ?_)
  refine lv_iconst (v := nI 0) hx hb dBT_pack_3 (by decide) ?_
  refine lv_istore (lv' := [(5, .int (nI 0)), (4, .int (nI 0)), (0, .ref f), (1, .int (nI b)), (2, .ref to), (3, .int (nI at_))]) hx hb dBT_pack_4 hl (by decide) rfl (fun ls hl => ?_)
  refine lv_iload_n hx hb dBT_pack_6 rfl (lv_at hl 5 rfl) ?_
  refine lv_istore (lv' := [(6, .int (nI at_)), (5, .int (nI 0)), (4, .int (nI 0)), (0, .ref f), (1, .int (nI b)), (2, .ref to), (3, .int (nI at_))]) hx hb dBT_pack_7 hl (by decide) rfl (fun ls hl => ?_)
  refine lv_iconst (v := nI 0) hx hb dBT_pack_9 (by decide) ?_
  refine lv_istore (lv' := [(7, .int (nI 0)), (6, .int (nI at_)), (5, .int (nI 0)), (4, .int (nI 0)), (0, .ref f), (1, .int (nI b)), (2, .ref to), (3, .int (nI at_))]) hx hb dBT_pack_10 hl (by decide) rfl (fun ls hl => ?_)
  have lp21 : ∀ (n21 : Nat) (i21 : Nat) (pz21 : Nat) (cn21 : Nat) (z21 : Int32) (s21 : Sto) (pl : va_W) (ls : Array Slot) (H : Heap) (locs : List Loc), n21 + i21 = 256 → (8 * pz21 + cn21 = 8 * at_ + b * i21) → (cn21 < 8) → frm (M_BT_pack pt) s s21 → F_BT_pack pf b pt n at_ s = F_BT_pack_L0 pf b pt n21 i21 pz21 cn21 z21 s21 → lv_has ls 8 [(7, .int (nI i21)), (6, .int (nI pz21)), (5, .int (nI cn21)), (4, .int z21), (0, .ref f), (1, .int (nI b)), (2, .ref to)] → okn g T s21 pl → va_P g.1 vcl ([] ++ pl) H → va_D A ([] ++ pl) → va_S A s0.heap H locs → W p l e ({ frames := 0, cells := 0, slots := 0, locals := 0 } : Room) s0 m args below meth c H locs 0 0 (MQ below (va_Qv (fun (u : (Sto) × va_W) => (u.1 = F_BT_pack pf b pt n at_ s ∧ frm (M_BT_pack pt) s u.1 ∧ True) ∧ okn g T u.1 u.2) (po g.1 vcl A (fun (u : (Sto) × va_W) => [] ++ u.2)) A) args s0 0 0 A) (F0 m 12 ls []) := by
    intro n21
    induction n21 with
    | zero =>
      intro i21 pz21 cn21 z21 s21 pl ls H locs hm21 hi21 hi22 hF hR hl hO hP hD hS
      refine lv_iload hx hb dBT_pack_12 (lv_at hl 0 rfl) ?_
      refine lv_sipush (v := nI 256) hx hb dBT_pack_14 (by decide) ?_
      refine mi_ge (tgt := 74) hx hb dBT_pack_17 (by decide) (by omega) (by omega) (fun h21 => ?_) (fun h21 => absurd h21 (by omega))
      exact mp_vret hx hb hr hlk hP hD hS (s21, pl) ⟨⟨hR.symm, hF, trivial⟩, hO⟩ [] rfl rfl rfl (by omega) (by omega) dBT_pack_74
    | succ n21 ih21 =>
      intro i21 pz21 cn21 z21 s21 pl ls H locs hm21 hi21 hi22 hF hR hl hO hP hD hS
      have hb1 : b * (i21 + 1) = b * i21 + b := Nat.mul_succ b i21
      have hb2 : b * (i21 + 1) ≤ b * 256 := Nat.mul_le_mul_left b (by omega)
      refine lv_iload hx hb dBT_pack_12 (lv_at hl 0 rfl) ?_
      refine lv_sipush (v := nI 256) hx hb dBT_pack_14 (by decide) ?_
      refine mi_ge (tgt := 74) hx hb dBT_pack_17 (by decide) (by omega) (by omega) (fun h22 => absurd h22 (by omega)) (fun h22 => ?_)
      refine lv_iload hx hb dBT_pack_20 (lv_at hl 3 rfl) ?_
      refine lv_aload_n hx hb dBT_pack_22 rfl (lv_at hl 4 rfl) ?_
      refine lv_iload hx hb dBT_pack_23 (lv_at hl 0 rfl) ?_
      refine nw_iald hx hb hK hO k_f (k := pf) n_f hP (by omega) (by omega) dBT_pack_25 ?_
      refine lv_iload hx hb dBT_pack_26 (lv_at hl 2 rfl) ?_
      refine lv_ishl hx hb dBT_pack_28 ?_
      refine lv_ior hx hb dBT_pack_29 ?_
      refine mi_eqv (fun z22 ez21 => ?_)
      replace hR := bnd_step hR ez21
      refine lv_istore (lv' := [(4, .int z22), (7, .int (nI i21)), (6, .int (nI pz21)), (5, .int (nI cn21)), (0, .ref f), (1, .int (nI b)), (2, .ref to)]) hx hb dBT_pack_30 hl (by decide) rfl (fun ls hl => ?_)
      refine lv_iload hx hb dBT_pack_32 (lv_at hl 3 rfl) ?_
      refine lv_iload_n hx hb dBT_pack_34 rfl (lv_at hl 5 rfl) ?_
      refine mi_iadd hx hb dBT_pack_35 ?_
      refine lv_istore (lv' := [(5, .int (nI (cn21 + b))), (4, .int z22), (7, .int (nI i21)), (6, .int (nI pz21)), (0, .ref f), (1, .int (nI b)), (2, .ref to)]) hx hb dBT_pack_36 hl (by decide) rfl (fun ls hl => ?_)
      have lp22 : ∀ (n22 : Nat) (cn22 : Nat) (z23 : Int32) (pz22 : Nat) (s22 : Sto) (pl : va_W) (ls : Array Slot) (H : Heap) (locs : List Loc), cn22 / 8 = n22 → (8 * pz22 + cn22 = 8 * at_ + b * (i21 + 1)) → frm (M_BT_pack pt) s s22 → F_BT_pack pf b pt n at_ s = F_BT_pack_L1 pt i21 (F_BT_pack_L0 pf b pt n21) n22 cn22 z23 pz22 s22 → lv_has ls 8 [(5, .int (nI cn22)), (4, .int z23), (7, .int (nI i21)), (6, .int (nI pz22)), (0, .ref f), (1, .int (nI b)), (2, .ref to)] → okn g T s22 pl → va_P g.1 vcl ([] ++ pl) H → va_D A ([] ++ pl) → va_S A s0.heap H locs → W p l e ({ frames := 0, cells := 0, slots := 0, locals := 0 } : Room) s0 m args below meth c H locs 0 0 (MQ below (va_Qv (fun (u : (Sto) × va_W) => (u.1 = F_BT_pack pf b pt n at_ s ∧ frm (M_BT_pack pt) s u.1 ∧ True) ∧ okn g T u.1 u.2) (po g.1 vcl A (fun (u : (Sto) × va_W) => [] ++ u.2)) A) args s0 0 0 A) (F0 m 38 ls []) := by
        intro n22
        induction n22 with
        | zero =>
          intro cn22 z23 pz22 s22 pl ls H locs hm22 hi23 hF hR hl hO hP hD hS
          refine lv_iload hx hb dBT_pack_38 (lv_at hl 0 rfl) ?_
          refine lv_bipush (v := nI 8) hx hb dBT_pack_40 (by decide) ?_
          refine mi_lt (tgt := 68) hx hb dBT_pack_42 (by decide) (by omega) (by omega) (fun h23 => ?_) (fun h23 => absurd h23 (by omega))
          refine mi_iinc (k := 2) (x := i21) (d := 1) (y := i21 + 1) (lv' := [(7, .int (nI (i21 + 1))), (5, .int (nI cn22)), (4, .int z23), (6, .int (nI pz22)), (0, .ref f), (1, .int (nI b)), (2, .ref to)]) hx hb dBT_pack_68 hl rfl (by decide) rfl (by decide) rfl (fun ls hl => ?_)
          refine lv_goto (tgt := 12) hx hb dBT_pack_71 (by decide) ?_
          exact ih21 (i21 + 1) pz22 cn22 z23 s22 pl ls H locs (by omega) (by omega) (by omega) hF hR (lv_sub hl [0, 3, 1, 2, 4, 5, 6] rfl) hO hP hD hS
        | succ n22 ih22 =>
          intro cn22 z23 pz22 s22 pl ls H locs hm22 hi23 hF hR hl hO hP hD hS
          refine lv_iload hx hb dBT_pack_38 (lv_at hl 0 rfl) ?_
          refine lv_bipush (v := nI 8) hx hb dBT_pack_40 (by decide) ?_
          refine mi_lt (tgt := 68) hx hb dBT_pack_42 (by decide) (by omega) (by omega) (fun h24 => absurd h24 (by omega)) (fun h24 => ?_)
          refine lv_aload_n hx hb dBT_pack_45 rfl (lv_at hl 6 rfl) ?_
          refine lv_iload hx hb dBT_pack_46 (lv_at hl 3 rfl) ?_
          refine lv_iload hx hb dBT_pack_48 (lv_at hl 1 rfl) ?_
          refine lv_i2b hx hb dBT_pack_50 rfl ?_
          refine nw_bast hx hb hK hO hU k_to (k := pt) n_to hP hD hS (by omega) (by omega) dBT_pack_51 (fun s23 pl H locs es21 hO hP hD hS => ?_)
          replace hR := bnd_step hR es21
          have hF := frm_sB hF es21 (by unfold M_BT_pack; omega)
          refine mi_iinc (k := 3) (x := pz22) (d := 1) (y := pz22 + 1) (lv' := [(6, .int (nI (pz22 + 1))), (5, .int (nI cn22)), (4, .int z23), (7, .int (nI i21)), (0, .ref f), (1, .int (nI b)), (2, .ref to)]) hx hb dBT_pack_52 hl rfl (by decide) rfl (by decide) rfl (fun ls hl => ?_)
          refine lv_iload hx hb dBT_pack_55 (lv_at hl 2 rfl) ?_
          refine lv_bipush (v := nI 8) hx hb dBT_pack_57 (by decide) ?_
          refine lv_iushr hx hb dBT_pack_59 rfl ?_
          refine mi_eqv (fun z24 ez22 => ?_)
          replace hR := bnd_step hR ez22
          refine lv_istore (lv' := [(4, .int z24), (6, .int (nI (pz22 + 1))), (5, .int (nI cn22)), (7, .int (nI i21)), (0, .ref f), (1, .int (nI b)), (2, .ref to)]) hx hb dBT_pack_60 hl (by decide) rfl (fun ls hl => ?_)
          refine mi_iincN (k := 2) (x := cn22) (d := 8) (y := cn22 - 8) (lv' := [(5, .int (nI (cn22 - 8))), (4, .int z24), (6, .int (nI (pz22 + 1))), (7, .int (nI i21)), (0, .ref f), (1, .int (nI b)), (2, .ref to)]) hx hb dBT_pack_62 hl rfl (by decide) (by omega) (by decide) rfl (fun ls hl => ?_)
          refine lv_goto (tgt := 38) hx hb dBT_pack_65 (by decide) ?_
          exact ih22 (cn22 - 8) z24 (pz22 + 1) s23 pl ls H locs (by omega) (by omega) hF hR (lv_sub hl [0, 1, 3, 2, 4, 5, 6] rfl) hO hP hD hS
      exact lp22 ((cn21 + b) / 8) (cn21 + b) z22 pz21 s21 pl ls _ _ (by omega) (by omega) hF hR (lv_sub hl [0, 1, 2, 3, 4, 5, 6] rfl) hO hP hD hS
  exact lp21 256 0 at_ 0 (nI 0) s pl ls _ _ (by omega) (by omega) (by omega) hF hR (lv_sub hl [0, 1, 2, 3, 4, 5, 6] rfl) hO hP hD hS
def M_BT_unpack (pf : Nat) (k : Nat) : Prop := k = pf ∨ (0 : Nat) = 1
noncomputable def F_BT_unpack_L1 (pf : Nat) (b : Nat) (pr_ : Nat) (z21 : Int32) (i21 : Nat) (kk : Nat → Nat → Nat → Int32 → Sto → Sto) : Nat → Nat → Nat → Int32 → Sto → Sto
  | 0, pz22, cn22, z23, s22 => bnd (sI s22 pf i21 (z23 &&& z21)) fun s23 => bnd (((z23).toUInt32 >>> ((nI b).toUInt32 &&& Int32.toUInt32 31)).toInt32) fun z24 => kk (i21 + 1) pz22 (cn22 - b) z24 s23
  | n22 + 1, pz22, cn22, z23, s22 => bnd ((z23 ||| (((s22.1 pr_ pz22) &&& (nI 255)) <<< ((nI cn22) &&& 31)))) fun z25 => F_BT_unpack_L1 pf b pr_ z21 i21 kk n22 (pz22 + 1) (cn22 + 8) z25 s22
noncomputable def F_BT_unpack_L0 (pf : Nat) (b : Nat) (pr_ : Nat) (z21 : Int32) : Nat → Nat → Nat → Nat → Int32 → Sto → Sto
  | 0, i21, pz21, cn21, z22, s21 => s21
  | n21 + 1, i21, pz21, cn21, z22, s21 => F_BT_unpack_L1 pf b pr_ z21 i21 (F_BT_unpack_L0 pf b pr_ z21 n21) ((b + 7 - cn21) / 8) pz21 cn21 z22 s21
noncomputable def F_BT_unpack (pf : Nat) (b : Nat) (pr_ : Nat) (n : Nat) (at_ : Nat) (s : Sto) : Sto := bnd ((((nI 1) <<< ((nI b) &&& 31)) - (nI 1))) fun z21 => F_BT_unpack_L0 pf b pr_ z21 256 0 at_ 0 (nI 0) s
set_option maxHeartbeats 400000 in
set_option maxRecDepth 100000 in
theorem N_BT_unpack (l : Launch) (g : Gd) (sz : Nat) (T : TyN) (s : Sto) (pl : va_W) (hO : okn g T s pl) (hU : inj T) (f fr : Nat) (pf : Nat) (b : Nat) (pr_ : Nat) (n : Nat) (at_ : Nat) (k_f : T f = some pf) (n_f : nsp pf = (0, 256, [])) (k_fr : T fr = some pr_) (n_fr : nsp pr_ = (1, n, [])) (h1 : at_ + 32 * b ≤ n) (h2 : n < 65536) (h3 : b < 32)  : Met l y_BT_unpack w_BT_unpack ({ frames := 0, cells := 0, slots := 0, locals := 0 } : Room) (va_Pc [.ref f, .int (nI b), .ref fr, .int (nI at_)] (pr (en g) g.1 vcl sz ([] ++ pl))) (va_Qv (fun (u : (Sto) × va_W) => (u.1 = F_BT_unpack pf b pr_ n at_ s ∧ frm (M_BT_unpack pf) s u.1 ∧ True) ∧ okn g T u.1 u.2) (po g.1 vcl (va_A ([] ++ pl) sz) (fun (u : (Sto) × va_W) => [] ++ u.2)) (va_A ([] ++ pl) sz)) 0 0 (va_A ([] ++ pl) sz) := by
  refine mc_entry (cc := c_BT_unpack) (maxL := 9) (ret := none) (by decide) rfl (Nat.le_of_ble_eq_true rfl) ?_
  intro p e s0 m args below meth c ls F hr hlk hnm hsz hP hD hE hA hl
  obtain ⟨hx, hb, hml, hown, hts⟩ := id F
  have hK := hE.1
  generalize va_A ([] ++ pl) sz = A at hD hE hA ⊢
  have hS : va_S A s0.heap s0.heap [] := va_S.rf
  have hl : lv_has ls 9 [(0, .ref f), (1, .int (nI b)), (2, .ref fr), (3, .int (nI at_))] := hl
  have hR : F_BT_unpack pf b pr_ n at_ s = F_BT_unpack pf b pr_ n at_ s := rfl
  have hF : frm (M_BT_unpack pf) s s := frm_rf
  refine lv_iconst (v := nI 0) hx hb dBT_unpack_0 (by decide) ?_
  refine lv_istore (lv' := [(4, .int (nI 0)), (0, .ref f), (1, .int (nI b)), (2, .ref fr), (3, .int (nI at_))]) hx hb dBT_unpack_1 hl (by decide) rfl (fun ls hl => ?_)
  refine lv_iconst (v := nI 0) hx hb dBT_unpack_3 (by decide) ?_
  refine lv_istore (lv' := [(5, .int (nI 0)), (4, .int (nI 0)), (0, .ref f), (1, .int (nI b)), (2, .ref fr), (3, .int (nI at_))]) hx hb dBT_unpack_4 hl (by decide) rfl (fun ls hl => ?_)
  refine lv_iload_n hx hb dBT_unpack_6 rfl (lv_at hl 5 rfl) ?_
  refine lv_istore (lv' := [(6, .int (nI at_)), (5, .int (nI 0)), (4, .int (nI 0)), (0, .ref f), (1, .int (nI b)), (2, .ref fr), (3, .int (nI at_))]) hx hb dBT_unpack_7 hl (by decide) rfl (fun ls hl => ?_)
  refine lv_iconst (v := nI 1) hx hb dBT_unpack_9 (by decide) ?_
  refine lv_iload_n hx hb dBT_unpack_10 rfl (lv_at hl 4 rfl) ?_
  refine lv_ishl hx hb dBT_unpack_11 ?_
  refine lv_iconst (v := nI 1) hx hb dBT_unpack_12 (by decide) ?_
  refine lv_isub hx hb dBT_unpack_13 ?_
  refine mi_eqv (fun z21 ez21 => ?_)
  replace hR := bnd_step hR ez21
  refine lv_istore (lv' := [(7, .int z21), (6, .int (nI at_)), (5, .int (nI 0)), (4, .int (nI 0)), (0, .ref f), (1, .int (nI b)), (2, .ref fr), (3, .int (nI at_))]) hx hb dBT_unpack_14 hl (by decide) rfl (fun ls hl => ?_)
  refine lv_iconst (v := nI 0) hx hb dBT_unpack_16 (by decide) ?_
  refine lv_istore (lv' := [(8, .int (nI 0)), (7, .int z21), (6, .int (nI at_)), (5, .int (nI 0)), (4, .int (nI 0)), (0, .ref f), (1, .int (nI b)), (2, .ref fr), (3, .int (nI at_))]) hx hb dBT_unpack_17 hl (by decide) rfl (fun ls hl => ?_)
  have lp21 : ∀ (n21 : Nat) (i21 : Nat) (pz21 : Nat) (cn21 : Nat) (z22 : Int32) (s21 : Sto) (pl : va_W) (ls : Array Slot) (H : Heap) (locs : List Loc), n21 + i21 = 256 → (8 * pz21 = 8 * at_ + b * i21 + cn21) → (cn21 < 8) → frm (M_BT_unpack pf) s s21 → F_BT_unpack pf b pr_ n at_ s = F_BT_unpack_L0 pf b pr_ z21 n21 i21 pz21 cn21 z22 s21 → lv_has ls 9 [(8, .int (nI i21)), (7, .int z21), (6, .int (nI pz21)), (5, .int (nI cn21)), (4, .int z22), (0, .ref f), (1, .int (nI b)), (2, .ref fr)] → okn g T s21 pl → va_P g.1 vcl ([] ++ pl) H → va_D A ([] ++ pl) → va_S A s0.heap H locs → W p l e ({ frames := 0, cells := 0, slots := 0, locals := 0 } : Room) s0 m args below meth c H locs 0 0 (MQ below (va_Qv (fun (u : (Sto) × va_W) => (u.1 = F_BT_unpack pf b pr_ n at_ s ∧ frm (M_BT_unpack pf) s u.1 ∧ True) ∧ okn g T u.1 u.2) (po g.1 vcl A (fun (u : (Sto) × va_W) => [] ++ u.2)) A) args s0 0 0 A) (F0 m 19 ls []) := by
    intro n21
    induction n21 with
    | zero =>
      intro i21 pz21 cn21 z22 s21 pl ls H locs hm21 hi21 hi22 hF hR hl hO hP hD hS
      refine lv_iload hx hb dBT_unpack_19 (lv_at hl 0 rfl) ?_
      refine lv_sipush (v := nI 256) hx hb dBT_unpack_21 (by decide) ?_
      refine mi_ge (tgt := 85) hx hb dBT_unpack_24 (by decide) (by omega) (by omega) (fun h21 => ?_) (fun h21 => absurd h21 (by omega))
      exact mp_vret hx hb hr hlk hP hD hS (s21, pl) ⟨⟨hR.symm, hF, trivial⟩, hO⟩ [] rfl rfl rfl (by omega) (by omega) dBT_unpack_85
    | succ n21 ih21 =>
      intro i21 pz21 cn21 z22 s21 pl ls H locs hm21 hi21 hi22 hF hR hl hO hP hD hS
      have hb1 : b * (i21 + 1) = b * i21 + b := Nat.mul_succ b i21
      have hb2 : b * (i21 + 1) ≤ b * 256 := Nat.mul_le_mul_left b (by omega)
      refine lv_iload hx hb dBT_unpack_19 (lv_at hl 0 rfl) ?_
      refine lv_sipush (v := nI 256) hx hb dBT_unpack_21 (by decide) ?_
      refine mi_ge (tgt := 85) hx hb dBT_unpack_24 (by decide) (by omega) (by omega) (fun h22 => absurd h22 (by omega)) (fun h22 => ?_)
      have lp22 : ∀ (n22 : Nat) (pz22 : Nat) (cn22 : Nat) (z23 : Int32) (s22 : Sto) (pl : va_W) (ls : Array Slot) (H : Heap) (locs : List Loc), (b + 7 - cn22) / 8 = n22 → (8 * pz22 = 8 * at_ + b * i21 + cn22) → (cn22 < b + 8) → frm (M_BT_unpack pf) s s22 → F_BT_unpack pf b pr_ n at_ s = F_BT_unpack_L1 pf b pr_ z21 i21 (F_BT_unpack_L0 pf b pr_ z21 n21) n22 pz22 cn22 z23 s22 → lv_has ls 9 [(8, .int (nI i21)), (7, .int z21), (6, .int (nI pz22)), (5, .int (nI cn22)), (4, .int z23), (0, .ref f), (1, .int (nI b)), (2, .ref fr)] → okn g T s22 pl → va_P g.1 vcl ([] ++ pl) H → va_D A ([] ++ pl) → va_S A s0.heap H locs → W p l e ({ frames := 0, cells := 0, slots := 0, locals := 0 } : Room) s0 m args below meth c H locs 0 0 (MQ below (va_Qv (fun (u : (Sto) × va_W) => (u.1 = F_BT_unpack pf b pr_ n at_ s ∧ frm (M_BT_unpack pf) s u.1 ∧ True) ∧ okn g T u.1 u.2) (po g.1 vcl A (fun (u : (Sto) × va_W) => [] ++ u.2)) A) args s0 0 0 A) (F0 m 27 ls []) := by
        intro n22
        induction n22 with
        | zero =>
          intro pz22 cn22 z23 s22 pl ls H locs hm22 hi23 hi24 hF hR hl hO hP hD hS
          refine lv_iload hx hb dBT_unpack_27 (lv_at hl 3 rfl) ?_
          refine lv_iload_n hx hb dBT_unpack_29 rfl (lv_at hl 6 rfl) ?_
          refine mi_ge (tgt := 58) hx hb dBT_unpack_30 (by decide) (by omega) (by omega) (fun h23 => ?_) (fun h23 => absurd h23 (by omega))
          refine lv_aload_n hx hb dBT_unpack_58 rfl (lv_at hl 5 rfl) ?_
          refine lv_iload hx hb dBT_unpack_59 (lv_at hl 0 rfl) ?_
          refine lv_iload hx hb dBT_unpack_61 (lv_at hl 4 rfl) ?_
          refine lv_iload hx hb dBT_unpack_63 (lv_at hl 1 rfl) ?_
          refine lv_iand hx hb dBT_unpack_65 ?_
          refine nw_iast hx hb hK hO hU k_f (k := pf) n_f hP hD hS (by omega) (by omega) dBT_unpack_66 (fun s23 pl H locs es21 hO hP hD hS => ?_)
          replace hR := bnd_step hR es21
          have hF := frm_sI hF es21 (by unfold M_BT_unpack; omega)
          refine lv_iload hx hb dBT_unpack_67 (lv_at hl 4 rfl) ?_
          refine lv_iload_n hx hb dBT_unpack_69 rfl (lv_at hl 6 rfl) ?_
          refine lv_iushr hx hb dBT_unpack_70 rfl ?_
          refine mi_eqv (fun z24 ez22 => ?_)
          replace hR := bnd_step hR ez22
          refine lv_istore (lv' := [(4, .int z24), (8, .int (nI i21)), (7, .int z21), (6, .int (nI pz22)), (5, .int (nI cn22)), (0, .ref f), (1, .int (nI b)), (2, .ref fr)]) hx hb dBT_unpack_71 hl (by decide) rfl (fun ls hl => ?_)
          refine lv_iload hx hb dBT_unpack_73 (lv_at hl 4 rfl) ?_
          refine lv_iload_n hx hb dBT_unpack_75 rfl (lv_at hl 6 rfl) ?_
          refine mi_isub hx hb dBT_unpack_76 (by omega) ?_
          refine lv_istore (lv' := [(5, .int (nI (cn22 - b))), (4, .int z24), (8, .int (nI i21)), (7, .int z21), (6, .int (nI pz22)), (0, .ref f), (1, .int (nI b)), (2, .ref fr)]) hx hb dBT_unpack_77 hl (by decide) rfl (fun ls hl => ?_)
          refine mi_iinc (k := 2) (x := i21) (d := 1) (y := i21 + 1) (lv' := [(8, .int (nI (i21 + 1))), (5, .int (nI (cn22 - b))), (4, .int z24), (7, .int z21), (6, .int (nI pz22)), (0, .ref f), (1, .int (nI b)), (2, .ref fr)]) hx hb dBT_unpack_79 hl rfl (by decide) rfl (by decide) rfl (fun ls hl => ?_)
          refine lv_goto (tgt := 19) hx hb dBT_unpack_82 (by decide) ?_
          exact ih21 (i21 + 1) pz22 (cn22 - b) z24 s23 pl ls H locs (by omega) (by omega) (by omega) hF hR (lv_sub hl [0, 3, 4, 1, 2, 5, 6, 7] rfl) hO hP hD hS
        | succ n22 ih22 =>
          intro pz22 cn22 z23 s22 pl ls H locs hm22 hi23 hi24 hF hR hl hO hP hD hS
          refine lv_iload hx hb dBT_unpack_27 (lv_at hl 3 rfl) ?_
          refine lv_iload_n hx hb dBT_unpack_29 rfl (lv_at hl 6 rfl) ?_
          refine mi_ge (tgt := 58) hx hb dBT_unpack_30 (by decide) (by omega) (by omega) (fun h24 => absurd h24 (by omega)) (fun h24 => ?_)
          refine lv_iload hx hb dBT_unpack_33 (lv_at hl 4 rfl) ?_
          refine lv_aload_n hx hb dBT_unpack_35 rfl (lv_at hl 7 rfl) ?_
          refine lv_iload hx hb dBT_unpack_36 (lv_at hl 2 rfl) ?_
          refine nw_bald hx hb hK hO k_fr (k := pr_) n_fr hP (by omega) (by omega) dBT_unpack_38 ?_
          refine lv_sipush (v := nI 255) hx hb dBT_unpack_39 (by decide) ?_
          refine lv_iand hx hb dBT_unpack_42 ?_
          refine lv_iload hx hb dBT_unpack_43 (lv_at hl 3 rfl) ?_
          refine lv_ishl hx hb dBT_unpack_45 ?_
          refine lv_ior hx hb dBT_unpack_46 ?_
          refine mi_eqv (fun z25 ez23 => ?_)
          replace hR := bnd_step hR ez23
          refine lv_istore (lv' := [(4, .int z25), (8, .int (nI i21)), (7, .int z21), (6, .int (nI pz22)), (5, .int (nI cn22)), (0, .ref f), (1, .int (nI b)), (2, .ref fr)]) hx hb dBT_unpack_47 hl (by decide) rfl (fun ls hl => ?_)
          refine mi_iinc (k := 3) (x := pz22) (d := 1) (y := pz22 + 1) (lv' := [(6, .int (nI (pz22 + 1))), (4, .int z25), (8, .int (nI i21)), (7, .int z21), (5, .int (nI cn22)), (0, .ref f), (1, .int (nI b)), (2, .ref fr)]) hx hb dBT_unpack_49 hl rfl (by decide) rfl (by decide) rfl (fun ls hl => ?_)
          refine mi_iinc (k := 4) (x := cn22) (d := 8) (y := cn22 + 8) (lv' := [(5, .int (nI (cn22 + 8))), (6, .int (nI (pz22 + 1))), (4, .int z25), (8, .int (nI i21)), (7, .int z21), (0, .ref f), (1, .int (nI b)), (2, .ref fr)]) hx hb dBT_unpack_52 hl rfl (by decide) rfl (by decide) rfl (fun ls hl => ?_)
          refine lv_goto (tgt := 27) hx hb dBT_unpack_55 (by decide) ?_
          exact ih22 (pz22 + 1) (cn22 + 8) z25 s22 pl ls H locs (by omega) (by omega) (by omega) hF hR (lv_sub hl [3, 4, 1, 0, 2, 5, 6, 7] rfl) hO hP hD hS
      exact lp22 ((b + 7 - cn21) / 8) pz21 cn21 z22 s21 pl ls _ _ (by omega) (by omega) (by omega) hF hR (lv_sub hl [0, 1, 2, 3, 4, 5, 6, 7] rfl) hO hP hD hS
  exact lp21 256 0 at_ 0 (nI 0) s pl ls _ _ (by omega) (by omega) (by omega) hF hR (lv_sub hl [0, 1, 2, 3, 4, 5, 6, 7] rfl) hO hP hD hS
