set_option linter.all false
set_option maxHeartbeats 400000 in
set_option maxRecDepth 100000 in
theorem x_SP_permute (l : Launch) (g : Gd) (sz : Nat) (T : Ty) (xs : List Nat) (pl : va_W) (hO : okx g T xs pl) (hU : uni T) (h0 ln : Nat) (x1 x2 x3 : Int32) (f : Nat → Int64)  : Met l y_SP_permute w_SP_permute ({ frames := 0, cells := 0, slots := 0, locals := 0 } : Room) (va_Pc [.ref h0] (pr (en g) g.1 vcl sz (([(h0, .inr (3, [.ref ln, .int x1, .int x2, .int x3])), (ln, .inl (g.2.1 2, 25, .inr (.inl f)))] : va_W) ++ pl))) (va_Qv (fun (u : va_W) => (True) ∧ okx g T xs u) (po g.1 vcl (va_A (([(h0, .inr (3, [.ref ln, .int x1, .int x2, .int x3])), (ln, .inl (g.2.1 2, 25, .inr (.inl f)))] : va_W) ++ pl) sz) (fun (u : va_W) => ([(h0, .inr (3, [.ref ln, .int x1, .int x2, .int x3])), (ln, .inl (g.2.1 2, 25, .inr (.inl ((prm f)))))] : va_W) ++ u)) (va_A (([(h0, .inr (3, [.ref ln, .int x1, .int x2, .int x3])), (ln, .inl (g.2.1 2, 25, .inr (.inl f)))] : va_W) ++ pl) sz)) 0 0 (va_A (([(h0, .inr (3, [.ref ln, .int x1, .int x2, .int x3])), (ln, .inl (g.2.1 2, 25, .inr (.inl f)))] : va_W) ++ pl) sz) := by
  refine mc_entry (cc := c_SP_permute) (maxL := 36) (ret := none) (by decide) rfl (Nat.le_of_ble_eq_true rfl) ?_
  intro p e s m args below meth c ls F hr hlk hnm hsz hP hD hE hA hl
  obtain ⟨hx, hb, hml, hown, hts⟩ := id F
  have hK := hE.1
  generalize va_A (([(h0, .inr (3, [.ref ln, .int x1, .int x2, .int x3])), (ln, .inl (g.2.1 2, 25, .inr (.inl f)))] : va_W) ++ pl) sz = A at hD hE hA ⊢
  have hS : va_S A s.heap s.heap [] := va_S.rf
  have hl : lv_has ls 36 [(0, .ref h0)] := hl
  refine lv_aload_n hx hb dSP_permute_0 rfl (lv_at hl 0 rfl) ?_
  refine va_get (D := g.1) (ci := 3) (C := "LatticeKeys$Sponge") (T := T_SP) (N := 4) hx hb hts (wg_ft i_SP) hown hK hP 0 rfl rfl 0 (by decide) (hts _ (wg_t kw_59)) (fun _ h9 => h9) rfl dSP_permute_1 ?_
  refine lv_astore_n (lv' := [(1, .ref ln), (0, .ref h0)]) hx hb dSP_permute_4 rfl hl (by decide) rfl (fun ls hl => ?_)
  refine lv_iconst (v := nI 0) hx hb dSP_permute_5 (by decide) ?_
  refine lv_istore_n (lv' := [(2, .int (nI 0)), (1, .ref ln), (0, .ref h0)]) hx hb dSP_permute_6 rfl hl (by decide) rfl (fun ls hl => ?_)
  have lp21 : ∀ (n21 : Nat) (i21 : Nat) (f21 : Nat → Int64) (pl : va_W) (ls : Array Slot) (H : Heap) (locs : List Loc), n21 + i21 = 24 → (eq25 f21 (kfN TUR RCS i21 f)) → lv_has ls 36 [(2, .int (nI i21)), (1, .ref ln)] → okx g T xs pl → va_P g.1 vcl (([(h0, .inr (3, [.ref ln, .int x1, .int x2, .int x3])), (ln, .inl (g.2.1 2, 25, .inr (.inl f21)))] : va_W) ++ pl) H → va_D A (([(h0, .inr (3, [.ref ln, .int x1, .int x2, .int x3])), (ln, .inl (g.2.1 2, 25, .inr (.inl f21)))] : va_W) ++ pl) → va_S A s.heap H locs → W p l e ({ frames := 0, cells := 0, slots := 0, locals := 0 } : Room) s m args below meth c H locs 0 0 (MQ below (va_Qv (fun (u : va_W) => (True) ∧ okx g T xs u) (po g.1 vcl A (fun (u : va_W) => ([(h0, .inr (3, [.ref ln, .int x1, .int x2, .int x3])), (ln, .inl (g.2.1 2, 25, .inr (.inl ((prm f)))))] : va_W) ++ u)) A) args s 0 0 A) (F0 m 7 ls []) := by
    intro n21
    induction n21 with
    | zero =>
      intro i21 f21 pl ls H locs hm21 hk hl hO hP hD hS
      refine lv_iload_n hx hb dSP_permute_7 rfl (lv_at hl 0 rfl) ?_
      refine lv_bipush (v := nI 24) hx hb dSP_permute_8 (by decide) ?_
      refine mi_ge (tgt := 501) hx hb dSP_permute_10 (by decide) (by omega) (by omega) (fun h21 => ?_) (fun h21 => absurd h21 (by omega))
      have hP := pc_l hP 1 (prm f) rfl (by have h9 := hk; rw [show i21 = 24 by omega] at h9; exact h9)
      have hD := dc_e hD 1 (.inl (g.2.1 2, 25, .inr (.inl (prm f)))) rfl
      have hP : va_P g.1 vcl (([(h0, .inr (3, [.ref ln, .int x1, .int x2, .int x3])), (ln, .inl (g.2.1 2, 25, .inr (.inl ((prm f)))))] : va_W) ++ pl) _ := hP
      have hD : va_D _ (([(h0, .inr (3, [.ref ln, .int x1, .int x2, .int x3])), (ln, .inl (g.2.1 2, 25, .inr (.inl ((prm f)))))] : va_W) ++ pl) := hD
      exact mp_vret hx hb hr hlk hP hD hS pl ⟨trivial, hO⟩ [0, 1] rfl rfl rfl (by omega) (by omega) dSP_permute_501
    | succ n21 ih21 =>
      intro i21 f21 pl ls H locs hm21 hk hl hO hP hD hS
      refine lv_iload_n hx hb dSP_permute_7 rfl (lv_at hl 0 rfl) ?_
      refine lv_bipush (v := nI 24) hx hb dSP_permute_8 (by decide) ?_
      refine mi_ge (tgt := 501) hx hb dSP_permute_10 (by decide) (by omega) (by omega) (fun h22 => absurd h22 (by omega)) (fun h22 => ?_)
      refine lv_aload_n hx hb dSP_permute_13 rfl (lv_at hl 1 rfl) ?_
      refine lv_iconst (v := nI 0) hx hb dSP_permute_14 (by decide) ?_
      refine mp_lald hx hb hK hP 1 2 rfl rfl (by omega) (by decide) dSP_permute_15 ?_
      refine lv_aload_n hx hb dSP_permute_16 rfl (lv_at hl 1 rfl) ?_
      refine lv_iconst (v := nI 5) hx hb dSP_permute_17 (by decide) ?_
      refine mp_lald hx hb hK hP 1 2 rfl rfl (by omega) (by decide) dSP_permute_18 ?_
      refine lv_lxor hx hb dSP_permute_19 ?_
      refine lv_aload_n hx hb dSP_permute_20 rfl (lv_at hl 1 rfl) ?_
      refine lv_bipush (v := nI 10) hx hb dSP_permute_21 (by decide) ?_
      refine mp_lald hx hb hK hP 1 2 rfl rfl (by omega) (by decide) dSP_permute_23 ?_
      refine lv_lxor hx hb dSP_permute_24 ?_
      refine lv_aload_n hx hb dSP_permute_25 rfl (lv_at hl 1 rfl) ?_
      refine lv_bipush (v := nI 15) hx hb dSP_permute_26 (by decide) ?_
      refine mp_lald hx hb hK hP 1 2 rfl rfl (by omega) (by decide) dSP_permute_28 ?_
      refine lv_lxor hx hb dSP_permute_29 ?_
      refine lv_aload_n hx hb dSP_permute_30 rfl (lv_at hl 1 rfl) ?_
      refine lv_bipush (v := nI 20) hx hb dSP_permute_31 (by decide) ?_
      refine mp_lald hx hb hK hP 1 2 rfl rfl (by omega) (by decide) dSP_permute_33 ?_
      refine lv_lxor hx hb dSP_permute_34 ?_
      refine ml_eqv (fun yc21 hc21 => ?_)
      have hc21 : yc21 = colF f21 0 := hc21
      refine lv_lstore_n (lv' := [(3, .long yc21), (2, .int (nI i21)), (1, .ref ln)]) hx hb dSP_permute_35 rfl hl (by decide) rfl (fun ls hl => ?_)
      refine lv_aload_n hx hb dSP_permute_36 rfl (lv_at hl 2 rfl) ?_
      refine lv_iconst (v := nI 1) hx hb dSP_permute_37 (by decide) ?_
      refine mp_lald hx hb hK hP 1 2 rfl rfl (by omega) (by decide) dSP_permute_38 ?_
      refine lv_aload_n hx hb dSP_permute_39 rfl (lv_at hl 2 rfl) ?_
      refine lv_bipush (v := nI 6) hx hb dSP_permute_40 (by decide) ?_
      refine mp_lald hx hb hK hP 1 2 rfl rfl (by omega) (by decide) dSP_permute_42 ?_
      refine lv_lxor hx hb dSP_permute_43 ?_
      refine lv_aload_n hx hb dSP_permute_44 rfl (lv_at hl 2 rfl) ?_
      refine lv_bipush (v := nI 11) hx hb dSP_permute_45 (by decide) ?_
      refine mp_lald hx hb hK hP 1 2 rfl rfl (by omega) (by decide) dSP_permute_47 ?_
      refine lv_lxor hx hb dSP_permute_48 ?_
      refine lv_aload_n hx hb dSP_permute_49 rfl (lv_at hl 2 rfl) ?_
      refine lv_bipush (v := nI 16) hx hb dSP_permute_50 (by decide) ?_
      refine mp_lald hx hb hK hP 1 2 rfl rfl (by omega) (by decide) dSP_permute_52 ?_
      refine lv_lxor hx hb dSP_permute_53 ?_
      refine lv_aload_n hx hb dSP_permute_54 rfl (lv_at hl 2 rfl) ?_
      refine lv_bipush (v := nI 21) hx hb dSP_permute_55 (by decide) ?_
      refine mp_lald hx hb hK hP 1 2 rfl rfl (by omega) (by decide) dSP_permute_57 ?_
      refine lv_lxor hx hb dSP_permute_58 ?_
      refine ml_eqv (fun yc22 hc22 => ?_)
      have hc22 : yc22 = colF f21 1 := hc22
      refine lv_lstore (lv' := [(5, .long yc22), (3, .long yc21), (2, .int (nI i21)), (1, .ref ln)]) hx hb dSP_permute_59 hl (by decide) rfl (fun ls hl => ?_)
      refine lv_aload_n hx hb dSP_permute_61 rfl (lv_at hl 3 rfl) ?_
      refine lv_iconst (v := nI 2) hx hb dSP_permute_62 (by decide) ?_
      refine mp_lald hx hb hK hP 1 2 rfl rfl (by omega) (by decide) dSP_permute_63 ?_
      refine lv_aload_n hx hb dSP_permute_64 rfl (lv_at hl 3 rfl) ?_
      refine lv_bipush (v := nI 7) hx hb dSP_permute_65 (by decide) ?_
      refine mp_lald hx hb hK hP 1 2 rfl rfl (by omega) (by decide) dSP_permute_67 ?_
      refine lv_lxor hx hb dSP_permute_68 ?_
      refine lv_aload_n hx hb dSP_permute_69 rfl (lv_at hl 3 rfl) ?_
      refine lv_bipush (v := nI 12) hx hb dSP_permute_70 (by decide) ?_
      refine mp_lald hx hb hK hP 1 2 rfl rfl (by omega) (by decide) dSP_permute_72 ?_
      refine lv_lxor hx hb dSP_permute_73 ?_
      refine lv_aload_n hx hb dSP_permute_74 rfl (lv_at hl 3 rfl) ?_
      refine lv_bipush (v := nI 17) hx hb dSP_permute_75 (by decide) ?_
      refine mp_lald hx hb hK hP 1 2 rfl rfl (by omega) (by decide) dSP_permute_77 ?_
      refine lv_lxor hx hb dSP_permute_78 ?_
      refine lv_aload_n hx hb dSP_permute_79 rfl (lv_at hl 3 rfl) ?_
      refine lv_bipush (v := nI 22) hx hb dSP_permute_80 (by decide) ?_
      refine mp_lald hx hb hK hP 1 2 rfl rfl (by omega) (by decide) dSP_permute_82 ?_
      refine lv_lxor hx hb dSP_permute_83 ?_
      refine ml_eqv (fun yc23 hc23 => ?_)
      have hc23 : yc23 = colF f21 2 := hc23
      refine lv_lstore (lv' := [(7, .long yc23), (5, .long yc22), (3, .long yc21), (2, .int (nI i21)), (1, .ref ln)]) hx hb dSP_permute_84 hl (by decide) rfl (fun ls hl => ?_)
      refine lv_aload_n hx hb dSP_permute_86 rfl (lv_at hl 4 rfl) ?_
      refine lv_iconst (v := nI 3) hx hb dSP_permute_87 (by decide) ?_
      refine mp_lald hx hb hK hP 1 2 rfl rfl (by omega) (by decide) dSP_permute_88 ?_
      refine lv_aload_n hx hb dSP_permute_89 rfl (lv_at hl 4 rfl) ?_
      refine lv_bipush (v := nI 8) hx hb dSP_permute_90 (by decide) ?_
      refine mp_lald hx hb hK hP 1 2 rfl rfl (by omega) (by decide) dSP_permute_92 ?_
      refine lv_lxor hx hb dSP_permute_93 ?_
      refine lv_aload_n hx hb dSP_permute_94 rfl (lv_at hl 4 rfl) ?_
      refine lv_bipush (v := nI 13) hx hb dSP_permute_95 (by decide) ?_
      refine mp_lald hx hb hK hP 1 2 rfl rfl (by omega) (by decide) dSP_permute_97 ?_
      refine lv_lxor hx hb dSP_permute_98 ?_
      refine lv_aload_n hx hb dSP_permute_99 rfl (lv_at hl 4 rfl) ?_
      refine lv_bipush (v := nI 18) hx hb dSP_permute_100 (by decide) ?_
      refine mp_lald hx hb hK hP 1 2 rfl rfl (by omega) (by decide) dSP_permute_102 ?_
      refine lv_lxor hx hb dSP_permute_103 ?_
      refine lv_aload_n hx hb dSP_permute_104 rfl (lv_at hl 4 rfl) ?_
      refine lv_bipush (v := nI 23) hx hb dSP_permute_105 (by decide) ?_
      refine mp_lald hx hb hK hP 1 2 rfl rfl (by omega) (by decide) dSP_permute_107 ?_
      refine lv_lxor hx hb dSP_permute_108 ?_
      refine ml_eqv (fun yc24 hc24 => ?_)
      have hc24 : yc24 = colF f21 3 := hc24
      refine lv_lstore (lv' := [(9, .long yc24), (7, .long yc23), (5, .long yc22), (3, .long yc21), (2, .int (nI i21)), (1, .ref ln)]) hx hb dSP_permute_109 hl (by decide) rfl (fun ls hl => ?_)
      refine lv_aload_n hx hb dSP_permute_111 rfl (lv_at hl 5 rfl) ?_
      refine lv_iconst (v := nI 4) hx hb dSP_permute_112 (by decide) ?_
      refine mp_lald hx hb hK hP 1 2 rfl rfl (by omega) (by decide) dSP_permute_113 ?_
      refine lv_aload_n hx hb dSP_permute_114 rfl (lv_at hl 5 rfl) ?_
      refine lv_bipush (v := nI 9) hx hb dSP_permute_115 (by decide) ?_
      refine mp_lald hx hb hK hP 1 2 rfl rfl (by omega) (by decide) dSP_permute_117 ?_
      refine lv_lxor hx hb dSP_permute_118 ?_
      refine lv_aload_n hx hb dSP_permute_119 rfl (lv_at hl 5 rfl) ?_
      refine lv_bipush (v := nI 14) hx hb dSP_permute_120 (by decide) ?_
      refine mp_lald hx hb hK hP 1 2 rfl rfl (by omega) (by decide) dSP_permute_122 ?_
      refine lv_lxor hx hb dSP_permute_123 ?_
      refine lv_aload_n hx hb dSP_permute_124 rfl (lv_at hl 5 rfl) ?_
      refine lv_bipush (v := nI 19) hx hb dSP_permute_125 (by decide) ?_
      refine mp_lald hx hb hK hP 1 2 rfl rfl (by omega) (by decide) dSP_permute_127 ?_
      refine lv_lxor hx hb dSP_permute_128 ?_
      refine lv_aload_n hx hb dSP_permute_129 rfl (lv_at hl 5 rfl) ?_
      refine lv_bipush (v := nI 24) hx hb dSP_permute_130 (by decide) ?_
      refine mp_lald hx hb hK hP 1 2 rfl rfl (by omega) (by decide) dSP_permute_132 ?_
      refine lv_lxor hx hb dSP_permute_133 ?_
      refine ml_eqv (fun yc25 hc25 => ?_)
      have hc25 : yc25 = colF f21 4 := hc25
      refine lv_lstore (lv' := [(11, .long yc25), (9, .long yc24), (7, .long yc23), (5, .long yc22), (3, .long yc21), (2, .int (nI i21)), (1, .ref ln)]) hx hb dSP_permute_134 hl (by decide) rfl (fun ls hl => ?_)
      refine lv_lload hx hb dSP_permute_136 (lv_at hl 0 rfl) ?_
      refine lv_lload hx hb dSP_permute_138 (lv_at hl 3 rfl) ?_
      refine lv_iconst (v := nI 1) hx hb dSP_permute_140 (by decide) ?_
      refine lv_lshl hx hb dSP_permute_141 rfl ?_
      refine lv_lload hx hb dSP_permute_142 (lv_at hl 3 rfl) ?_
      refine lv_bipush (v := nI 63) hx hb dSP_permute_144 (by decide) ?_
      refine lv_lushr hx hb dSP_permute_146 rfl ?_
      refine lv_lor hx hb dSP_permute_147 ?_
      refine ml_as (lr_lf (by decide) (by decide)) ?_
      refine lv_lxor hx hb dSP_permute_148 ?_
      refine ml_eqv (fun yc26 hc26 => ?_)
      have hc26 : yc26 = thD (colF f21) 0 := by rw [hc26, hc25, hc22]; rfl
      refine lv_lstore (lv' := [(13, .long yc26), (11, .long yc25), (9, .long yc24), (7, .long yc23), (5, .long yc22), (3, .long yc21), (2, .int (nI i21)), (1, .ref ln)]) hx hb dSP_permute_149 hl (by decide) rfl (fun ls hl => ?_)
      refine lv_lload_n hx hb dSP_permute_151 rfl (lv_at hl 5 rfl) ?_
      refine lv_lload hx hb dSP_permute_152 (lv_at hl 3 rfl) ?_
      refine lv_iconst (v := nI 1) hx hb dSP_permute_154 (by decide) ?_
      refine lv_lshl hx hb dSP_permute_155 rfl ?_
      refine lv_lload hx hb dSP_permute_156 (lv_at hl 3 rfl) ?_
      refine lv_bipush (v := nI 63) hx hb dSP_permute_158 (by decide) ?_
      refine lv_lushr hx hb dSP_permute_160 rfl ?_
      refine lv_lor hx hb dSP_permute_161 ?_
      refine ml_as (lr_lf (by decide) (by decide)) ?_
      refine lv_lxor hx hb dSP_permute_162 ?_
      refine ml_eqv (fun yc27 hc27 => ?_)
      have hc27 : yc27 = thD (colF f21) 1 := by rw [hc27, hc21, hc23]; rfl
      refine lv_lstore (lv' := [(15, .long yc27), (13, .long yc26), (11, .long yc25), (9, .long yc24), (7, .long yc23), (5, .long yc22), (3, .long yc21), (2, .int (nI i21)), (1, .ref ln)]) hx hb dSP_permute_163 hl (by decide) rfl (fun ls hl => ?_)
      refine lv_lload hx hb dSP_permute_165 (lv_at hl 5 rfl) ?_
      refine lv_lload hx hb dSP_permute_167 (lv_at hl 3 rfl) ?_
      refine lv_iconst (v := nI 1) hx hb dSP_permute_169 (by decide) ?_
      refine lv_lshl hx hb dSP_permute_170 rfl ?_
      refine lv_lload hx hb dSP_permute_171 (lv_at hl 3 rfl) ?_
      refine lv_bipush (v := nI 63) hx hb dSP_permute_173 (by decide) ?_
      refine lv_lushr hx hb dSP_permute_175 rfl ?_
      refine lv_lor hx hb dSP_permute_176 ?_
      refine ml_as (lr_lf (by decide) (by decide)) ?_
      refine lv_lxor hx hb dSP_permute_177 ?_
      refine ml_eqv (fun yc28 hc28 => ?_)
      have hc28 : yc28 = thD (colF f21) 2 := by rw [hc28, hc22, hc24]; rfl
      refine lv_lstore (lv' := [(17, .long yc28), (15, .long yc27), (13, .long yc26), (11, .long yc25), (9, .long yc24), (7, .long yc23), (5, .long yc22), (3, .long yc21), (2, .int (nI i21)), (1, .ref ln)]) hx hb dSP_permute_178 hl (by decide) rfl (fun ls hl => ?_)
      refine lv_lload hx hb dSP_permute_180 (lv_at hl 5 rfl) ?_
      refine lv_lload hx hb dSP_permute_182 (lv_at hl 3 rfl) ?_
      refine lv_iconst (v := nI 1) hx hb dSP_permute_184 (by decide) ?_
      refine lv_lshl hx hb dSP_permute_185 rfl ?_
      refine lv_lload hx hb dSP_permute_186 (lv_at hl 3 rfl) ?_
      refine lv_bipush (v := nI 63) hx hb dSP_permute_188 (by decide) ?_
      refine lv_lushr hx hb dSP_permute_190 rfl ?_
      refine lv_lor hx hb dSP_permute_191 ?_
      refine ml_as (lr_lf (by decide) (by decide)) ?_
      refine lv_lxor hx hb dSP_permute_192 ?_
      refine ml_eqv (fun yc29 hc29 => ?_)
      have hc29 : yc29 = thD (colF f21) 3 := by rw [hc29, hc23, hc25]; rfl
      refine lv_lstore (lv' := [(19, .long yc29), (17, .long yc28), (15, .long yc27), (13, .long yc26), (11, .long yc25), (9, .long yc24), (7, .long yc23), (5, .long yc22), (3, .long yc21), (2, .int (nI i21)), (1, .ref ln)]) hx hb dSP_permute_193 hl (by decide) rfl (fun ls hl => ?_)
      refine lv_lload hx hb dSP_permute_195 (lv_at hl 5 rfl) ?_
      refine lv_lload_n hx hb dSP_permute_197 rfl (lv_at hl 8 rfl) ?_
      refine lv_iconst (v := nI 1) hx hb dSP_permute_198 (by decide) ?_
      refine lv_lshl hx hb dSP_permute_199 rfl ?_
      refine lv_lload_n hx hb dSP_permute_200 rfl (lv_at hl 8 rfl) ?_
      refine lv_bipush (v := nI 63) hx hb dSP_permute_201 (by decide) ?_
      refine lv_lushr hx hb dSP_permute_203 rfl ?_
      refine lv_lor hx hb dSP_permute_204 ?_
      refine ml_as (lr_lf (by decide) (by decide)) ?_
      refine lv_lxor hx hb dSP_permute_205 ?_
      refine ml_eqv (fun yc30 hc30 => ?_)
      have hc30 : yc30 = thD (colF f21) 4 := by rw [hc30, hc24, hc21]; rfl
      refine lv_lstore (lv' := [(21, .long yc30), (19, .long yc29), (17, .long yc28), (15, .long yc27), (13, .long yc26), (11, .long yc25), (9, .long yc24), (7, .long yc23), (5, .long yc22), (3, .long yc21), (2, .int (nI i21)), (1, .ref ln)]) hx hb dSP_permute_206 hl (by decide) rfl (fun ls hl => ?_)
      refine lv_iconst (v := nI 0) hx hb dSP_permute_208 (by decide) ?_
      refine lv_istore (lv' := [(23, .int (nI 0)), (21, .long yc30), (19, .long yc29), (17, .long yc28), (15, .long yc27), (13, .long yc26), (11, .long yc25), (9, .long yc24), (7, .long yc23), (5, .long yc22), (3, .long yc21), (2, .int (nI i21)), (1, .ref ln)]) hx hb dSP_permute_209 hl (by decide) rfl (fun ls hl => ?_)
      have lp22 : ∀ (n22 : Nat) (i22 : Nat) (f22 : Nat → Int64) (pl : va_W) (ls : Array Slot) (H : Heap) (locs : List Loc), 5 * n22 + i22 = 25 → (i22 % 5 = 0) → (rowI i22 f22 f21 (thF f21)) → lv_has ls 36 [(23, .int (nI i22)), (21, .long yc30), (19, .long yc29), (17, .long yc28), (15, .long yc27), (13, .long yc26), (2, .int (nI i21)), (1, .ref ln)] → okx g T xs pl → va_P g.1 vcl (([(h0, .inr (3, [.ref ln, .int x1, .int x2, .int x3])), (ln, .inl (g.2.1 2, 25, .inr (.inl f22)))] : va_W) ++ pl) H → va_D A (([(h0, .inr (3, [.ref ln, .int x1, .int x2, .int x3])), (ln, .inl (g.2.1 2, 25, .inr (.inl f22)))] : va_W) ++ pl) → va_S A s.heap H locs → W p l e ({ frames := 0, cells := 0, slots := 0, locals := 0 } : Room) s m args below meth c H locs 0 0 (MQ below (va_Qv (fun (u : va_W) => (True) ∧ okx g T xs u) (po g.1 vcl A (fun (u : va_W) => ([(h0, .inr (3, [.ref ln, .int x1, .int x2, .int x3])), (ln, .inl (g.2.1 2, 25, .inr (.inl ((prm f)))))] : va_W) ++ u)) A) args s 0 0 A) (F0 m 211 ls []) := by
        intro n22
        induction n22 with
        | zero =>
          intro i22 f22 pl ls H locs hm22 hi22 hth hl hO hP hD hS
          refine lv_iload hx hb dSP_permute_211 (lv_at hl 0 rfl) ?_
          refine lv_bipush (v := nI 25) hx hb dSP_permute_213 (by decide) ?_
          refine mi_ge (tgt := 277) hx hb dSP_permute_215 (by decide) (by omega) (by omega) (fun h23 => ?_) (fun h23 => absurd h23 (by omega))
          refine lv_aload_n hx hb dSP_permute_277 rfl (lv_at hl 7 rfl) ?_
          refine lv_iconst (v := nI 1) hx hb dSP_permute_278 (by decide) ?_
          refine mp_lald hx hb hK hP 1 2 rfl rfl (by omega) (by decide) dSP_permute_279 ?_
          refine lv_lstore (lv' := [(23, .long ((f22 1))), (21, .long yc30), (19, .long yc29), (17, .long yc28), (15, .long yc27), (13, .long yc26), (2, .int (nI i21)), (1, .ref ln)]) hx hb dSP_permute_280 hl (by decide) rfl (fun ls hl => ?_)
          refine lv_iconst (v := nI 0) hx hb dSP_permute_282 (by decide) ?_
          refine lv_istore (lv' := [(25, .int (nI 0)), (23, .long ((f22 1))), (21, .long yc30), (19, .long yc29), (17, .long yc28), (15, .long yc27), (13, .long yc26), (2, .int (nI i21)), (1, .ref ln)]) hx hb dSP_permute_283 hl (by decide) rfl (fun ls hl => ?_)
          have lp23 : ∀ (n23 : Nat) (i23 : Nat) (y21 : Int64) (f23 : Nat → Int64) (pl : va_W) (ls : Array Slot) (H : Heap) (locs : List Loc), n23 + i23 = 24 → (rhoI i23 y21 f23 f22) → lv_has ls 36 [(25, .int (nI i23)), (23, .long y21), (2, .int (nI i21)), (1, .ref ln)] → okx g T xs pl → va_P g.1 vcl (([(h0, .inr (3, [.ref ln, .int x1, .int x2, .int x3])), (ln, .inl (g.2.1 2, 25, .inr (.inl f23)))] : va_W) ++ pl) H → va_D A (([(h0, .inr (3, [.ref ln, .int x1, .int x2, .int x3])), (ln, .inl (g.2.1 2, 25, .inr (.inl f23)))] : va_W) ++ pl) → va_S A s.heap H locs → W p l e ({ frames := 0, cells := 0, slots := 0, locals := 0 } : Room) s m args below meth c H locs 0 0 (MQ below (va_Qv (fun (u : va_W) => (True) ∧ okx g T xs u) (po g.1 vcl A (fun (u : va_W) => ([(h0, .inr (3, [.ref ln, .int x1, .int x2, .int x3])), (ln, .inl (g.2.1 2, 25, .inr (.inl ((prm f)))))] : va_W) ++ u)) A) args s 0 0 A) (F0 m 285 ls []) := by
            intro n23
            induction n23 with
            | zero =>
              intro i23 y21 f23 pl ls H locs hm23 hrho hl hO hP hD hS
              refine lv_iload hx hb dSP_permute_285 (lv_at hl 0 rfl) ?_
              refine lv_bipush (v := nI 24) hx hb dSP_permute_287 (by decide) ?_
              refine mi_ge (tgt := 342) hx hb dSP_permute_289 (by decide) (by omega) (by omega) (fun h24 => ?_) (fun h24 => absurd h24 (by omega))
              refine lv_iconst (v := nI 0) hx hb dSP_permute_342 (by decide) ?_
              refine lv_istore (lv' := [(25, .int (nI 0)), (23, .long y21), (2, .int (nI i21)), (1, .ref ln)]) hx hb dSP_permute_343 hl (by decide) rfl (fun ls hl => ?_)
              have lp24 : ∀ (n24 : Nat) (i24 : Nat) (f24 : Nat → Int64) (pl : va_W) (ls : Array Slot) (H : Heap) (locs : List Loc), 5 * n24 + i24 = 25 → (i24 % 5 = 0) → (rowI i24 f24 f23 (chF f23)) → lv_has ls 36 [(25, .int (nI i24)), (2, .int (nI i21)), (1, .ref ln)] → okx g T xs pl → va_P g.1 vcl (([(h0, .inr (3, [.ref ln, .int x1, .int x2, .int x3])), (ln, .inl (g.2.1 2, 25, .inr (.inl f24)))] : va_W) ++ pl) H → va_D A (([(h0, .inr (3, [.ref ln, .int x1, .int x2, .int x3])), (ln, .inl (g.2.1 2, 25, .inr (.inl f24)))] : va_W) ++ pl) → va_S A s.heap H locs → W p l e ({ frames := 0, cells := 0, slots := 0, locals := 0 } : Room) s m args below meth c H locs 0 0 (MQ below (va_Qv (fun (u : va_W) => (True) ∧ okx g T xs u) (po g.1 vcl A (fun (u : va_W) => ([(h0, .inr (3, [.ref ln, .int x1, .int x2, .int x3])), (ln, .inl (g.2.1 2, 25, .inr (.inl ((prm f)))))] : va_W) ++ u)) A) args s 0 0 A) (F0 m 345 ls []) := by
                intro n24
                induction n24 with
                | zero =>
                  intro i24 f24 pl ls H locs hm24 hi25 hch hl hO hP hD hS
                  refine lv_iload hx hb dSP_permute_345 (lv_at hl 0 rfl) ?_
                  refine lv_bipush (v := nI 25) hx hb dSP_permute_347 (by decide) ?_
                  refine mi_ge (tgt := 484) hx hb dSP_permute_349 (by decide) (by omega) (by omega) (fun h25 => ?_) (fun h25 => absurd h25 (by omega))
                  refine lv_aload_n hx hb dSP_permute_484 rfl (lv_at hl 2 rfl) ?_
                  refine lv_iconst (v := nI 0) hx hb dSP_permute_485 (by decide) ?_
                  refine lv_dup2_11 hx hb dSP_permute_486 rfl rfl ?_
                  refine mp_lald hx hb hK hP 1 2 rfl rfl (by omega) (by decide) dSP_permute_487 ?_
                  refine va_gets hx hb (hE.2.1 2 _ rfl).1 hS hown (hts _ (wg_t kw_607)) (fun _ h9 => h9) dSP_permute_488 ?_
                  refine lv_iload_n hx hb dSP_permute_491 rfl (lv_at hl 1 rfl) ?_
                  refine va_tl (v := .long ((RCS i21))) hx hb (hE.2.1 2 _ rfl).2 hS (vp_in_nI (N := 24) (by omega) (by decide)) (by rw [nI_clamp (by omega)]; exact st2_x i21 (by omega)) dSP_permute_492 ?_
                  refine lv_lxor hx hb dSP_permute_493 ?_
                  refine mp_last hx hb hK hP hD hS 1 2 rfl rfl (by omega) (by decide) dSP_permute_494 (fun H locs hP hD hS => ?_)
                  have hP : va_P g.1 vcl (([(h0, .inr (3, [.ref ln, .int x1, .int x2, .int x3])), (ln, .inl (g.2.1 2, 25, .inr (.inl ((vp_updL f24 0 ((f24 0) ^^^ (RCS i21)))))))] : va_W) ++ pl) _ := hP
                  have hD : va_D _ (([(h0, .inr (3, [.ref ln, .int x1, .int x2, .int x3])), (ln, .inl (g.2.1 2, 25, .inr (.inl ((vp_updL f24 0 ((f24 0) ^^^ (RCS i21)))))))] : va_W) ++ pl) := hD
                  generalize ga21 : vp_updL f24 0 ((f24 0) ^^^ (RCS i21)) = fa21 at hP hD
                  refine mi_iinc (k := 1) (x := i21) (d := 1) (y := i21 + 1) (lv' := [(2, .int (nI (i21 + 1))), (25, .int (nI i24)), (1, .ref ln)]) hx hb dSP_permute_495 hl rfl (by decide) rfl (by decide) rfl (fun ls hl => ?_)
                  refine lv_goto (tgt := 7) hx hb dSP_permute_498 (by decide) ?_
                  exact ih21 (i21 + 1) fa21 pl ls H locs (by omega) (by have h9 := rd_end (row_en hth (by omega)) (rho_en hrho (by omega)) (row_en hch (by omega)) hk; rw [ga21] at h9; exact h9) (lv_sub hl [0, 2] rfl) hO hP hD hS
                | succ n24 ih24 =>
                  intro i24 f24 pl ls H locs hm24 hi25 hch hl hO hP hD hS
                  refine lv_iload hx hb dSP_permute_345 (lv_at hl 0 rfl) ?_
                  refine lv_bipush (v := nI 25) hx hb dSP_permute_347 (by decide) ?_
                  refine mi_ge (tgt := 484) hx hb dSP_permute_349 (by decide) (by omega) (by omega) (fun h26 => absurd h26 (by omega)) (fun h26 => ?_)
                  refine lv_aload_n hx hb dSP_permute_352 rfl (lv_at hl 2 rfl) ?_
                  refine lv_iload hx hb dSP_permute_353 (lv_at hl 0 rfl) ?_
                  refine mp_lald hx hb hK hP 1 2 rfl rfl (by omega) (by decide) dSP_permute_355 ?_
                  refine lv_lstore (lv' := [(26, .long ((f24 i24))), (25, .int (nI i24)), (2, .int (nI i21)), (1, .ref ln)]) hx hb dSP_permute_356 hl (by decide) rfl (fun ls hl => ?_)
                  refine lv_aload_n hx hb dSP_permute_358 rfl (lv_at hl 3 rfl) ?_
                  refine lv_iload hx hb dSP_permute_359 (lv_at hl 1 rfl) ?_
                  refine lv_iconst (v := nI 1) hx hb dSP_permute_361 (by decide) ?_
                  refine mi_iadd hx hb dSP_permute_362 ?_
                  refine mp_lald hx hb hK hP 1 2 rfl rfl (by omega) (by decide) dSP_permute_363 ?_
                  refine lv_lstore (lv' := [(28, .long ((f24 (i24 + 1)))), (26, .long ((f24 i24))), (25, .int (nI i24)), (2, .int (nI i21)), (1, .ref ln)]) hx hb dSP_permute_364 hl (by decide) rfl (fun ls hl => ?_)
                  refine lv_aload_n hx hb dSP_permute_366 rfl (lv_at hl 4 rfl) ?_
                  refine lv_iload hx hb dSP_permute_367 (lv_at hl 2 rfl) ?_
                  refine lv_iconst (v := nI 2) hx hb dSP_permute_369 (by decide) ?_
                  refine mi_iadd hx hb dSP_permute_370 ?_
                  refine mp_lald hx hb hK hP 1 2 rfl rfl (by omega) (by decide) dSP_permute_371 ?_
                  refine lv_lstore (lv' := [(30, .long ((f24 (i24 + 2)))), (28, .long ((f24 (i24 + 1)))), (26, .long ((f24 i24))), (25, .int (nI i24)), (2, .int (nI i21)), (1, .ref ln)]) hx hb dSP_permute_372 hl (by decide) rfl (fun ls hl => ?_)
                  refine lv_aload_n hx hb dSP_permute_374 rfl (lv_at hl 5 rfl) ?_
                  refine lv_iload hx hb dSP_permute_375 (lv_at hl 3 rfl) ?_
                  refine lv_iconst (v := nI 3) hx hb dSP_permute_377 (by decide) ?_
                  refine mi_iadd hx hb dSP_permute_378 ?_
                  refine mp_lald hx hb hK hP 1 2 rfl rfl (by omega) (by decide) dSP_permute_379 ?_
                  refine lv_lstore (lv' := [(32, .long ((f24 (i24 + 3)))), (30, .long ((f24 (i24 + 2)))), (28, .long ((f24 (i24 + 1)))), (26, .long ((f24 i24))), (25, .int (nI i24)), (2, .int (nI i21)), (1, .ref ln)]) hx hb dSP_permute_380 hl (by decide) rfl (fun ls hl => ?_)
                  refine lv_aload_n hx hb dSP_permute_382 rfl (lv_at hl 6 rfl) ?_
                  refine lv_iload hx hb dSP_permute_383 (lv_at hl 4 rfl) ?_
                  refine lv_iconst (v := nI 4) hx hb dSP_permute_385 (by decide) ?_
                  refine mi_iadd hx hb dSP_permute_386 ?_
                  refine mp_lald hx hb hK hP 1 2 rfl rfl (by omega) (by decide) dSP_permute_387 ?_
                  refine lv_lstore (lv' := [(34, .long ((f24 (i24 + 4)))), (32, .long ((f24 (i24 + 3)))), (30, .long ((f24 (i24 + 2)))), (28, .long ((f24 (i24 + 1)))), (26, .long ((f24 i24))), (25, .int (nI i24)), (2, .int (nI i21)), (1, .ref ln)]) hx hb dSP_permute_388 hl (by decide) rfl (fun ls hl => ?_)
                  refine lv_aload_n hx hb dSP_permute_390 rfl (lv_at hl 7 rfl) ?_
                  refine lv_iload hx hb dSP_permute_391 (lv_at hl 5 rfl) ?_
                  refine lv_lload hx hb dSP_permute_393 (lv_at hl 4 rfl) ?_
                  refine lv_lload hx hb dSP_permute_395 (lv_at hl 3 rfl) ?_
                  refine lv_ldc2 (v := (-1)) hx hb hown (hts _ (wg_t kw_606)) dSP_permute_397 ?_
                  refine lv_lxor hx hb dSP_permute_400 ?_
                  refine lv_lload hx hb dSP_permute_401 (lv_at hl 2 rfl) ?_
                  refine lv_land hx hb dSP_permute_403 ?_
                  refine lv_lxor hx hb dSP_permute_404 ?_
                  refine mp_last hx hb hK hP hD hS 1 2 rfl rfl (by omega) (by decide) dSP_permute_405 (fun H locs hP hD hS => ?_)
                  have hP : va_P g.1 vcl (([(h0, .inr (3, [.ref ln, .int x1, .int x2, .int x3])), (ln, .inl (g.2.1 2, 25, .inr (.inl ((vp_updL f24 i24 ((f24 i24) ^^^ (((f24 (i24 + 1)) ^^^ (-1)) &&& (f24 (i24 + 2)))))))))] : va_W) ++ pl) _ := hP
                  have hD : va_D _ (([(h0, .inr (3, [.ref ln, .int x1, .int x2, .int x3])), (ln, .inl (g.2.1 2, 25, .inr (.inl ((vp_updL f24 i24 ((f24 i24) ^^^ (((f24 (i24 + 1)) ^^^ (-1)) &&& (f24 (i24 + 2)))))))))] : va_W) ++ pl) := hD
                  generalize ga22 : vp_updL f24 i24 ((f24 i24) ^^^ (((f24 (i24 + 1)) ^^^ (-1)) &&& (f24 (i24 + 2)))) = fa22 at hP hD
                  refine lv_aload_n hx hb dSP_permute_406 rfl (lv_at hl 7 rfl) ?_
                  refine lv_iload hx hb dSP_permute_407 (lv_at hl 5 rfl) ?_
                  refine lv_iconst (v := nI 1) hx hb dSP_permute_409 (by decide) ?_
                  refine mi_iadd hx hb dSP_permute_410 ?_
                  refine lv_lload hx hb dSP_permute_411 (lv_at hl 3 rfl) ?_
                  refine lv_lload hx hb dSP_permute_413 (lv_at hl 2 rfl) ?_
                  refine lv_ldc2 (v := (-1)) hx hb hown (hts _ (wg_t kw_606)) dSP_permute_415 ?_
                  refine lv_lxor hx hb dSP_permute_418 ?_
                  refine lv_lload hx hb dSP_permute_419 (lv_at hl 1 rfl) ?_
                  refine lv_land hx hb dSP_permute_421 ?_
                  refine lv_lxor hx hb dSP_permute_422 ?_
                  refine mp_last hx hb hK hP hD hS 1 2 rfl rfl (by omega) (by decide) dSP_permute_423 (fun H locs hP hD hS => ?_)
                  have hP : va_P g.1 vcl (([(h0, .inr (3, [.ref ln, .int x1, .int x2, .int x3])), (ln, .inl (g.2.1 2, 25, .inr (.inl ((vp_updL fa22 (i24 + 1) ((f24 (i24 + 1)) ^^^ (((f24 (i24 + 2)) ^^^ (-1)) &&& (f24 (i24 + 3)))))))))] : va_W) ++ pl) _ := hP
                  have hD : va_D _ (([(h0, .inr (3, [.ref ln, .int x1, .int x2, .int x3])), (ln, .inl (g.2.1 2, 25, .inr (.inl ((vp_updL fa22 (i24 + 1) ((f24 (i24 + 1)) ^^^ (((f24 (i24 + 2)) ^^^ (-1)) &&& (f24 (i24 + 3)))))))))] : va_W) ++ pl) := hD
                  generalize ga23 : vp_updL fa22 (i24 + 1) ((f24 (i24 + 1)) ^^^ (((f24 (i24 + 2)) ^^^ (-1)) &&& (f24 (i24 + 3)))) = fa23 at hP hD
                  refine lv_aload_n hx hb dSP_permute_424 rfl (lv_at hl 7 rfl) ?_
                  refine lv_iload hx hb dSP_permute_425 (lv_at hl 5 rfl) ?_
                  refine lv_iconst (v := nI 2) hx hb dSP_permute_427 (by decide) ?_
                  refine mi_iadd hx hb dSP_permute_428 ?_
                  refine lv_lload hx hb dSP_permute_429 (lv_at hl 2 rfl) ?_
                  refine lv_lload hx hb dSP_permute_431 (lv_at hl 1 rfl) ?_
                  refine lv_ldc2 (v := (-1)) hx hb hown (hts _ (wg_t kw_606)) dSP_permute_433 ?_
                  refine lv_lxor hx hb dSP_permute_436 ?_
                  refine lv_lload hx hb dSP_permute_437 (lv_at hl 0 rfl) ?_
                  refine lv_land hx hb dSP_permute_439 ?_
                  refine lv_lxor hx hb dSP_permute_440 ?_
                  refine mp_last hx hb hK hP hD hS 1 2 rfl rfl (by omega) (by decide) dSP_permute_441 (fun H locs hP hD hS => ?_)
                  have hP : va_P g.1 vcl (([(h0, .inr (3, [.ref ln, .int x1, .int x2, .int x3])), (ln, .inl (g.2.1 2, 25, .inr (.inl ((vp_updL fa23 (i24 + 2) ((f24 (i24 + 2)) ^^^ (((f24 (i24 + 3)) ^^^ (-1)) &&& (f24 (i24 + 4)))))))))] : va_W) ++ pl) _ := hP
                  have hD : va_D _ (([(h0, .inr (3, [.ref ln, .int x1, .int x2, .int x3])), (ln, .inl (g.2.1 2, 25, .inr (.inl ((vp_updL fa23 (i24 + 2) ((f24 (i24 + 2)) ^^^ (((f24 (i24 + 3)) ^^^ (-1)) &&& (f24 (i24 + 4)))))))))] : va_W) ++ pl) := hD
                  generalize ga24 : vp_updL fa23 (i24 + 2) ((f24 (i24 + 2)) ^^^ (((f24 (i24 + 3)) ^^^ (-1)) &&& (f24 (i24 + 4)))) = fa24 at hP hD
                  refine lv_aload_n hx hb dSP_permute_442 rfl (lv_at hl 7 rfl) ?_
                  refine lv_iload hx hb dSP_permute_443 (lv_at hl 5 rfl) ?_
                  refine lv_iconst (v := nI 3) hx hb dSP_permute_445 (by decide) ?_
                  refine mi_iadd hx hb dSP_permute_446 ?_
                  refine lv_lload hx hb dSP_permute_447 (lv_at hl 1 rfl) ?_
                  refine lv_lload hx hb dSP_permute_449 (lv_at hl 0 rfl) ?_
                  refine lv_ldc2 (v := (-1)) hx hb hown (hts _ (wg_t kw_606)) dSP_permute_451 ?_
                  refine lv_lxor hx hb dSP_permute_454 ?_
                  refine lv_lload hx hb dSP_permute_455 (lv_at hl 4 rfl) ?_
                  refine lv_land hx hb dSP_permute_457 ?_
                  refine lv_lxor hx hb dSP_permute_458 ?_
                  refine mp_last hx hb hK hP hD hS 1 2 rfl rfl (by omega) (by decide) dSP_permute_459 (fun H locs hP hD hS => ?_)
                  have hP : va_P g.1 vcl (([(h0, .inr (3, [.ref ln, .int x1, .int x2, .int x3])), (ln, .inl (g.2.1 2, 25, .inr (.inl ((vp_updL fa24 (i24 + 3) ((f24 (i24 + 3)) ^^^ (((f24 (i24 + 4)) ^^^ (-1)) &&& (f24 i24))))))))] : va_W) ++ pl) _ := hP
                  have hD : va_D _ (([(h0, .inr (3, [.ref ln, .int x1, .int x2, .int x3])), (ln, .inl (g.2.1 2, 25, .inr (.inl ((vp_updL fa24 (i24 + 3) ((f24 (i24 + 3)) ^^^ (((f24 (i24 + 4)) ^^^ (-1)) &&& (f24 i24))))))))] : va_W) ++ pl) := hD
                  generalize ga25 : vp_updL fa24 (i24 + 3) ((f24 (i24 + 3)) ^^^ (((f24 (i24 + 4)) ^^^ (-1)) &&& (f24 i24))) = fa25 at hP hD
                  refine lv_aload_n hx hb dSP_permute_460 rfl (lv_at hl 7 rfl) ?_
                  refine lv_iload hx hb dSP_permute_461 (lv_at hl 5 rfl) ?_
                  refine lv_iconst (v := nI 4) hx hb dSP_permute_463 (by decide) ?_
                  refine mi_iadd hx hb dSP_permute_464 ?_
                  refine lv_lload hx hb dSP_permute_465 (lv_at hl 0 rfl) ?_
                  refine lv_lload hx hb dSP_permute_467 (lv_at hl 4 rfl) ?_
                  refine lv_ldc2 (v := (-1)) hx hb hown (hts _ (wg_t kw_606)) dSP_permute_469 ?_
                  refine lv_lxor hx hb dSP_permute_472 ?_
                  refine lv_lload hx hb dSP_permute_473 (lv_at hl 3 rfl) ?_
                  refine lv_land hx hb dSP_permute_475 ?_
                  refine lv_lxor hx hb dSP_permute_476 ?_
                  refine mp_last hx hb hK hP hD hS 1 2 rfl rfl (by omega) (by decide) dSP_permute_477 (fun H locs hP hD hS => ?_)
                  have hP : va_P g.1 vcl (([(h0, .inr (3, [.ref ln, .int x1, .int x2, .int x3])), (ln, .inl (g.2.1 2, 25, .inr (.inl ((vp_updL fa25 (i24 + 4) ((f24 (i24 + 4)) ^^^ (((f24 i24) ^^^ (-1)) &&& (f24 (i24 + 1)))))))))] : va_W) ++ pl) _ := hP
                  have hD : va_D _ (([(h0, .inr (3, [.ref ln, .int x1, .int x2, .int x3])), (ln, .inl (g.2.1 2, 25, .inr (.inl ((vp_updL fa25 (i24 + 4) ((f24 (i24 + 4)) ^^^ (((f24 i24) ^^^ (-1)) &&& (f24 (i24 + 1)))))))))] : va_W) ++ pl) := hD
                  generalize ga26 : vp_updL fa25 (i24 + 4) ((f24 (i24 + 4)) ^^^ (((f24 i24) ^^^ (-1)) &&& (f24 (i24 + 1)))) = fa26 at hP hD
                  refine mi_iinc (k := 5) (x := i24) (d := 5) (y := i24 + 5) (lv' := [(25, .int (nI (i24 + 5))), (34, .long ((f24 (i24 + 4)))), (32, .long ((f24 (i24 + 3)))), (30, .long ((f24 (i24 + 2)))), (28, .long ((f24 (i24 + 1)))), (26, .long ((f24 i24))), (2, .int (nI i21)), (1, .ref ln)]) hx hb dSP_permute_478 hl rfl (by decide) rfl (by decide) rfl (fun ls hl => ?_)
                  refine lv_goto (tgt := 345) hx hb dSP_permute_481 (by decide) ?_
                  exact ih24 (i24 + 5) fa26 pl ls H locs (by omega) (by omega) (ch_five hch (by omega) (by omega) ga22 ga23 ga24 ga25 ga26) (lv_sub hl [0, 6, 7] rfl) hO hP hD hS
              exact lp24 ((25 - 0) / 5) 0 f23 pl ls _ _ (by omega) (by omega) row_start (lv_sub hl [0, 2, 3] rfl) hO hP hD hS
            | succ n23 ih23 =>
              intro i23 y21 f23 pl ls H locs hm23 hrho hl hO hP hD hS
              refine lv_iload hx hb dSP_permute_285 (lv_at hl 0 rfl) ?_
              refine lv_bipush (v := nI 24) hx hb dSP_permute_287 (by decide) ?_
              refine mi_ge (tgt := 342) hx hb dSP_permute_289 (by decide) (by omega) (by omega) (fun h27 => absurd h27 (by omega)) (fun h27 => ?_)
              refine va_gets hx hb (hE.2.1 3 _ rfl).1 hS hown (hts _ (wg_t kw_602)) (fun _ h9 => h9) dSP_permute_292 ?_
              refine lv_iload hx hb dSP_permute_295 (lv_at hl 0 rfl) ?_
              refine va_ti (v := .int (nI (pz (i23 + 1)))) hx hb (hE.2.1 3 _ rfl).2 hS (vp_in_nI (N := 24) (by omega) (by decide)) (by rw [nI_clamp (by omega)]; exact st3_x i23 (by omega)) dSP_permute_297 ?_
              have hpz := pz_lt (i23 + 1) (by omega)
              refine lv_istore (lv' := [(26, .int (nI (pz (i23 + 1)))), (25, .int (nI i23)), (23, .long y21), (2, .int (nI i21)), (1, .ref ln)]) hx hb dSP_permute_298 hl (by decide) rfl (fun ls hl => ?_)
              refine lv_aload_n hx hb dSP_permute_300 rfl (lv_at hl 4 rfl) ?_
              refine lv_iload hx hb dSP_permute_301 (lv_at hl 0 rfl) ?_
              refine mp_lald hx hb hK hP 1 2 rfl rfl (by omega) (by decide) dSP_permute_303 ?_
              refine lv_lstore (lv' := [(27, .long ((f23 (pz (i23 + 1))))), (26, .int (nI (pz (i23 + 1)))), (25, .int (nI i23)), (23, .long y21), (2, .int (nI i21)), (1, .ref ln)]) hx hb dSP_permute_304 hl (by decide) rfl (fun ls hl => ?_)
              refine lv_aload_n hx hb dSP_permute_306 rfl (lv_at hl 5 rfl) ?_
              refine lv_iload hx hb dSP_permute_307 (lv_at hl 1 rfl) ?_
              refine lv_lload hx hb dSP_permute_309 (lv_at hl 3 rfl) ?_
              refine va_gets hx hb (hE.2.1 4 _ rfl).1 hS hown (hts _ (wg_t kw_604)) (fun _ h9 => h9) dSP_permute_311 ?_
              refine lv_iload hx hb dSP_permute_314 (lv_at hl 2 rfl) ?_
              refine va_ti (v := .int ((tz i23))) hx hb (hE.2.1 4 _ rfl).2 hS (vp_in_nI (N := 24) (by omega) (by decide)) (by rw [nI_clamp (by omega)]; exact st4_x i23 (by omega)) dSP_permute_316 ?_
              refine lv_lshl hx hb dSP_permute_317 rfl ?_
              refine lv_lload hx hb dSP_permute_318 (lv_at hl 3 rfl) ?_
              refine lv_bipush (v := nI 64) hx hb dSP_permute_320 (by decide) ?_
              refine va_gets hx hb (hE.2.1 4 _ rfl).1 hS hown (hts _ (wg_t kw_604)) (fun _ h9 => h9) dSP_permute_322 ?_
              refine lv_iload hx hb dSP_permute_325 (lv_at hl 2 rfl) ?_
              refine va_ti (v := .int ((tz i23))) hx hb (hE.2.1 4 _ rfl).2 hS (vp_in_nI (N := 24) (by omega) (by decide)) (by rw [nI_clamp (by omega)]; exact st4_x i23 (by omega)) dSP_permute_327 ?_
              refine lv_isub hx hb dSP_permute_328 ?_
              refine lv_lushr hx hb dSP_permute_329 rfl ?_
              refine lv_lor hx hb dSP_permute_330 ?_
              refine ml_as (lr_lf (tz_ok i23 (by omega)).1 (tz_ok i23 (by omega)).2) ?_
              refine mp_last hx hb hK hP hD hS 1 2 rfl rfl (by omega) (by decide) dSP_permute_331 (fun H locs hP hD hS => ?_)
              have hP : va_P g.1 vcl (([(h0, .inr (3, [.ref ln, .int x1, .int x2, .int x3])), (ln, .inl (g.2.1 2, 25, .inr (.inl ((vp_updL f23 (pz (i23 + 1)) (lf y21 (tz i23)))))))] : va_W) ++ pl) _ := hP
              have hD : va_D _ (([(h0, .inr (3, [.ref ln, .int x1, .int x2, .int x3])), (ln, .inl (g.2.1 2, 25, .inr (.inl ((vp_updL f23 (pz (i23 + 1)) (lf y21 (tz i23)))))))] : va_W) ++ pl) := hD
              generalize ga27 : vp_updL f23 (pz (i23 + 1)) (lf y21 (tz i23)) = fa27 at hP hD
              refine lv_lload hx hb dSP_permute_332 (lv_at hl 0 rfl) ?_
              refine lv_lstore (lv' := [(23, .long ((f23 (pz (i23 + 1))))), (27, .long ((f23 (pz (i23 + 1))))), (26, .int (nI (pz (i23 + 1)))), (25, .int (nI i23)), (2, .int (nI i21)), (1, .ref ln)]) hx hb dSP_permute_334 hl (by decide) rfl (fun ls hl => ?_)
              refine mi_iinc (k := 3) (x := i23) (d := 1) (y := i23 + 1) (lv' := [(25, .int (nI (i23 + 1))), (23, .long ((f23 (pz (i23 + 1))))), (27, .long ((f23 (pz (i23 + 1))))), (26, .int (nI (pz (i23 + 1)))), (2, .int (nI i21)), (1, .ref ln)]) hx hb dSP_permute_336 hl rfl (by decide) rfl (by decide) rfl (fun ls hl => ?_)
              refine lv_goto (tgt := 285) hx hb dSP_permute_339 (by decide) ?_
              exact ih23 (i23 + 1) ((f23 (pz (i23 + 1)))) fa27 pl ls H locs (by omega) (rho_step (by omega) hrho ga27) (lv_sub hl [0, 1, 4, 5] rfl) hO hP hD hS
          exact lp23 24 0 ((f22 1)) f22 pl ls _ _ (by omega) rho_start (lv_sub hl [0, 1, 7, 8] rfl) hO hP hD hS
        | succ n22 ih22 =>
          intro i22 f22 pl ls H locs hm22 hi22 hth hl hO hP hD hS
          refine lv_iload hx hb dSP_permute_211 (lv_at hl 0 rfl) ?_
          refine lv_bipush (v := nI 25) hx hb dSP_permute_213 (by decide) ?_
          refine mi_ge (tgt := 277) hx hb dSP_permute_215 (by decide) (by omega) (by omega) (fun h28 => absurd h28 (by omega)) (fun h28 => ?_)
          refine lv_aload_n hx hb dSP_permute_218 rfl (lv_at hl 7 rfl) ?_
          refine lv_iload hx hb dSP_permute_219 (lv_at hl 0 rfl) ?_
          refine lv_dup2_11 hx hb dSP_permute_221 rfl rfl ?_
          refine mp_lald hx hb hK hP 1 2 rfl rfl (by omega) (by decide) dSP_permute_222 ?_
          refine lv_lload hx hb dSP_permute_223 (lv_at hl 5 rfl) ?_
          refine lv_lxor hx hb dSP_permute_225 ?_
          refine mp_last hx hb hK hP hD hS 1 2 rfl rfl (by omega) (by decide) dSP_permute_226 (fun H locs hP hD hS => ?_)
          have hP : va_P g.1 vcl (([(h0, .inr (3, [.ref ln, .int x1, .int x2, .int x3])), (ln, .inl (g.2.1 2, 25, .inr (.inl ((vp_updL f22 i22 ((f22 i22) ^^^ yc26))))))] : va_W) ++ pl) _ := hP
          have hD : va_D _ (([(h0, .inr (3, [.ref ln, .int x1, .int x2, .int x3])), (ln, .inl (g.2.1 2, 25, .inr (.inl ((vp_updL f22 i22 ((f22 i22) ^^^ yc26))))))] : va_W) ++ pl) := hD
          generalize ga28 : vp_updL f22 i22 ((f22 i22) ^^^ yc26) = fa28 at hP hD
          refine lv_aload_n hx hb dSP_permute_227 rfl (lv_at hl 7 rfl) ?_
          refine lv_iload hx hb dSP_permute_228 (lv_at hl 0 rfl) ?_
          refine lv_iconst (v := nI 1) hx hb dSP_permute_230 (by decide) ?_
          refine mi_iadd hx hb dSP_permute_231 ?_
          refine lv_dup2_11 hx hb dSP_permute_232 rfl rfl ?_
          refine mp_lald hx hb hK hP 1 2 rfl rfl (by omega) (by decide) dSP_permute_233 ?_
          refine lv_lload hx hb dSP_permute_234 (lv_at hl 4 rfl) ?_
          refine lv_lxor hx hb dSP_permute_236 ?_
          refine mp_last hx hb hK hP hD hS 1 2 rfl rfl (by omega) (by decide) dSP_permute_237 (fun H locs hP hD hS => ?_)
          have hP : va_P g.1 vcl (([(h0, .inr (3, [.ref ln, .int x1, .int x2, .int x3])), (ln, .inl (g.2.1 2, 25, .inr (.inl ((vp_updL fa28 (i22 + 1) ((fa28 (i22 + 1)) ^^^ yc27))))))] : va_W) ++ pl) _ := hP
          have hD : va_D _ (([(h0, .inr (3, [.ref ln, .int x1, .int x2, .int x3])), (ln, .inl (g.2.1 2, 25, .inr (.inl ((vp_updL fa28 (i22 + 1) ((fa28 (i22 + 1)) ^^^ yc27))))))] : va_W) ++ pl) := hD
          generalize ga29 : vp_updL fa28 (i22 + 1) ((fa28 (i22 + 1)) ^^^ yc27) = fa29 at hP hD
          refine lv_aload_n hx hb dSP_permute_238 rfl (lv_at hl 7 rfl) ?_
          refine lv_iload hx hb dSP_permute_239 (lv_at hl 0 rfl) ?_
          refine lv_iconst (v := nI 2) hx hb dSP_permute_241 (by decide) ?_
          refine mi_iadd hx hb dSP_permute_242 ?_
          refine lv_dup2_11 hx hb dSP_permute_243 rfl rfl ?_
          refine mp_lald hx hb hK hP 1 2 rfl rfl (by omega) (by decide) dSP_permute_244 ?_
          refine lv_lload hx hb dSP_permute_245 (lv_at hl 3 rfl) ?_
          refine lv_lxor hx hb dSP_permute_247 ?_
          refine mp_last hx hb hK hP hD hS 1 2 rfl rfl (by omega) (by decide) dSP_permute_248 (fun H locs hP hD hS => ?_)
          have hP : va_P g.1 vcl (([(h0, .inr (3, [.ref ln, .int x1, .int x2, .int x3])), (ln, .inl (g.2.1 2, 25, .inr (.inl ((vp_updL fa29 (i22 + 2) ((fa29 (i22 + 2)) ^^^ yc28))))))] : va_W) ++ pl) _ := hP
          have hD : va_D _ (([(h0, .inr (3, [.ref ln, .int x1, .int x2, .int x3])), (ln, .inl (g.2.1 2, 25, .inr (.inl ((vp_updL fa29 (i22 + 2) ((fa29 (i22 + 2)) ^^^ yc28))))))] : va_W) ++ pl) := hD
          generalize ga30 : vp_updL fa29 (i22 + 2) ((fa29 (i22 + 2)) ^^^ yc28) = fa30 at hP hD
          refine lv_aload_n hx hb dSP_permute_249 rfl (lv_at hl 7 rfl) ?_
          refine lv_iload hx hb dSP_permute_250 (lv_at hl 0 rfl) ?_
          refine lv_iconst (v := nI 3) hx hb dSP_permute_252 (by decide) ?_
          refine mi_iadd hx hb dSP_permute_253 ?_
          refine lv_dup2_11 hx hb dSP_permute_254 rfl rfl ?_
          refine mp_lald hx hb hK hP 1 2 rfl rfl (by omega) (by decide) dSP_permute_255 ?_
          refine lv_lload hx hb dSP_permute_256 (lv_at hl 2 rfl) ?_
          refine lv_lxor hx hb dSP_permute_258 ?_
          refine mp_last hx hb hK hP hD hS 1 2 rfl rfl (by omega) (by decide) dSP_permute_259 (fun H locs hP hD hS => ?_)
          have hP : va_P g.1 vcl (([(h0, .inr (3, [.ref ln, .int x1, .int x2, .int x3])), (ln, .inl (g.2.1 2, 25, .inr (.inl ((vp_updL fa30 (i22 + 3) ((fa30 (i22 + 3)) ^^^ yc29))))))] : va_W) ++ pl) _ := hP
          have hD : va_D _ (([(h0, .inr (3, [.ref ln, .int x1, .int x2, .int x3])), (ln, .inl (g.2.1 2, 25, .inr (.inl ((vp_updL fa30 (i22 + 3) ((fa30 (i22 + 3)) ^^^ yc29))))))] : va_W) ++ pl) := hD
          generalize ga31 : vp_updL fa30 (i22 + 3) ((fa30 (i22 + 3)) ^^^ yc29) = fa31 at hP hD
          refine lv_aload_n hx hb dSP_permute_260 rfl (lv_at hl 7 rfl) ?_
          refine lv_iload hx hb dSP_permute_261 (lv_at hl 0 rfl) ?_
          refine lv_iconst (v := nI 4) hx hb dSP_permute_263 (by decide) ?_
          refine mi_iadd hx hb dSP_permute_264 ?_
          refine lv_dup2_11 hx hb dSP_permute_265 rfl rfl ?_
          refine mp_lald hx hb hK hP 1 2 rfl rfl (by omega) (by decide) dSP_permute_266 ?_
          refine lv_lload hx hb dSP_permute_267 (lv_at hl 1 rfl) ?_
          refine lv_lxor hx hb dSP_permute_269 ?_
          refine mp_last hx hb hK hP hD hS 1 2 rfl rfl (by omega) (by decide) dSP_permute_270 (fun H locs hP hD hS => ?_)
          have hP : va_P g.1 vcl (([(h0, .inr (3, [.ref ln, .int x1, .int x2, .int x3])), (ln, .inl (g.2.1 2, 25, .inr (.inl ((vp_updL fa31 (i22 + 4) ((fa31 (i22 + 4)) ^^^ yc30))))))] : va_W) ++ pl) _ := hP
          have hD : va_D _ (([(h0, .inr (3, [.ref ln, .int x1, .int x2, .int x3])), (ln, .inl (g.2.1 2, 25, .inr (.inl ((vp_updL fa31 (i22 + 4) ((fa31 (i22 + 4)) ^^^ yc30))))))] : va_W) ++ pl) := hD
          generalize ga32 : vp_updL fa31 (i22 + 4) ((fa31 (i22 + 4)) ^^^ yc30) = fa32 at hP hD
          refine mi_iinc (k := 0) (x := i22) (d := 5) (y := i22 + 5) (lv' := [(23, .int (nI (i22 + 5))), (21, .long yc30), (19, .long yc29), (17, .long yc28), (15, .long yc27), (13, .long yc26), (2, .int (nI i21)), (1, .ref ln)]) hx hb dSP_permute_271 hl rfl (by decide) rfl (by decide) rfl (fun ls hl => ?_)
          refine lv_goto (tgt := 211) hx hb dSP_permute_274 (by decide) ?_
          exact ih22 (i22 + 5) fa32 pl ls H locs (by omega) (by omega) (th_five hth (by omega) (by omega) hc26 hc27 hc28 hc29 hc30 ga28 ga29 ga30 ga31 ga32) (lv_sub hl [0, 1, 2, 3, 4, 5, 6, 7] rfl) hO hP hD hS
      exact lp22 ((25 - 0) / 5) 0 f21 pl ls _ _ (by omega) (by omega) row_start (lv_sub hl [0, 1, 2, 3, 4, 5, 11, 12] rfl) hO hP hD hS
  exact lp21 24 0 f pl ls _ _ (by omega) (fun _ _ => rfl) (lv_sub hl [0, 1] rfl) hO hP hD hS
