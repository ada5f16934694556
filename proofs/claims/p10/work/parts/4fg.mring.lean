set_option linter.all false
abbrev c_MR_init : ByteArray := prog_14_method_1_code
abbrev y_MR_init : MethodName := ⟨"LatticeKeysModel$Ring", "<init>", "(III)V"⟩
abbrev w_MR_init : List Cond := Cond.code y_MR_init c_MR_init 7 none :: WG
theorem dMR_init_0 : decode c_MR_init 0 = .ok (.aload_n 0, 1) := by decide +kernel
theorem dMR_init_1 : decode c_MR_init 1 = .ok (.invokespecial 1, 3) := by decide +kernel
theorem dMR_init_4 : decode c_MR_init 4 = .ok (.aload_n 0, 1) := by decide +kernel
theorem dMR_init_5 : decode c_MR_init 5 = .ok (.lconst 1, 1) := by decide +kernel
theorem dMR_init_6 : decode c_MR_init 6 = .ok (.putfield 7, 3) := by decide +kernel
theorem dMR_init_9 : decode c_MR_init 9 = .ok (.aload_n 0, 1) := by decide +kernel
theorem dMR_init_10 : decode c_MR_init 10 = .ok (.iload_n 1, 1) := by decide +kernel
theorem dMR_init_11 : decode c_MR_init 11 = .ok (.putfield 13, 3) := by decide +kernel
theorem dMR_init_14 : decode c_MR_init 14 = .ok (.aload_n 0, 1) := by decide +kernel
theorem dMR_init_15 : decode c_MR_init 15 = .ok (.iload_n 3, 1) := by decide +kernel
theorem dMR_init_16 : decode c_MR_init 16 = .ok (.putfield 17, 3) := by decide +kernel
theorem dMR_init_19 : decode c_MR_init 19 = .ok (.aload_n 0, 1) := by decide +kernel
theorem dMR_init_20 : decode c_MR_init 20 = .ok (.iconst 2, 1) := by decide +kernel
theorem dMR_init_21 : decode c_MR_init 21 = .ok (.iload_n 3, 1) := by decide +kernel
theorem dMR_init_22 : decode c_MR_init 22 = .ok (.imul, 1) := by decide +kernel
theorem dMR_init_23 : decode c_MR_init 23 = .ok (.newarray .long, 2) := by decide +kernel
theorem dMR_init_25 : decode c_MR_init 25 = .ok (.putfield 20, 3) := by decide +kernel
theorem dMR_init_28 : decode c_MR_init 28 = .ok (.aload_n 0, 1) := by decide +kernel
theorem dMR_init_29 : decode c_MR_init 29 = .ok (.iload_n 3, 1) := by decide +kernel
theorem dMR_init_30 : decode c_MR_init 30 = .ok (.newarray .int, 2) := by decide +kernel
theorem dMR_init_32 : decode c_MR_init 32 = .ok (.putfield 24, 3) := by decide +kernel
theorem dMR_init_35 : decode c_MR_init 35 = .ok (.aload_n 0, 1) := by decide +kernel
theorem dMR_init_36 : decode c_MR_init 36 = .ok (.getfield 20, 3) := by decide +kernel
theorem dMR_init_39 : decode c_MR_init 39 = .ok (.iconst 0, 1) := by decide +kernel
theorem dMR_init_40 : decode c_MR_init 40 = .ok (.lconst 1, 1) := by decide +kernel
theorem dMR_init_41 : decode c_MR_init 41 = .ok (.lastore, 1) := by decide +kernel
theorem dMR_init_42 : decode c_MR_init 42 = .ok (.iconst 1, 1) := by decide +kernel
theorem dMR_init_43 : decode c_MR_init 43 = .ok (.istore 4, 2) := by decide +kernel
theorem dMR_init_45 : decode c_MR_init 45 = .ok (.iload 4, 2) := by decide +kernel
theorem dMR_init_47 : decode c_MR_init 47 = .ok (.iconst 2, 1) := by decide +kernel
theorem dMR_init_48 : decode c_MR_init 48 = .ok (.iload_n 3, 1) := by decide +kernel
theorem dMR_init_49 : decode c_MR_init 49 = .ok (.imul, 1) := by decide +kernel
theorem dMR_init_50 : decode c_MR_init 50 = .ok (.if_icmp .ge 31, 3) := by decide +kernel
theorem dMR_init_53 : decode c_MR_init 53 = .ok (.aload_n 0, 1) := by decide +kernel
theorem dMR_init_54 : decode c_MR_init 54 = .ok (.getfield 20, 3) := by decide +kernel
theorem dMR_init_57 : decode c_MR_init 57 = .ok (.iload 4, 2) := by decide +kernel
theorem dMR_init_59 : decode c_MR_init 59 = .ok (.aload_n 0, 1) := by decide +kernel
theorem dMR_init_60 : decode c_MR_init 60 = .ok (.getfield 20, 3) := by decide +kernel
theorem dMR_init_63 : decode c_MR_init 63 = .ok (.iload 4, 2) := by decide +kernel
theorem dMR_init_65 : decode c_MR_init 65 = .ok (.iconst 1, 1) := by decide +kernel
theorem dMR_init_66 : decode c_MR_init 66 = .ok (.isub, 1) := by decide +kernel
theorem dMR_init_67 : decode c_MR_init 67 = .ok (.laload, 1) := by decide +kernel
theorem dMR_init_68 : decode c_MR_init 68 = .ok (.iload_n 2, 1) := by decide +kernel
theorem dMR_init_69 : decode c_MR_init 69 = .ok (.i2l, 1) := by decide +kernel
theorem dMR_init_70 : decode c_MR_init 70 = .ok (.lmul, 1) := by decide +kernel
theorem dMR_init_71 : decode c_MR_init 71 = .ok (.iload_n 1, 1) := by decide +kernel
theorem dMR_init_72 : decode c_MR_init 72 = .ok (.i2l, 1) := by decide +kernel
theorem dMR_init_73 : decode c_MR_init 73 = .ok (.lrem, 1) := by decide +kernel
theorem dMR_init_74 : decode c_MR_init 74 = .ok (.lastore, 1) := by decide +kernel
theorem dMR_init_75 : decode c_MR_init 75 = .ok (.iinc 4 1, 3) := by decide +kernel
theorem dMR_init_78 : decode c_MR_init 78 = .ok (.goto (-33), 3) := by decide +kernel
theorem dMR_init_81 : decode c_MR_init 81 = .ok (.iconst 1, 1) := by decide +kernel
theorem dMR_init_82 : decode c_MR_init 82 = .ok (.istore 4, 2) := by decide +kernel
theorem dMR_init_84 : decode c_MR_init 84 = .ok (.iload 4, 2) := by decide +kernel
theorem dMR_init_86 : decode c_MR_init 86 = .ok (.iload_n 3, 1) := by decide +kernel
theorem dMR_init_87 : decode c_MR_init 87 = .ok (.if_icmp .ge 30, 3) := by decide +kernel
theorem dMR_init_90 : decode c_MR_init 90 = .ok (.aload_n 0, 1) := by decide +kernel
theorem dMR_init_91 : decode c_MR_init 91 = .ok (.aload_n 0, 1) := by decide +kernel
theorem dMR_init_92 : decode c_MR_init 92 = .ok (.getfield 7, 3) := by decide +kernel
theorem dMR_init_95 : decode c_MR_init 95 = .ok (.iload_n 1, 1) := by decide +kernel
theorem dMR_init_96 : decode c_MR_init 96 = .ok (.iconst 1, 1) := by decide +kernel
theorem dMR_init_97 : decode c_MR_init 97 = .ok (.iadd, 1) := by decide +kernel
theorem dMR_init_98 : decode c_MR_init 98 = .ok (.iconst 2, 1) := by decide +kernel
theorem dMR_init_99 : decode c_MR_init 99 = .ok (.idiv, 1) := by decide +kernel
theorem dMR_init_100 : decode c_MR_init 100 = .ok (.i2l, 1) := by decide +kernel
theorem dMR_init_101 : decode c_MR_init 101 = .ok (.lmul, 1) := by decide +kernel
theorem dMR_init_102 : decode c_MR_init 102 = .ok (.iload_n 1, 1) := by decide +kernel
theorem dMR_init_103 : decode c_MR_init 103 = .ok (.i2l, 1) := by decide +kernel
theorem dMR_init_104 : decode c_MR_init 104 = .ok (.lrem, 1) := by decide +kernel
theorem dMR_init_105 : decode c_MR_init 105 = .ok (.putfield 7, 3) := by decide +kernel
theorem dMR_init_108 : decode c_MR_init 108 = .ok (.iload 4, 2) := by decide +kernel
theorem dMR_init_110 : decode c_MR_init 110 = .ok (.iconst 2, 1) := by decide +kernel
theorem dMR_init_111 : decode c_MR_init 111 = .ok (.imul, 1) := by decide +kernel
theorem dMR_init_112 : decode c_MR_init 112 = .ok (.istore 4, 2) := by decide +kernel
theorem dMR_init_114 : decode c_MR_init 114 = .ok (.goto (-30), 3) := by decide +kernel
theorem dMR_init_117 : decode c_MR_init 117 = .ok (.iconst 0, 1) := by decide +kernel
theorem dMR_init_118 : decode c_MR_init 118 = .ok (.istore 4, 2) := by decide +kernel
theorem dMR_init_120 : decode c_MR_init 120 = .ok (.iload 4, 2) := by decide +kernel
theorem dMR_init_122 : decode c_MR_init 122 = .ok (.iload_n 3, 1) := by decide +kernel
theorem dMR_init_123 : decode c_MR_init 123 = .ok (.if_icmp .ge 57, 3) := by decide +kernel
theorem dMR_init_126 : decode c_MR_init 126 = .ok (.iconst 0, 1) := by decide +kernel
theorem dMR_init_127 : decode c_MR_init 127 = .ok (.istore 5, 2) := by decide +kernel
theorem dMR_init_129 : decode c_MR_init 129 = .ok (.iconst 1, 1) := by decide +kernel
theorem dMR_init_130 : decode c_MR_init 130 = .ok (.istore 6, 2) := by decide +kernel
theorem dMR_init_132 : decode c_MR_init 132 = .ok (.iload 6, 2) := by decide +kernel
theorem dMR_init_134 : decode c_MR_init 134 = .ok (.iload_n 3, 1) := by decide +kernel
theorem dMR_init_135 : decode c_MR_init 135 = .ok (.if_icmp .ge 26, 3) := by decide +kernel
theorem dMR_init_138 : decode c_MR_init 138 = .ok (.iconst 2, 1) := by decide +kernel
theorem dMR_init_139 : decode c_MR_init 139 = .ok (.iload 5, 2) := by decide +kernel
theorem dMR_init_141 : decode c_MR_init 141 = .ok (.imul, 1) := by decide +kernel
theorem dMR_init_142 : decode c_MR_init 142 = .ok (.iload 4, 2) := by decide +kernel
theorem dMR_init_144 : decode c_MR_init 144 = .ok (.iload 6, 2) := by decide +kernel
theorem dMR_init_146 : decode c_MR_init 146 = .ok (.idiv, 1) := by decide +kernel
theorem dMR_init_147 : decode c_MR_init 147 = .ok (.iconst 1, 1) := by decide +kernel
theorem dMR_init_148 : decode c_MR_init 148 = .ok (.iand, 1) := by decide +kernel
theorem dMR_init_149 : decode c_MR_init 149 = .ok (.iadd, 1) := by decide +kernel
theorem dMR_init_150 : decode c_MR_init 150 = .ok (.istore 5, 2) := by decide +kernel
theorem dMR_init_152 : decode c_MR_init 152 = .ok (.iload 6, 2) := by decide +kernel
theorem dMR_init_154 : decode c_MR_init 154 = .ok (.iconst 2, 1) := by decide +kernel
theorem dMR_init_155 : decode c_MR_init 155 = .ok (.imul, 1) := by decide +kernel
theorem dMR_init_156 : decode c_MR_init 156 = .ok (.istore 6, 2) := by decide +kernel
theorem dMR_init_158 : decode c_MR_init 158 = .ok (.goto (-26), 3) := by decide +kernel
theorem dMR_init_161 : decode c_MR_init 161 = .ok (.aload_n 0, 1) := by decide +kernel
theorem dMR_init_162 : decode c_MR_init 162 = .ok (.getfield 24, 3) := by decide +kernel
theorem dMR_init_165 : decode c_MR_init 165 = .ok (.iload 4, 2) := by decide +kernel
theorem dMR_init_167 : decode c_MR_init 167 = .ok (.iconst 2, 1) := by decide +kernel
theorem dMR_init_168 : decode c_MR_init 168 = .ok (.iload 5, 2) := by decide +kernel
theorem dMR_init_170 : decode c_MR_init 170 = .ok (.imul, 1) := by decide +kernel
theorem dMR_init_171 : decode c_MR_init 171 = .ok (.iconst 1, 1) := by decide +kernel
theorem dMR_init_172 : decode c_MR_init 172 = .ok (.iadd, 1) := by decide +kernel
theorem dMR_init_173 : decode c_MR_init 173 = .ok (.iastore, 1) := by decide +kernel
theorem dMR_init_174 : decode c_MR_init 174 = .ok (.iinc 4 1, 3) := by decide +kernel
theorem dMR_init_177 : decode c_MR_init 177 = .ok (.goto (-57), 3) := by decide +kernel
theorem dMR_init_180 : decode c_MR_init 180 = .ok (.return_, 1) := by decide +kernel
set_option maxHeartbeats 400000 in
set_option maxRecDepth 100000 in
theorem m_MR_initX_7 (l : Launch) (g : Gd) (sz : Nat) (h0 : Nat)  : Met l y_MR_init w_MR_init ({ frames := 1, cells := 2, slots := 384, locals := 12 } : Room) (va_Pc [.ref h0, .int (nI 3329), .int (nI 17), .int (nI 128)] (pr (en g) g.1 vcl sz [(h0, .inr (10, [.int 0, .int 0, .null, .null, .long 0]))])) (va_Qv (fun (u : Nat → Nat) => True) (po g.1 vcl (va_A [(h0, .inr (10, [.int 0, .int 0, .null, .null, .long 0]))] sz) (fun (u : Nat → Nat) => [(h0, .inr (10, [.int (nI 3329), .int (nI 128), .ref ((u 0)), .ref ((u 1)), .long ((Int64.ofNat 3303))])), ((u 0), .inl (g.2.1 2, 256, .inr (.inl ((mrP 17 3329 255))))), ((u 1), .inl (g.2.1 0, 128, .inl ((mrR 7 128))))])) (va_A [(h0, .inr (10, [.int 0, .int 0, .null, .null, .long 0]))] sz)) 2 384 (va_A [(h0, .inr (10, [.int 0, .int 0, .null, .null, .long 0]))] sz) := by
  refine mc_entry (cc := c_MR_init) (maxL := 7) (ret := none) (by decide) rfl (Nat.le_of_ble_eq_true rfl) ?_
  intro p e s m args below meth c ls F hr hlk hnm hsz hP hD hE hA hl
  obtain ⟨hx, hb, hml, hown, hts⟩ := id F
  have hK := hE.1
  generalize va_A [(h0, .inr (10, [.int 0, .int 0, .null, .null, .long 0]))] sz = A at hD hE hA ⊢
  have hS : va_S A s.heap s.heap [] := va_S.rf
  have hl : lv_has ls 7 [(0, .ref h0), (1, .int (nI 3329)), (2, .int (nI 17)), (3, .int (nI 128))] := hl
  refine lv_aload_n hx hb dMR_init_0 rfl (lv_at hl 0 rfl) ?_
  refine W.objInit hx hb hown (hts _ (wg_t kw_1361)) (hts _ (wg_t kw_41)) (hts _ (wg_t kobj)) rfl (by rw [hml]; exact hl.1) rfl dMR_init_1 (Nat.le_of_ble_eq_true rfl) (Nat.le_of_ble_eq_true rfl) ?_
  refine W.eq (g2 := F0 m 4 ls []) rfl ?_
  refine lv_aload_n hx hb dMR_init_4 rfl (lv_at hl 0 rfl) ?_
  refine lv_lconst (v := 1) hx hb dMR_init_5 (by decide) ?_
  refine va_put (D := g.1) (ci := 10) (v := .long ((1 : Int64))) (ty := .long) (C := "LatticeKeysModel$Ring") (T := T_MR) (N := 5) hx hb hts (wg_ft i_MR) ty_MR k_MR n_MR hown hK hP hD hS 0 rfl rfl 4 (by decide) (hts _ (wg_t kw_1366)) (fun _ h9 => h9) rfl (by decide +kernel) rfl rfl (Nat.le_of_ble_eq_true rfl) dMR_init_6 (fun H locs hP hD hS => ?_)
  have hP : va_P g.1 vcl [(h0, .inr (10, [.int 0, .int 0, .null, .null, .long ((1 : Int64))]))] _ := hP
  have hD : va_D _ [(h0, .inr (10, [.int 0, .int 0, .null, .null, .long ((1 : Int64))]))] := hD
  refine lv_aload_n hx hb dMR_init_9 rfl (lv_at hl 0 rfl) ?_
  refine lv_iload_n hx hb dMR_init_10 rfl (lv_at hl 1 rfl) ?_
  refine va_putF (D := g.1) (ci := 10) (v := .int (nI 3329)) (ty := .int) (C := "LatticeKeysModel$Ring") (T := T_MR) (N := 5) hx hb hts (wg_ft i_MR) ty_MR k_MR n_MR hown hK hP hD hS 0 rfl rfl 0 (by decide) (hts _ (wg_t kw_1362)) (fun _ h9 => h9) rfl hnm rfl (by decide +kernel) rfl rfl (Nat.le_of_ble_eq_true rfl) dMR_init_11 (fun H locs hP hD hS => ?_)
  have hP : va_P g.1 vcl [(h0, .inr (10, [.int (nI 3329), .int 0, .null, .null, .long ((1 : Int64))]))] _ := hP
  have hD : va_D _ [(h0, .inr (10, [.int (nI 3329), .int 0, .null, .null, .long ((1 : Int64))]))] := hD
  refine lv_aload_n hx hb dMR_init_14 rfl (lv_at hl 0 rfl) ?_
  refine lv_iload_n hx hb dMR_init_15 rfl (lv_at hl 3 rfl) ?_
  refine va_putF (D := g.1) (ci := 10) (v := .int (nI 128)) (ty := .int) (C := "LatticeKeysModel$Ring") (T := T_MR) (N := 5) hx hb hts (wg_ft i_MR) ty_MR k_MR n_MR hown hK hP hD hS 0 rfl rfl 1 (by decide) (hts _ (wg_t kw_1363)) (fun _ h9 => h9) rfl hnm rfl (by decide +kernel) rfl rfl (Nat.le_of_ble_eq_true rfl) dMR_init_16 (fun H locs hP hD hS => ?_)
  have hP : va_P g.1 vcl [(h0, .inr (10, [.int (nI 3329), .int (nI 128), .null, .null, .long ((1 : Int64))]))] _ := hP
  have hD : va_D _ [(h0, .inr (10, [.int (nI 3329), .int (nI 128), .null, .null, .long ((1 : Int64))]))] := hD
  refine lv_aload_n hx hb dMR_init_19 rfl (lv_at hl 0 rfl) ?_
  refine lv_iconst (v := nI 2) hx hb dMR_init_20 (by decide) ?_
  refine lv_iload_n hx hb dMR_init_21 rfl (lv_at hl 3 rfl) ?_
  refine mi_imul hx hb dMR_init_22 ?_
  refine mi_as (show nI (2 * 128) = nI 256 from rfl) ?_
  refine ma_newa (atype := .long) hx hb (hts _ (wg_t kw_73)) rfl hK hP hD hS hA 2 rfl (N' := 256) (a0 := (256, .inr (.inl (fun _ => 0)))) (fun _ => rfl) (by decide) (by decide) (by decide) (by decide) (by decide) dMR_init_23 (fun q1 H hP hD hS => ?_)
  have hP : va_P g.1 vcl [(h0, .inr (10, [.int (nI 3329), .int (nI 128), .null, .null, .long ((1 : Int64))])), (q1, .inl (g.2.1 2, 256, .inr (.inl ((fun _ => 0)))))] _ := hP
  have hD : va_D _ [(h0, .inr (10, [.int (nI 3329), .int (nI 128), .null, .null, .long ((1 : Int64))])), (q1, .inl (g.2.1 2, 256, .inr (.inl ((fun _ => 0)))))] := hD
  refine W.widen (k := 1) (n := 256) (by decide) (by decide) ?_
  refine va_putF (D := g.1) (ci := 10) (v := .ref q1) (ty := .array .long) (C := "LatticeKeysModel$Ring") (T := T_MR) (N := 5) hx hb hts (wg_ft i_MR) ty_MR k_MR n_MR hown hK hP hD hS 0 rfl rfl 2 (by decide) (hts _ (wg_t kw_1364)) (fun _ h9 => h9) rfl hnm rfl (by decide +kernel) rfl rfl (Nat.le_of_ble_eq_true rfl) dMR_init_25 (fun H locs hP hD hS => ?_)
  have hP : va_P g.1 vcl [(h0, .inr (10, [.int (nI 3329), .int (nI 128), .ref q1, .null, .long ((1 : Int64))])), (q1, .inl (g.2.1 2, 256, .inr (.inl ((fun _ => 0)))))] _ := hP
  have hD : va_D _ [(h0, .inr (10, [.int (nI 3329), .int (nI 128), .ref q1, .null, .long ((1 : Int64))])), (q1, .inl (g.2.1 2, 256, .inr (.inl ((fun _ => 0)))))] := hD
  refine lv_aload_n hx hb dMR_init_28 rfl (lv_at hl 0 rfl) ?_
  refine lv_iload_n hx hb dMR_init_29 rfl (lv_at hl 3 rfl) ?_
  refine ma_newa (atype := .int) hx hb (hts _ (wg_t kw_104)) rfl hK hP hD hS hA 0 rfl (N' := 128) (a0 := (128, .inl (fun _ => 0))) (fun _ => rfl) (by decide) (by decide) (by decide) (by decide) (by decide) dMR_init_30 (fun q2 H hP hD hS => ?_)
  have hP : va_P g.1 vcl [(h0, .inr (10, [.int (nI 3329), .int (nI 128), .ref q1, .null, .long ((1 : Int64))])), (q1, .inl (g.2.1 2, 256, .inr (.inl ((fun _ => 0))))), (q2, .inl (g.2.1 0, 128, .inl ((fun _ => 0))))] _ := hP
  have hD : va_D _ [(h0, .inr (10, [.int (nI 3329), .int (nI 128), .ref q1, .null, .long ((1 : Int64))])), (q1, .inl (g.2.1 2, 256, .inr (.inl ((fun _ => 0))))), (q2, .inl (g.2.1 0, 128, .inl ((fun _ => 0))))] := hD
  refine W.widen (k := 2) (n := 384) (by decide) (by decide) ?_
  refine va_putF (D := g.1) (ci := 10) (v := .ref q2) (ty := .array .int) (C := "LatticeKeysModel$Ring") (T := T_MR) (N := 5) hx hb hts (wg_ft i_MR) ty_MR k_MR n_MR hown hK hP hD hS 0 rfl rfl 3 (by decide) (hts _ (wg_t kw_1365)) (fun _ h9 => h9) rfl hnm rfl (by decide +kernel) rfl rfl (Nat.le_of_ble_eq_true rfl) dMR_init_32 (fun H locs hP hD hS => ?_)
  have hP : va_P g.1 vcl [(h0, .inr (10, [.int (nI 3329), .int (nI 128), .ref q1, .ref q2, .long ((1 : Int64))])), (q1, .inl (g.2.1 2, 256, .inr (.inl ((fun _ => 0))))), (q2, .inl (g.2.1 0, 128, .inl ((fun _ => 0))))] _ := hP
  have hD : va_D _ [(h0, .inr (10, [.int (nI 3329), .int (nI 128), .ref q1, .ref q2, .long ((1 : Int64))])), (q1, .inl (g.2.1 2, 256, .inr (.inl ((fun _ => 0))))), (q2, .inl (g.2.1 0, 128, .inl ((fun _ => 0))))] := hD
  refine lv_aload_n hx hb dMR_init_35 rfl (lv_at hl 0 rfl) ?_
  refine va_get (D := g.1) (ci := 10) (C := "LatticeKeysModel$Ring") (T := T_MR) (N := 5) hx hb hts (wg_ft i_MR) hown hK hP 0 rfl rfl 2 (by decide) (hts _ (wg_t kw_1364)) (fun _ h9 => h9) rfl dMR_init_36 ?_
  refine lv_iconst (v := nI 0) hx hb dMR_init_39 (by decide) ?_
  refine lv_lconst (v := 1) hx hb dMR_init_40 (by decide) ?_
  refine mp_last hx hb hK hP hD hS 1 2 rfl rfl (by omega) (by decide) dMR_init_41 (fun H locs hP hD hS => ?_)
  have hP : va_P g.1 vcl [(h0, .inr (10, [.int (nI 3329), .int (nI 128), .ref q1, .ref q2, .long ((1 : Int64))])), (q1, .inl (g.2.1 2, 256, .inr (.inl ((vp_updL (fun _ => 0) 0 (1 : Int64)))))), (q2, .inl (g.2.1 0, 128, .inl ((fun _ => 0))))] _ := hP
  have hD : va_D _ [(h0, .inr (10, [.int (nI 3329), .int (nI 128), .ref q1, .ref q2, .long ((1 : Int64))])), (q1, .inl (g.2.1 2, 256, .inr (.inl ((vp_updL (fun _ => 0) 0 (1 : Int64)))))), (q2, .inl (g.2.1 0, 128, .inl ((fun _ => 0))))] := hD
  refine lv_iconst (v := nI 1) hx hb dMR_init_42 (by decide) ?_
  refine lv_istore (lv' := [(4, .int (nI 1)), (0, .ref h0), (1, .int (nI 3329)), (2, .int (nI 17)), (3, .int (nI 128))]) hx hb dMR_init_43 hl (by decide) rfl (fun ls hl => ?_)
  have li : ∀ (n i : Nat) (ls : Array Slot) (H : Heap) (locs : List Loc), n + i = 128 → lv_has ls 7 [(4, .int (nI i)), (0, .ref h0), (1, .int (nI 3329)), (2, .int (nI 17)), (3, .int (nI 128))] → va_P g.1 vcl [(h0, .inr (10, [.int (nI 3329), .int (nI 128), .ref q1, .ref q2, .long ((Int64.ofNat 3303))])), (q1, .inl (g.2.1 2, 256, .inr (.inl ((mrP 17 3329 255))))), (q2, .inl (g.2.1 0, 128, .inl ((mrR 7 i))))] H → va_D A [(h0, .inr (10, [.int (nI 3329), .int (nI 128), .ref q1, .ref q2, .long ((Int64.ofNat 3303))])), (q1, .inl (g.2.1 2, 256, .inr (.inl ((mrP 17 3329 255))))), (q2, .inl (g.2.1 0, 128, .inl ((mrR 7 i))))] → va_S A s.heap H locs → W p l e ({ frames := 1, cells := 2, slots := 384, locals := 12 } : Room) s m args below meth c H locs 2 384 (MQ below (va_Qv (fun (u : Nat → Nat) => True) (po g.1 vcl A (fun (u : Nat → Nat) => [(h0, .inr (10, [.int (nI 3329), .int (nI 128), .ref ((u 0)), .ref ((u 1)), .long ((Int64.ofNat 3303))])), ((u 0), .inl (g.2.1 2, 256, .inr (.inl ((mrP 17 3329 255))))), ((u 1), .inl (g.2.1 0, 128, .inl ((mrR 7 128))))])) A) args s 2 384 A) (F0 m 120 ls []) := by
    intro n
    induction n with
    | zero =>
      intro i ls H locs hi hl hP hD hS
      obtain rfl : i = 128 := by omega
      refine lv_iload hx hb dMR_init_120 (lv_at hl 0 rfl) ?_
      refine lv_iload_n hx hb dMR_init_122 rfl (lv_at hl 4 rfl) ?_
      refine mi_ge (tgt := 180) hx hb dMR_init_123 (by decide) (by omega) (by omega) (fun h1 => ?_) (fun h1 => absurd h1 (by omega))
      exact mc_vret hx hb hr hlk hP hD hS (fun k => match k with | 0 => q1 | _ => q2) trivial [0, 1, 2] rfl rfl (by omega) (by omega) dMR_init_180
    | succ n ih =>
      intro i ls H locs hi hl hP hD hS
      have hq8 : ∀ k, i / 2 ^ k < 256 := fun k => Nat.lt_of_le_of_lt (Nat.div_le_self _ _) (by omega)
      have hm8 : ∀ k, k ≤ 7 → mirL k i < 256 := fun k hk => Nat.lt_of_lt_of_le (mirL_lt k i) (Nat.pow_le_pow_right (by decide) (show k ≤ 8 by omega))
      refine lv_iload hx hb dMR_init_120 (lv_at hl 0 rfl) ?_
      refine lv_iload_n hx hb dMR_init_122 rfl (lv_at hl 4 rfl) ?_
      refine mi_ge (tgt := 180) hx hb dMR_init_123 (by decide) (by omega) (by omega) (fun h1 => absurd h1 (by omega)) (fun h1 => ?_)
      refine lv_iconst (v := nI 0) hx hb dMR_init_126 (by decide) ?_
      refine mi_as (show nI 0 = nI (mirL 0 i) from rfl) ?_
      refine lv_istore (lv' := [(5, .int (nI (mirL 0 i))), (4, .int (nI i)), (0, .ref h0), (1, .int (nI 3329)), (2, .int (nI 17)), (3, .int (nI 128))]) hx hb dMR_init_127 hl (by decide) rfl (fun ls hl => ?_)
      refine lv_iconst (v := nI 1) hx hb dMR_init_129 (by decide) ?_
      refine lv_istore (lv' := [(6, .int (nI 1)), (5, .int (nI (mirL 0 i))), (4, .int (nI i)), (0, .ref h0), (1, .int (nI 3329)), (2, .int (nI 17)), (3, .int (nI 128))]) hx hb dMR_init_130 hl (by decide) rfl (fun ls hl => ?_)
      refine lv_iload hx hb dMR_init_132 (lv_at hl 0 rfl) ?_
      refine lv_iload_n hx hb dMR_init_134 rfl (lv_at hl 6 rfl) ?_
      refine mi_ge (tgt := 161) hx hb dMR_init_135 (by decide) (by omega) (by omega) (fun h9 => absurd h9 (by decide)) (fun _ => ?_)
      refine lv_iconst (v := nI 2) hx hb dMR_init_138 (by decide) ?_
      refine lv_iload hx hb dMR_init_139 (lv_at hl 1 rfl) ?_
      refine mi_imul hx hb dMR_init_141 ?_
      refine lv_iload hx hb dMR_init_142 (lv_at hl 2 rfl) ?_
      refine lv_iload hx hb dMR_init_144 (lv_at hl 0 rfl) ?_
      refine mi_idiv hx hb dMR_init_146 (by omega) (by omega) (by omega) ?_
      refine mi_as (show nI (i / 1) = nI (i / 2 ^ 0) from rfl) ?_
      refine lv_iconst (v := nI 1) hx hb dMR_init_147 (by decide) ?_
      refine lv_iand hx hb dMR_init_148 ?_
      refine mi_as (mr_and _ (hq8 0)) ?_
      refine mi_iadd hx hb dMR_init_149 ?_
      refine mi_as (show _ = nI (mirL 1 i) from rfl) ?_
      refine lv_istore (lv' := [(5, .int (nI (mirL 1 i))), (6, .int (nI 1)), (4, .int (nI i)), (0, .ref h0), (1, .int (nI 3329)), (2, .int (nI 17)), (3, .int (nI 128))]) hx hb dMR_init_150 hl (by decide) rfl (fun ls hl => ?_)
      refine lv_iload hx hb dMR_init_152 (lv_at hl 1 rfl) ?_
      refine lv_iconst (v := nI 2) hx hb dMR_init_154 (by decide) ?_
      refine mi_imul hx hb dMR_init_155 ?_
      refine mi_as (show nI (1 * 2) = nI 2 from rfl) ?_
      refine lv_istore (lv' := [(6, .int (nI 2)), (5, .int (nI (mirL 1 i))), (4, .int (nI i)), (0, .ref h0), (1, .int (nI 3329)), (2, .int (nI 17)), (3, .int (nI 128))]) hx hb dMR_init_156 hl (by decide) rfl (fun ls hl => ?_)
      refine lv_goto (tgt := 132) hx hb dMR_init_158 (by decide) ?_
      refine lv_iload hx hb dMR_init_132 (lv_at hl 0 rfl) ?_
      refine lv_iload_n hx hb dMR_init_134 rfl (lv_at hl 6 rfl) ?_
      refine mi_ge (tgt := 161) hx hb dMR_init_135 (by decide) (by omega) (by omega) (fun h9 => absurd h9 (by decide)) (fun _ => ?_)
      refine lv_iconst (v := nI 2) hx hb dMR_init_138 (by decide) ?_
      refine lv_iload hx hb dMR_init_139 (lv_at hl 1 rfl) ?_
      refine mi_imul hx hb dMR_init_141 ?_
      refine lv_iload hx hb dMR_init_142 (lv_at hl 2 rfl) ?_
      refine lv_iload hx hb dMR_init_144 (lv_at hl 0 rfl) ?_
      refine mi_idiv hx hb dMR_init_146 (by omega) (by omega) (by omega) ?_
      refine mi_as (show nI (i / 2) = nI (i / 2 ^ 1) from rfl) ?_
      refine lv_iconst (v := nI 1) hx hb dMR_init_147 (by decide) ?_
      refine lv_iand hx hb dMR_init_148 ?_
      refine mi_as (mr_and _ (hq8 1)) ?_
      refine mi_iadd hx hb dMR_init_149 ?_
      refine mi_as (show _ = nI (mirL 2 i) from rfl) ?_
      refine lv_istore (lv' := [(5, .int (nI (mirL 2 i))), (6, .int (nI 2)), (4, .int (nI i)), (0, .ref h0), (1, .int (nI 3329)), (2, .int (nI 17)), (3, .int (nI 128))]) hx hb dMR_init_150 hl (by decide) rfl (fun ls hl => ?_)
      refine lv_iload hx hb dMR_init_152 (lv_at hl 1 rfl) ?_
      refine lv_iconst (v := nI 2) hx hb dMR_init_154 (by decide) ?_
      refine mi_imul hx hb dMR_init_155 ?_
      refine mi_as (show nI (2 * 2) = nI 4 from rfl) ?_
      refine lv_istore (lv' := [(6, .int (nI 4)), (5, .int (nI (mirL 2 i))), (4, .int (nI i)), (0, .ref h0), (1, .int (nI 3329)), (2, .int (nI 17)), (3, .int (nI 128))]) hx hb dMR_init_156 hl (by decide) rfl (fun ls hl => ?_)
      refine lv_goto (tgt := 132) hx hb dMR_init_158 (by decide) ?_
      refine lv_iload hx hb dMR_init_132 (lv_at hl 0 rfl) ?_
      refine lv_iload_n hx hb dMR_init_134 rfl (lv_at hl 6 rfl) ?_
      refine mi_ge (tgt := 161) hx hb dMR_init_135 (by decide) (by omega) (by omega) (fun h9 => absurd h9 (by decide)) (fun _ => ?_)
      refine lv_iconst (v := nI 2) hx hb dMR_init_138 (by decide) ?_
      refine lv_iload hx hb dMR_init_139 (lv_at hl 1 rfl) ?_
      refine mi_imul hx hb dMR_init_141 ?_
      refine lv_iload hx hb dMR_init_142 (lv_at hl 2 rfl) ?_
      refine lv_iload hx hb dMR_init_144 (lv_at hl 0 rfl) ?_
      refine mi_idiv hx hb dMR_init_146 (by omega) (by omega) (by omega) ?_
      refine mi_as (show nI (i / 4) = nI (i / 2 ^ 2) from rfl) ?_
      refine lv_iconst (v := nI 1) hx hb dMR_init_147 (by decide) ?_
      refine lv_iand hx hb dMR_init_148 ?_
      refine mi_as (mr_and _ (hq8 2)) ?_
      refine mi_iadd hx hb dMR_init_149 ?_
      refine mi_as (show _ = nI (mirL 3 i) from rfl) ?_
      refine lv_istore (lv' := [(5, .int (nI (mirL 3 i))), (6, .int (nI 4)), (4, .int (nI i)), (0, .ref h0), (1, .int (nI 3329)), (2, .int (nI 17)), (3, .int (nI 128))]) hx hb dMR_init_150 hl (by decide) rfl (fun ls hl => ?_)
      refine lv_iload hx hb dMR_init_152 (lv_at hl 1 rfl) ?_
      refine lv_iconst (v := nI 2) hx hb dMR_init_154 (by decide) ?_
      refine mi_imul hx hb dMR_init_155 ?_
      refine mi_as (show nI (4 * 2) = nI 8 from rfl) ?_
      refine lv_istore (lv' := [(6, .int (nI 8)), (5, .int (nI (mirL 3 i))), (4, .int (nI i)), (0, .ref h0), (1, .int (nI 3329)), (2, .int (nI 17)), (3, .int (nI 128))]) hx hb dMR_init_156 hl (by decide) rfl (fun ls hl => ?_)
      refine lv_goto (tgt := 132) hx hb dMR_init_158 (by decide) ?_
      refine lv_iload hx hb dMR_init_132 (lv_at hl 0 rfl) ?_
      refine lv_iload_n hx hb dMR_init_134 rfl (lv_at hl 6 rfl) ?_
      refine mi_ge (tgt := 161) hx hb dMR_init_135 (by decide) (by omega) (by omega) (fun h9 => absurd h9 (by decide)) (fun _ => ?_)
      refine lv_iconst (v := nI 2) hx hb dMR_init_138 (by decide) ?_
      refine lv_iload hx hb dMR_init_139 (lv_at hl 1 rfl) ?_
      refine mi_imul hx hb dMR_init_141 ?_
      refine lv_iload hx hb dMR_init_142 (lv_at hl 2 rfl) ?_
      refine lv_iload hx hb dMR_init_144 (lv_at hl 0 rfl) ?_
      refine mi_idiv hx hb dMR_init_146 (by omega) (by omega) (by omega) ?_
      refine mi_as (show nI (i / 8) = nI (i / 2 ^ 3) from rfl) ?_
      refine lv_iconst (v := nI 1) hx hb dMR_init_147 (by decide) ?_
      refine lv_iand hx hb dMR_init_148 ?_
      refine mi_as (mr_and _ (hq8 3)) ?_
      refine mi_iadd hx hb dMR_init_149 ?_
      refine mi_as (show _ = nI (mirL 4 i) from rfl) ?_
      refine lv_istore (lv' := [(5, .int (nI (mirL 4 i))), (6, .int (nI 8)), (4, .int (nI i)), (0, .ref h0), (1, .int (nI 3329)), (2, .int (nI 17)), (3, .int (nI 128))]) hx hb dMR_init_150 hl (by decide) rfl (fun ls hl => ?_)
      refine lv_iload hx hb dMR_init_152 (lv_at hl 1 rfl) ?_
      refine lv_iconst (v := nI 2) hx hb dMR_init_154 (by decide) ?_
      refine mi_imul hx hb dMR_init_155 ?_
      refine mi_as (show nI (8 * 2) = nI 16 from rfl) ?_
      refine lv_istore (lv' := [(6, .int (nI 16)), (5, .int (nI (mirL 4 i))), (4, .int (nI i)), (0, .ref h0), (1, .int (nI 3329)), (2, .int (nI 17)), (3, .int (nI 128))]) hx hb dMR_init_156 hl (by decide) rfl (fun ls hl => ?_)
      refine lv_goto (tgt := 132) hx hb dMR_init_158 (by decide) ?_
      refine lv_iload hx hb dMR_init_132 (lv_at hl 0 rfl) ?_
      refine lv_iload_n hx hb dMR_init_134 rfl (lv_at hl 6 rfl) ?_
      refine mi_ge (tgt := 161) hx hb dMR_init_135 (by decide) (by omega) (by omega) (fun h9 => absurd h9 (by decide)) (fun _ => ?_)
      refine lv_iconst (v := nI 2) hx hb dMR_init_138 (by decide) ?_
      refine lv_iload hx hb dMR_init_139 (lv_at hl 1 rfl) ?_
      refine mi_imul hx hb dMR_init_141 ?_
      refine lv_iload hx hb dMR_init_142 (lv_at hl 2 rfl) ?_
      refine lv_iload hx hb dMR_init_144 (lv_at hl 0 rfl) ?_
      refine mi_idiv hx hb dMR_init_146 (by omega) (by omega) (by omega) ?_
      refine mi_as (show nI (i / 16) = nI (i / 2 ^ 4) from rfl) ?_
      refine lv_iconst (v := nI 1) hx hb dMR_init_147 (by decide) ?_
      refine lv_iand hx hb dMR_init_148 ?_
      refine mi_as (mr_and _ (hq8 4)) ?_
      refine mi_iadd hx hb dMR_init_149 ?_
      refine mi_as (show _ = nI (mirL 5 i) from rfl) ?_
      refine lv_istore (lv' := [(5, .int (nI (mirL 5 i))), (6, .int (nI 16)), (4, .int (nI i)), (0, .ref h0), (1, .int (nI 3329)), (2, .int (nI 17)), (3, .int (nI 128))]) hx hb dMR_init_150 hl (by decide) rfl (fun ls hl => ?_)
      refine lv_iload hx hb dMR_init_152 (lv_at hl 1 rfl) ?_
      refine lv_iconst (v := nI 2) hx hb dMR_init_154 (by decide) ?_
      refine mi_imul hx hb dMR_init_155 ?_
      refine mi_as (show nI (16 * 2) = nI 32 from rfl) ?_
      refine lv_istore (lv' := [(6, .int (nI 32)), (5, .int (nI (mirL 5 i))), (4, .int (nI i)), (0, .ref h0), (1, .int (nI 3329)), (2, .int (nI 17)), (3, .int (nI 128))]) hx hb dMR_init_156 hl (by decide) rfl (fun ls hl => ?_)
      refine lv_goto (tgt := 132) hx hb dMR_init_158 (by decide) ?_
      refine lv_iload hx hb dMR_init_132 (lv_at hl 0 rfl) ?_
      refine lv_iload_n hx hb dMR_init_134 rfl (lv_at hl 6 rfl) ?_
      refine mi_ge (tgt := 161) hx hb dMR_init_135 (by decide) (by omega) (by omega) (fun h9 => absurd h9 (by decide)) (fun _ => ?_)
      refine lv_iconst (v := nI 2) hx hb dMR_init_138 (by decide) ?_
      refine lv_iload hx hb dMR_init_139 (lv_at hl 1 rfl) ?_
      refine mi_imul hx hb dMR_init_141 ?_
      refine lv_iload hx hb dMR_init_142 (lv_at hl 2 rfl) ?_
      refine lv_iload hx hb dMR_init_144 (lv_at hl 0 rfl) ?_
      refine mi_idiv hx hb dMR_init_146 (by omega) (by omega) (by omega) ?_
      refine mi_as (show nI (i / 32) = nI (i / 2 ^ 5) from rfl) ?_
      refine lv_iconst (v := nI 1) hx hb dMR_init_147 (by decide) ?_
      refine lv_iand hx hb dMR_init_148 ?_
      refine mi_as (mr_and _ (hq8 5)) ?_
      refine mi_iadd hx hb dMR_init_149 ?_
      refine mi_as (show _ = nI (mirL 6 i) from rfl) ?_
      refine lv_istore (lv' := [(5, .int (nI (mirL 6 i))), (6, .int (nI 32)), (4, .int (nI i)), (0, .ref h0), (1, .int (nI 3329)), (2, .int (nI 17)), (3, .int (nI 128))]) hx hb dMR_init_150 hl (by decide) rfl (fun ls hl => ?_)
      refine lv_iload hx hb dMR_init_152 (lv_at hl 1 rfl) ?_
      refine lv_iconst (v := nI 2) hx hb dMR_init_154 (by decide) ?_
      refine mi_imul hx hb dMR_init_155 ?_
      refine mi_as (show nI (32 * 2) = nI 64 from rfl) ?_
      refine lv_istore (lv' := [(6, .int (nI 64)), (5, .int (nI (mirL 6 i))), (4, .int (nI i)), (0, .ref h0), (1, .int (nI 3329)), (2, .int (nI 17)), (3, .int (nI 128))]) hx hb dMR_init_156 hl (by decide) rfl (fun ls hl => ?_)
      refine lv_goto (tgt := 132) hx hb dMR_init_158 (by decide) ?_
      refine lv_iload hx hb dMR_init_132 (lv_at hl 0 rfl) ?_
      refine lv_iload_n hx hb dMR_init_134 rfl (lv_at hl 6 rfl) ?_
      refine mi_ge (tgt := 161) hx hb dMR_init_135 (by decide) (by omega) (by omega) (fun h9 => absurd h9 (by decide)) (fun _ => ?_)
      refine lv_iconst (v := nI 2) hx hb dMR_init_138 (by decide) ?_
      refine lv_iload hx hb dMR_init_139 (lv_at hl 1 rfl) ?_
      refine mi_imul hx hb dMR_init_141 ?_
      refine lv_iload hx hb dMR_init_142 (lv_at hl 2 rfl) ?_
      refine lv_iload hx hb dMR_init_144 (lv_at hl 0 rfl) ?_
      refine mi_idiv hx hb dMR_init_146 (by omega) (by omega) (by omega) ?_
      refine mi_as (show nI (i / 64) = nI (i / 2 ^ 6) from rfl) ?_
      refine lv_iconst (v := nI 1) hx hb dMR_init_147 (by decide) ?_
      refine lv_iand hx hb dMR_init_148 ?_
      refine mi_as (mr_and _ (hq8 6)) ?_
      refine mi_iadd hx hb dMR_init_149 ?_
      refine mi_as (show _ = nI (mirL 7 i) from rfl) ?_
      refine lv_istore (lv' := [(5, .int (nI (mirL 7 i))), (6, .int (nI 64)), (4, .int (nI i)), (0, .ref h0), (1, .int (nI 3329)), (2, .int (nI 17)), (3, .int (nI 128))]) hx hb dMR_init_150 hl (by decide) rfl (fun ls hl => ?_)
      refine lv_iload hx hb dMR_init_152 (lv_at hl 1 rfl) ?_
      refine lv_iconst (v := nI 2) hx hb dMR_init_154 (by decide) ?_
      refine mi_imul hx hb dMR_init_155 ?_
      refine mi_as (show nI (64 * 2) = nI 128 from rfl) ?_
      refine lv_istore (lv' := [(6, .int (nI 128)), (5, .int (nI (mirL 7 i))), (4, .int (nI i)), (0, .ref h0), (1, .int (nI 3329)), (2, .int (nI 17)), (3, .int (nI 128))]) hx hb dMR_init_156 hl (by decide) rfl (fun ls hl => ?_)
      refine lv_goto (tgt := 132) hx hb dMR_init_158 (by decide) ?_
      refine lv_iload hx hb dMR_init_132 (lv_at hl 0 rfl) ?_
      refine lv_iload_n hx hb dMR_init_134 rfl (lv_at hl 6 rfl) ?_
      refine mi_ge (tgt := 161) hx hb dMR_init_135 (by decide) (by omega) (by omega) (fun _ => ?_) (fun h9 => absurd h9 (by decide))
      refine lv_aload_n hx hb dMR_init_161 rfl (lv_at hl 3 rfl) ?_
      refine va_get (D := g.1) (ci := 10) (C := "LatticeKeysModel$Ring") (T := T_MR) (N := 5) hx hb hts (wg_ft i_MR) hown hK hP 0 rfl rfl 3 (by decide) (hts _ (wg_t kw_1365)) (fun _ h9 => h9) rfl dMR_init_162 ?_
      refine lv_iload hx hb dMR_init_165 (lv_at hl 2 rfl) ?_
      refine lv_iconst (v := nI 2) hx hb dMR_init_167 (by decide) ?_
      refine lv_iload hx hb dMR_init_168 (lv_at hl 1 rfl) ?_
      refine mi_imul hx hb dMR_init_170 ?_
      refine lv_iconst (v := nI 1) hx hb dMR_init_171 (by decide) ?_
      refine mi_iadd hx hb dMR_init_172 ?_
      refine mp_iast hx hb hK hP hD hS 2 0 rfl rfl (by omega) (by decide) dMR_init_173 (fun H locs hP hD hS => ?_)
      have hP : va_P g.1 vcl [(h0, .inr (10, [.int (nI 3329), .int (nI 128), .ref q1, .ref q2, .long ((Int64.ofNat 3303))])), (q1, .inl (g.2.1 2, 256, .inr (.inl ((mrP 17 3329 255))))), (q2, .inl (g.2.1 0, 128, .inl ((upd (mrR 7 i) i (nI ((2 * (mirL 7 i)) + 1))))))] _ := hP
      have hD : va_D _ [(h0, .inr (10, [.int (nI 3329), .int (nI 128), .ref q1, .ref q2, .long ((Int64.ofNat 3303))])), (q1, .inl (g.2.1 2, 256, .inr (.inl ((mrP 17 3329 255))))), (q2, .inl (g.2.1 0, 128, .inl ((upd (mrR 7 i) i (nI ((2 * (mirL 7 i)) + 1))))))] := hD
      refine mi_iinc (k := 2) (x := i) (d := 1) (y := i + 1) (lv' := [(4, .int (nI (i + 1))), (6, .int (nI 128)), (5, .int (nI (mirL 7 i))), (0, .ref h0), (1, .int (nI 3329)), (2, .int (nI 17)), (3, .int (nI 128))]) hx hb dMR_init_174 hl rfl (by decide) rfl (by decide) rfl (fun ls hl => ?_)
      refine lv_goto (tgt := 120) hx hb dMR_init_177 (by decide) ?_
      have hP : va_P g.1 vcl [(h0, .inr (10, [.int (nI 3329), .int (nI 128), .ref q1, .ref q2, .long ((Int64.ofNat 3303))])), (q1, .inl (g.2.1 2, 256, .inr (.inl ((mrP 17 3329 255))))), (q2, .inl (g.2.1 0, 128, .inl ((mrR 7 (i + 1)))))] H := hP
      have hD : va_D A [(h0, .inr (10, [.int (nI 3329), .int (nI 128), .ref q1, .ref q2, .long ((Int64.ofNat 3303))])), (q1, .inl (g.2.1 2, 256, .inr (.inl ((mrP 17 3329 255))))), (q2, .inl (g.2.1 0, 128, .inl ((mrR 7 (i + 1)))))] := hD
      exact ih (i + 1) ls H locs (by omega) (lv_sub hl [0, 3, 4, 5, 6] rfl) hP hD hS
  have lp : ∀ (n t : Nat) (ls : Array Slot) (H : Heap) (locs : List Loc), n + t = 255 → lv_has ls 7 [(4, .int (nI (t + 1))), (0, .ref h0), (1, .int (nI 3329)), (2, .int (nI 17)), (3, .int (nI 128))] → va_P g.1 vcl [(h0, .inr (10, [.int (nI 3329), .int (nI 128), .ref q1, .ref q2, .long ((1 : Int64))])), (q1, .inl (g.2.1 2, 256, .inr (.inl ((mrP 17 3329 t))))), (q2, .inl (g.2.1 0, 128, .inl ((fun _ => 0))))] H → va_D A [(h0, .inr (10, [.int (nI 3329), .int (nI 128), .ref q1, .ref q2, .long ((1 : Int64))])), (q1, .inl (g.2.1 2, 256, .inr (.inl ((mrP 17 3329 t))))), (q2, .inl (g.2.1 0, 128, .inl ((fun _ => 0))))] → va_S A s.heap H locs → W p l e ({ frames := 1, cells := 2, slots := 384, locals := 12 } : Room) s m args below meth c H locs 2 384 (MQ below (va_Qv (fun (u : Nat → Nat) => True) (po g.1 vcl A (fun (u : Nat → Nat) => [(h0, .inr (10, [.int (nI 3329), .int (nI 128), .ref ((u 0)), .ref ((u 1)), .long ((Int64.ofNat 3303))])), ((u 0), .inl (g.2.1 2, 256, .inr (.inl ((mrP 17 3329 255))))), ((u 1), .inl (g.2.1 0, 128, .inl ((mrR 7 128))))])) A) args s 2 384 A) (F0 m 45 ls []) := by
    intro n
    induction n with
    | zero =>
      intro t ls H locs hi hl hP hD hS
      obtain rfl : t = 255 := by omega
      refine lv_iload hx hb dMR_init_45 (lv_at hl 0 rfl) ?_
      refine lv_iconst (v := nI 2) hx hb dMR_init_47 (by decide) ?_
      refine lv_iload_n hx hb dMR_init_48 rfl (lv_at hl 4 rfl) ?_
      refine mi_imul hx hb dMR_init_49 ?_
      refine mi_as (show nI (2 * 128) = nI 256 from rfl) ?_
      refine mi_ge (tgt := 81) hx hb dMR_init_50 (by decide) (by omega) (by omega) (fun h1 => ?_) (fun h1 => absurd h1 (by omega))
      refine lv_iconst (v := nI 1) hx hb dMR_init_81 (by decide) ?_
      refine lv_istore (lv' := [(4, .int (nI 1)), (0, .ref h0), (1, .int (nI 3329)), (2, .int (nI 17)), (3, .int (nI 128))]) hx hb dMR_init_82 hl (by decide) rfl (fun ls hl => ?_)
      refine lv_iload hx hb dMR_init_84 (lv_at hl 0 rfl) ?_
      refine lv_iload_n hx hb dMR_init_86 rfl (lv_at hl 4 rfl) ?_
      refine mi_ge (tgt := 117) hx hb dMR_init_87 (by decide) (by omega) (by omega) (fun h9 => absurd h9 (by decide)) (fun _ => ?_)
      refine lv_aload_n hx hb dMR_init_90 rfl (lv_at hl 1 rfl) ?_
      refine lv_aload_n hx hb dMR_init_91 rfl (lv_at hl 1 rfl) ?_
      refine va_get (D := g.1) (ci := 10) (C := "LatticeKeysModel$Ring") (T := T_MR) (N := 5) hx hb hts (wg_ft i_MR) hown hK hP 0 rfl rfl 4 (by decide) (hts _ (wg_t kw_1366)) (fun _ h9 => h9) rfl dMR_init_92 ?_
      refine lv_iload_n hx hb dMR_init_95 rfl (lv_at hl 2 rfl) ?_
      refine lv_iconst (v := nI 1) hx hb dMR_init_96 (by decide) ?_
      refine mi_iadd hx hb dMR_init_97 ?_
      refine mi_as (show nI (3329 + 1) = nI 3330 from rfl) ?_
      refine lv_iconst (v := nI 2) hx hb dMR_init_98 (by decide) ?_
      refine mi_idiv hx hb dMR_init_99 (by omega) (by omega) (by omega) ?_
      refine mi_as (show nI (3330 / 2) = nI 1665 from rfl) ?_
      refine lv_i2l (v := 1665) hx hb dMR_init_100 (by decide) ?_
      refine lv_lmul hx hb dMR_init_101 ?_
      refine lv_iload_n hx hb dMR_init_102 rfl (lv_at hl 2 rfl) ?_
      refine lv_i2l (v := 3329) hx hb dMR_init_103 (by decide) ?_
      refine lv_lrem hx hb dMR_init_104 (by decide) ?_
      refine ml_as (show _ = (Int64.ofNat 1665) by decide) ?_
      refine va_put (D := g.1) (ci := 10) (v := .long ((Int64.ofNat 1665))) (ty := .long) (C := "LatticeKeysModel$Ring") (T := T_MR) (N := 5) hx hb hts (wg_ft i_MR) ty_MR k_MR n_MR hown hK hP hD hS 0 rfl rfl 4 (by decide) (hts _ (wg_t kw_1366)) (fun _ h9 => h9) rfl (by decide +kernel) rfl rfl (Nat.le_of_ble_eq_true rfl) dMR_init_105 (fun H locs hP hD hS => ?_)
      have hP : va_P g.1 vcl [(h0, .inr (10, [.int (nI 3329), .int (nI 128), .ref q1, .ref q2, .long ((Int64.ofNat 1665))])), (q1, .inl (g.2.1 2, 256, .inr (.inl ((mrP 17 3329 255))))), (q2, .inl (g.2.1 0, 128, .inl ((fun _ => 0))))] _ := hP
      have hD : va_D _ [(h0, .inr (10, [.int (nI 3329), .int (nI 128), .ref q1, .ref q2, .long ((Int64.ofNat 1665))])), (q1, .inl (g.2.1 2, 256, .inr (.inl ((mrP 17 3329 255))))), (q2, .inl (g.2.1 0, 128, .inl ((fun _ => 0))))] := hD
      refine lv_iload hx hb dMR_init_108 (lv_at hl 0 rfl) ?_
      refine lv_iconst (v := nI 2) hx hb dMR_init_110 (by decide) ?_
      refine mi_imul hx hb dMR_init_111 ?_
      refine mi_as (show nI (1 * 2) = nI 2 from rfl) ?_
      refine lv_istore (lv' := [(4, .int (nI 2)), (0, .ref h0), (1, .int (nI 3329)), (2, .int (nI 17)), (3, .int (nI 128))]) hx hb dMR_init_112 hl (by decide) rfl (fun ls hl => ?_)
      refine lv_goto (tgt := 84) hx hb dMR_init_114 (by decide) ?_
      refine lv_iload hx hb dMR_init_84 (lv_at hl 0 rfl) ?_
      refine lv_iload_n hx hb dMR_init_86 rfl (lv_at hl 4 rfl) ?_
      refine mi_ge (tgt := 117) hx hb dMR_init_87 (by decide) (by omega) (by omega) (fun h9 => absurd h9 (by decide)) (fun _ => ?_)
      refine lv_aload_n hx hb dMR_init_90 rfl (lv_at hl 1 rfl) ?_
      refine lv_aload_n hx hb dMR_init_91 rfl (lv_at hl 1 rfl) ?_
      refine va_get (D := g.1) (ci := 10) (C := "LatticeKeysModel$Ring") (T := T_MR) (N := 5) hx hb hts (wg_ft i_MR) hown hK hP 0 rfl rfl 4 (by decide) (hts _ (wg_t kw_1366)) (fun _ h9 => h9) rfl dMR_init_92 ?_
      refine lv_iload_n hx hb dMR_init_95 rfl (lv_at hl 2 rfl) ?_
      refine lv_iconst (v := nI 1) hx hb dMR_init_96 (by decide) ?_
      refine mi_iadd hx hb dMR_init_97 ?_
      refine mi_as (show nI (3329 + 1) = nI 3330 from rfl) ?_
      refine lv_iconst (v := nI 2) hx hb dMR_init_98 (by decide) ?_
      refine mi_idiv hx hb dMR_init_99 (by omega) (by omega) (by omega) ?_
      refine mi_as (show nI (3330 / 2) = nI 1665 from rfl) ?_
      refine lv_i2l (v := 1665) hx hb dMR_init_100 (by decide) ?_
      refine lv_lmul hx hb dMR_init_101 ?_
      refine lv_iload_n hx hb dMR_init_102 rfl (lv_at hl 2 rfl) ?_
      refine lv_i2l (v := 3329) hx hb dMR_init_103 (by decide) ?_
      refine lv_lrem hx hb dMR_init_104 (by decide) ?_
      refine ml_as (show _ = (Int64.ofNat 2497) by decide) ?_
      refine va_put (D := g.1) (ci := 10) (v := .long ((Int64.ofNat 2497))) (ty := .long) (C := "LatticeKeysModel$Ring") (T := T_MR) (N := 5) hx hb hts (wg_ft i_MR) ty_MR k_MR n_MR hown hK hP hD hS 0 rfl rfl 4 (by decide) (hts _ (wg_t kw_1366)) (fun _ h9 => h9) rfl (by decide +kernel) rfl rfl (Nat.le_of_ble_eq_true rfl) dMR_init_105 (fun H locs hP hD hS => ?_)
      have hP : va_P g.1 vcl [(h0, .inr (10, [.int (nI 3329), .int (nI 128), .ref q1, .ref q2, .long ((Int64.ofNat 2497))])), (q1, .inl (g.2.1 2, 256, .inr (.inl ((mrP 17 3329 255))))), (q2, .inl (g.2.1 0, 128, .inl ((fun _ => 0))))] _ := hP
      have hD : va_D _ [(h0, .inr (10, [.int (nI 3329), .int (nI 128), .ref q1, .ref q2, .long ((Int64.ofNat 2497))])), (q1, .inl (g.2.1 2, 256, .inr (.inl ((mrP 17 3329 255))))), (q2, .inl (g.2.1 0, 128, .inl ((fun _ => 0))))] := hD
      refine lv_iload hx hb dMR_init_108 (lv_at hl 0 rfl) ?_
      refine lv_iconst (v := nI 2) hx hb dMR_init_110 (by decide) ?_
      refine mi_imul hx hb dMR_init_111 ?_
      refine mi_as (show nI (2 * 2) = nI 4 from rfl) ?_
      refine lv_istore (lv' := [(4, .int (nI 4)), (0, .ref h0), (1, .int (nI 3329)), (2, .int (nI 17)), (3, .int (nI 128))]) hx hb dMR_init_112 hl (by decide) rfl (fun ls hl => ?_)
      refine lv_goto (tgt := 84) hx hb dMR_init_114 (by decide) ?_
      refine lv_iload hx hb dMR_init_84 (lv_at hl 0 rfl) ?_
      refine lv_iload_n hx hb dMR_init_86 rfl (lv_at hl 4 rfl) ?_
      refine mi_ge (tgt := 117) hx hb dMR_init_87 (by decide) (by omega) (by omega) (fun h9 => absurd h9 (by decide)) (fun _ => ?_)
      refine lv_aload_n hx hb dMR_init_90 rfl (lv_at hl 1 rfl) ?_
      refine lv_aload_n hx hb dMR_init_91 rfl (lv_at hl 1 rfl) ?_
      refine va_get (D := g.1) (ci := 10) (C := "LatticeKeysModel$Ring") (T := T_MR) (N := 5) hx hb hts (wg_ft i_MR) hown hK hP 0 rfl rfl 4 (by decide) (hts _ (wg_t kw_1366)) (fun _ h9 => h9) rfl dMR_init_92 ?_
      refine lv_iload_n hx hb dMR_init_95 rfl (lv_at hl 2 rfl) ?_
      refine lv_iconst (v := nI 1) hx hb dMR_init_96 (by decide) ?_
      refine mi_iadd hx hb dMR_init_97 ?_
      refine mi_as (show nI (3329 + 1) = nI 3330 from rfl) ?_
      refine lv_iconst (v := nI 2) hx hb dMR_init_98 (by decide) ?_
      refine mi_idiv hx hb dMR_init_99 (by omega) (by omega) (by omega) ?_
      refine mi_as (show nI (3330 / 2) = nI 1665 from rfl) ?_
      refine lv_i2l (v := 1665) hx hb dMR_init_100 (by decide) ?_
      refine lv_lmul hx hb dMR_init_101 ?_
      refine lv_iload_n hx hb dMR_init_102 rfl (lv_at hl 2 rfl) ?_
      refine lv_i2l (v := 3329) hx hb dMR_init_103 (by decide) ?_
      refine lv_lrem hx hb dMR_init_104 (by decide) ?_
      refine ml_as (show _ = (Int64.ofNat 2913) by decide) ?_
      refine va_put (D := g.1) (ci := 10) (v := .long ((Int64.ofNat 2913))) (ty := .long) (C := "LatticeKeysModel$Ring") (T := T_MR) (N := 5) hx hb hts (wg_ft i_MR) ty_MR k_MR n_MR hown hK hP hD hS 0 rfl rfl 4 (by decide) (hts _ (wg_t kw_1366)) (fun _ h9 => h9) rfl (by decide +kernel) rfl rfl (Nat.le_of_ble_eq_true rfl) dMR_init_105 (fun H locs hP hD hS => ?_)
      have hP : va_P g.1 vcl [(h0, .inr (10, [.int (nI 3329), .int (nI 128), .ref q1, .ref q2, .long ((Int64.ofNat 2913))])), (q1, .inl (g.2.1 2, 256, .inr (.inl ((mrP 17 3329 255))))), (q2, .inl (g.2.1 0, 128, .inl ((fun _ => 0))))] _ := hP
      have hD : va_D _ [(h0, .inr (10, [.int (nI 3329), .int (nI 128), .ref q1, .ref q2, .long ((Int64.ofNat 2913))])), (q1, .inl (g.2.1 2, 256, .inr (.inl ((mrP 17 3329 255))))), (q2, .inl (g.2.1 0, 128, .inl ((fun _ => 0))))] := hD
      refine lv_iload hx hb dMR_init_108 (lv_at hl 0 rfl) ?_
      refine lv_iconst (v := nI 2) hx hb dMR_init_110 (by decide) ?_
      refine mi_imul hx hb dMR_init_111 ?_
      refine mi_as (show nI (4 * 2) = nI 8 from rfl) ?_
      refine lv_istore (lv' := [(4, .int (nI 8)), (0, .ref h0), (1, .int (nI 3329)), (2, .int (nI 17)), (3, .int (nI 128))]) hx hb dMR_init_112 hl (by decide) rfl (fun ls hl => ?_)
      refine lv_goto (tgt := 84) hx hb dMR_init_114 (by decide) ?_
      refine lv_iload hx hb dMR_init_84 (lv_at hl 0 rfl) ?_
      refine lv_iload_n hx hb dMR_init_86 rfl (lv_at hl 4 rfl) ?_
      refine mi_ge (tgt := 117) hx hb dMR_init_87 (by decide) (by omega) (by omega) (fun h9 => absurd h9 (by decide)) (fun _ => ?_)
      refine lv_aload_n hx hb dMR_init_90 rfl (lv_at hl 1 rfl) ?_
      refine lv_aload_n hx hb dMR_init_91 rfl (lv_at hl 1 rfl) ?_
      refine va_get (D := g.1) (ci := 10) (C := "LatticeKeysModel$Ring") (T := T_MR) (N := 5) hx hb hts (wg_ft i_MR) hown hK hP 0 rfl rfl 4 (by decide) (hts _ (wg_t kw_1366)) (fun _ h9 => h9) rfl dMR_init_92 ?_
      refine lv_iload_n hx hb dMR_init_95 rfl (lv_at hl 2 rfl) ?_
      refine lv_iconst (v := nI 1) hx hb dMR_init_96 (by decide) ?_
      refine mi_iadd hx hb dMR_init_97 ?_
      refine mi_as (show nI (3329 + 1) = nI 3330 from rfl) ?_
      refine lv_iconst (v := nI 2) hx hb dMR_init_98 (by decide) ?_
      refine mi_idiv hx hb dMR_init_99 (by omega) (by omega) (by omega) ?_
      refine mi_as (show nI (3330 / 2) = nI 1665 from rfl) ?_
      refine lv_i2l (v := 1665) hx hb dMR_init_100 (by decide) ?_
      refine lv_lmul hx hb dMR_init_101 ?_
      refine lv_iload_n hx hb dMR_init_102 rfl (lv_at hl 2 rfl) ?_
      refine lv_i2l (v := 3329) hx hb dMR_init_103 (by decide) ?_
      refine lv_lrem hx hb dMR_init_104 (by decide) ?_
      refine ml_as (show _ = (Int64.ofNat 3121) by decide) ?_
      refine va_put (D := g.1) (ci := 10) (v := .long ((Int64.ofNat 3121))) (ty := .long) (C := "LatticeKeysModel$Ring") (T := T_MR) (N := 5) hx hb hts (wg_ft i_MR) ty_MR k_MR n_MR hown hK hP hD hS 0 rfl rfl 4 (by decide) (hts _ (wg_t kw_1366)) (fun _ h9 => h9) rfl (by decide +kernel) rfl rfl (Nat.le_of_ble_eq_true rfl) dMR_init_105 (fun H locs hP hD hS => ?_)
      have hP : va_P g.1 vcl [(h0, .inr (10, [.int (nI 3329), .int (nI 128), .ref q1, .ref q2, .long ((Int64.ofNat 3121))])), (q1, .inl (g.2.1 2, 256, .inr (.inl ((mrP 17 3329 255))))), (q2, .inl (g.2.1 0, 128, .inl ((fun _ => 0))))] _ := hP
      have hD : va_D _ [(h0, .inr (10, [.int (nI 3329), .int (nI 128), .ref q1, .ref q2, .long ((Int64.ofNat 3121))])), (q1, .inl (g.2.1 2, 256, .inr (.inl ((mrP 17 3329 255))))), (q2, .inl (g.2.1 0, 128, .inl ((fun _ => 0))))] := hD
      refine lv_iload hx hb dMR_init_108 (lv_at hl 0 rfl) ?_
      refine lv_iconst (v := nI 2) hx hb dMR_init_110 (by decide) ?_
      refine mi_imul hx hb dMR_init_111 ?_
      refine mi_as (show nI (8 * 2) = nI 16 from rfl) ?_
      refine lv_istore (lv' := [(4, .int (nI 16)), (0, .ref h0), (1, .int (nI 3329)), (2, .int (nI 17)), (3, .int (nI 128))]) hx hb dMR_init_112 hl (by decide) rfl (fun ls hl => ?_)
      refine lv_goto (tgt := 84) hx hb dMR_init_114 (by decide) ?_
      refine lv_iload hx hb dMR_init_84 (lv_at hl 0 rfl) ?_
      refine lv_iload_n hx hb dMR_init_86 rfl (lv_at hl 4 rfl) ?_
      refine mi_ge (tgt := 117) hx hb dMR_init_87 (by decide) (by omega) (by omega) (fun h9 => absurd h9 (by decide)) (fun _ => ?_)
      refine lv_aload_n hx hb dMR_init_90 rfl (lv_at hl 1 rfl) ?_
      refine lv_aload_n hx hb dMR_init_91 rfl (lv_at hl 1 rfl) ?_
      refine va_get (D := g.1) (ci := 10) (C := "LatticeKeysModel$Ring") (T := T_MR) (N := 5) hx hb hts (wg_ft i_MR) hown hK hP 0 rfl rfl 4 (by decide) (hts _ (wg_t kw_1366)) (fun _ h9 => h9) rfl dMR_init_92 ?_
      refine lv_iload_n hx hb dMR_init_95 rfl (lv_at hl 2 rfl) ?_
      refine lv_iconst (v := nI 1) hx hb dMR_init_96 (by decide) ?_
      refine mi_iadd hx hb dMR_init_97 ?_
      refine mi_as (show nI (3329 + 1) = nI 3330 from rfl) ?_
      refine lv_iconst (v := nI 2) hx hb dMR_init_98 (by decide) ?_
      refine mi_idiv hx hb dMR_init_99 (by omega) (by omega) (by omega) ?_
      refine mi_as (show nI (3330 / 2) = nI 1665 from rfl) ?_
      refine lv_i2l (v := 1665) hx hb dMR_init_100 (by decide) ?_
      refine lv_lmul hx hb dMR_init_101 ?_
      refine lv_iload_n hx hb dMR_init_102 rfl (lv_at hl 2 rfl) ?_
      refine lv_i2l (v := 3329) hx hb dMR_init_103 (by decide) ?_
      refine lv_lrem hx hb dMR_init_104 (by decide) ?_
      refine ml_as (show _ = (Int64.ofNat 3225) by decide) ?_
      refine va_put (D := g.1) (ci := 10) (v := .long ((Int64.ofNat 3225))) (ty := .long) (C := "LatticeKeysModel$Ring") (T := T_MR) (N := 5) hx hb hts (wg_ft i_MR) ty_MR k_MR n_MR hown hK hP hD hS 0 rfl rfl 4 (by decide) (hts _ (wg_t kw_1366)) (fun _ h9 => h9) rfl (by decide +kernel) rfl rfl (Nat.le_of_ble_eq_true rfl) dMR_init_105 (fun H locs hP hD hS => ?_)
      have hP : va_P g.1 vcl [(h0, .inr (10, [.int (nI 3329), .int (nI 128), .ref q1, .ref q2, .long ((Int64.ofNat 3225))])), (q1, .inl (g.2.1 2, 256, .inr (.inl ((mrP 17 3329 255))))), (q2, .inl (g.2.1 0, 128, .inl ((fun _ => 0))))] _ := hP
      have hD : va_D _ [(h0, .inr (10, [.int (nI 3329), .int (nI 128), .ref q1, .ref q2, .long ((Int64.ofNat 3225))])), (q1, .inl (g.2.1 2, 256, .inr (.inl ((mrP 17 3329 255))))), (q2, .inl (g.2.1 0, 128, .inl ((fun _ => 0))))] := hD
      refine lv_iload hx hb dMR_init_108 (lv_at hl 0 rfl) ?_
      refine lv_iconst (v := nI 2) hx hb dMR_init_110 (by decide) ?_
      refine mi_imul hx hb dMR_init_111 ?_
      refine mi_as (show nI (16 * 2) = nI 32 from rfl) ?_
      refine lv_istore (lv' := [(4, .int (nI 32)), (0, .ref h0), (1, .int (nI 3329)), (2, .int (nI 17)), (3, .int (nI 128))]) hx hb dMR_init_112 hl (by decide) rfl (fun ls hl => ?_)
      refine lv_goto (tgt := 84) hx hb dMR_init_114 (by decide) ?_
      refine lv_iload hx hb dMR_init_84 (lv_at hl 0 rfl) ?_
      refine lv_iload_n hx hb dMR_init_86 rfl (lv_at hl 4 rfl) ?_
      refine mi_ge (tgt := 117) hx hb dMR_init_87 (by decide) (by omega) (by omega) (fun h9 => absurd h9 (by decide)) (fun _ => ?_)
      refine lv_aload_n hx hb dMR_init_90 rfl (lv_at hl 1 rfl) ?_
      refine lv_aload_n hx hb dMR_init_91 rfl (lv_at hl 1 rfl) ?_
      refine va_get (D := g.1) (ci := 10) (C := "LatticeKeysModel$Ring") (T := T_MR) (N := 5) hx hb hts (wg_ft i_MR) hown hK hP 0 rfl rfl 4 (by decide) (hts _ (wg_t kw_1366)) (fun _ h9 => h9) rfl dMR_init_92 ?_
      refine lv_iload_n hx hb dMR_init_95 rfl (lv_at hl 2 rfl) ?_
      refine lv_iconst (v := nI 1) hx hb dMR_init_96 (by decide) ?_
      refine mi_iadd hx hb dMR_init_97 ?_
      refine mi_as (show nI (3329 + 1) = nI 3330 from rfl) ?_
      refine lv_iconst (v := nI 2) hx hb dMR_init_98 (by decide) ?_
      refine mi_idiv hx hb dMR_init_99 (by omega) (by omega) (by omega) ?_
      refine mi_as (show nI (3330 / 2) = nI 1665 from rfl) ?_
      refine lv_i2l (v := 1665) hx hb dMR_init_100 (by decide) ?_
      refine lv_lmul hx hb dMR_init_101 ?_
      refine lv_iload_n hx hb dMR_init_102 rfl (lv_at hl 2 rfl) ?_
      refine lv_i2l (v := 3329) hx hb dMR_init_103 (by decide) ?_
      refine lv_lrem hx hb dMR_init_104 (by decide) ?_
      refine ml_as (show _ = (Int64.ofNat 3277) by decide) ?_
      refine va_put (D := g.1) (ci := 10) (v := .long ((Int64.ofNat 3277))) (ty := .long) (C := "LatticeKeysModel$Ring") (T := T_MR) (N := 5) hx hb hts (wg_ft i_MR) ty_MR k_MR n_MR hown hK hP hD hS 0 rfl rfl 4 (by decide) (hts _ (wg_t kw_1366)) (fun _ h9 => h9) rfl (by decide +kernel) rfl rfl (Nat.le_of_ble_eq_true rfl) dMR_init_105 (fun H locs hP hD hS => ?_)
      have hP : va_P g.1 vcl [(h0, .inr (10, [.int (nI 3329), .int (nI 128), .ref q1, .ref q2, .long ((Int64.ofNat 3277))])), (q1, .inl (g.2.1 2, 256, .inr (.inl ((mrP 17 3329 255))))), (q2, .inl (g.2.1 0, 128, .inl ((fun _ => 0))))] _ := hP
      have hD : va_D _ [(h0, .inr (10, [.int (nI 3329), .int (nI 128), .ref q1, .ref q2, .long ((Int64.ofNat 3277))])), (q1, .inl (g.2.1 2, 256, .inr (.inl ((mrP 17 3329 255))))), (q2, .inl (g.2.1 0, 128, .inl ((fun _ => 0))))] := hD
      refine lv_iload hx hb dMR_init_108 (lv_at hl 0 rfl) ?_
      refine lv_iconst (v := nI 2) hx hb dMR_init_110 (by decide) ?_
      refine mi_imul hx hb dMR_init_111 ?_
      refine mi_as (show nI (32 * 2) = nI 64 from rfl) ?_
      refine lv_istore (lv' := [(4, .int (nI 64)), (0, .ref h0), (1, .int (nI 3329)), (2, .int (nI 17)), (3, .int (nI 128))]) hx hb dMR_init_112 hl (by decide) rfl (fun ls hl => ?_)
      refine lv_goto (tgt := 84) hx hb dMR_init_114 (by decide) ?_
      refine lv_iload hx hb dMR_init_84 (lv_at hl 0 rfl) ?_
      refine lv_iload_n hx hb dMR_init_86 rfl (lv_at hl 4 rfl) ?_
      refine mi_ge (tgt := 117) hx hb dMR_init_87 (by decide) (by omega) (by omega) (fun h9 => absurd h9 (by decide)) (fun _ => ?_)
      refine lv_aload_n hx hb dMR_init_90 rfl (lv_at hl 1 rfl) ?_
      refine lv_aload_n hx hb dMR_init_91 rfl (lv_at hl 1 rfl) ?_
      refine va_get (D := g.1) (ci := 10) (C := "LatticeKeysModel$Ring") (T := T_MR) (N := 5) hx hb hts (wg_ft i_MR) hown hK hP 0 rfl rfl 4 (by decide) (hts _ (wg_t kw_1366)) (fun _ h9 => h9) rfl dMR_init_92 ?_
      refine lv_iload_n hx hb dMR_init_95 rfl (lv_at hl 2 rfl) ?_
      refine lv_iconst (v := nI 1) hx hb dMR_init_96 (by decide) ?_
      refine mi_iadd hx hb dMR_init_97 ?_
      refine mi_as (show nI (3329 + 1) = nI 3330 from rfl) ?_
      refine lv_iconst (v := nI 2) hx hb dMR_init_98 (by decide) ?_
      refine mi_idiv hx hb dMR_init_99 (by omega) (by omega) (by omega) ?_
      refine mi_as (show nI (3330 / 2) = nI 1665 from rfl) ?_
      refine lv_i2l (v := 1665) hx hb dMR_init_100 (by decide) ?_
      refine lv_lmul hx hb dMR_init_101 ?_
      refine lv_iload_n hx hb dMR_init_102 rfl (lv_at hl 2 rfl) ?_
      refine lv_i2l (v := 3329) hx hb dMR_init_103 (by decide) ?_
      refine lv_lrem hx hb dMR_init_104 (by decide) ?_
      refine ml_as (show _ = (Int64.ofNat 3303) by decide) ?_
      refine va_put (D := g.1) (ci := 10) (v := .long ((Int64.ofNat 3303))) (ty := .long) (C := "LatticeKeysModel$Ring") (T := T_MR) (N := 5) hx hb hts (wg_ft i_MR) ty_MR k_MR n_MR hown hK hP hD hS 0 rfl rfl 4 (by decide) (hts _ (wg_t kw_1366)) (fun _ h9 => h9) rfl (by decide +kernel) rfl rfl (Nat.le_of_ble_eq_true rfl) dMR_init_105 (fun H locs hP hD hS => ?_)
      have hP : va_P g.1 vcl [(h0, .inr (10, [.int (nI 3329), .int (nI 128), .ref q1, .ref q2, .long ((Int64.ofNat 3303))])), (q1, .inl (g.2.1 2, 256, .inr (.inl ((mrP 17 3329 255))))), (q2, .inl (g.2.1 0, 128, .inl ((fun _ => 0))))] _ := hP
      have hD : va_D _ [(h0, .inr (10, [.int (nI 3329), .int (nI 128), .ref q1, .ref q2, .long ((Int64.ofNat 3303))])), (q1, .inl (g.2.1 2, 256, .inr (.inl ((mrP 17 3329 255))))), (q2, .inl (g.2.1 0, 128, .inl ((fun _ => 0))))] := hD
      refine lv_iload hx hb dMR_init_108 (lv_at hl 0 rfl) ?_
      refine lv_iconst (v := nI 2) hx hb dMR_init_110 (by decide) ?_
      refine mi_imul hx hb dMR_init_111 ?_
      refine mi_as (show nI (64 * 2) = nI 128 from rfl) ?_
      refine lv_istore (lv' := [(4, .int (nI 128)), (0, .ref h0), (1, .int (nI 3329)), (2, .int (nI 17)), (3, .int (nI 128))]) hx hb dMR_init_112 hl (by decide) rfl (fun ls hl => ?_)
      refine lv_goto (tgt := 84) hx hb dMR_init_114 (by decide) ?_
      refine lv_iload hx hb dMR_init_84 (lv_at hl 0 rfl) ?_
      refine lv_iload_n hx hb dMR_init_86 rfl (lv_at hl 4 rfl) ?_
      refine mi_ge (tgt := 117) hx hb dMR_init_87 (by decide) (by omega) (by omega) (fun _ => ?_) (fun h9 => absurd h9 (by decide))
      refine lv_iconst (v := nI 0) hx hb dMR_init_117 (by decide) ?_
      refine lv_istore (lv' := [(4, .int (nI 0)), (0, .ref h0), (1, .int (nI 3329)), (2, .int (nI 17)), (3, .int (nI 128))]) hx hb dMR_init_118 hl (by decide) rfl (fun ls hl => ?_)
      have hP : va_P g.1 vcl [(h0, .inr (10, [.int (nI 3329), .int (nI 128), .ref q1, .ref q2, .long ((Int64.ofNat 3303))])), (q1, .inl (g.2.1 2, 256, .inr (.inl ((mrP 17 3329 255))))), (q2, .inl (g.2.1 0, 128, .inl ((mrR 7 0))))] H := hP
      have hD : va_D A [(h0, .inr (10, [.int (nI 3329), .int (nI 128), .ref q1, .ref q2, .long ((Int64.ofNat 3303))])), (q1, .inl (g.2.1 2, 256, .inr (.inl ((mrP 17 3329 255))))), (q2, .inl (g.2.1 0, 128, .inl ((mrR 7 0))))] := hD
      exact li 128 0 ls H locs (by omega) (lv_sub hl [0, 1, 2, 3, 4] rfl) hP hD hS
    | succ n ih =>
      intro t ls H locs hi hl hP hD hS
      refine lv_iload hx hb dMR_init_45 (lv_at hl 0 rfl) ?_
      refine lv_iconst (v := nI 2) hx hb dMR_init_47 (by decide) ?_
      refine lv_iload_n hx hb dMR_init_48 rfl (lv_at hl 4 rfl) ?_
      refine mi_imul hx hb dMR_init_49 ?_
      refine mi_as (show nI (2 * 128) = nI 256 from rfl) ?_
      refine mi_ge (tgt := 81) hx hb dMR_init_50 (by decide) (by omega) (by omega) (fun h1 => absurd h1 (by omega)) (fun h1 => ?_)
      refine lv_aload_n hx hb dMR_init_53 rfl (lv_at hl 1 rfl) ?_
      refine va_get (D := g.1) (ci := 10) (C := "LatticeKeysModel$Ring") (T := T_MR) (N := 5) hx hb hts (wg_ft i_MR) hown hK hP 0 rfl rfl 2 (by decide) (hts _ (wg_t kw_1364)) (fun _ h9 => h9) rfl dMR_init_54 ?_
      refine lv_iload hx hb dMR_init_57 (lv_at hl 0 rfl) ?_
      refine lv_aload_n hx hb dMR_init_59 rfl (lv_at hl 1 rfl) ?_
      refine va_get (D := g.1) (ci := 10) (C := "LatticeKeysModel$Ring") (T := T_MR) (N := 5) hx hb hts (wg_ft i_MR) hown hK hP 0 rfl rfl 2 (by decide) (hts _ (wg_t kw_1364)) (fun _ h9 => h9) rfl dMR_init_60 ?_
      refine lv_iload hx hb dMR_init_63 (lv_at hl 0 rfl) ?_
      refine lv_iconst (v := nI 1) hx hb dMR_init_65 (by decide) ?_
      refine mi_isub hx hb dMR_init_66 (by omega) ?_
      refine mi_as (show nI (t + 1 - 1) = nI t from rfl) ?_
      refine mp_lald hx hb hK hP 1 2 rfl rfl (by omega) (by decide) dMR_init_67 ?_
      refine lv_iload_n hx hb dMR_init_68 rfl (lv_at hl 3 rfl) ?_
      refine lv_i2l (v := 17) hx hb dMR_init_69 (by decide) ?_
      refine lv_lmul hx hb dMR_init_70 ?_
      refine lv_iload_n hx hb dMR_init_71 rfl (lv_at hl 2 rfl) ?_
      refine lv_i2l (v := 3329) hx hb dMR_init_72 (by decide) ?_
      refine lv_lrem hx hb dMR_init_73 (by decide) ?_
      refine mp_last hx hb hK hP hD hS 1 2 rfl rfl (by omega) (by decide) dMR_init_74 (fun H locs hP hD hS => ?_)
      have hP : va_P g.1 vcl [(h0, .inr (10, [.int (nI 3329), .int (nI 128), .ref q1, .ref q2, .long ((1 : Int64))])), (q1, .inl (g.2.1 2, 256, .inr (.inl ((vp_updL (mrP 17 3329 t) (t + 1) ((((mrP 17 3329 t) t) * (17 : Int64)) - (((mrP 17 3329 t) t) * (17 : Int64)) / (3329 : Int64) * (3329 : Int64))))))), (q2, .inl (g.2.1 0, 128, .inl ((fun _ => 0))))] _ := hP
      have hD : va_D _ [(h0, .inr (10, [.int (nI 3329), .int (nI 128), .ref q1, .ref q2, .long ((1 : Int64))])), (q1, .inl (g.2.1 2, 256, .inr (.inl ((vp_updL (mrP 17 3329 t) (t + 1) ((((mrP 17 3329 t) t) * (17 : Int64)) - (((mrP 17 3329 t) t) * (17 : Int64)) / (3329 : Int64) * (3329 : Int64))))))), (q2, .inl (g.2.1 0, 128, .inl ((fun _ => 0))))] := hD
      refine mi_iinc (k := 0) (x := t + 1) (d := 1) (y := t + 1 + 1) (lv' := [(4, .int (nI (t + 1 + 1))), (0, .ref h0), (1, .int (nI 3329)), (2, .int (nI 17)), (3, .int (nI 128))]) hx hb dMR_init_75 hl rfl (by decide) rfl (by decide) rfl (fun ls hl => ?_)
      refine lv_goto (tgt := 45) hx hb dMR_init_78 (by decide) ?_
      have hP : va_P g.1 vcl [(h0, .inr (10, [.int (nI 3329), .int (nI 128), .ref q1, .ref q2, .long ((1 : Int64))])), (q1, .inl (g.2.1 2, 256, .inr (.inl ((mrP 17 3329 (t + 1)))))), (q2, .inl (g.2.1 0, 128, .inl ((fun _ => 0))))] H := hP
      have hD : va_D A [(h0, .inr (10, [.int (nI 3329), .int (nI 128), .ref q1, .ref q2, .long ((1 : Int64))])), (q1, .inl (g.2.1 2, 256, .inr (.inl ((mrP 17 3329 (t + 1)))))), (q2, .inl (g.2.1 0, 128, .inl ((fun _ => 0))))] := hD
      exact ih (t + 1) ls H locs (by omega) (lv_sub hl [0, 1, 2, 3, 4] rfl) hP hD hS
  have hP : va_P g.1 vcl [(h0, .inr (10, [.int (nI 3329), .int (nI 128), .ref q1, .ref q2, .long ((1 : Int64))])), (q1, .inl (g.2.1 2, 256, .inr (.inl ((mrP 17 3329 0))))), (q2, .inl (g.2.1 0, 128, .inl ((fun _ => 0))))] _ := hP
  have hD : va_D A [(h0, .inr (10, [.int (nI 3329), .int (nI 128), .ref q1, .ref q2, .long ((1 : Int64))])), (q1, .inl (g.2.1 2, 256, .inr (.inl ((mrP 17 3329 0))))), (q2, .inl (g.2.1 0, 128, .inl ((fun _ => 0))))] := hD
  exact lp 255 0 ls _ _ (by omega) (lv_sub hl [0, 1, 2, 3, 4] rfl) hP hD hS
set_option maxHeartbeats 400000 in
set_option maxRecDepth 100000 in
theorem m_MR_initX_8 (l : Launch) (g : Gd) (sz : Nat) (h0 : Nat)  : Met l y_MR_init w_MR_init ({ frames := 1, cells := 2, slots := 768, locals := 12 } : Room) (va_Pc [.ref h0, .int (nI 8380417), .int (nI 1753), .int (nI 256)] (pr (en g) g.1 vcl sz [(h0, .inr (10, [.int 0, .int 0, .null, .null, .long 0]))])) (va_Qv (fun (u : Nat → Nat) => True) (po g.1 vcl (va_A [(h0, .inr (10, [.int 0, .int 0, .null, .null, .long 0]))] sz) (fun (u : Nat → Nat) => [(h0, .inr (10, [.int (nI 8380417), .int (nI 256), .ref ((u 0)), .ref ((u 1)), .long ((Int64.ofNat 8347681))])), ((u 0), .inl (g.2.1 2, 512, .inr (.inl ((mrP 1753 8380417 511))))), ((u 1), .inl (g.2.1 0, 256, .inl ((mrR 8 256))))])) (va_A [(h0, .inr (10, [.int 0, .int 0, .null, .null, .long 0]))] sz)) 2 768 (va_A [(h0, .inr (10, [.int 0, .int 0, .null, .null, .long 0]))] sz) := by
  refine mc_entry (cc := c_MR_init) (maxL := 7) (ret := none) (by decide) rfl (Nat.le_of_ble_eq_true rfl) ?_
  intro p e s m args below meth c ls F hr hlk hnm hsz hP hD hE hA hl
  obtain ⟨hx, hb, hml, hown, hts⟩ := id F
  have hK := hE.1
  generalize va_A [(h0, .inr (10, [.int 0, .int 0, .null, .null, .long 0]))] sz = A at hD hE hA ⊢
  have hS : va_S A s.heap s.heap [] := va_S.rf
  have hl : lv_has ls 7 [(0, .ref h0), (1, .int (nI 8380417)), (2, .int (nI 1753)), (3, .int (nI 256))] := hl
  refine lv_aload_n hx hb dMR_init_0 rfl (lv_at hl 0 rfl) ?_
  refine W.objInit hx hb hown (hts _ (wg_t kw_1361)) (hts _ (wg_t kw_41)) (hts _ (wg_t kobj)) rfl (by rw [hml]; exact hl.1) rfl dMR_init_1 (Nat.le_of_ble_eq_true rfl) (Nat.le_of_ble_eq_true rfl) ?_
  refine W.eq (g2 := F0 m 4 ls []) rfl ?_
  refine lv_aload_n hx hb dMR_init_4 rfl (lv_at hl 0 rfl) ?_
  refine lv_lconst (v := 1) hx hb dMR_init_5 (by decide) ?_
  refine va_put (D := g.1) (ci := 10) (v := .long ((1 : Int64))) (ty := .long) (C := "LatticeKeysModel$Ring") (T := T_MR) (N := 5) hx hb hts (wg_ft i_MR) ty_MR k_MR n_MR hown hK hP hD hS 0 rfl rfl 4 (by decide) (hts _ (wg_t kw_1366)) (fun _ h9 => h9) rfl (by decide +kernel) rfl rfl (Nat.le_of_ble_eq_true rfl) dMR_init_6 (fun H locs hP hD hS => ?_)
  have hP : va_P g.1 vcl [(h0, .inr (10, [.int 0, .int 0, .null, .null, .long ((1 : Int64))]))] _ := hP
  have hD : va_D _ [(h0, .inr (10, [.int 0, .int 0, .null, .null, .long ((1 : Int64))]))] := hD
  refine lv_aload_n hx hb dMR_init_9 rfl (lv_at hl 0 rfl) ?_
  refine lv_iload_n hx hb dMR_init_10 rfl (lv_at hl 1 rfl) ?_
  refine va_putF (D := g.1) (ci := 10) (v := .int (nI 8380417)) (ty := .int) (C := "LatticeKeysModel$Ring") (T := T_MR) (N := 5) hx hb hts (wg_ft i_MR) ty_MR k_MR n_MR hown hK hP hD hS 0 rfl rfl 0 (by decide) (hts _ (wg_t kw_1362)) (fun _ h9 => h9) rfl hnm rfl (by decide +kernel) rfl rfl (Nat.le_of_ble_eq_true rfl) dMR_init_11 (fun H locs hP hD hS => ?_)
  have hP : va_P g.1 vcl [(h0, .inr (10, [.int (nI 8380417), .int 0, .null, .null, .long ((1 : Int64))]))] _ := hP
  have hD : va_D _ [(h0, .inr (10, [.int (nI 8380417), .int 0, .null, .null, .long ((1 : Int64))]))] := hD
  refine lv_aload_n hx hb dMR_init_14 rfl (lv_at hl 0 rfl) ?_
  refine lv_iload_n hx hb dMR_init_15 rfl (lv_at hl 3 rfl) ?_
  refine va_putF (D := g.1) (ci := 10) (v := .int (nI 256)) (ty := .int) (C := "LatticeKeysModel$Ring") (T := T_MR) (N := 5) hx hb hts (wg_ft i_MR) ty_MR k_MR n_MR hown hK hP hD hS 0 rfl rfl 1 (by decide) (hts _ (wg_t kw_1363)) (fun _ h9 => h9) rfl hnm rfl (by decide +kernel) rfl rfl (Nat.le_of_ble_eq_true rfl) dMR_init_16 (fun H locs hP hD hS => ?_)
  have hP : va_P g.1 vcl [(h0, .inr (10, [.int (nI 8380417), .int (nI 256), .null, .null, .long ((1 : Int64))]))] _ := hP
  have hD : va_D _ [(h0, .inr (10, [.int (nI 8380417), .int (nI 256), .null, .null, .long ((1 : Int64))]))] := hD
  refine lv_aload_n hx hb dMR_init_19 rfl (lv_at hl 0 rfl) ?_
  refine lv_iconst (v := nI 2) hx hb dMR_init_20 (by decide) ?_
  refine lv_iload_n hx hb dMR_init_21 rfl (lv_at hl 3 rfl) ?_
  refine mi_imul hx hb dMR_init_22 ?_
  refine mi_as (show nI (2 * 256) = nI 512 from rfl) ?_
  refine ma_newa (atype := .long) hx hb (hts _ (wg_t kw_73)) rfl hK hP hD hS hA 2 rfl (N' := 512) (a0 := (512, .inr (.inl (fun _ => 0)))) (fun _ => rfl) (by decide) (by decide) (by decide) (by decide) (by decide) dMR_init_23 (fun q1 H hP hD hS => ?_)
  have hP : va_P g.1 vcl [(h0, .inr (10, [.int (nI 8380417), .int (nI 256), .null, .null, .long ((1 : Int64))])), (q1, .inl (g.2.1 2, 512, .inr (.inl ((fun _ => 0)))))] _ := hP
  have hD : va_D _ [(h0, .inr (10, [.int (nI 8380417), .int (nI 256), .null, .null, .long ((1 : Int64))])), (q1, .inl (g.2.1 2, 512, .inr (.inl ((fun _ => 0)))))] := hD
  refine W.widen (k := 1) (n := 512) (by decide) (by decide) ?_
  refine va_putF (D := g.1) (ci := 10) (v := .ref q1) (ty := .array .long) (C := "LatticeKeysModel$Ring") (T := T_MR) (N := 5) hx hb hts (wg_ft i_MR) ty_MR k_MR n_MR hown hK hP hD hS 0 rfl rfl 2 (by decide) (hts _ (wg_t kw_1364)) (fun _ h9 => h9) rfl hnm rfl (by decide +kernel) rfl rfl (Nat.le_of_ble_eq_true rfl) dMR_init_25 (fun H locs hP hD hS => ?_)
  have hP : va_P g.1 vcl [(h0, .inr (10, [.int (nI 8380417), .int (nI 256), .ref q1, .null, .long ((1 : Int64))])), (q1, .inl (g.2.1 2, 512, .inr (.inl ((fun _ => 0)))))] _ := hP
  have hD : va_D _ [(h0, .inr (10, [.int (nI 8380417), .int (nI 256), .ref q1, .null, .long ((1 : Int64))])), (q1, .inl (g.2.1 2, 512, .inr (.inl ((fun _ => 0)))))] := hD
  refine lv_aload_n hx hb dMR_init_28 rfl (lv_at hl 0 rfl) ?_
  refine lv_iload_n hx hb dMR_init_29 rfl (lv_at hl 3 rfl) ?_
  refine ma_newa (atype := .int) hx hb (hts _ (wg_t kw_104)) rfl hK hP hD hS hA 0 rfl (N' := 256) (a0 := (256, .inl (fun _ => 0))) (fun _ => rfl) (by decide) (by decide) (by decide) (by decide) (by decide) dMR_init_30 (fun q2 H hP hD hS => ?_)
  have hP : va_P g.1 vcl [(h0, .inr (10, [.int (nI 8380417), .int (nI 256), .ref q1, .null, .long ((1 : Int64))])), (q1, .inl (g.2.1 2, 512, .inr (.inl ((fun _ => 0))))), (q2, .inl (g.2.1 0, 256, .inl ((fun _ => 0))))] _ := hP
  have hD : va_D _ [(h0, .inr (10, [.int (nI 8380417), .int (nI 256), .ref q1, .null, .long ((1 : Int64))])), (q1, .inl (g.2.1 2, 512, .inr (.inl ((fun _ => 0))))), (q2, .inl (g.2.1 0, 256, .inl ((fun _ => 0))))] := hD
  refine W.widen (k := 2) (n := 768) (by decide) (by decide) ?_
  refine va_putF (D := g.1) (ci := 10) (v := .ref q2) (ty := .array .int) (C := "LatticeKeysModel$Ring") (T := T_MR) (N := 5) hx hb hts (wg_ft i_MR) ty_MR k_MR n_MR hown hK hP hD hS 0 rfl rfl 3 (by decide) (hts _ (wg_t kw_1365)) (fun _ h9 => h9) rfl hnm rfl (by decide +kernel) rfl rfl (Nat.le_of_ble_eq_true rfl) dMR_init_32 (fun H locs hP hD hS => ?_)
  have hP : va_P g.1 vcl [(h0, .inr (10, [.int (nI 8380417), .int (nI 256), .ref q1, .ref q2, .long ((1 : Int64))])), (q1, .inl (g.2.1 2, 512, .inr (.inl ((fun _ => 0))))), (q2, .inl (g.2.1 0, 256, .inl ((fun _ => 0))))] _ := hP
  have hD : va_D _ [(h0, .inr (10, [.int (nI 8380417), .int (nI 256), .ref q1, .ref q2, .long ((1 : Int64))])), (q1, .inl (g.2.1 2, 512, .inr (.inl ((fun _ => 0))))), (q2, .inl (g.2.1 0, 256, .inl ((fun _ => 0))))] := hD
  refine lv_aload_n hx hb dMR_init_35 rfl (lv_at hl 0 rfl) ?_
  refine va_get (D := g.1) (ci := 10) (C := "LatticeKeysModel$Ring") (T := T_MR) (N := 5) hx hb hts (wg_ft i_MR) hown hK hP 0 rfl rfl 2 (by decide) (hts _ (wg_t kw_1364)) (fun _ h9 => h9) rfl dMR_init_36 ?_
  refine lv_iconst (v := nI 0) hx hb dMR_init_39 (by decide) ?_
  refine lv_lconst (v := 1) hx hb dMR_init_40 (by decide) ?_
  refine mp_last hx hb hK hP hD hS 1 2 rfl rfl (by omega) (by decide) dMR_init_41 (fun H locs hP hD hS => ?_)
  have hP : va_P g.1 vcl [(h0, .inr (10, [.int (nI 8380417), .int (nI 256), .ref q1, .ref q2, .long ((1 : Int64))])), (q1, .inl (g.2.1 2, 512, .inr (.inl ((vp_updL (fun _ => 0) 0 (1 : Int64)))))), (q2, .inl (g.2.1 0, 256, .inl ((fun _ => 0))))] _ := hP
  have hD : va_D _ [(h0, .inr (10, [.int (nI 8380417), .int (nI 256), .ref q1, .ref q2, .long ((1 : Int64))])), (q1, .inl (g.2.1 2, 512, .inr (.inl ((vp_updL (fun _ => 0) 0 (1 : Int64)))))), (q2, .inl (g.2.1 0, 256, .inl ((fun _ => 0))))] := hD
  refine lv_iconst (v := nI 1) hx hb dMR_init_42 (by decide) ?_
  refine lv_istore (lv' := [(4, .int (nI 1)), (0, .ref h0), (1, .int (nI 8380417)), (2, .int (nI 1753)), (3, .int (nI 256))]) hx hb dMR_init_43 hl (by decide) rfl (fun ls hl => ?_)
  have li : ∀ (n i : Nat) (ls : Array Slot) (H : Heap) (locs : List Loc), n + i = 256 → lv_has ls 7 [(4, .int (nI i)), (0, .ref h0), (1, .int (nI 8380417)), (2, .int (nI 1753)), (3, .int (nI 256))] → va_P g.1 vcl [(h0, .inr (10, [.int (nI 8380417), .int (nI 256), .ref q1, .ref q2, .long ((Int64.ofNat 8347681))])), (q1, .inl (g.2.1 2, 512, .inr (.inl ((mrP 1753 8380417 511))))), (q2, .inl (g.2.1 0, 256, .inl ((mrR 8 i))))] H → va_D A [(h0, .inr (10, [.int (nI 8380417), .int (nI 256), .ref q1, .ref q2, .long ((Int64.ofNat 8347681))])), (q1, .inl (g.2.1 2, 512, .inr (.inl ((mrP 1753 8380417 511))))), (q2, .inl (g.2.1 0, 256, .inl ((mrR 8 i))))] → va_S A s.heap H locs → W p l e ({ frames := 1, cells := 2, slots := 768, locals := 12 } : Room) s m args below meth c H locs 2 768 (MQ below (va_Qv (fun (u : Nat → Nat) => True) (po g.1 vcl A (fun (u : Nat → Nat) => [(h0, .inr (10, [.int (nI 8380417), .int (nI 256), .ref ((u 0)), .ref ((u 1)), .long ((Int64.ofNat 8347681))])), ((u 0), .inl (g.2.1 2, 512, .inr (.inl ((mrP 1753 8380417 511))))), ((u 1), .inl (g.2.1 0, 256, .inl ((mrR 8 256))))])) A) args s 2 768 A) (F0 m 120 ls []) := by
    intro n
    induction n with
    | zero =>
      intro i ls H locs hi hl hP hD hS
      obtain rfl : i = 256 := by omega
      refine lv_iload hx hb dMR_init_120 (lv_at hl 0 rfl) ?_
      refine lv_iload_n hx hb dMR_init_122 rfl (lv_at hl 4 rfl) ?_
      refine mi_ge (tgt := 180) hx hb dMR_init_123 (by decide) (by omega) (by omega) (fun h1 => ?_) (fun h1 => absurd h1 (by omega))
      exact mc_vret hx hb hr hlk hP hD hS (fun k => match k with | 0 => q1 | _ => q2) trivial [0, 1, 2] rfl rfl (by omega) (by omega) dMR_init_180
    | succ n ih =>
      intro i ls H locs hi hl hP hD hS
      have hq8 : ∀ k, i / 2 ^ k < 256 := fun k => Nat.lt_of_le_of_lt (Nat.div_le_self _ _) (by omega)
      have hm8 : ∀ k, k ≤ 8 → mirL k i < 256 := fun k hk => Nat.lt_of_lt_of_le (mirL_lt k i) (Nat.pow_le_pow_right (by decide) (show k ≤ 8 by omega))
      refine lv_iload hx hb dMR_init_120 (lv_at hl 0 rfl) ?_
      refine lv_iload_n hx hb dMR_init_122 rfl (lv_at hl 4 rfl) ?_
      refine mi_ge (tgt := 180) hx hb dMR_init_123 (by decide) (by omega) (by omega) (fun h1 => absurd h1 (by omega)) (fun h1 => ?_)
      refine lv_iconst (v := nI 0) hx hb dMR_init_126 (by decide) ?_
      refine mi_as (show nI 0 = nI (mirL 0 i) from rfl) ?_
      refine lv_istore (lv' := [(5, .int (nI (mirL 0 i))), (4, .int (nI i)), (0, .ref h0), (1, .int (nI 8380417)), (2, .int (nI 1753)), (3, .int (nI 256))]) hx hb dMR_init_127 hl (by decide) rfl (fun ls hl => ?_)
      refine lv_iconst (v := nI 1) hx hb dMR_init_129 (by decide) ?_
      refine lv_istore (lv' := [(6, .int (nI 1)), (5, .int (nI (mirL 0 i))), (4, .int (nI i)), (0, .ref h0), (1, .int (nI 8380417)), (2, .int (nI 1753)), (3, .int (nI 256))]) hx hb dMR_init_130 hl (by decide) rfl (fun ls hl => ?_)
      refine lv_iload hx hb dMR_init_132 (lv_at hl 0 rfl) ?_
      refine lv_iload_n hx hb dMR_init_134 rfl (lv_at hl 6 rfl) ?_
      refine mi_ge (tgt := 161) hx hb dMR_init_135 (by decide) (by omega) (by omega) (fun h9 => absurd h9 (by decide)) (fun _ => ?_)
      refine lv_iconst (v := nI 2) hx hb dMR_init_138 (by decide) ?_
      refine lv_iload hx hb dMR_init_139 (lv_at hl 1 rfl) ?_
      refine mi_imul hx hb dMR_init_141 ?_
      refine lv_iload hx hb dMR_init_142 (lv_at hl 2 rfl) ?_
      refine lv_iload hx hb dMR_init_144 (lv_at hl 0 rfl) ?_
      refine mi_idiv hx hb dMR_init_146 (by omega) (by omega) (by omega) ?_
      refine mi_as (show nI (i / 1) = nI (i / 2 ^ 0) from rfl) ?_
      refine lv_iconst (v := nI 1) hx hb dMR_init_147 (by decide) ?_
      refine lv_iand hx hb dMR_init_148 ?_
      refine mi_as (mr_and _ (hq8 0)) ?_
      refine mi_iadd hx hb dMR_init_149 ?_
      refine mi_as (show _ = nI (mirL 1 i) from rfl) ?_
      refine lv_istore (lv' := [(5, .int (nI (mirL 1 i))), (6, .int (nI 1)), (4, .int (nI i)), (0, .ref h0), (1, .int (nI 8380417)), (2, .int (nI 1753)), (3, .int (nI 256))]) hx hb dMR_init_150 hl (by decide) rfl (fun ls hl => ?_)
      refine lv_iload hx hb dMR_init_152 (lv_at hl 1 rfl) ?_
      refine lv_iconst (v := nI 2) hx hb dMR_init_154 (by decide) ?_
      refine mi_imul hx hb dMR_init_155 ?_
      refine mi_as (show nI (1 * 2) = nI 2 from rfl) ?_
      refine lv_istore (lv' := [(6, .int (nI 2)), (5, .int (nI (mirL 1 i))), (4, .int (nI i)), (0, .ref h0), (1, .int (nI 8380417)), (2, .int (nI 1753)), (3, .int (nI 256))]) hx hb dMR_init_156 hl (by decide) rfl (fun ls hl => ?_)
      refine lv_goto (tgt := 132) hx hb dMR_init_158 (by decide) ?_
      refine lv_iload hx hb dMR_init_132 (lv_at hl 0 rfl) ?_
      refine lv_iload_n hx hb dMR_init_134 rfl (lv_at hl 6 rfl) ?_
      refine mi_ge (tgt := 161) hx hb dMR_init_135 (by decide) (by omega) (by omega) (fun h9 => absurd h9 (by decide)) (fun _ => ?_)
      refine lv_iconst (v := nI 2) hx hb dMR_init_138 (by decide) ?_
      refine lv_iload hx hb dMR_init_139 (lv_at hl 1 rfl) ?_
      refine mi_imul hx hb dMR_init_141 ?_
      refine lv_iload hx hb dMR_init_142 (lv_at hl 2 rfl) ?_
      refine lv_iload hx hb dMR_init_144 (lv_at hl 0 rfl) ?_
      refine mi_idiv hx hb dMR_init_146 (by omega) (by omega) (by omega) ?_
      refine mi_as (show nI (i / 2) = nI (i / 2 ^ 1) from rfl) ?_
      refine lv_iconst (v := nI 1) hx hb dMR_init_147 (by decide) ?_
      refine lv_iand hx hb dMR_init_148 ?_
      refine mi_as (mr_and _ (hq8 1)) ?_
      refine mi_iadd hx hb dMR_init_149 ?_
      refine mi_as (show _ = nI (mirL 2 i) from rfl) ?_
      refine lv_istore (lv' := [(5, .int (nI (mirL 2 i))), (6, .int (nI 2)), (4, .int (nI i)), (0, .ref h0), (1, .int (nI 8380417)), (2, .int (nI 1753)), (3, .int (nI 256))]) hx hb dMR_init_150 hl (by decide) rfl (fun ls hl => ?_)
      refine lv_iload hx hb dMR_init_152 (lv_at hl 1 rfl) ?_
      refine lv_iconst (v := nI 2) hx hb dMR_init_154 (by decide) ?_
      refine mi_imul hx hb dMR_init_155 ?_
      refine mi_as (show nI (2 * 2) = nI 4 from rfl) ?_
      refine lv_istore (lv' := [(6, .int (nI 4)), (5, .int (nI (mirL 2 i))), (4, .int (nI i)), (0, .ref h0), (1, .int (nI 8380417)), (2, .int (nI 1753)), (3, .int (nI 256))]) hx hb dMR_init_156 hl (by decide) rfl (fun ls hl => ?_)
      refine lv_goto (tgt := 132) hx hb dMR_init_158 (by decide) ?_
      refine lv_iload hx hb dMR_init_132 (lv_at hl 0 rfl) ?_
      refine lv_iload_n hx hb dMR_init_134 rfl (lv_at hl 6 rfl) ?_
      refine mi_ge (tgt := 161) hx hb dMR_init_135 (by decide) (by omega) (by omega) (fun h9 => absurd h9 (by decide)) (fun _ => ?_)
      refine lv_iconst (v := nI 2) hx hb dMR_init_138 (by decide) ?_
      refine lv_iload hx hb dMR_init_139 (lv_at hl 1 rfl) ?_
      refine mi_imul hx hb dMR_init_141 ?_
      refine lv_iload hx hb dMR_init_142 (lv_at hl 2 rfl) ?_
      refine lv_iload hx hb dMR_init_144 (lv_at hl 0 rfl) ?_
      refine mi_idiv hx hb dMR_init_146 (by omega) (by omega) (by omega) ?_
      refine mi_as (show nI (i / 4) = nI (i / 2 ^ 2) from rfl) ?_
      refine lv_iconst (v := nI 1) hx hb dMR_init_147 (by decide) ?_
      refine lv_iand hx hb dMR_init_148 ?_
      refine mi_as (mr_and _ (hq8 2)) ?_
      refine mi_iadd hx hb dMR_init_149 ?_
      refine mi_as (show _ = nI (mirL 3 i) from rfl) ?_
      refine lv_istore (lv' := [(5, .int (nI (mirL 3 i))), (6, .int (nI 4)), (4, .int (nI i)), (0, .ref h0), (1, .int (nI 8380417)), (2, .int (nI 1753)), (3, .int (nI 256))]) hx hb dMR_init_150 hl (by decide) rfl (fun ls hl => ?_)
      refine lv_iload hx hb dMR_init_152 (lv_at hl 1 rfl) ?_
      refine lv_iconst (v := nI 2) hx hb dMR_init_154 (by decide) ?_
      refine mi_imul hx hb dMR_init_155 ?_
      refine mi_as (show nI (4 * 2) = nI 8 from rfl) ?_
      refine lv_istore (lv' := [(6, .int (nI 8)), (5, .int (nI (mirL 3 i))), (4, .int (nI i)), (0, .ref h0), (1, .int (nI 8380417)), (2, .int (nI 1753)), (3, .int (nI 256))]) hx hb dMR_init_156 hl (by decide) rfl (fun ls hl => ?_)
      refine lv_goto (tgt := 132) hx hb dMR_init_158 (by decide) ?_
      refine lv_iload hx hb dMR_init_132 (lv_at hl 0 rfl) ?_
      refine lv_iload_n hx hb dMR_init_134 rfl (lv_at hl 6 rfl) ?_
      refine mi_ge (tgt := 161) hx hb dMR_init_135 (by decide) (by omega) (by omega) (fun h9 => absurd h9 (by decide)) (fun _ => ?_)
      refine lv_iconst (v := nI 2) hx hb dMR_init_138 (by decide) ?_
      refine lv_iload hx hb dMR_init_139 (lv_at hl 1 rfl) ?_
      refine mi_imul hx hb dMR_init_141 ?_
      refine lv_iload hx hb dMR_init_142 (lv_at hl 2 rfl) ?_
      refine lv_iload hx hb dMR_init_144 (lv_at hl 0 rfl) ?_
      refine mi_idiv hx hb dMR_init_146 (by omega) (by omega) (by omega) ?_
      refine mi_as (show nI (i / 8) = nI (i / 2 ^ 3) from rfl) ?_
      refine lv_iconst (v := nI 1) hx hb dMR_init_147 (by decide) ?_
      refine lv_iand hx hb dMR_init_148 ?_
      refine mi_as (mr_and _ (hq8 3)) ?_
      refine mi_iadd hx hb dMR_init_149 ?_
      refine mi_as (show _ = nI (mirL 4 i) from rfl) ?_
      refine lv_istore (lv' := [(5, .int (nI (mirL 4 i))), (6, .int (nI 8)), (4, .int (nI i)), (0, .ref h0), (1, .int (nI 8380417)), (2, .int (nI 1753)), (3, .int (nI 256))]) hx hb dMR_init_150 hl (by decide) rfl (fun ls hl => ?_)
      refine lv_iload hx hb dMR_init_152 (lv_at hl 1 rfl) ?_
      refine lv_iconst (v := nI 2) hx hb dMR_init_154 (by decide) ?_
      refine mi_imul hx hb dMR_init_155 ?_
      refine mi_as (show nI (8 * 2) = nI 16 from rfl) ?_
      refine lv_istore (lv' := [(6, .int (nI 16)), (5, .int (nI (mirL 4 i))), (4, .int (nI i)), (0, .ref h0), (1, .int (nI 8380417)), (2, .int (nI 1753)), (3, .int (nI 256))]) hx hb dMR_init_156 hl (by decide) rfl (fun ls hl => ?_)
      refine lv_goto (tgt := 132) hx hb dMR_init_158 (by decide) ?_
      refine lv_iload hx hb dMR_init_132 (lv_at hl 0 rfl) ?_
      refine lv_iload_n hx hb dMR_init_134 rfl (lv_at hl 6 rfl) ?_
      refine mi_ge (tgt := 161) hx hb dMR_init_135 (by decide) (by omega) (by omega) (fun h9 => absurd h9 (by decide)) (fun _ => ?_)
      refine lv_iconst (v := nI 2) hx hb dMR_init_138 (by decide) ?_
      refine lv_iload hx hb dMR_init_139 (lv_at hl 1 rfl) ?_
      refine mi_imul hx hb dMR_init_141 ?_
      refine lv_iload hx hb dMR_init_142 (lv_at hl 2 rfl) ?_
      refine lv_iload hx hb dMR_init_144 (lv_at hl 0 rfl) ?_
      refine mi_idiv hx hb dMR_init_146 (by omega) (by omega) (by omega) ?_
      refine mi_as (show nI (i / 16) = nI (i / 2 ^ 4) from rfl) ?_
      refine lv_iconst (v := nI 1) hx hb dMR_init_147 (by decide) ?_
      refine lv_iand hx hb dMR_init_148 ?_
      refine mi_as (mr_and _ (hq8 4)) ?_
      refine mi_iadd hx hb dMR_init_149 ?_
      refine mi_as (show _ = nI (mirL 5 i) from rfl) ?_
      refine lv_istore (lv' := [(5, .int (nI (mirL 5 i))), (6, .int (nI 16)), (4, .int (nI i)), (0, .ref h0), (1, .int (nI 8380417)), (2, .int (nI 1753)), (3, .int (nI 256))]) hx hb dMR_init_150 hl (by decide) rfl (fun ls hl => ?_)
      refine lv_iload hx hb dMR_init_152 (lv_at hl 1 rfl) ?_
      refine lv_iconst (v := nI 2) hx hb dMR_init_154 (by decide) ?_
      refine mi_imul hx hb dMR_init_155 ?_
      refine mi_as (show nI (16 * 2) = nI 32 from rfl) ?_
      refine lv_istore (lv' := [(6, .int (nI 32)), (5, .int (nI (mirL 5 i))), (4, .int (nI i)), (0, .ref h0), (1, .int (nI 8380417)), (2, .int (nI 1753)), (3, .int (nI 256))]) hx hb dMR_init_156 hl (by decide) rfl (fun ls hl => ?_)
      refine lv_goto (tgt := 132) hx hb dMR_init_158 (by decide) ?_
      refine lv_iload hx hb dMR_init_132 (lv_at hl 0 rfl) ?_
      refine lv_iload_n hx hb dMR_init_134 rfl (lv_at hl 6 rfl) ?_
      refine mi_ge (tgt := 161) hx hb dMR_init_135 (by decide) (by omega) (by omega) (fun h9 => absurd h9 (by decide)) (fun _ => ?_)
      refine lv_iconst (v := nI 2) hx hb dMR_init_138 (by decide) ?_
      refine lv_iload hx hb dMR_init_139 (lv_at hl 1 rfl) ?_
      refine mi_imul hx hb dMR_init_141 ?_
      refine lv_iload hx hb dMR_init_142 (lv_at hl 2 rfl) ?_
      refine lv_iload hx hb dMR_init_144 (lv_at hl 0 rfl) ?_
      refine mi_idiv hx hb dMR_init_146 (by omega) (by omega) (by omega) ?_
      refine mi_as (show nI (i / 32) = nI (i / 2 ^ 5) from rfl) ?_
      refine lv_iconst (v := nI 1) hx hb dMR_init_147 (by decide) ?_
      refine lv_iand hx hb dMR_init_148 ?_
      refine mi_as (mr_and _ (hq8 5)) ?_
      refine mi_iadd hx hb dMR_init_149 ?_
      refine mi_as (show _ = nI (mirL 6 i) from rfl) ?_
      refine lv_istore (lv' := [(5, .int (nI (mirL 6 i))), (6, .int (nI 32)), (4, .int (nI i)), (0, .ref h0), (1, .int (nI 8380417)), (2, .int (nI 1753)), (3, .int (nI 256))]) hx hb dMR_init_150 hl (by decide) rfl (fun ls hl => ?_)
      refine lv_iload hx hb dMR_init_152 (lv_at hl 1 rfl) ?_
      refine lv_iconst (v := nI 2) hx hb dMR_init_154 (by decide) ?_
      refine mi_imul hx hb dMR_init_155 ?_
      refine mi_as (show nI (32 * 2) = nI 64 from rfl) ?_
      refine lv_istore (lv' := [(6, .int (nI 64)), (5, .int (nI (mirL 6 i))), (4, .int (nI i)), (0, .ref h0), (1, .int (nI 8380417)), (2, .int (nI 1753)), (3, .int (nI 256))]) hx hb dMR_init_156 hl (by decide) rfl (fun ls hl => ?_)
      refine lv_goto (tgt := 132) hx hb dMR_init_158 (by decide) ?_
      refine lv_iload hx hb dMR_init_132 (lv_at hl 0 rfl) ?_
      refine lv_iload_n hx hb dMR_init_134 rfl (lv_at hl 6 rfl) ?_
      refine mi_ge (tgt := 161) hx hb dMR_init_135 (by decide) (by omega) (by omega) (fun h9 => absurd h9 (by decide)) (fun _ => ?_)
      refine lv_iconst (v := nI 2) hx hb dMR_init_138 (by decide) ?_
      refine lv_iload hx hb dMR_init_139 (lv_at hl 1 rfl) ?_
      refine mi_imul hx hb dMR_init_141 ?_
      refine lv_iload hx hb dMR_init_142 (lv_at hl 2 rfl) ?_
      refine lv_iload hx hb dMR_init_144 (lv_at hl 0 rfl) ?_
      refine mi_idiv hx hb dMR_init_146 (by omega) (by omega) (by omega) ?_
      refine mi_as (show nI (i / 64) = nI (i / 2 ^ 6) from rfl) ?_
      refine lv_iconst (v := nI 1) hx hb dMR_init_147 (by decide) ?_
      refine lv_iand hx hb dMR_init_148 ?_
      refine mi_as (mr_and _ (hq8 6)) ?_
      refine mi_iadd hx hb dMR_init_149 ?_
      refine mi_as (show _ = nI (mirL 7 i) from rfl) ?_
      refine lv_istore (lv' := [(5, .int (nI (mirL 7 i))), (6, .int (nI 64)), (4, .int (nI i)), (0, .ref h0), (1, .int (nI 8380417)), (2, .int (nI 1753)), (3, .int (nI 256))]) hx hb dMR_init_150 hl (by decide) rfl (fun ls hl => ?_)
      refine lv_iload hx hb dMR_init_152 (lv_at hl 1 rfl) ?_
      refine lv_iconst (v := nI 2) hx hb dMR_init_154 (by decide) ?_
      refine mi_imul hx hb dMR_init_155 ?_
      refine mi_as (show nI (64 * 2) = nI 128 from rfl) ?_
      refine lv_istore (lv' := [(6, .int (nI 128)), (5, .int (nI (mirL 7 i))), (4, .int (nI i)), (0, .ref h0), (1, .int (nI 8380417)), (2, .int (nI 1753)), (3, .int (nI 256))]) hx hb dMR_init_156 hl (by decide) rfl (fun ls hl => ?_)
      refine lv_goto (tgt := 132) hx hb dMR_init_158 (by decide) ?_
      refine lv_iload hx hb dMR_init_132 (lv_at hl 0 rfl) ?_
      refine lv_iload_n hx hb dMR_init_134 rfl (lv_at hl 6 rfl) ?_
      refine mi_ge (tgt := 161) hx hb dMR_init_135 (by decide) (by omega) (by omega) (fun h9 => absurd h9 (by decide)) (fun _ => ?_)
      refine lv_iconst (v := nI 2) hx hb dMR_init_138 (by decide) ?_
      refine lv_iload hx hb dMR_init_139 (lv_at hl 1 rfl) ?_
      refine mi_imul hx hb dMR_init_141 ?_
      refine lv_iload hx hb dMR_init_142 (lv_at hl 2 rfl) ?_
      refine lv_iload hx hb dMR_init_144 (lv_at hl 0 rfl) ?_
      refine mi_idiv hx hb dMR_init_146 (by omega) (by omega) (by omega) ?_
      refine mi_as (show nI (i / 128) = nI (i / 2 ^ 7) from rfl) ?_
      refine lv_iconst (v := nI 1) hx hb dMR_init_147 (by decide) ?_
      refine lv_iand hx hb dMR_init_148 ?_
      refine mi_as (mr_and _ (hq8 7)) ?_
      refine mi_iadd hx hb dMR_init_149 ?_
      refine mi_as (show _ = nI (mirL 8 i) from rfl) ?_
      refine lv_istore (lv' := [(5, .int (nI (mirL 8 i))), (6, .int (nI 128)), (4, .int (nI i)), (0, .ref h0), (1, .int (nI 8380417)), (2, .int (nI 1753)), (3, .int (nI 256))]) hx hb dMR_init_150 hl (by decide) rfl (fun ls hl => ?_)
      refine lv_iload hx hb dMR_init_152 (lv_at hl 1 rfl) ?_
      refine lv_iconst (v := nI 2) hx hb dMR_init_154 (by decide) ?_
      refine mi_imul hx hb dMR_init_155 ?_
      refine mi_as (show nI (128 * 2) = nI 256 from rfl) ?_
      refine lv_istore (lv' := [(6, .int (nI 256)), (5, .int (nI (mirL 8 i))), (4, .int (nI i)), (0, .ref h0), (1, .int (nI 8380417)), (2, .int (nI 1753)), (3, .int (nI 256))]) hx hb dMR_init_156 hl (by decide) rfl (fun ls hl => ?_)
      refine lv_goto (tgt := 132) hx hb dMR_init_158 (by decide) ?_
      refine lv_iload hx hb dMR_init_132 (lv_at hl 0 rfl) ?_
      refine lv_iload_n hx hb dMR_init_134 rfl (lv_at hl 6 rfl) ?_
      refine mi_ge (tgt := 161) hx hb dMR_init_135 (by decide) (by omega) (by omega) (fun _ => ?_) (fun h9 => absurd h9 (by decide))
      refine lv_aload_n hx hb dMR_init_161 rfl (lv_at hl 3 rfl) ?_
      refine va_get (D := g.1) (ci := 10) (C := "LatticeKeysModel$Ring") (T := T_MR) (N := 5) hx hb hts (wg_ft i_MR) hown hK hP 0 rfl rfl 3 (by decide) (hts _ (wg_t kw_1365)) (fun _ h9 => h9) rfl dMR_init_162 ?_
      refine lv_iload hx hb dMR_init_165 (lv_at hl 2 rfl) ?_
      refine lv_iconst (v := nI 2) hx hb dMR_init_167 (by decide) ?_
      refine lv_iload hx hb dMR_init_168 (lv_at hl 1 rfl) ?_
      refine mi_imul hx hb dMR_init_170 ?_
      refine lv_iconst (v := nI 1) hx hb dMR_init_171 (by decide) ?_
      refine mi_iadd hx hb dMR_init_172 ?_
      refine mp_iast hx hb hK hP hD hS 2 0 rfl rfl (by omega) (by decide) dMR_init_173 (fun H locs hP hD hS => ?_)
      have hP : va_P g.1 vcl [(h0, .inr (10, [.int (nI 8380417), .int (nI 256), .ref q1, .ref q2, .long ((Int64.ofNat 8347681))])), (q1, .inl (g.2.1 2, 512, .inr (.inl ((mrP 1753 8380417 511))))), (q2, .inl (g.2.1 0, 256, .inl ((upd (mrR 8 i) i (nI ((2 * (mirL 8 i)) + 1))))))] _ := hP
      have hD : va_D _ [(h0, .inr (10, [.int (nI 8380417), .int (nI 256), .ref q1, .ref q2, .long ((Int64.ofNat 8347681))])), (q1, .inl (g.2.1 2, 512, .inr (.inl ((mrP 1753 8380417 511))))), (q2, .inl (g.2.1 0, 256, .inl ((upd (mrR 8 i) i (nI ((2 * (mirL 8 i)) + 1))))))] := hD
      refine mi_iinc (k := 2) (x := i) (d := 1) (y := i + 1) (lv' := [(4, .int (nI (i + 1))), (6, .int (nI 256)), (5, .int (nI (mirL 8 i))), (0, .ref h0), (1, .int (nI 8380417)), (2, .int (nI 1753)), (3, .int (nI 256))]) hx hb dMR_init_174 hl rfl (by decide) rfl (by decide) rfl (fun ls hl => ?_)
      refine lv_goto (tgt := 120) hx hb dMR_init_177 (by decide) ?_
      have hP : va_P g.1 vcl [(h0, .inr (10, [.int (nI 8380417), .int (nI 256), .ref q1, .ref q2, .long ((Int64.ofNat 8347681))])), (q1, .inl (g.2.1 2, 512, .inr (.inl ((mrP 1753 8380417 511))))), (q2, .inl (g.2.1 0, 256, .inl ((mrR 8 (i + 1)))))] H := hP
      have hD : va_D A [(h0, .inr (10, [.int (nI 8380417), .int (nI 256), .ref q1, .ref q2, .long ((Int64.ofNat 8347681))])), (q1, .inl (g.2.1 2, 512, .inr (.inl ((mrP 1753 8380417 511))))), (q2, .inl (g.2.1 0, 256, .inl ((mrR 8 (i + 1)))))] := hD
      exact ih (i + 1) ls H locs (by omega) (lv_sub hl [0, 3, 4, 5, 6] rfl) hP hD hS
  have lp : ∀ (n t : Nat) (ls : Array Slot) (H : Heap) (locs : List Loc), n + t = 511 → lv_has ls 7 [(4, .int (nI (t + 1))), (0, .ref h0), (1, .int (nI 8380417)), (2, .int (nI 1753)), (3, .int (nI 256))] → va_P g.1 vcl [(h0, .inr (10, [.int (nI 8380417), .int (nI 256), .ref q1, .ref q2, .long ((1 : Int64))])), (q1, .inl (g.2.1 2, 512, .inr (.inl ((mrP 1753 8380417 t))))), (q2, .inl (g.2.1 0, 256, .inl ((fun _ => 0))))] H → va_D A [(h0, .inr (10, [.int (nI 8380417), .int (nI 256), .ref q1, .ref q2, .long ((1 : Int64))])), (q1, .inl (g.2.1 2, 512, .inr (.inl ((mrP 1753 8380417 t))))), (q2, .inl (g.2.1 0, 256, .inl ((fun _ => 0))))] → va_S A s.heap H locs → W p l e ({ frames := 1, cells := 2, slots := 768, locals := 12 } : Room) s m args below meth c H locs 2 768 (MQ below (va_Qv (fun (u : Nat → Nat) => True) (po g.1 vcl A (fun (u : Nat → Nat) => [(h0, .inr (10, [.int (nI 8380417), .int (nI 256), .ref ((u 0)), .ref ((u 1)), .long ((Int64.ofNat 8347681))])), ((u 0), .inl (g.2.1 2, 512, .inr (.inl ((mrP 1753 8380417 511))))), ((u 1), .inl (g.2.1 0, 256, .inl ((mrR 8 256))))])) A) args s 2 768 A) (F0 m 45 ls []) := by
    intro n
    induction n with
    | zero =>
      intro t ls H locs hi hl hP hD hS
      obtain rfl : t = 511 := by omega
      refine lv_iload hx hb dMR_init_45 (lv_at hl 0 rfl) ?_
      refine lv_iconst (v := nI 2) hx hb dMR_init_47 (by decide) ?_
      refine lv_iload_n hx hb dMR_init_48 rfl (lv_at hl 4 rfl) ?_
      refine mi_imul hx hb dMR_init_49 ?_
      refine mi_as (show nI (2 * 256) = nI 512 from rfl) ?_
      refine mi_ge (tgt := 81) hx hb dMR_init_50 (by decide) (by omega) (by omega) (fun h1 => ?_) (fun h1 => absurd h1 (by omega))
      refine lv_iconst (v := nI 1) hx hb dMR_init_81 (by decide) ?_
      refine lv_istore (lv' := [(4, .int (nI 1)), (0, .ref h0), (1, .int (nI 8380417)), (2, .int (nI 1753)), (3, .int (nI 256))]) hx hb dMR_init_82 hl (by decide) rfl (fun ls hl => ?_)
      refine lv_iload hx hb dMR_init_84 (lv_at hl 0 rfl) ?_
      refine lv_iload_n hx hb dMR_init_86 rfl (lv_at hl 4 rfl) ?_
      refine mi_ge (tgt := 117) hx hb dMR_init_87 (by decide) (by omega) (by omega) (fun h9 => absurd h9 (by decide)) (fun _ => ?_)
      refine lv_aload_n hx hb dMR_init_90 rfl (lv_at hl 1 rfl) ?_
      refine lv_aload_n hx hb dMR_init_91 rfl (lv_at hl 1 rfl) ?_
      refine va_get (D := g.1) (ci := 10) (C := "LatticeKeysModel$Ring") (T := T_MR) (N := 5) hx hb hts (wg_ft i_MR) hown hK hP 0 rfl rfl 4 (by decide) (hts _ (wg_t kw_1366)) (fun _ h9 => h9) rfl dMR_init_92 ?_
      refine lv_iload_n hx hb dMR_init_95 rfl (lv_at hl 2 rfl) ?_
      refine lv_iconst (v := nI 1) hx hb dMR_init_96 (by decide) ?_
      refine mi_iadd hx hb dMR_init_97 ?_
      refine mi_as (show nI (8380417 + 1) = nI 8380418 from rfl) ?_
      refine lv_iconst (v := nI 2) hx hb dMR_init_98 (by decide) ?_
      refine mi_idiv hx hb dMR_init_99 (by omega) (by omega) (by omega) ?_
      refine mi_as (show nI (8380418 / 2) = nI 4190209 from rfl) ?_
      refine lv_i2l (v := 4190209) hx hb dMR_init_100 (by decide) ?_
      refine lv_lmul hx hb dMR_init_101 ?_
      refine lv_iload_n hx hb dMR_init_102 rfl (lv_at hl 2 rfl) ?_
      refine lv_i2l (v := 8380417) hx hb dMR_init_103 (by decide) ?_
      refine lv_lrem hx hb dMR_init_104 (by decide) ?_
      refine ml_as (show _ = (Int64.ofNat 4190209) by decide) ?_
      refine va_put (D := g.1) (ci := 10) (v := .long ((Int64.ofNat 4190209))) (ty := .long) (C := "LatticeKeysModel$Ring") (T := T_MR) (N := 5) hx hb hts (wg_ft i_MR) ty_MR k_MR n_MR hown hK hP hD hS 0 rfl rfl 4 (by decide) (hts _ (wg_t kw_1366)) (fun _ h9 => h9) rfl (by decide +kernel) rfl rfl (Nat.le_of_ble_eq_true rfl) dMR_init_105 (fun H locs hP hD hS => ?_)
      have hP : va_P g.1 vcl [(h0, .inr (10, [.int (nI 8380417), .int (nI 256), .ref q1, .ref q2, .long ((Int64.ofNat 4190209))])), (q1, .inl (g.2.1 2, 512, .inr (.inl ((mrP 1753 8380417 511))))), (q2, .inl (g.2.1 0, 256, .inl ((fun _ => 0))))] _ := hP
      have hD : va_D _ [(h0, .inr (10, [.int (nI 8380417), .int (nI 256), .ref q1, .ref q2, .long ((Int64.ofNat 4190209))])), (q1, .inl (g.2.1 2, 512, .inr (.inl ((mrP 1753 8380417 511))))), (q2, .inl (g.2.1 0, 256, .inl ((fun _ => 0))))] := hD
      refine lv_iload hx hb dMR_init_108 (lv_at hl 0 rfl) ?_
      refine lv_iconst (v := nI 2) hx hb dMR_init_110 (by decide) ?_
      refine mi_imul hx hb dMR_init_111 ?_
      refine mi_as (show nI (1 * 2) = nI 2 from rfl) ?_
      refine lv_istore (lv' := [(4, .int (nI 2)), (0, .ref h0), (1, .int (nI 8380417)), (2, .int (nI 1753)), (3, .int (nI 256))]) hx hb dMR_init_112 hl (by decide) rfl (fun ls hl => ?_)
      refine lv_goto (tgt := 84) hx hb dMR_init_114 (by decide) ?_
      refine lv_iload hx hb dMR_init_84 (lv_at hl 0 rfl) ?_
      refine lv_iload_n hx hb dMR_init_86 rfl (lv_at hl 4 rfl) ?_
      refine mi_ge (tgt := 117) hx hb dMR_init_87 (by decide) (by omega) (by omega) (fun h9 => absurd h9 (by decide)) (fun _ => ?_)
      refine lv_aload_n hx hb dMR_init_90 rfl (lv_at hl 1 rfl) ?_
      refine lv_aload_n hx hb dMR_init_91 rfl (lv_at hl 1 rfl) ?_
      refine va_get (D := g.1) (ci := 10) (C := "LatticeKeysModel$Ring") (T := T_MR) (N := 5) hx hb hts (wg_ft i_MR) hown hK hP 0 rfl rfl 4 (by decide) (hts _ (wg_t kw_1366)) (fun _ h9 => h9) rfl dMR_init_92 ?_
      refine lv_iload_n hx hb dMR_init_95 rfl (lv_at hl 2 rfl) ?_
      refine lv_iconst (v := nI 1) hx hb dMR_init_96 (by decide) ?_
      refine mi_iadd hx hb dMR_init_97 ?_
      refine mi_as (show nI (8380417 + 1) = nI 8380418 from rfl) ?_
      refine lv_iconst (v := nI 2) hx hb dMR_init_98 (by decide) ?_
      refine mi_idiv hx hb dMR_init_99 (by omega) (by omega) (by omega) ?_
      refine mi_as (show nI (8380418 / 2) = nI 4190209 from rfl) ?_
      refine lv_i2l (v := 4190209) hx hb dMR_init_100 (by decide) ?_
      refine lv_lmul hx hb dMR_init_101 ?_
      refine lv_iload_n hx hb dMR_init_102 rfl (lv_at hl 2 rfl) ?_
      refine lv_i2l (v := 8380417) hx hb dMR_init_103 (by decide) ?_
      refine lv_lrem hx hb dMR_init_104 (by decide) ?_
      refine ml_as (show _ = (Int64.ofNat 6285313) by decide) ?_
      refine va_put (D := g.1) (ci := 10) (v := .long ((Int64.ofNat 6285313))) (ty := .long) (C := "LatticeKeysModel$Ring") (T := T_MR) (N := 5) hx hb hts (wg_ft i_MR) ty_MR k_MR n_MR hown hK hP hD hS 0 rfl rfl 4 (by decide) (hts _ (wg_t kw_1366)) (fun _ h9 => h9) rfl (by decide +kernel) rfl rfl (Nat.le_of_ble_eq_true rfl) dMR_init_105 (fun H locs hP hD hS => ?_)
      have hP : va_P g.1 vcl [(h0, .inr (10, [.int (nI 8380417), .int (nI 256), .ref q1, .ref q2, .long ((Int64.ofNat 6285313))])), (q1, .inl (g.2.1 2, 512, .inr (.inl ((mrP 1753 8380417 511))))), (q2, .inl (g.2.1 0, 256, .inl ((fun _ => 0))))] _ := hP
      have hD : va_D _ [(h0, .inr (10, [.int (nI 8380417), .int (nI 256), .ref q1, .ref q2, .long ((Int64.ofNat 6285313))])), (q1, .inl (g.2.1 2, 512, .inr (.inl ((mrP 1753 8380417 511))))), (q2, .inl (g.2.1 0, 256, .inl ((fun _ => 0))))] := hD
      refine lv_iload hx hb dMR_init_108 (lv_at hl 0 rfl) ?_
      refine lv_iconst (v := nI 2) hx hb dMR_init_110 (by decide) ?_
      refine mi_imul hx hb dMR_init_111 ?_
      refine mi_as (show nI (2 * 2) = nI 4 from rfl) ?_
      refine lv_istore (lv' := [(4, .int (nI 4)), (0, .ref h0), (1, .int (nI 8380417)), (2, .int (nI 1753)), (3, .int (nI 256))]) hx hb dMR_init_112 hl (by decide) rfl (fun ls hl => ?_)
      refine lv_goto (tgt := 84) hx hb dMR_init_114 (by decide) ?_
      refine lv_iload hx hb dMR_init_84 (lv_at hl 0 rfl) ?_
      refine lv_iload_n hx hb dMR_init_86 rfl (lv_at hl 4 rfl) ?_
      refine mi_ge (tgt := 117) hx hb dMR_init_87 (by decide) (by omega) (by omega) (fun h9 => absurd h9 (by decide)) (fun _ => ?_)
      refine lv_aload_n hx hb dMR_init_90 rfl (lv_at hl 1 rfl) ?_
      refine lv_aload_n hx hb dMR_init_91 rfl (lv_at hl 1 rfl) ?_
      refine va_get (D := g.1) (ci := 10) (C := "LatticeKeysModel$Ring") (T := T_MR) (N := 5) hx hb hts (wg_ft i_MR) hown hK hP 0 rfl rfl 4 (by decide) (hts _ (wg_t kw_1366)) (fun _ h9 => h9) rfl dMR_init_92 ?_
      refine lv_iload_n hx hb dMR_init_95 rfl (lv_at hl 2 rfl) ?_
      refine lv_iconst (v := nI 1) hx hb dMR_init_96 (by decide) ?_
      refine mi_iadd hx hb dMR_init_97 ?_
      refine mi_as (show nI (8380417 + 1) = nI 8380418 from rfl) ?_
      refine lv_iconst (v := nI 2) hx hb dMR_init_98 (by decide) ?_
      refine mi_idiv hx hb dMR_init_99 (by omega) (by omega) (by omega) ?_
      refine mi_as (show nI (8380418 / 2) = nI 4190209 from rfl) ?_
      refine lv_i2l (v := 4190209) hx hb dMR_init_100 (by decide) ?_
      refine lv_lmul hx hb dMR_init_101 ?_
      refine lv_iload_n hx hb dMR_init_102 rfl (lv_at hl 2 rfl) ?_
      refine lv_i2l (v := 8380417) hx hb dMR_init_103 (by decide) ?_
      refine lv_lrem hx hb dMR_init_104 (by decide) ?_
      refine ml_as (show _ = (Int64.ofNat 7332865) by decide) ?_
      refine va_put (D := g.1) (ci := 10) (v := .long ((Int64.ofNat 7332865))) (ty := .long) (C := "LatticeKeysModel$Ring") (T := T_MR) (N := 5) hx hb hts (wg_ft i_MR) ty_MR k_MR n_MR hown hK hP hD hS 0 rfl rfl 4 (by decide) (hts _ (wg_t kw_1366)) (fun _ h9 => h9) rfl (by decide +kernel) rfl rfl (Nat.le_of_ble_eq_true rfl) dMR_init_105 (fun H locs hP hD hS => ?_)
      have hP : va_P g.1 vcl [(h0, .inr (10, [.int (nI 8380417), .int (nI 256), .ref q1, .ref q2, .long ((Int64.ofNat 7332865))])), (q1, .inl (g.2.1 2, 512, .inr (.inl ((mrP 1753 8380417 511))))), (q2, .inl (g.2.1 0, 256, .inl ((fun _ => 0))))] _ := hP
      have hD : va_D _ [(h0, .inr (10, [.int (nI 8380417), .int (nI 256), .ref q1, .ref q2, .long ((Int64.ofNat 7332865))])), (q1, .inl (g.2.1 2, 512, .inr (.inl ((mrP 1753 8380417 511))))), (q2, .inl (g.2.1 0, 256, .inl ((fun _ => 0))))] := hD
      refine lv_iload hx hb dMR_init_108 (lv_at hl 0 rfl) ?_
      refine lv_iconst (v := nI 2) hx hb dMR_init_110 (by decide) ?_
      refine mi_imul hx hb dMR_init_111 ?_
      refine mi_as (show nI (4 * 2) = nI 8 from rfl) ?_
      refine lv_istore (lv' := [(4, .int (nI 8)), (0, .ref h0), (1, .int (nI 8380417)), (2, .int (nI 1753)), (3, .int (nI 256))]) hx hb dMR_init_112 hl (by decide) rfl (fun ls hl => ?_)
      refine lv_goto (tgt := 84) hx hb dMR_init_114 (by decide) ?_
      refine lv_iload hx hb dMR_init_84 (lv_at hl 0 rfl) ?_
      refine lv_iload_n hx hb dMR_init_86 rfl (lv_at hl 4 rfl) ?_
      refine mi_ge (tgt := 117) hx hb dMR_init_87 (by decide) (by omega) (by omega) (fun h9 => absurd h9 (by decide)) (fun _ => ?_)
      refine lv_aload_n hx hb dMR_init_90 rfl (lv_at hl 1 rfl) ?_
      refine lv_aload_n hx hb dMR_init_91 rfl (lv_at hl 1 rfl) ?_
      refine va_get (D := g.1) (ci := 10) (C := "LatticeKeysModel$Ring") (T := T_MR) (N := 5) hx hb hts (wg_ft i_MR) hown hK hP 0 rfl rfl 4 (by decide) (hts _ (wg_t kw_1366)) (fun _ h9 => h9) rfl dMR_init_92 ?_
      refine lv_iload_n hx hb dMR_init_95 rfl (lv_at hl 2 rfl) ?_
      refine lv_iconst (v := nI 1) hx hb dMR_init_96 (by decide) ?_
      refine mi_iadd hx hb dMR_init_97 ?_
      refine mi_as (show nI (8380417 + 1) = nI 8380418 from rfl) ?_
      refine lv_iconst (v := nI 2) hx hb dMR_init_98 (by decide) ?_
      refine mi_idiv hx hb dMR_init_99 (by omega) (by omega) (by omega) ?_
      refine mi_as (show nI (8380418 / 2) = nI 4190209 from rfl) ?_
      refine lv_i2l (v := 4190209) hx hb dMR_init_100 (by decide) ?_
      refine lv_lmul hx hb dMR_init_101 ?_
      refine lv_iload_n hx hb dMR_init_102 rfl (lv_at hl 2 rfl) ?_
      refine lv_i2l (v := 8380417) hx hb dMR_init_103 (by decide) ?_
      refine lv_lrem hx hb dMR_init_104 (by decide) ?_
      refine ml_as (show _ = (Int64.ofNat 7856641) by decide) ?_
      refine va_put (D := g.1) (ci := 10) (v := .long ((Int64.ofNat 7856641))) (ty := .long) (C := "LatticeKeysModel$Ring") (T := T_MR) (N := 5) hx hb hts (wg_ft i_MR) ty_MR k_MR n_MR hown hK hP hD hS 0 rfl rfl 4 (by decide) (hts _ (wg_t kw_1366)) (fun _ h9 => h9) rfl (by decide +kernel) rfl rfl (Nat.le_of_ble_eq_true rfl) dMR_init_105 (fun H locs hP hD hS => ?_)
      have hP : va_P g.1 vcl [(h0, .inr (10, [.int (nI 8380417), .int (nI 256), .ref q1, .ref q2, .long ((Int64.ofNat 7856641))])), (q1, .inl (g.2.1 2, 512, .inr (.inl ((mrP 1753 8380417 511))))), (q2, .inl (g.2.1 0, 256, .inl ((fun _ => 0))))] _ := hP
      have hD : va_D _ [(h0, .inr (10, [.int (nI 8380417), .int (nI 256), .ref q1, .ref q2, .long ((Int64.ofNat 7856641))])), (q1, .inl (g.2.1 2, 512, .inr (.inl ((mrP 1753 8380417 511))))), (q2, .inl (g.2.1 0, 256, .inl ((fun _ => 0))))] := hD
      refine lv_iload hx hb dMR_init_108 (lv_at hl 0 rfl) ?_
      refine lv_iconst (v := nI 2) hx hb dMR_init_110 (by decide) ?_
      refine mi_imul hx hb dMR_init_111 ?_
      refine mi_as (show nI (8 * 2) = nI 16 from rfl) ?_
      refine lv_istore (lv' := [(4, .int (nI 16)), (0, .ref h0), (1, .int (nI 8380417)), (2, .int (nI 1753)), (3, .int (nI 256))]) hx hb dMR_init_112 hl (by decide) rfl (fun ls hl => ?_)
      refine lv_goto (tgt := 84) hx hb dMR_init_114 (by decide) ?_
      refine lv_iload hx hb dMR_init_84 (lv_at hl 0 rfl) ?_
      refine lv_iload_n hx hb dMR_init_86 rfl (lv_at hl 4 rfl) ?_
      refine mi_ge (tgt := 117) hx hb dMR_init_87 (by decide) (by omega) (by omega) (fun h9 => absurd h9 (by decide)) (fun _ => ?_)
      refine lv_aload_n hx hb dMR_init_90 rfl (lv_at hl 1 rfl) ?_
      refine lv_aload_n hx hb dMR_init_91 rfl (lv_at hl 1 rfl) ?_
      refine va_get (D := g.1) (ci := 10) (C := "LatticeKeysModel$Ring") (T := T_MR) (N := 5) hx hb hts (wg_ft i_MR) hown hK hP 0 rfl rfl 4 (by decide) (hts _ (wg_t kw_1366)) (fun _ h9 => h9) rfl dMR_init_92 ?_
      refine lv_iload_n hx hb dMR_init_95 rfl (lv_at hl 2 rfl) ?_
      refine lv_iconst (v := nI 1) hx hb dMR_init_96 (by decide) ?_
      refine mi_iadd hx hb dMR_init_97 ?_
      refine mi_as (show nI (8380417 + 1) = nI 8380418 from rfl) ?_
      refine lv_iconst (v := nI 2) hx hb dMR_init_98 (by decide) ?_
      refine mi_idiv hx hb dMR_init_99 (by omega) (by omega) (by omega) ?_
      refine mi_as (show nI (8380418 / 2) = nI 4190209 from rfl) ?_
      refine lv_i2l (v := 4190209) hx hb dMR_init_100 (by decide) ?_
      refine lv_lmul hx hb dMR_init_101 ?_
      refine lv_iload_n hx hb dMR_init_102 rfl (lv_at hl 2 rfl) ?_
      refine lv_i2l (v := 8380417) hx hb dMR_init_103 (by decide) ?_
      refine lv_lrem hx hb dMR_init_104 (by decide) ?_
      refine ml_as (show _ = (Int64.ofNat 8118529) by decide) ?_
      refine va_put (D := g.1) (ci := 10) (v := .long ((Int64.ofNat 8118529))) (ty := .long) (C := "LatticeKeysModel$Ring") (T := T_MR) (N := 5) hx hb hts (wg_ft i_MR) ty_MR k_MR n_MR hown hK hP hD hS 0 rfl rfl 4 (by decide) (hts _ (wg_t kw_1366)) (fun _ h9 => h9) rfl (by decide +kernel) rfl rfl (Nat.le_of_ble_eq_true rfl) dMR_init_105 (fun H locs hP hD hS => ?_)
      have hP : va_P g.1 vcl [(h0, .inr (10, [.int (nI 8380417), .int (nI 256), .ref q1, .ref q2, .long ((Int64.ofNat 8118529))])), (q1, .inl (g.2.1 2, 512, .inr (.inl ((mrP 1753 8380417 511))))), (q2, .inl (g.2.1 0, 256, .inl ((fun _ => 0))))] _ := hP
      have hD : va_D _ [(h0, .inr (10, [.int (nI 8380417), .int (nI 256), .ref q1, .ref q2, .long ((Int64.ofNat 8118529))])), (q1, .inl (g.2.1 2, 512, .inr (.inl ((mrP 1753 8380417 511))))), (q2, .inl (g.2.1 0, 256, .inl ((fun _ => 0))))] := hD
      refine lv_iload hx hb dMR_init_108 (lv_at hl 0 rfl) ?_
      refine lv_iconst (v := nI 2) hx hb dMR_init_110 (by decide) ?_
      refine mi_imul hx hb dMR_init_111 ?_
      refine mi_as (show nI (16 * 2) = nI 32 from rfl) ?_
      refine lv_istore (lv' := [(4, .int (nI 32)), (0, .ref h0), (1, .int (nI 8380417)), (2, .int (nI 1753)), (3, .int (nI 256))]) hx hb dMR_init_112 hl (by decide) rfl (fun ls hl => ?_)
      refine lv_goto (tgt := 84) hx hb dMR_init_114 (by decide) ?_
      refine lv_iload hx hb dMR_init_84 (lv_at hl 0 rfl) ?_
      refine lv_iload_n hx hb dMR_init_86 rfl (lv_at hl 4 rfl) ?_
      refine mi_ge (tgt := 117) hx hb dMR_init_87 (by decide) (by omega) (by omega) (fun h9 => absurd h9 (by decide)) (fun _ => ?_)
      refine lv_aload_n hx hb dMR_init_90 rfl (lv_at hl 1 rfl) ?_
      refine lv_aload_n hx hb dMR_init_91 rfl (lv_at hl 1 rfl) ?_
      refine va_get (D := g.1) (ci := 10) (C := "LatticeKeysModel$Ring") (T := T_MR) (N := 5) hx hb hts (wg_ft i_MR) hown hK hP 0 rfl rfl 4 (by decide) (hts _ (wg_t kw_1366)) (fun _ h9 => h9) rfl dMR_init_92 ?_
      refine lv_iload_n hx hb dMR_init_95 rfl (lv_at hl 2 rfl) ?_
      refine lv_iconst (v := nI 1) hx hb dMR_init_96 (by decide) ?_
      refine mi_iadd hx hb dMR_init_97 ?_
      refine mi_as (show nI (8380417 + 1) = nI 8380418 from rfl) ?_
      refine lv_iconst (v := nI 2) hx hb dMR_init_98 (by decide) ?_
      refine mi_idiv hx hb dMR_init_99 (by omega) (by omega) (by omega) ?_
      refine mi_as (show nI (8380418 / 2) = nI 4190209 from rfl) ?_
      refine lv_i2l (v := 4190209) hx hb dMR_init_100 (by decide) ?_
      refine lv_lmul hx hb dMR_init_101 ?_
      refine lv_iload_n hx hb dMR_init_102 rfl (lv_at hl 2 rfl) ?_
      refine lv_i2l (v := 8380417) hx hb dMR_init_103 (by decide) ?_
      refine lv_lrem hx hb dMR_init_104 (by decide) ?_
      refine ml_as (show _ = (Int64.ofNat 8249473) by decide) ?_
      refine va_put (D := g.1) (ci := 10) (v := .long ((Int64.ofNat 8249473))) (ty := .long) (C := "LatticeKeysModel$Ring") (T := T_MR) (N := 5) hx hb hts (wg_ft i_MR) ty_MR k_MR n_MR hown hK hP hD hS 0 rfl rfl 4 (by decide) (hts _ (wg_t kw_1366)) (fun _ h9 => h9) rfl (by decide +kernel) rfl rfl (Nat.le_of_ble_eq_true rfl) dMR_init_105 (fun H locs hP hD hS => ?_)
      have hP : va_P g.1 vcl [(h0, .inr (10, [.int (nI 8380417), .int (nI 256), .ref q1, .ref q2, .long ((Int64.ofNat 8249473))])), (q1, .inl (g.2.1 2, 512, .inr (.inl ((mrP 1753 8380417 511))))), (q2, .inl (g.2.1 0, 256, .inl ((fun _ => 0))))] _ := hP
      have hD : va_D _ [(h0, .inr (10, [.int (nI 8380417), .int (nI 256), .ref q1, .ref q2, .long ((Int64.ofNat 8249473))])), (q1, .inl (g.2.1 2, 512, .inr (.inl ((mrP 1753 8380417 511))))), (q2, .inl (g.2.1 0, 256, .inl ((fun _ => 0))))] := hD
      refine lv_iload hx hb dMR_init_108 (lv_at hl 0 rfl) ?_
      refine lv_iconst (v := nI 2) hx hb dMR_init_110 (by decide) ?_
      refine mi_imul hx hb dMR_init_111 ?_
      refine mi_as (show nI (32 * 2) = nI 64 from rfl) ?_
      refine lv_istore (lv' := [(4, .int (nI 64)), (0, .ref h0), (1, .int (nI 8380417)), (2, .int (nI 1753)), (3, .int (nI 256))]) hx hb dMR_init_112 hl (by decide) rfl (fun ls hl => ?_)
      refine lv_goto (tgt := 84) hx hb dMR_init_114 (by decide) ?_
      refine lv_iload hx hb dMR_init_84 (lv_at hl 0 rfl) ?_
      refine lv_iload_n hx hb dMR_init_86 rfl (lv_at hl 4 rfl) ?_
      refine mi_ge (tgt := 117) hx hb dMR_init_87 (by decide) (by omega) (by omega) (fun h9 => absurd h9 (by decide)) (fun _ => ?_)
      refine lv_aload_n hx hb dMR_init_90 rfl (lv_at hl 1 rfl) ?_
      refine lv_aload_n hx hb dMR_init_91 rfl (lv_at hl 1 rfl) ?_
      refine va_get (D := g.1) (ci := 10) (C := "LatticeKeysModel$Ring") (T := T_MR) (N := 5) hx hb hts (wg_ft i_MR) hown hK hP 0 rfl rfl 4 (by decide) (hts _ (wg_t kw_1366)) (fun _ h9 => h9) rfl dMR_init_92 ?_
      refine lv_iload_n hx hb dMR_init_95 rfl (lv_at hl 2 rfl) ?_
      refine lv_iconst (v := nI 1) hx hb dMR_init_96 (by decide) ?_
      refine mi_iadd hx hb dMR_init_97 ?_
      refine mi_as (show nI (8380417 + 1) = nI 8380418 from rfl) ?_
      refine lv_iconst (v := nI 2) hx hb dMR_init_98 (by decide) ?_
      refine mi_idiv hx hb dMR_init_99 (by omega) (by omega) (by omega) ?_
      refine mi_as (show nI (8380418 / 2) = nI 4190209 from rfl) ?_
      refine lv_i2l (v := 4190209) hx hb dMR_init_100 (by decide) ?_
      refine lv_lmul hx hb dMR_init_101 ?_
      refine lv_iload_n hx hb dMR_init_102 rfl (lv_at hl 2 rfl) ?_
      refine lv_i2l (v := 8380417) hx hb dMR_init_103 (by decide) ?_
      refine lv_lrem hx hb dMR_init_104 (by decide) ?_
      refine ml_as (show _ = (Int64.ofNat 8314945) by decide) ?_
      refine va_put (D := g.1) (ci := 10) (v := .long ((Int64.ofNat 8314945))) (ty := .long) (C := "LatticeKeysModel$Ring") (T := T_MR) (N := 5) hx hb hts (wg_ft i_MR) ty_MR k_MR n_MR hown hK hP hD hS 0 rfl rfl 4 (by decide) (hts _ (wg_t kw_1366)) (fun _ h9 => h9) rfl (by decide +kernel) rfl rfl (Nat.le_of_ble_eq_true rfl) dMR_init_105 (fun H locs hP hD hS => ?_)
      have hP : va_P g.1 vcl [(h0, .inr (10, [.int (nI 8380417), .int (nI 256), .ref q1, .ref q2, .long ((Int64.ofNat 8314945))])), (q1, .inl (g.2.1 2, 512, .inr (.inl ((mrP 1753 8380417 511))))), (q2, .inl (g.2.1 0, 256, .inl ((fun _ => 0))))] _ := hP
      have hD : va_D _ [(h0, .inr (10, [.int (nI 8380417), .int (nI 256), .ref q1, .ref q2, .long ((Int64.ofNat 8314945))])), (q1, .inl (g.2.1 2, 512, .inr (.inl ((mrP 1753 8380417 511))))), (q2, .inl (g.2.1 0, 256, .inl ((fun _ => 0))))] := hD
      refine lv_iload hx hb dMR_init_108 (lv_at hl 0 rfl) ?_
      refine lv_iconst (v := nI 2) hx hb dMR_init_110 (by decide) ?_
      refine mi_imul hx hb dMR_init_111 ?_
      refine mi_as (show nI (64 * 2) = nI 128 from rfl) ?_
      refine lv_istore (lv' := [(4, .int (nI 128)), (0, .ref h0), (1, .int (nI 8380417)), (2, .int (nI 1753)), (3, .int (nI 256))]) hx hb dMR_init_112 hl (by decide) rfl (fun ls hl => ?_)
      refine lv_goto (tgt := 84) hx hb dMR_init_114 (by decide) ?_
      refine lv_iload hx hb dMR_init_84 (lv_at hl 0 rfl) ?_
      refine lv_iload_n hx hb dMR_init_86 rfl (lv_at hl 4 rfl) ?_
      refine mi_ge (tgt := 117) hx hb dMR_init_87 (by decide) (by omega) (by omega) (fun h9 => absurd h9 (by decide)) (fun _ => ?_)
      refine lv_aload_n hx hb dMR_init_90 rfl (lv_at hl 1 rfl) ?_
      refine lv_aload_n hx hb dMR_init_91 rfl (lv_at hl 1 rfl) ?_
      refine va_get (D := g.1) (ci := 10) (C := "LatticeKeysModel$Ring") (T := T_MR) (N := 5) hx hb hts (wg_ft i_MR) hown hK hP 0 rfl rfl 4 (by decide) (hts _ (wg_t kw_1366)) (fun _ h9 => h9) rfl dMR_init_92 ?_
      refine lv_iload_n hx hb dMR_init_95 rfl (lv_at hl 2 rfl) ?_
      refine lv_iconst (v := nI 1) hx hb dMR_init_96 (by decide) ?_
      refine mi_iadd hx hb dMR_init_97 ?_
      refine mi_as (show nI (8380417 + 1) = nI 8380418 from rfl) ?_
      refine lv_iconst (v := nI 2) hx hb dMR_init_98 (by decide) ?_
      refine mi_idiv hx hb dMR_init_99 (by omega) (by omega) (by omega) ?_
      refine mi_as (show nI (8380418 / 2) = nI 4190209 from rfl) ?_
      refine lv_i2l (v := 4190209) hx hb dMR_init_100 (by decide) ?_
      refine lv_lmul hx hb dMR_init_101 ?_
      refine lv_iload_n hx hb dMR_init_102 rfl (lv_at hl 2 rfl) ?_
      refine lv_i2l (v := 8380417) hx hb dMR_init_103 (by decide) ?_
      refine lv_lrem hx hb dMR_init_104 (by decide) ?_
      refine ml_as (show _ = (Int64.ofNat 8347681) by decide) ?_
      refine va_put (D := g.1) (ci := 10) (v := .long ((Int64.ofNat 8347681))) (ty := .long) (C := "LatticeKeysModel$Ring") (T := T_MR) (N := 5) hx hb hts (wg_ft i_MR) ty_MR k_MR n_MR hown hK hP hD hS 0 rfl rfl 4 (by decide) (hts _ (wg_t kw_1366)) (fun _ h9 => h9) rfl (by decide +kernel) rfl rfl (Nat.le_of_ble_eq_true rfl) dMR_init_105 (fun H locs hP hD hS => ?_)
      have hP : va_P g.1 vcl [(h0, .inr (10, [.int (nI 8380417), .int (nI 256), .ref q1, .ref q2, .long ((Int64.ofNat 8347681))])), (q1, .inl (g.2.1 2, 512, .inr (.inl ((mrP 1753 8380417 511))))), (q2, .inl (g.2.1 0, 256, .inl ((fun _ => 0))))] _ := hP
      have hD : va_D _ [(h0, .inr (10, [.int (nI 8380417), .int (nI 256), .ref q1, .ref q2, .long ((Int64.ofNat 8347681))])), (q1, .inl (g.2.1 2, 512, .inr (.inl ((mrP 1753 8380417 511))))), (q2, .inl (g.2.1 0, 256, .inl ((fun _ => 0))))] := hD
      refine lv_iload hx hb dMR_init_108 (lv_at hl 0 rfl) ?_
      refine lv_iconst (v := nI 2) hx hb dMR_init_110 (by decide) ?_
      refine mi_imul hx hb dMR_init_111 ?_
      refine mi_as (show nI (128 * 2) = nI 256 from rfl) ?_
      refine lv_istore (lv' := [(4, .int (nI 256)), (0, .ref h0), (1, .int (nI 8380417)), (2, .int (nI 1753)), (3, .int (nI 256))]) hx hb dMR_init_112 hl (by decide) rfl (fun ls hl => ?_)
      refine lv_goto (tgt := 84) hx hb dMR_init_114 (by decide) ?_
      refine lv_iload hx hb dMR_init_84 (lv_at hl 0 rfl) ?_
      refine lv_iload_n hx hb dMR_init_86 rfl (lv_at hl 4 rfl) ?_
      refine mi_ge (tgt := 117) hx hb dMR_init_87 (by decide) (by omega) (by omega) (fun _ => ?_) (fun h9 => absurd h9 (by decide))
      refine lv_iconst (v := nI 0) hx hb dMR_init_117 (by decide) ?_
      refine lv_istore (lv' := [(4, .int (nI 0)), (0, .ref h0), (1, .int (nI 8380417)), (2, .int (nI 1753)), (3, .int (nI 256))]) hx hb dMR_init_118 hl (by decide) rfl (fun ls hl => ?_)
      have hP : va_P g.1 vcl [(h0, .inr (10, [.int (nI 8380417), .int (nI 256), .ref q1, .ref q2, .long ((Int64.ofNat 8347681))])), (q1, .inl (g.2.1 2, 512, .inr (.inl ((mrP 1753 8380417 511))))), (q2, .inl (g.2.1 0, 256, .inl ((mrR 8 0))))] H := hP
      have hD : va_D A [(h0, .inr (10, [.int (nI 8380417), .int (nI 256), .ref q1, .ref q2, .long ((Int64.ofNat 8347681))])), (q1, .inl (g.2.1 2, 512, .inr (.inl ((mrP 1753 8380417 511))))), (q2, .inl (g.2.1 0, 256, .inl ((mrR 8 0))))] := hD
      exact li 256 0 ls H locs (by omega) (lv_sub hl [0, 1, 2, 3, 4] rfl) hP hD hS
    | succ n ih =>
      intro t ls H locs hi hl hP hD hS
      refine lv_iload hx hb dMR_init_45 (lv_at hl 0 rfl) ?_
      refine lv_iconst (v := nI 2) hx hb dMR_init_47 (by decide) ?_
      refine lv_iload_n hx hb dMR_init_48 rfl (lv_at hl 4 rfl) ?_
      refine mi_imul hx hb dMR_init_49 ?_
      refine mi_as (show nI (2 * 256) = nI 512 from rfl) ?_
      refine mi_ge (tgt := 81) hx hb dMR_init_50 (by decide) (by omega) (by omega) (fun h1 => absurd h1 (by omega)) (fun h1 => ?_)
      refine lv_aload_n hx hb dMR_init_53 rfl (lv_at hl 1 rfl) ?_
      refine va_get (D := g.1) (ci := 10) (C := "LatticeKeysModel$Ring") (T := T_MR) (N := 5) hx hb hts (wg_ft i_MR) hown hK hP 0 rfl rfl 2 (by decide) (hts _ (wg_t kw_1364)) (fun _ h9 => h9) rfl dMR_init_54 ?_
      refine lv_iload hx hb dMR_init_57 (lv_at hl 0 rfl) ?_
      refine lv_aload_n hx hb dMR_init_59 rfl (lv_at hl 1 rfl) ?_
      refine va_get (D := g.1) (ci := 10) (C := "LatticeKeysModel$Ring") (T := T_MR) (N := 5) hx hb hts (wg_ft i_MR) hown hK hP 0 rfl rfl 2 (by decide) (hts _ (wg_t kw_1364)) (fun _ h9 => h9) rfl dMR_init_60 ?_
      refine lv_iload hx hb dMR_init_63 (lv_at hl 0 rfl) ?_
      refine lv_iconst (v := nI 1) hx hb dMR_init_65 (by decide) ?_
      refine mi_isub hx hb dMR_init_66 (by omega) ?_
      refine mi_as (show nI (t + 1 - 1) = nI t from rfl) ?_
      refine mp_lald hx hb hK hP 1 2 rfl rfl (by omega) (by decide) dMR_init_67 ?_
      refine lv_iload_n hx hb dMR_init_68 rfl (lv_at hl 3 rfl) ?_
      refine lv_i2l (v := 1753) hx hb dMR_init_69 (by decide) ?_
      refine lv_lmul hx hb dMR_init_70 ?_
      refine lv_iload_n hx hb dMR_init_71 rfl (lv_at hl 2 rfl) ?_
      refine lv_i2l (v := 8380417) hx hb dMR_init_72 (by decide) ?_
      refine lv_lrem hx hb dMR_init_73 (by decide) ?_
      refine mp_last hx hb hK hP hD hS 1 2 rfl rfl (by omega) (by decide) dMR_init_74 (fun H locs hP hD hS => ?_)
      have hP : va_P g.1 vcl [(h0, .inr (10, [.int (nI 8380417), .int (nI 256), .ref q1, .ref q2, .long ((1 : Int64))])), (q1, .inl (g.2.1 2, 512, .inr (.inl ((vp_updL (mrP 1753 8380417 t) (t + 1) ((((mrP 1753 8380417 t) t) * (1753 : Int64)) - (((mrP 1753 8380417 t) t) * (1753 : Int64)) / (8380417 : Int64) * (8380417 : Int64))))))), (q2, .inl (g.2.1 0, 256, .inl ((fun _ => 0))))] _ := hP
      have hD : va_D _ [(h0, .inr (10, [.int (nI 8380417), .int (nI 256), .ref q1, .ref q2, .long ((1 : Int64))])), (q1, .inl (g.2.1 2, 512, .inr (.inl ((vp_updL (mrP 1753 8380417 t) (t + 1) ((((mrP 1753 8380417 t) t) * (1753 : Int64)) - (((mrP 1753 8380417 t) t) * (1753 : Int64)) / (8380417 : Int64) * (8380417 : Int64))))))), (q2, .inl (g.2.1 0, 256, .inl ((fun _ => 0))))] := hD
      refine mi_iinc (k := 0) (x := t + 1) (d := 1) (y := t + 1 + 1) (lv' := [(4, .int (nI (t + 1 + 1))), (0, .ref h0), (1, .int (nI 8380417)), (2, .int (nI 1753)), (3, .int (nI 256))]) hx hb dMR_init_75 hl rfl (by decide) rfl (by decide) rfl (fun ls hl => ?_)
      refine lv_goto (tgt := 45) hx hb dMR_init_78 (by decide) ?_
      have hP : va_P g.1 vcl [(h0, .inr (10, [.int (nI 8380417), .int (nI 256), .ref q1, .ref q2, .long ((1 : Int64))])), (q1, .inl (g.2.1 2, 512, .inr (.inl ((mrP 1753 8380417 (t + 1)))))), (q2, .inl (g.2.1 0, 256, .inl ((fun _ => 0))))] H := hP
      have hD : va_D A [(h0, .inr (10, [.int (nI 8380417), .int (nI 256), .ref q1, .ref q2, .long ((1 : Int64))])), (q1, .inl (g.2.1 2, 512, .inr (.inl ((mrP 1753 8380417 (t + 1)))))), (q2, .inl (g.2.1 0, 256, .inl ((fun _ => 0))))] := hD
      exact ih (t + 1) ls H locs (by omega) (lv_sub hl [0, 1, 2, 3, 4] rfl) hP hD hS
  have hP : va_P g.1 vcl [(h0, .inr (10, [.int (nI 8380417), .int (nI 256), .ref q1, .ref q2, .long ((1 : Int64))])), (q1, .inl (g.2.1 2, 512, .inr (.inl ((mrP 1753 8380417 0))))), (q2, .inl (g.2.1 0, 256, .inl ((fun _ => 0))))] _ := hP
  have hD : va_D A [(h0, .inr (10, [.int (nI 8380417), .int (nI 256), .ref q1, .ref q2, .long ((1 : Int64))])), (q1, .inl (g.2.1 2, 512, .inr (.inl ((mrP 1753 8380417 0))))), (q2, .inl (g.2.1 0, 256, .inl ((fun _ => 0))))] := hD
  exact lp 511 0 ls _ _ (by omega) (lv_sub hl [0, 1, 2, 3, 4] rfl) hP hD hS
