set_option linter.all false
abbrev c_MS_init : ByteArray := prog_16_method_1_code
abbrev y_MS_init : MethodName := ⟨"LatticeKeysModel$Sponge", "<init>", "()V"⟩
abbrev w_MS_init : List Cond := Cond.code y_MS_init c_MS_init 6 none :: WG
theorem dMS_init_0 : decode c_MS_init 0 = .ok (.aload_n 0, 1) := by decide +kernel
theorem dMS_init_1 : decode c_MS_init 1 = .ok (.invokespecial 1, 3) := by decide +kernel
theorem dMS_init_4 : decode c_MS_init 4 = .ok (.aload_n 0, 1) := by decide +kernel
theorem dMS_init_5 : decode c_MS_init 5 = .ok (.bipush 25, 2) := by decide +kernel
theorem dMS_init_7 : decode c_MS_init 7 = .ok (.newarray .long, 2) := by decide +kernel
theorem dMS_init_9 : decode c_MS_init 9 = .ok (.putfield 7, 3) := by decide +kernel
theorem dMS_init_12 : decode c_MS_init 12 = .ok (.aload_n 0, 1) := by decide +kernel
theorem dMS_init_13 : decode c_MS_init 13 = .ok (.bipush 25, 2) := by decide +kernel
theorem dMS_init_15 : decode c_MS_init 15 = .ok (.newarray .long, 2) := by decide +kernel
theorem dMS_init_17 : decode c_MS_init 17 = .ok (.putfield 13, 3) := by decide +kernel
theorem dMS_init_20 : decode c_MS_init 20 = .ok (.aload_n 0, 1) := by decide +kernel
theorem dMS_init_21 : decode c_MS_init 21 = .ok (.iconst 5, 1) := by decide +kernel
theorem dMS_init_22 : decode c_MS_init 22 = .ok (.newarray .long, 2) := by decide +kernel
theorem dMS_init_24 : decode c_MS_init 24 = .ok (.putfield 16, 3) := by decide +kernel
theorem dMS_init_27 : decode c_MS_init 27 = .ok (.aload_n 0, 1) := by decide +kernel
theorem dMS_init_28 : decode c_MS_init 28 = .ok (.bipush 24, 2) := by decide +kernel
theorem dMS_init_30 : decode c_MS_init 30 = .ok (.newarray .long, 2) := by decide +kernel
theorem dMS_init_32 : decode c_MS_init 32 = .ok (.putfield 19, 3) := by decide +kernel
theorem dMS_init_35 : decode c_MS_init 35 = .ok (.aload_n 0, 1) := by decide +kernel
theorem dMS_init_36 : decode c_MS_init 36 = .ok (.bipush 25, 2) := by decide +kernel
theorem dMS_init_38 : decode c_MS_init 38 = .ok (.newarray .int, 2) := by decide +kernel
theorem dMS_init_40 : decode c_MS_init 40 = .ok (.putfield 22, 3) := by decide +kernel
theorem dMS_init_43 : decode c_MS_init 43 = .ok (.iconst 1, 1) := by decide +kernel
theorem dMS_init_44 : decode c_MS_init 44 = .ok (.istore_n 1, 1) := by decide +kernel
theorem dMS_init_45 : decode c_MS_init 45 = .ok (.iconst 0, 1) := by decide +kernel
theorem dMS_init_46 : decode c_MS_init 46 = .ok (.istore_n 2, 1) := by decide +kernel
theorem dMS_init_47 : decode c_MS_init 47 = .ok (.iconst 0, 1) := by decide +kernel
theorem dMS_init_48 : decode c_MS_init 48 = .ok (.istore_n 3, 1) := by decide +kernel
theorem dMS_init_49 : decode c_MS_init 49 = .ok (.iload_n 3, 1) := by decide +kernel
theorem dMS_init_50 : decode c_MS_init 50 = .ok (.bipush 24, 2) := by decide +kernel
theorem dMS_init_52 : decode c_MS_init 52 = .ok (.if_icmp .ge 47, 3) := by decide +kernel
theorem dMS_init_55 : decode c_MS_init 55 = .ok (.aload_n 0, 1) := by decide +kernel
theorem dMS_init_56 : decode c_MS_init 56 = .ok (.getfield 22, 3) := by decide +kernel
theorem dMS_init_59 : decode c_MS_init 59 = .ok (.iload_n 1, 1) := by decide +kernel
theorem dMS_init_60 : decode c_MS_init 60 = .ok (.iconst 5, 1) := by decide +kernel
theorem dMS_init_61 : decode c_MS_init 61 = .ok (.iload_n 2, 1) := by decide +kernel
theorem dMS_init_62 : decode c_MS_init 62 = .ok (.imul, 1) := by decide +kernel
theorem dMS_init_63 : decode c_MS_init 63 = .ok (.iadd, 1) := by decide +kernel
theorem dMS_init_64 : decode c_MS_init 64 = .ok (.iload_n 3, 1) := by decide +kernel
theorem dMS_init_65 : decode c_MS_init 65 = .ok (.iconst 1, 1) := by decide +kernel
theorem dMS_init_66 : decode c_MS_init 66 = .ok (.iadd, 1) := by decide +kernel
theorem dMS_init_67 : decode c_MS_init 67 = .ok (.iload_n 3, 1) := by decide +kernel
theorem dMS_init_68 : decode c_MS_init 68 = .ok (.iconst 2, 1) := by decide +kernel
theorem dMS_init_69 : decode c_MS_init 69 = .ok (.iadd, 1) := by decide +kernel
theorem dMS_init_70 : decode c_MS_init 70 = .ok (.imul, 1) := by decide +kernel
theorem dMS_init_71 : decode c_MS_init 71 = .ok (.iconst 2, 1) := by decide +kernel
theorem dMS_init_72 : decode c_MS_init 72 = .ok (.idiv, 1) := by decide +kernel
theorem dMS_init_73 : decode c_MS_init 73 = .ok (.bipush 64, 2) := by decide +kernel
theorem dMS_init_75 : decode c_MS_init 75 = .ok (.irem, 1) := by decide +kernel
theorem dMS_init_76 : decode c_MS_init 76 = .ok (.iastore, 1) := by decide +kernel
theorem dMS_init_77 : decode c_MS_init 77 = .ok (.iload_n 2, 1) := by decide +kernel
theorem dMS_init_78 : decode c_MS_init 78 = .ok (.istore 4, 2) := by decide +kernel
theorem dMS_init_80 : decode c_MS_init 80 = .ok (.iconst 2, 1) := by decide +kernel
theorem dMS_init_81 : decode c_MS_init 81 = .ok (.iload_n 1, 1) := by decide +kernel
theorem dMS_init_82 : decode c_MS_init 82 = .ok (.imul, 1) := by decide +kernel
theorem dMS_init_83 : decode c_MS_init 83 = .ok (.iconst 3, 1) := by decide +kernel
theorem dMS_init_84 : decode c_MS_init 84 = .ok (.iload_n 2, 1) := by decide +kernel
theorem dMS_init_85 : decode c_MS_init 85 = .ok (.imul, 1) := by decide +kernel
theorem dMS_init_86 : decode c_MS_init 86 = .ok (.iadd, 1) := by decide +kernel
theorem dMS_init_87 : decode c_MS_init 87 = .ok (.iconst 5, 1) := by decide +kernel
theorem dMS_init_88 : decode c_MS_init 88 = .ok (.irem, 1) := by decide +kernel
theorem dMS_init_89 : decode c_MS_init 89 = .ok (.istore_n 2, 1) := by decide +kernel
theorem dMS_init_90 : decode c_MS_init 90 = .ok (.iload 4, 2) := by decide +kernel
theorem dMS_init_92 : decode c_MS_init 92 = .ok (.istore_n 1, 1) := by decide +kernel
theorem dMS_init_93 : decode c_MS_init 93 = .ok (.iinc 3 1, 3) := by decide +kernel
theorem dMS_init_96 : decode c_MS_init 96 = .ok (.goto (-47), 3) := by decide +kernel
theorem dMS_init_99 : decode c_MS_init 99 = .ok (.iconst 1, 1) := by decide +kernel
theorem dMS_init_100 : decode c_MS_init 100 = .ok (.istore_n 3, 1) := by decide +kernel
theorem dMS_init_101 : decode c_MS_init 101 = .ok (.iconst 0, 1) := by decide +kernel
theorem dMS_init_102 : decode c_MS_init 102 = .ok (.istore 4, 2) := by decide +kernel
theorem dMS_init_104 : decode c_MS_init 104 = .ok (.iload 4, 2) := by decide +kernel
theorem dMS_init_106 : decode c_MS_init 106 = .ok (.bipush 24, 2) := by decide +kernel
theorem dMS_init_108 : decode c_MS_init 108 = .ok (.if_icmp .ge 63, 3) := by decide +kernel
theorem dMS_init_111 : decode c_MS_init 111 = .ok (.iconst 0, 1) := by decide +kernel
theorem dMS_init_112 : decode c_MS_init 112 = .ok (.istore 5, 2) := by decide +kernel
theorem dMS_init_114 : decode c_MS_init 114 = .ok (.iload 5, 2) := by decide +kernel
theorem dMS_init_116 : decode c_MS_init 116 = .ok (.bipush 7, 2) := by decide +kernel
theorem dMS_init_118 : decode c_MS_init 118 = .ok (.if_icmp .ge 47, 3) := by decide +kernel
theorem dMS_init_121 : decode c_MS_init 121 = .ok (.iload_n 3, 1) := by decide +kernel
theorem dMS_init_122 : decode c_MS_init 122 = .ok (.iconst 1, 1) := by decide +kernel
theorem dMS_init_123 : decode c_MS_init 123 = .ok (.iand, 1) := by decide +kernel
theorem dMS_init_124 : decode c_MS_init 124 = .ok (.iconst 1, 1) := by decide +kernel
theorem dMS_init_125 : decode c_MS_init 125 = .ok (.if_icmp .ne 21, 3) := by decide +kernel
theorem dMS_init_128 : decode c_MS_init 128 = .ok (.aload_n 0, 1) := by decide +kernel
theorem dMS_init_129 : decode c_MS_init 129 = .ok (.getfield 19, 3) := by decide +kernel
theorem dMS_init_132 : decode c_MS_init 132 = .ok (.iload 4, 2) := by decide +kernel
theorem dMS_init_134 : decode c_MS_init 134 = .ok (.dup2, 1) := by decide +kernel
theorem dMS_init_135 : decode c_MS_init 135 = .ok (.laload, 1) := by decide +kernel
theorem dMS_init_136 : decode c_MS_init 136 = .ok (.lconst 1, 1) := by decide +kernel
theorem dMS_init_137 : decode c_MS_init 137 = .ok (.iconst 1, 1) := by decide +kernel
theorem dMS_init_138 : decode c_MS_init 138 = .ok (.iload 5, 2) := by decide +kernel
theorem dMS_init_140 : decode c_MS_init 140 = .ok (.ishl, 1) := by decide +kernel
theorem dMS_init_141 : decode c_MS_init 141 = .ok (.iconst 1, 1) := by decide +kernel
theorem dMS_init_142 : decode c_MS_init 142 = .ok (.isub, 1) := by decide +kernel
theorem dMS_init_143 : decode c_MS_init 143 = .ok (.lshl, 1) := by decide +kernel
theorem dMS_init_144 : decode c_MS_init 144 = .ok (.lor, 1) := by decide +kernel
theorem dMS_init_145 : decode c_MS_init 145 = .ok (.lastore, 1) := by decide +kernel
theorem dMS_init_146 : decode c_MS_init 146 = .ok (.iload_n 3, 1) := by decide +kernel
theorem dMS_init_147 : decode c_MS_init 147 = .ok (.iconst 1, 1) := by decide +kernel
theorem dMS_init_148 : decode c_MS_init 148 = .ok (.ishl, 1) := by decide +kernel
theorem dMS_init_149 : decode c_MS_init 149 = .ok (.iload_n 3, 1) := by decide +kernel
theorem dMS_init_150 : decode c_MS_init 150 = .ok (.bipush 7, 2) := by decide +kernel
theorem dMS_init_152 : decode c_MS_init 152 = .ok (.ishr, 1) := by decide +kernel
theorem dMS_init_153 : decode c_MS_init 153 = .ok (.sipush 369, 3) := by decide +kernel
theorem dMS_init_156 : decode c_MS_init 156 = .ok (.imul, 1) := by decide +kernel
theorem dMS_init_157 : decode c_MS_init 157 = .ok (.ixor, 1) := by decide +kernel
theorem dMS_init_158 : decode c_MS_init 158 = .ok (.istore_n 3, 1) := by decide +kernel
theorem dMS_init_159 : decode c_MS_init 159 = .ok (.iinc 5 1, 3) := by decide +kernel
theorem dMS_init_162 : decode c_MS_init 162 = .ok (.goto (-48), 3) := by decide +kernel
theorem dMS_init_165 : decode c_MS_init 165 = .ok (.iinc 4 1, 3) := by decide +kernel
theorem dMS_init_168 : decode c_MS_init 168 = .ok (.goto (-64), 3) := by decide +kernel
theorem dMS_init_171 : decode c_MS_init 171 = .ok (.return_, 1) := by decide +kernel
def msX : Nat → Nat × Nat
  | 0 => (1, 0)
  | k + 1 => ((msX k).2, (2 * (msX k).1 + 3 * (msX k).2) % 5)
theorem msX_lt : ∀ k, (msX k).1 < 5 ∧ (msX k).2 < 5
  | 0 => by decide
  | k + 1 => ⟨(msX_lt k).2, Nat.mod_lt _ (by decide)⟩
def msU : Nat → Nat → Int32
  | 0 => fun _ => 0
  | k + 1 => upd (msU k) ((msX k).1 + 5 * (msX k).2) (nI ((k + 1) * (k + 2) / 2 % 64))
def msI (k : Nat) (q : Int32 × (Nat → Int64)) : Nat → Int32 × (Nat → Int64)
  | 0 => q
  | j + 1 => ((msI k q j).1 <<< ((nI 1) &&& 31) ^^^ ((msI k q j).1 >>> ((nI 7) &&& 31)) * (nI 369), if (msI k q j).1 &&& (nI 1) = nI 1 then vp_updL (msI k q j).2 k ((msI k q j).2 k ||| ((1 : Int64) <<< ((((nI 1) <<< ((nI j) &&& 31)) - (nI 1)).toInt64 &&& 63))) else (msI k q j).2)
def msO : Nat → Int32 × (Nat → Int64)
  | 0 => (nI 1, fun _ => 0)
  | k + 1 => msI k (msO k) 7
/-- the reference's powers, and its places -/
def mrP (Z Q : Int64) : Nat → Nat → Int64
  | 0 => vp_updL (fun _ => 0) 0 1
  | t + 1 => vp_updL (mrP Z Q t) (t + 1) (mrP Z Q t t * Z - mrP Z Q t t * Z / Q * Q)
def mrR (b : Nat) : Nat → Nat → Int32
  | 0 => fun _ => 0
  | i + 1 => upd (mrR b i) i (nI (2 * mirL b i + 1))
set_option maxHeartbeats 400000 in
set_option maxRecDepth 100000 in
theorem m_MS_initX (l : Launch) (g : Gd) (sz : Nat) (h0 : Nat)  : Met l y_MS_init w_MS_init ({ frames := 1, cells := 5, slots := 104, locals := 12 } : Room) (va_Pc [.ref h0] (pr (en g) g.1 vcl sz [(h0, .inr (9, [.null, .null, .null, .null, .null, .int 0, .int 0, .int 0]))])) (va_Qv (fun (u : Nat → Nat) => True) (po g.1 vcl (va_A [(h0, .inr (9, [.null, .null, .null, .null, .null, .int 0, .int 0, .int 0]))] sz) (fun (u : Nat → Nat) => [(h0, .inr (9, [.ref ((u 0)), .ref ((u 1)), .ref ((u 2)), .ref ((u 3)), .ref ((u 4)), .int 0, .int 0, .int 0])), ((u 0), .inl (g.2.1 2, 25, .inr (.inl ((fun _ => 0))))), ((u 1), .inl (g.2.1 2, 25, .inr (.inl ((fun _ => 0))))), ((u 2), .inl (g.2.1 2, 5, .inr (.inl ((fun _ => 0))))), ((u 3), .inl (g.2.1 2, 24, .inr (.inl ((msO 24).2)))), ((u 4), .inl (g.2.1 0, 25, .inl ((msU 24))))])) (va_A [(h0, .inr (9, [.null, .null, .null, .null, .null, .int 0, .int 0, .int 0]))] sz)) 5 104 (va_A [(h0, .inr (9, [.null, .null, .null, .null, .null, .int 0, .int 0, .int 0]))] sz) := by
  refine mc_entry (cc := c_MS_init) (maxL := 6) (ret := none) (by decide) rfl (Nat.le_of_ble_eq_true rfl) ?_
  intro p e s m args below meth c ls F hr hlk hnm hsz hP hD hE hA hl
  obtain ⟨hx, hb, hml, hown, hts⟩ := id F
  have hK := hE.1
  generalize va_A [(h0, .inr (9, [.null, .null, .null, .null, .null, .int 0, .int 0, .int 0]))] sz = A at hD hE hA ⊢
  have hS : va_S A s.heap s.heap [] := va_S.rf
  have hl : lv_has ls 6 [(0, .ref h0)] := hl
  refine lv_aload_n hx hb dMS_init_0 rfl (lv_at hl 0 rfl) ?_
  refine W.objInit hx hb hown (hts _ (wg_t kw_1324)) (hts _ (wg_t kw_41)) (hts _ (wg_t kobj)) rfl (by rw [hml]; exact hl.1) rfl dMS_init_1 (Nat.le_of_ble_eq_true rfl) (Nat.le_of_ble_eq_true rfl) ?_
  refine W.eq (g2 := F0 m 4 ls []) rfl ?_
  refine lv_aload_n hx hb dMS_init_4 rfl (lv_at hl 0 rfl) ?_
  refine lv_bipush (v := nI 25) hx hb dMS_init_5 (by decide) ?_
  refine ma_newa (atype := .long) hx hb (hts _ (wg_t kw_73)) rfl hK hP hD hS hA 2 rfl (N' := 25) (a0 := (25, .inr (.inl (fun _ => 0)))) (fun _ => rfl) (by decide) (by decide) (by decide) (by decide) (by decide) dMS_init_7 (fun q1 H hP hD hS => ?_)
  have hP : va_P g.1 vcl [(h0, .inr (9, [.null, .null, .null, .null, .null, .int 0, .int 0, .int 0])), (q1, .inl (g.2.1 2, 25, .inr (.inl ((fun _ => 0)))))] _ := hP
  have hD : va_D _ [(h0, .inr (9, [.null, .null, .null, .null, .null, .int 0, .int 0, .int 0])), (q1, .inl (g.2.1 2, 25, .inr (.inl ((fun _ => 0)))))] := hD
  refine W.widen (k := 1) (n := 25) (by decide) (by decide) ?_
  refine va_putF (D := g.1) (ci := 9) (v := .ref q1) (ty := .array .long) (C := "LatticeKeysModel$Sponge") (T := T_MS) (N := 8) hx hb hts (wg_ft i_MS) ty_MS k_MS n_MS hown hK hP hD hS 0 rfl rfl 0 (by decide) (hts _ (wg_t kw_1325)) (fun _ h9 => h9) rfl hnm rfl (by decide +kernel) rfl rfl (Nat.le_of_ble_eq_true rfl) dMS_init_9 (fun H locs hP hD hS => ?_)
  have hP : va_P g.1 vcl [(h0, .inr (9, [.ref q1, .null, .null, .null, .null, .int 0, .int 0, .int 0])), (q1, .inl (g.2.1 2, 25, .inr (.inl ((fun _ => 0)))))] _ := hP
  have hD : va_D _ [(h0, .inr (9, [.ref q1, .null, .null, .null, .null, .int 0, .int 0, .int 0])), (q1, .inl (g.2.1 2, 25, .inr (.inl ((fun _ => 0)))))] := hD
  refine lv_aload_n hx hb dMS_init_12 rfl (lv_at hl 0 rfl) ?_
  refine lv_bipush (v := nI 25) hx hb dMS_init_13 (by decide) ?_
  refine ma_newa (atype := .long) hx hb (hts _ (wg_t kw_73)) rfl hK hP hD hS hA 2 rfl (N' := 25) (a0 := (25, .inr (.inl (fun _ => 0)))) (fun _ => rfl) (by decide) (by decide) (by decide) (by decide) (by decide) dMS_init_15 (fun q2 H hP hD hS => ?_)
  have hP : va_P g.1 vcl [(h0, .inr (9, [.ref q1, .null, .null, .null, .null, .int 0, .int 0, .int 0])), (q1, .inl (g.2.1 2, 25, .inr (.inl ((fun _ => 0))))), (q2, .inl (g.2.1 2, 25, .inr (.inl ((fun _ => 0)))))] _ := hP
  have hD : va_D _ [(h0, .inr (9, [.ref q1, .null, .null, .null, .null, .int 0, .int 0, .int 0])), (q1, .inl (g.2.1 2, 25, .inr (.inl ((fun _ => 0))))), (q2, .inl (g.2.1 2, 25, .inr (.inl ((fun _ => 0)))))] := hD
  refine W.widen (k := 2) (n := 50) (by decide) (by decide) ?_
  refine va_putF (D := g.1) (ci := 9) (v := .ref q2) (ty := .array .long) (C := "LatticeKeysModel$Sponge") (T := T_MS) (N := 8) hx hb hts (wg_ft i_MS) ty_MS k_MS n_MS hown hK hP hD hS 0 rfl rfl 1 (by decide) (hts _ (wg_t kw_1326)) (fun _ h9 => h9) rfl hnm rfl (by decide +kernel) rfl rfl (Nat.le_of_ble_eq_true rfl) dMS_init_17 (fun H locs hP hD hS => ?_)
  have hP : va_P g.1 vcl [(h0, .inr (9, [.ref q1, .ref q2, .null, .null, .null, .int 0, .int 0, .int 0])), (q1, .inl (g.2.1 2, 25, .inr (.inl ((fun _ => 0))))), (q2, .inl (g.2.1 2, 25, .inr (.inl ((fun _ => 0)))))] _ := hP
  have hD : va_D _ [(h0, .inr (9, [.ref q1, .ref q2, .null, .null, .null, .int 0, .int 0, .int 0])), (q1, .inl (g.2.1 2, 25, .inr (.inl ((fun _ => 0))))), (q2, .inl (g.2.1 2, 25, .inr (.inl ((fun _ => 0)))))] := hD
  refine lv_aload_n hx hb dMS_init_20 rfl (lv_at hl 0 rfl) ?_
  refine lv_iconst (v := nI 5) hx hb dMS_init_21 (by decide) ?_
  refine ma_newa (atype := .long) hx hb (hts _ (wg_t kw_73)) rfl hK hP hD hS hA 2 rfl (N' := 5) (a0 := (5, .inr (.inl (fun _ => 0)))) (fun _ => rfl) (by decide) (by decide) (by decide) (by decide) (by decide) dMS_init_22 (fun q3 H hP hD hS => ?_)
  have hP : va_P g.1 vcl [(h0, .inr (9, [.ref q1, .ref q2, .null, .null, .null, .int 0, .int 0, .int 0])), (q1, .inl (g.2.1 2, 25, .inr (.inl ((fun _ => 0))))), (q2, .inl (g.2.1 2, 25, .inr (.inl ((fun _ => 0))))), (q3, .inl (g.2.1 2, 5, .inr (.inl ((fun _ => 0)))))] _ := hP
  have hD : va_D _ [(h0, .inr (9, [.ref q1, .ref q2, .null, .null, .null, .int 0, .int 0, .int 0])), (q1, .inl (g.2.1 2, 25, .inr (.inl ((fun _ => 0))))), (q2, .inl (g.2.1 2, 25, .inr (.inl ((fun _ => 0))))), (q3, .inl (g.2.1 2, 5, .inr (.inl ((fun _ => 0)))))] := hD
  refine W.widen (k := 3) (n := 55) (by decide) (by decide) ?_
  refine va_putF (D := g.1) (ci := 9) (v := .ref q3) (ty := .array .long) (C := "LatticeKeysModel$Sponge") (T := T_MS) (N := 8) hx hb hts (wg_ft i_MS) ty_MS k_MS n_MS hown hK hP hD hS 0 rfl rfl 2 (by decide) (hts _ (wg_t kw_1327)) (fun _ h9 => h9) rfl hnm rfl (by decide +kernel) rfl rfl (Nat.le_of_ble_eq_true rfl) dMS_init_24 (fun H locs hP hD hS => ?_)
  have hP : va_P g.1 vcl [(h0, .inr (9, [.ref q1, .ref q2, .ref q3, .null, .null, .int 0, .int 0, .int 0])), (q1, .inl (g.2.1 2, 25, .inr (.inl ((fun _ => 0))))), (q2, .inl (g.2.1 2, 25, .inr (.inl ((fun _ => 0))))), (q3, .inl (g.2.1 2, 5, .inr (.inl ((fun _ => 0)))))] _ := hP
  have hD : va_D _ [(h0, .inr (9, [.ref q1, .ref q2, .ref q3, .null, .null, .int 0, .int 0, .int 0])), (q1, .inl (g.2.1 2, 25, .inr (.inl ((fun _ => 0))))), (q2, .inl (g.2.1 2, 25, .inr (.inl ((fun _ => 0))))), (q3, .inl (g.2.1 2, 5, .inr (.inl ((fun _ => 0)))))] := hD
  refine lv_aload_n hx hb dMS_init_27 rfl (lv_at hl 0 rfl) ?_
  refine lv_bipush (v := nI 24) hx hb dMS_init_28 (by decide) ?_
  refine ma_newa (atype := .long) hx hb (hts _ (wg_t kw_73)) rfl hK hP hD hS hA 2 rfl (N' := 24) (a0 := (24, .inr (.inl (fun _ => 0)))) (fun _ => rfl) (by decide) (by decide) (by decide) (by decide) (by decide) dMS_init_30 (fun q4 H hP hD hS => ?_)
  have hP : va_P g.1 vcl [(h0, .inr (9, [.ref q1, .ref q2, .ref q3, .null, .null, .int 0, .int 0, .int 0])), (q1, .inl (g.2.1 2, 25, .inr (.inl ((fun _ => 0))))), (q2, .inl (g.2.1 2, 25, .inr (.inl ((fun _ => 0))))), (q3, .inl (g.2.1 2, 5, .inr (.inl ((fun _ => 0))))), (q4, .inl (g.2.1 2, 24, .inr (.inl ((fun _ => 0)))))] _ := hP
  have hD : va_D _ [(h0, .inr (9, [.ref q1, .ref q2, .ref q3, .null, .null, .int 0, .int 0, .int 0])), (q1, .inl (g.2.1 2, 25, .inr (.inl ((fun _ => 0))))), (q2, .inl (g.2.1 2, 25, .inr (.inl ((fun _ => 0))))), (q3, .inl (g.2.1 2, 5, .inr (.inl ((fun _ => 0))))), (q4, .inl (g.2.1 2, 24, .inr (.inl ((fun _ => 0)))))] := hD
  refine W.widen (k := 4) (n := 79) (by decide) (by decide) ?_
  refine va_putF (D := g.1) (ci := 9) (v := .ref q4) (ty := .array .long) (C := "LatticeKeysModel$Sponge") (T := T_MS) (N := 8) hx hb hts (wg_ft i_MS) ty_MS k_MS n_MS hown hK hP hD hS 0 rfl rfl 3 (by decide) (hts _ (wg_t kw_1328)) (fun _ h9 => h9) rfl hnm rfl (by decide +kernel) rfl rfl (Nat.le_of_ble_eq_true rfl) dMS_init_32 (fun H locs hP hD hS => ?_)
  have hP : va_P g.1 vcl [(h0, .inr (9, [.ref q1, .ref q2, .ref q3, .ref q4, .null, .int 0, .int 0, .int 0])), (q1, .inl (g.2.1 2, 25, .inr (.inl ((fun _ => 0))))), (q2, .inl (g.2.1 2, 25, .inr (.inl ((fun _ => 0))))), (q3, .inl (g.2.1 2, 5, .inr (.inl ((fun _ => 0))))), (q4, .inl (g.2.1 2, 24, .inr (.inl ((fun _ => 0)))))] _ := hP
  have hD : va_D _ [(h0, .inr (9, [.ref q1, .ref q2, .ref q3, .ref q4, .null, .int 0, .int 0, .int 0])), (q1, .inl (g.2.1 2, 25, .inr (.inl ((fun _ => 0))))), (q2, .inl (g.2.1 2, 25, .inr (.inl ((fun _ => 0))))), (q3, .inl (g.2.1 2, 5, .inr (.inl ((fun _ => 0))))), (q4, .inl (g.2.1 2, 24, .inr (.inl ((fun _ => 0)))))] := hD
  refine lv_aload_n hx hb dMS_init_35 rfl (lv_at hl 0 rfl) ?_
  refine lv_bipush (v := nI 25) hx hb dMS_init_36 (by decide) ?_
  refine ma_newa (atype := .int) hx hb (hts _ (wg_t kw_104)) rfl hK hP hD hS hA 0 rfl (N' := 25) (a0 := (25, .inl (fun _ => 0))) (fun _ => rfl) (by decide) (by decide) (by decide) (by decide) (by decide) dMS_init_38 (fun q5 H hP hD hS => ?_)
  have hP : va_P g.1 vcl [(h0, .inr (9, [.ref q1, .ref q2, .ref q3, .ref q4, .null, .int 0, .int 0, .int 0])), (q1, .inl (g.2.1 2, 25, .inr (.inl ((fun _ => 0))))), (q2, .inl (g.2.1 2, 25, .inr (.inl ((fun _ => 0))))), (q3, .inl (g.2.1 2, 5, .inr (.inl ((fun _ => 0))))), (q4, .inl (g.2.1 2, 24, .inr (.inl ((fun _ => 0))))), (q5, .inl (g.2.1 0, 25, .inl ((fun _ => 0))))] _ := hP
  have hD : va_D _ [(h0, .inr (9, [.ref q1, .ref q2, .ref q3, .ref q4, .null, .int 0, .int 0, .int 0])), (q1, .inl (g.2.1 2, 25, .inr (.inl ((fun _ => 0))))), (q2, .inl (g.2.1 2, 25, .inr (.inl ((fun _ => 0))))), (q3, .inl (g.2.1 2, 5, .inr (.inl ((fun _ => 0))))), (q4, .inl (g.2.1 2, 24, .inr (.inl ((fun _ => 0))))), (q5, .inl (g.2.1 0, 25, .inl ((fun _ => 0))))] := hD
  refine W.widen (k := 5) (n := 104) (by decide) (by decide) ?_
  refine va_putF (D := g.1) (ci := 9) (v := .ref q5) (ty := .array .int) (C := "LatticeKeysModel$Sponge") (T := T_MS) (N := 8) hx hb hts (wg_ft i_MS) ty_MS k_MS n_MS hown hK hP hD hS 0 rfl rfl 4 (by decide) (hts _ (wg_t kw_1329)) (fun _ h9 => h9) rfl hnm rfl (by decide +kernel) rfl rfl (Nat.le_of_ble_eq_true rfl) dMS_init_40 (fun H locs hP hD hS => ?_)
  have hP : va_P g.1 vcl [(h0, .inr (9, [.ref q1, .ref q2, .ref q3, .ref q4, .ref q5, .int 0, .int 0, .int 0])), (q1, .inl (g.2.1 2, 25, .inr (.inl ((fun _ => 0))))), (q2, .inl (g.2.1 2, 25, .inr (.inl ((fun _ => 0))))), (q3, .inl (g.2.1 2, 5, .inr (.inl ((fun _ => 0))))), (q4, .inl (g.2.1 2, 24, .inr (.inl ((fun _ => 0))))), (q5, .inl (g.2.1 0, 25, .inl ((fun _ => 0))))] _ := hP
  have hD : va_D _ [(h0, .inr (9, [.ref q1, .ref q2, .ref q3, .ref q4, .ref q5, .int 0, .int 0, .int 0])), (q1, .inl (g.2.1 2, 25, .inr (.inl ((fun _ => 0))))), (q2, .inl (g.2.1 2, 25, .inr (.inl ((fun _ => 0))))), (q3, .inl (g.2.1 2, 5, .inr (.inl ((fun _ => 0))))), (q4, .inl (g.2.1 2, 24, .inr (.inl ((fun _ => 0))))), (q5, .inl (g.2.1 0, 25, .inl ((fun _ => 0))))] := hD
  refine lv_iconst (v := nI 1) hx hb dMS_init_43 (by decide) ?_
  refine lv_istore_n (lv' := [(1, .int (nI 1)), (0, .ref h0)]) hx hb dMS_init_44 rfl hl (by decide) rfl (fun ls hl => ?_)
  refine lv_iconst (v := nI 0) hx hb dMS_init_45 (by decide) ?_
  refine lv_istore_n (lv' := [(2, .int (nI 0)), (1, .int (nI 1)), (0, .ref h0)]) hx hb dMS_init_46 rfl hl (by decide) rfl (fun ls hl => ?_)
  refine lv_iconst (v := nI 0) hx hb dMS_init_47 (by decide) ?_
  refine lv_istore_n (lv' := [(3, .int (nI 0)), (2, .int (nI 0)), (1, .int (nI 1)), (0, .ref h0)]) hx hb dMS_init_48 rfl hl (by decide) rfl (fun ls hl => ?_)
  have lb : ∀ (n k : Nat) (ls : Array Slot) (H : Heap) (locs : List Loc), n + k = 24 → lv_has ls 6 [(4, .int (nI k)), (3, .int ((msO k).1)), (0, .ref h0)] → va_P g.1 vcl [(h0, .inr (9, [.ref q1, .ref q2, .ref q3, .ref q4, .ref q5, .int 0, .int 0, .int 0])), (q1, .inl (g.2.1 2, 25, .inr (.inl ((fun _ => 0))))), (q2, .inl (g.2.1 2, 25, .inr (.inl ((fun _ => 0))))), (q3, .inl (g.2.1 2, 5, .inr (.inl ((fun _ => 0))))), (q4, .inl (g.2.1 2, 24, .inr (.inl ((msO k).2)))), (q5, .inl (g.2.1 0, 25, .inl ((msU 24))))] H → va_D A [(h0, .inr (9, [.ref q1, .ref q2, .ref q3, .ref q4, .ref q5, .int 0, .int 0, .int 0])), (q1, .inl (g.2.1 2, 25, .inr (.inl ((fun _ => 0))))), (q2, .inl (g.2.1 2, 25, .inr (.inl ((fun _ => 0))))), (q3, .inl (g.2.1 2, 5, .inr (.inl ((fun _ => 0))))), (q4, .inl (g.2.1 2, 24, .inr (.inl ((msO k).2)))), (q5, .inl (g.2.1 0, 25, .inl ((msU 24))))] → va_S A s.heap H locs → W p l e ({ frames := 1, cells := 5, slots := 104, locals := 12 } : Room) s m args below meth c H locs 5 104 (MQ below (va_Qv (fun (u : Nat → Nat) => True) (po g.1 vcl A (fun (u : Nat → Nat) => [(h0, .inr (9, [.ref ((u 0)), .ref ((u 1)), .ref ((u 2)), .ref ((u 3)), .ref ((u 4)), .int 0, .int 0, .int 0])), ((u 0), .inl (g.2.1 2, 25, .inr (.inl ((fun _ => 0))))), ((u 1), .inl (g.2.1 2, 25, .inr (.inl ((fun _ => 0))))), ((u 2), .inl (g.2.1 2, 5, .inr (.inl ((fun _ => 0))))), ((u 3), .inl (g.2.1 2, 24, .inr (.inl ((msO 24).2)))), ((u 4), .inl (g.2.1 0, 25, .inl ((msU 24))))])) A) args s 5 104 A) (F0 m 104 ls []) := by
    intro n
    induction n with
    | zero =>
      intro k ls H locs hi hl hP hD hS
      obtain rfl : k = 24 := by omega
      refine lv_iload hx hb dMS_init_104 (lv_at hl 0 rfl) ?_
      refine lv_bipush (v := nI 24) hx hb dMS_init_106 (by decide) ?_
      refine mi_ge (tgt := 171) hx hb dMS_init_108 (by decide) (by omega) (by omega) (fun h1 => ?_) (fun h1 => absurd h1 (by omega))
      exact mc_vret hx hb hr hlk hP hD hS (fun k => match k with | 0 => q1 | 1 => q2 | 2 => q3 | 3 => q4 | _ => q5) trivial [0, 1, 2, 3, 4, 5] rfl rfl (by omega) (by omega) dMS_init_171
    | succ n ih =>
      intro k ls H locs hi hl hP hD hS
      have lj : ∀ (n j : Nat) (ls : Array Slot) (H : Heap) (locs : List Loc), n + j = 7 → lv_has ls 6 [(5, .int (nI j)), (4, .int (nI k)), (3, .int ((msI k (msO k) j).1)), (0, .ref h0)] → va_P g.1 vcl [(h0, .inr (9, [.ref q1, .ref q2, .ref q3, .ref q4, .ref q5, .int 0, .int 0, .int 0])), (q1, .inl (g.2.1 2, 25, .inr (.inl ((fun _ => 0))))), (q2, .inl (g.2.1 2, 25, .inr (.inl ((fun _ => 0))))), (q3, .inl (g.2.1 2, 5, .inr (.inl ((fun _ => 0))))), (q4, .inl (g.2.1 2, 24, .inr (.inl ((msI k (msO k) j).2)))), (q5, .inl (g.2.1 0, 25, .inl ((msU 24))))] H → va_D A [(h0, .inr (9, [.ref q1, .ref q2, .ref q3, .ref q4, .ref q5, .int 0, .int 0, .int 0])), (q1, .inl (g.2.1 2, 25, .inr (.inl ((fun _ => 0))))), (q2, .inl (g.2.1 2, 25, .inr (.inl ((fun _ => 0))))), (q3, .inl (g.2.1 2, 5, .inr (.inl ((fun _ => 0))))), (q4, .inl (g.2.1 2, 24, .inr (.inl ((msI k (msO k) j).2)))), (q5, .inl (g.2.1 0, 25, .inl ((msU 24))))] → va_S A s.heap H locs → W p l e ({ frames := 1, cells := 5, slots := 104, locals := 12 } : Room) s m args below meth c H locs 5 104 (MQ below (va_Qv (fun (u : Nat → Nat) => True) (po g.1 vcl A (fun (u : Nat → Nat) => [(h0, .inr (9, [.ref ((u 0)), .ref ((u 1)), .ref ((u 2)), .ref ((u 3)), .ref ((u 4)), .int 0, .int 0, .int 0])), ((u 0), .inl (g.2.1 2, 25, .inr (.inl ((fun _ => 0))))), ((u 1), .inl (g.2.1 2, 25, .inr (.inl ((fun _ => 0))))), ((u 2), .inl (g.2.1 2, 5, .inr (.inl ((fun _ => 0))))), ((u 3), .inl (g.2.1 2, 24, .inr (.inl ((msO 24).2)))), ((u 4), .inl (g.2.1 0, 25, .inl ((msU 24))))])) A) args s 5 104 A) (F0 m 114 ls []) := by
        intro n
        induction n with
        | zero =>
          intro j ls H locs hj hl hP hD hS
          obtain rfl : j = 7 := by omega
          refine lv_iload hx hb dMS_init_114 (lv_at hl 0 rfl) ?_
          refine lv_bipush (v := nI 7) hx hb dMS_init_116 (by decide) ?_
          refine mi_ge (tgt := 165) hx hb dMS_init_118 (by decide) (by omega) (by omega) (fun h1 => ?_) (fun h1 => absurd h1 (by omega))
          refine mi_iinc (k := 1) (x := k) (d := 1) (y := k + 1) (lv' := [(4, .int (nI (k + 1))), (5, .int (nI 7)), (3, .int ((msI k (msO k) 7).1)), (0, .ref h0)]) hx hb dMS_init_165 hl rfl (by decide) rfl (by decide) rfl (fun ls hl => ?_)
          refine lv_goto (tgt := 104) hx hb dMS_init_168 (by decide) ?_
          have hP : va_P g.1 vcl [(h0, .inr (9, [.ref q1, .ref q2, .ref q3, .ref q4, .ref q5, .int 0, .int 0, .int 0])), (q1, .inl (g.2.1 2, 25, .inr (.inl ((fun _ => 0))))), (q2, .inl (g.2.1 2, 25, .inr (.inl ((fun _ => 0))))), (q3, .inl (g.2.1 2, 5, .inr (.inl ((fun _ => 0))))), (q4, .inl (g.2.1 2, 24, .inr (.inl ((msO (k + 1)).2)))), (q5, .inl (g.2.1 0, 25, .inl ((msU 24))))] H := hP
          have hD : va_D A [(h0, .inr (9, [.ref q1, .ref q2, .ref q3, .ref q4, .ref q5, .int 0, .int 0, .int 0])), (q1, .inl (g.2.1 2, 25, .inr (.inl ((fun _ => 0))))), (q2, .inl (g.2.1 2, 25, .inr (.inl ((fun _ => 0))))), (q3, .inl (g.2.1 2, 5, .inr (.inl ((fun _ => 0))))), (q4, .inl (g.2.1 2, 24, .inr (.inl ((msO (k + 1)).2)))), (q5, .inl (g.2.1 0, 25, .inl ((msU 24))))] := hD
          exact ih (k + 1) ls H locs (by omega) (lv_sub hl [0, 2, 3] rfl) hP hD hS
        | succ n ihj =>
          intro j ls H locs hj hl hP hD hS
          refine lv_iload hx hb dMS_init_114 (lv_at hl 0 rfl) ?_
          refine lv_bipush (v := nI 7) hx hb dMS_init_116 (by decide) ?_
          refine mi_ge (tgt := 165) hx hb dMS_init_118 (by decide) (by omega) (by omega) (fun h1 => absurd h1 (by omega)) (fun h1 => ?_)
          refine lv_iload_n hx hb dMS_init_121 rfl (lv_at hl 2 rfl) ?_
          refine lv_iconst (v := nI 1) hx hb dMS_init_122 (by decide) ?_
          refine lv_iand hx hb dMS_init_123 ?_
          refine lv_iconst (v := nI 1) hx hb dMS_init_124 (by decide) ?_
          refine lv_icmp_ne (tgt := 146) hx hb dMS_init_125 (by decide) (fun h9 => ?_) (fun h9 => ?_)
          · refine lv_iload_n hx hb dMS_init_146 rfl (lv_at hl 2 rfl) ?_
            refine lv_iconst (v := nI 1) hx hb dMS_init_147 (by decide) ?_
            refine lv_ishl hx hb dMS_init_148 ?_
            refine lv_iload_n hx hb dMS_init_149 rfl (lv_at hl 2 rfl) ?_
            refine lv_bipush (v := nI 7) hx hb dMS_init_150 (by decide) ?_
            refine lv_ishr hx hb dMS_init_152 ?_
            refine lv_sipush (v := nI 369) hx hb dMS_init_153 (by decide) ?_
            refine lv_imul hx hb dMS_init_156 ?_
            refine lv_ixor hx hb dMS_init_157 ?_
            refine mi_as (show _ = (msI k (msO k) (j + 1)).1 from rfl) ?_
            refine lv_istore_n (lv' := [(3, .int ((msI k (msO k) (j + 1)).1)), (5, .int (nI j)), (4, .int (nI k)), (0, .ref h0)]) hx hb dMS_init_158 rfl hl (by decide) rfl (fun ls hl => ?_)
            refine mi_iinc (k := 1) (x := j) (d := 1) (y := j + 1) (lv' := [(5, .int (nI (j + 1))), (3, .int ((msI k (msO k) (j + 1)).1)), (4, .int (nI k)), (0, .ref h0)]) hx hb dMS_init_159 hl rfl (by decide) rfl (by decide) rfl (fun ls hl => ?_)
            refine lv_goto (tgt := 114) hx hb dMS_init_162 (by decide) ?_
            have e9 : (msI k (msO k) j).2 = (msI k (msO k) (j + 1)).2 := (if_neg h9).symm
            rw [e9] at hP hD
            have hP : va_P g.1 vcl [(h0, .inr (9, [.ref q1, .ref q2, .ref q3, .ref q4, .ref q5, .int 0, .int 0, .int 0])), (q1, .inl (g.2.1 2, 25, .inr (.inl ((fun _ => 0))))), (q2, .inl (g.2.1 2, 25, .inr (.inl ((fun _ => 0))))), (q3, .inl (g.2.1 2, 5, .inr (.inl ((fun _ => 0))))), (q4, .inl (g.2.1 2, 24, .inr (.inl ((msI k (msO k) (j + 1)).2)))), (q5, .inl (g.2.1 0, 25, .inl ((msU 24))))] H := hP
            have hD : va_D A [(h0, .inr (9, [.ref q1, .ref q2, .ref q3, .ref q4, .ref q5, .int 0, .int 0, .int 0])), (q1, .inl (g.2.1 2, 25, .inr (.inl ((fun _ => 0))))), (q2, .inl (g.2.1 2, 25, .inr (.inl ((fun _ => 0))))), (q3, .inl (g.2.1 2, 5, .inr (.inl ((fun _ => 0))))), (q4, .inl (g.2.1 2, 24, .inr (.inl ((msI k (msO k) (j + 1)).2)))), (q5, .inl (g.2.1 0, 25, .inl ((msU 24))))] := hD
            exact ihj (j + 1) ls H locs (by omega) (lv_sub hl [0, 2, 1, 3] rfl) hP hD hS
          · refine lv_aload_n hx hb dMS_init_128 rfl (lv_at hl 3 rfl) ?_
            refine va_get (D := g.1) (ci := 9) (C := "LatticeKeysModel$Sponge") (T := T_MS) (N := 8) hx hb hts (wg_ft i_MS) hown hK hP 0 rfl rfl 3 (by decide) (hts _ (wg_t kw_1328)) (fun _ h9 => h9) rfl dMS_init_129 ?_
            refine lv_iload hx hb dMS_init_132 (lv_at hl 1 rfl) ?_
            refine lv_dup2_11 hx hb dMS_init_134 rfl rfl ?_
            refine mp_lald hx hb hK hP 4 2 rfl rfl (by omega) (by decide) dMS_init_135 ?_
            refine lv_lconst (v := 1) hx hb dMS_init_136 (by decide) ?_
            refine lv_iconst (v := nI 1) hx hb dMS_init_137 (by decide) ?_
            refine lv_iload hx hb dMS_init_138 (lv_at hl 0 rfl) ?_
            refine lv_ishl hx hb dMS_init_140 ?_
            refine lv_iconst (v := nI 1) hx hb dMS_init_141 (by decide) ?_
            refine lv_isub hx hb dMS_init_142 ?_
            refine lv_lshl hx hb dMS_init_143 rfl ?_
            refine lv_lor hx hb dMS_init_144 ?_
            refine mp_last hx hb hK hP hD hS 4 2 rfl rfl (by omega) (by decide) dMS_init_145 (fun H locs hP hD hS => ?_)
            have hP : va_P g.1 vcl [(h0, .inr (9, [.ref q1, .ref q2, .ref q3, .ref q4, .ref q5, .int 0, .int 0, .int 0])), (q1, .inl (g.2.1 2, 25, .inr (.inl ((fun _ => 0))))), (q2, .inl (g.2.1 2, 25, .inr (.inl ((fun _ => 0))))), (q3, .inl (g.2.1 2, 5, .inr (.inl ((fun _ => 0))))), (q4, .inl (g.2.1 2, 24, .inr (.inl ((vp_updL ((msI k (msO k) j).2) k ((((msI k (msO k) j).2) k) ||| ((1 : Int64) <<< ((((nI 1) <<< ((nI j) &&& 31)) - (nI 1)).toInt64 &&& 63)))))))), (q5, .inl (g.2.1 0, 25, .inl ((msU 24))))] _ := hP
            have hD : va_D _ [(h0, .inr (9, [.ref q1, .ref q2, .ref q3, .ref q4, .ref q5, .int 0, .int 0, .int 0])), (q1, .inl (g.2.1 2, 25, .inr (.inl ((fun _ => 0))))), (q2, .inl (g.2.1 2, 25, .inr (.inl ((fun _ => 0))))), (q3, .inl (g.2.1 2, 5, .inr (.inl ((fun _ => 0))))), (q4, .inl (g.2.1 2, 24, .inr (.inl ((vp_updL ((msI k (msO k) j).2) k ((((msI k (msO k) j).2) k) ||| ((1 : Int64) <<< ((((nI 1) <<< ((nI j) &&& 31)) - (nI 1)).toInt64 &&& 63)))))))), (q5, .inl (g.2.1 0, 25, .inl ((msU 24))))] := hD
            refine lv_iload_n hx hb dMS_init_146 rfl (lv_at hl 2 rfl) ?_
            refine lv_iconst (v := nI 1) hx hb dMS_init_147 (by decide) ?_
            refine lv_ishl hx hb dMS_init_148 ?_
            refine lv_iload_n hx hb dMS_init_149 rfl (lv_at hl 2 rfl) ?_
            refine lv_bipush (v := nI 7) hx hb dMS_init_150 (by decide) ?_
            refine lv_ishr hx hb dMS_init_152 ?_
            refine lv_sipush (v := nI 369) hx hb dMS_init_153 (by decide) ?_
            refine lv_imul hx hb dMS_init_156 ?_
            refine lv_ixor hx hb dMS_init_157 ?_
            refine mi_as (show _ = (msI k (msO k) (j + 1)).1 from rfl) ?_
            refine lv_istore_n (lv' := [(3, .int ((msI k (msO k) (j + 1)).1)), (5, .int (nI j)), (4, .int (nI k)), (0, .ref h0)]) hx hb dMS_init_158 rfl hl (by decide) rfl (fun ls hl => ?_)
            refine mi_iinc (k := 1) (x := j) (d := 1) (y := j + 1) (lv' := [(5, .int (nI (j + 1))), (3, .int ((msI k (msO k) (j + 1)).1)), (4, .int (nI k)), (0, .ref h0)]) hx hb dMS_init_159 hl rfl (by decide) rfl (by decide) rfl (fun ls hl => ?_)
            refine lv_goto (tgt := 114) hx hb dMS_init_162 (by decide) ?_
            have e9 : (vp_updL ((msI k (msO k) j).2) k ((((msI k (msO k) j).2) k) ||| ((1 : Int64) <<< ((((nI 1) <<< ((nI j) &&& 31)) - (nI 1)).toInt64 &&& 63)))) = (msI k (msO k) (j + 1)).2 := (if_pos h9).symm
            rw [e9] at hP hD
            have hP : va_P g.1 vcl [(h0, .inr (9, [.ref q1, .ref q2, .ref q3, .ref q4, .ref q5, .int 0, .int 0, .int 0])), (q1, .inl (g.2.1 2, 25, .inr (.inl ((fun _ => 0))))), (q2, .inl (g.2.1 2, 25, .inr (.inl ((fun _ => 0))))), (q3, .inl (g.2.1 2, 5, .inr (.inl ((fun _ => 0))))), (q4, .inl (g.2.1 2, 24, .inr (.inl ((msI k (msO k) (j + 1)).2)))), (q5, .inl (g.2.1 0, 25, .inl ((msU 24))))] H := hP
            have hD : va_D A [(h0, .inr (9, [.ref q1, .ref q2, .ref q3, .ref q4, .ref q5, .int 0, .int 0, .int 0])), (q1, .inl (g.2.1 2, 25, .inr (.inl ((fun _ => 0))))), (q2, .inl (g.2.1 2, 25, .inr (.inl ((fun _ => 0))))), (q3, .inl (g.2.1 2, 5, .inr (.inl ((fun _ => 0))))), (q4, .inl (g.2.1 2, 24, .inr (.inl ((msI k (msO k) (j + 1)).2)))), (q5, .inl (g.2.1 0, 25, .inl ((msU 24))))] := hD
            exact ihj (j + 1) ls H locs (by omega) (lv_sub hl [0, 2, 1, 3] rfl) hP hD hS
      refine lv_iload hx hb dMS_init_104 (lv_at hl 0 rfl) ?_
      refine lv_bipush (v := nI 24) hx hb dMS_init_106 (by decide) ?_
      refine mi_ge (tgt := 171) hx hb dMS_init_108 (by decide) (by omega) (by omega) (fun h1 => absurd h1 (by omega)) (fun h1 => ?_)
      refine lv_iconst (v := nI 0) hx hb dMS_init_111 (by decide) ?_
      refine lv_istore (lv' := [(5, .int (nI 0)), (4, .int (nI k)), (3, .int ((msO k).1)), (0, .ref h0)]) hx hb dMS_init_112 hl (by decide) rfl (fun ls hl => ?_)
      have hP : va_P g.1 vcl [(h0, .inr (9, [.ref q1, .ref q2, .ref q3, .ref q4, .ref q5, .int 0, .int 0, .int 0])), (q1, .inl (g.2.1 2, 25, .inr (.inl ((fun _ => 0))))), (q2, .inl (g.2.1 2, 25, .inr (.inl ((fun _ => 0))))), (q3, .inl (g.2.1 2, 5, .inr (.inl ((fun _ => 0))))), (q4, .inl (g.2.1 2, 24, .inr (.inl ((msI k (msO k) 0).2)))), (q5, .inl (g.2.1 0, 25, .inl ((msU 24))))] H := hP
      have hD : va_D A [(h0, .inr (9, [.ref q1, .ref q2, .ref q3, .ref q4, .ref q5, .int 0, .int 0, .int 0])), (q1, .inl (g.2.1 2, 25, .inr (.inl ((fun _ => 0))))), (q2, .inl (g.2.1 2, 25, .inr (.inl ((fun _ => 0))))), (q3, .inl (g.2.1 2, 5, .inr (.inl ((fun _ => 0))))), (q4, .inl (g.2.1 2, 24, .inr (.inl ((msI k (msO k) 0).2)))), (q5, .inl (g.2.1 0, 25, .inl ((msU 24))))] := hD
      exact lj 7 0 ls H locs (by omega) (lv_sub hl [0, 1, 2, 3] rfl) hP hD hS
  have la : ∀ (n k : Nat) (ls : Array Slot) (H : Heap) (locs : List Loc), n + k = 24 → lv_has ls 6 [(3, .int (nI k)), (1, .int (nI ((msX k).1))), (2, .int (nI ((msX k).2))), (0, .ref h0)] → va_P g.1 vcl [(h0, .inr (9, [.ref q1, .ref q2, .ref q3, .ref q4, .ref q5, .int 0, .int 0, .int 0])), (q1, .inl (g.2.1 2, 25, .inr (.inl ((fun _ => 0))))), (q2, .inl (g.2.1 2, 25, .inr (.inl ((fun _ => 0))))), (q3, .inl (g.2.1 2, 5, .inr (.inl ((fun _ => 0))))), (q4, .inl (g.2.1 2, 24, .inr (.inl ((fun _ => 0))))), (q5, .inl (g.2.1 0, 25, .inl ((msU k))))] H → va_D A [(h0, .inr (9, [.ref q1, .ref q2, .ref q3, .ref q4, .ref q5, .int 0, .int 0, .int 0])), (q1, .inl (g.2.1 2, 25, .inr (.inl ((fun _ => 0))))), (q2, .inl (g.2.1 2, 25, .inr (.inl ((fun _ => 0))))), (q3, .inl (g.2.1 2, 5, .inr (.inl ((fun _ => 0))))), (q4, .inl (g.2.1 2, 24, .inr (.inl ((fun _ => 0))))), (q5, .inl (g.2.1 0, 25, .inl ((msU k))))] → va_S A s.heap H locs → W p l e ({ frames := 1, cells := 5, slots := 104, locals := 12 } : Room) s m args below meth c H locs 5 104 (MQ below (va_Qv (fun (u : Nat → Nat) => True) (po g.1 vcl A (fun (u : Nat → Nat) => [(h0, .inr (9, [.ref ((u 0)), .ref ((u 1)), .ref ((u 2)), .ref ((u 3)), .ref ((u 4)), .int 0, .int 0, .int 0])), ((u 0), .inl (g.2.1 2, 25, .inr (.inl ((fun _ => 0))))), ((u 1), .inl (g.2.1 2, 25, .inr (.inl ((fun _ => 0))))), ((u 2), .inl (g.2.1 2, 5, .inr (.inl ((fun _ => 0))))), ((u 3), .inl (g.2.1 2, 24, .inr (.inl ((msO 24).2)))), ((u 4), .inl (g.2.1 0, 25, .inl ((msU 24))))])) A) args s 5 104 A) (F0 m 49 ls []) := by
    intro n
    induction n with
    | zero =>
      intro k ls H locs hi hl hP hD hS
      obtain rfl : k = 24 := by omega
      refine lv_iload_n hx hb dMS_init_49 rfl (lv_at hl 0 rfl) ?_
      refine lv_bipush (v := nI 24) hx hb dMS_init_50 (by decide) ?_
      refine mi_ge (tgt := 99) hx hb dMS_init_52 (by decide) (by omega) (by omega) (fun h1 => ?_) (fun h1 => absurd h1 (by omega))
      refine lv_iconst (v := nI 1) hx hb dMS_init_99 (by decide) ?_
      refine lv_istore_n (lv' := [(3, .int (nI 1)), (1, .int (nI ((msX 24).1))), (2, .int (nI ((msX 24).2))), (0, .ref h0)]) hx hb dMS_init_100 rfl hl (by decide) rfl (fun ls hl => ?_)
      refine lv_iconst (v := nI 0) hx hb dMS_init_101 (by decide) ?_
      refine lv_istore (lv' := [(4, .int (nI 0)), (3, .int (nI 1)), (1, .int (nI ((msX 24).1))), (2, .int (nI ((msX 24).2))), (0, .ref h0)]) hx hb dMS_init_102 hl (by decide) rfl (fun ls hl => ?_)
      have hP : va_P g.1 vcl [(h0, .inr (9, [.ref q1, .ref q2, .ref q3, .ref q4, .ref q5, .int 0, .int 0, .int 0])), (q1, .inl (g.2.1 2, 25, .inr (.inl ((fun _ => 0))))), (q2, .inl (g.2.1 2, 25, .inr (.inl ((fun _ => 0))))), (q3, .inl (g.2.1 2, 5, .inr (.inl ((fun _ => 0))))), (q4, .inl (g.2.1 2, 24, .inr (.inl ((msO 0).2)))), (q5, .inl (g.2.1 0, 25, .inl ((msU 24))))] H := hP
      have hD : va_D A [(h0, .inr (9, [.ref q1, .ref q2, .ref q3, .ref q4, .ref q5, .int 0, .int 0, .int 0])), (q1, .inl (g.2.1 2, 25, .inr (.inl ((fun _ => 0))))), (q2, .inl (g.2.1 2, 25, .inr (.inl ((fun _ => 0))))), (q3, .inl (g.2.1 2, 5, .inr (.inl ((fun _ => 0))))), (q4, .inl (g.2.1 2, 24, .inr (.inl ((msO 0).2)))), (q5, .inl (g.2.1 0, 25, .inl ((msU 24))))] := hD
      exact lb 24 0 ls H locs (by omega) (lv_sub hl [0, 1, 4] rfl) hP hD hS
    | succ n ih =>
      intro k ls H locs hi hl hP hD hS
      obtain ⟨hx5, hy5⟩ := msX_lt k
      have hkk : (k + 1) * (k + 2) < 1000 := Nat.lt_of_le_of_lt (Nat.mul_le_mul (show k + 1 ≤ 24 by omega) (show k + 2 ≤ 25 by omega)) (by decide)
      refine lv_iload_n hx hb dMS_init_49 rfl (lv_at hl 0 rfl) ?_
      refine lv_bipush (v := nI 24) hx hb dMS_init_50 (by decide) ?_
      refine mi_ge (tgt := 99) hx hb dMS_init_52 (by decide) (by omega) (by omega) (fun h1 => absurd h1 (by omega)) (fun h1 => ?_)
      refine lv_aload_n hx hb dMS_init_55 rfl (lv_at hl 3 rfl) ?_
      refine va_get (D := g.1) (ci := 9) (C := "LatticeKeysModel$Sponge") (T := T_MS) (N := 8) hx hb hts (wg_ft i_MS) hown hK hP 0 rfl rfl 4 (by decide) (hts _ (wg_t kw_1329)) (fun _ h9 => h9) rfl dMS_init_56 ?_
      refine lv_iload_n hx hb dMS_init_59 rfl (lv_at hl 1 rfl) ?_
      refine lv_iconst (v := nI 5) hx hb dMS_init_60 (by decide) ?_
      refine lv_iload_n hx hb dMS_init_61 rfl (lv_at hl 2 rfl) ?_
      refine mi_imul hx hb dMS_init_62 ?_
      refine mi_iadd hx hb dMS_init_63 ?_
      refine lv_iload_n hx hb dMS_init_64 rfl (lv_at hl 0 rfl) ?_
      refine lv_iconst (v := nI 1) hx hb dMS_init_65 (by decide) ?_
      refine mi_iadd hx hb dMS_init_66 ?_
      refine lv_iload_n hx hb dMS_init_67 rfl (lv_at hl 0 rfl) ?_
      refine lv_iconst (v := nI 2) hx hb dMS_init_68 (by decide) ?_
      refine mi_iadd hx hb dMS_init_69 ?_
      refine mi_imul hx hb dMS_init_70 ?_
      refine lv_iconst (v := nI 2) hx hb dMS_init_71 (by decide) ?_
      refine mi_idiv hx hb dMS_init_72 (by omega) (by omega) (by omega) ?_
      refine lv_bipush (v := nI 64) hx hb dMS_init_73 (by decide) ?_
      refine mi_irem hx hb dMS_init_75 (by omega) (by omega) (by omega) ?_
      refine mp_iast hx hb hK hP hD hS 5 0 rfl rfl (by omega) (by decide) dMS_init_76 (fun H locs hP hD hS => ?_)
      have hP : va_P g.1 vcl [(h0, .inr (9, [.ref q1, .ref q2, .ref q3, .ref q4, .ref q5, .int 0, .int 0, .int 0])), (q1, .inl (g.2.1 2, 25, .inr (.inl ((fun _ => 0))))), (q2, .inl (g.2.1 2, 25, .inr (.inl ((fun _ => 0))))), (q3, .inl (g.2.1 2, 5, .inr (.inl ((fun _ => 0))))), (q4, .inl (g.2.1 2, 24, .inr (.inl ((fun _ => 0))))), (q5, .inl (g.2.1 0, 25, .inl ((upd (msU k) (((msX k).1) + (5 * ((msX k).2))) (nI ((((k + 1) * (k + 2)) / 2) % 64))))))] _ := hP
      have hD : va_D _ [(h0, .inr (9, [.ref q1, .ref q2, .ref q3, .ref q4, .ref q5, .int 0, .int 0, .int 0])), (q1, .inl (g.2.1 2, 25, .inr (.inl ((fun _ => 0))))), (q2, .inl (g.2.1 2, 25, .inr (.inl ((fun _ => 0))))), (q3, .inl (g.2.1 2, 5, .inr (.inl ((fun _ => 0))))), (q4, .inl (g.2.1 2, 24, .inr (.inl ((fun _ => 0))))), (q5, .inl (g.2.1 0, 25, .inl ((upd (msU k) (((msX k).1) + (5 * ((msX k).2))) (nI ((((k + 1) * (k + 2)) / 2) % 64))))))] := hD
      refine lv_iload_n hx hb dMS_init_77 rfl (lv_at hl 2 rfl) ?_
      refine lv_istore (lv' := [(4, .int (nI ((msX k).2))), (3, .int (nI k)), (1, .int (nI ((msX k).1))), (2, .int (nI ((msX k).2))), (0, .ref h0)]) hx hb dMS_init_78 hl (by decide) rfl (fun ls hl => ?_)
      refine lv_iconst (v := nI 2) hx hb dMS_init_80 (by decide) ?_
      refine lv_iload_n hx hb dMS_init_81 rfl (lv_at hl 2 rfl) ?_
      refine mi_imul hx hb dMS_init_82 ?_
      refine lv_iconst (v := nI 3) hx hb dMS_init_83 (by decide) ?_
      refine lv_iload_n hx hb dMS_init_84 rfl (lv_at hl 3 rfl) ?_
      refine mi_imul hx hb dMS_init_85 ?_
      refine mi_iadd hx hb dMS_init_86 ?_
      refine lv_iconst (v := nI 5) hx hb dMS_init_87 (by decide) ?_
      refine mi_irem hx hb dMS_init_88 (by omega) (by omega) (by omega) ?_
      refine mi_as (show _ = nI (msX (k + 1)).2 from rfl) ?_
      refine lv_istore_n (lv' := [(2, .int (nI ((msX (k + 1)).2))), (4, .int (nI ((msX k).2))), (3, .int (nI k)), (1, .int (nI ((msX k).1))), (0, .ref h0)]) hx hb dMS_init_89 rfl hl (by decide) rfl (fun ls hl => ?_)
      refine lv_iload hx hb dMS_init_90 (lv_at hl 1 rfl) ?_
      refine mi_as (show _ = nI (msX (k + 1)).1 from rfl) ?_
      refine lv_istore_n (lv' := [(1, .int (nI ((msX (k + 1)).1))), (2, .int (nI ((msX (k + 1)).2))), (4, .int (nI ((msX k).2))), (3, .int (nI k)), (0, .ref h0)]) hx hb dMS_init_92 rfl hl (by decide) rfl (fun ls hl => ?_)
      refine mi_iinc (k := 3) (x := k) (d := 1) (y := k + 1) (lv' := [(3, .int (nI (k + 1))), (1, .int (nI ((msX (k + 1)).1))), (2, .int (nI ((msX (k + 1)).2))), (4, .int (nI ((msX k).2))), (0, .ref h0)]) hx hb dMS_init_93 hl rfl (by decide) rfl (by decide) rfl (fun ls hl => ?_)
      refine lv_goto (tgt := 49) hx hb dMS_init_96 (by decide) ?_
      have hP : va_P g.1 vcl [(h0, .inr (9, [.ref q1, .ref q2, .ref q3, .ref q4, .ref q5, .int 0, .int 0, .int 0])), (q1, .inl (g.2.1 2, 25, .inr (.inl ((fun _ => 0))))), (q2, .inl (g.2.1 2, 25, .inr (.inl ((fun _ => 0))))), (q3, .inl (g.2.1 2, 5, .inr (.inl ((fun _ => 0))))), (q4, .inl (g.2.1 2, 24, .inr (.inl ((fun _ => 0))))), (q5, .inl (g.2.1 0, 25, .inl ((msU (k + 1)))))] H := hP
      have hD : va_D A [(h0, .inr (9, [.ref q1, .ref q2, .ref q3, .ref q4, .ref q5, .int 0, .int 0, .int 0])), (q1, .inl (g.2.1 2, 25, .inr (.inl ((fun _ => 0))))), (q2, .inl (g.2.1 2, 25, .inr (.inl ((fun _ => 0))))), (q3, .inl (g.2.1 2, 5, .inr (.inl ((fun _ => 0))))), (q4, .inl (g.2.1 2, 24, .inr (.inl ((fun _ => 0))))), (q5, .inl (g.2.1 0, 25, .inl ((msU (k + 1)))))] := hD
      exact ih (k + 1) ls H locs (by omega) (lv_sub hl [0, 1, 2, 4] rfl) hP hD hS
  exact la 24 0 ls _ _ (by omega) (lv_sub hl [0, 2, 1, 3] rfl) hP hD hS
