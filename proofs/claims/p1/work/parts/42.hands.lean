abbrev c_MH_init : ByteArray := prog_13_method_1_code
abbrev y_MH_init : MethodName := ⟨"LatticeKeysModel$Hands", "<init>", "(LLatticeKeysModel$Sponge;)V"⟩
abbrev w_MH_init : List Cond := Cond.code y_MH_init c_MH_init 2 none :: WG
theorem dMH_init_0 : decode c_MH_init 0 = .ok (.aload_n 0, 1) := by decide +kernel
theorem dMH_init_1 : decode c_MH_init 1 = .ok (.invokespecial 1, 3) := by decide +kernel
theorem dMH_init_4 : decode c_MH_init 4 = .ok (.aload_n 0, 1) := by decide +kernel
theorem dMH_init_5 : decode c_MH_init 5 = .ok (.new 7, 3) := by decide +kernel
theorem dMH_init_8 : decode c_MH_init 8 = .ok (.dup, 1) := by decide +kernel
theorem dMH_init_9 : decode c_MH_init 9 = .ok (.ldc 11, 2) := by decide +kernel
theorem dMH_init_11 : decode c_MH_init 11 = .ok (.sipush 1753, 3) := by decide +kernel
theorem dMH_init_14 : decode c_MH_init 14 = .ok (.sipush 256, 3) := by decide +kernel
theorem dMH_init_17 : decode c_MH_init 17 = .ok (.invokespecial 12, 3) := by decide +kernel
theorem dMH_init_20 : decode c_MH_init 20 = .ok (.putfield 15, 3) := by decide +kernel
theorem dMH_init_23 : decode c_MH_init 23 = .ok (.aload_n 0, 1) := by decide +kernel
theorem dMH_init_24 : decode c_MH_init 24 = .ok (.bipush 64, 2) := by decide +kernel
theorem dMH_init_26 : decode c_MH_init 26 = .ok (.sipush 256, 3) := by decide +kernel
theorem dMH_init_29 : decode c_MH_init 29 = .ok (.multianewarray 19 2, 4) := by decide +kernel
theorem dMH_init_33 : decode c_MH_init 33 = .ok (.putfield 21, 3) := by decide +kernel
theorem dMH_init_36 : decode c_MH_init 36 = .ok (.aload_n 0, 1) := by decide +kernel
theorem dMH_init_37 : decode c_MH_init 37 = .ok (.bipush 7, 2) := by decide +kernel
theorem dMH_init_39 : decode c_MH_init 39 = .ok (.sipush 256, 3) := by decide +kernel
theorem dMH_init_42 : decode c_MH_init 42 = .ok (.multianewarray 19 2, 4) := by decide +kernel
theorem dMH_init_46 : decode c_MH_init 46 = .ok (.putfield 24, 3) := by decide +kernel
theorem dMH_init_49 : decode c_MH_init 49 = .ok (.aload_n 0, 1) := by decide +kernel
theorem dMH_init_50 : decode c_MH_init 50 = .ok (.bipush 8, 2) := by decide +kernel
theorem dMH_init_52 : decode c_MH_init 52 = .ok (.sipush 256, 3) := by decide +kernel
theorem dMH_init_55 : decode c_MH_init 55 = .ok (.multianewarray 19 2, 4) := by decide +kernel
theorem dMH_init_59 : decode c_MH_init 59 = .ok (.putfield 27, 3) := by decide +kernel
theorem dMH_init_62 : decode c_MH_init 62 = .ok (.aload_n 0, 1) := by decide +kernel
theorem dMH_init_63 : decode c_MH_init 63 = .ok (.bipush 8, 2) := by decide +kernel
theorem dMH_init_65 : decode c_MH_init 65 = .ok (.sipush 256, 3) := by decide +kernel
theorem dMH_init_68 : decode c_MH_init 68 = .ok (.multianewarray 19 2, 4) := by decide +kernel
theorem dMH_init_72 : decode c_MH_init 72 = .ok (.putfield 30, 3) := by decide +kernel
theorem dMH_init_75 : decode c_MH_init 75 = .ok (.aload_n 0, 1) := by decide +kernel
theorem dMH_init_76 : decode c_MH_init 76 = .ok (.bipush 8, 2) := by decide +kernel
theorem dMH_init_78 : decode c_MH_init 78 = .ok (.sipush 256, 3) := by decide +kernel
theorem dMH_init_81 : decode c_MH_init 81 = .ok (.multianewarray 19 2, 4) := by decide +kernel
theorem dMH_init_85 : decode c_MH_init 85 = .ok (.putfield 33, 3) := by decide +kernel
theorem dMH_init_88 : decode c_MH_init 88 = .ok (.aload_n 0, 1) := by decide +kernel
theorem dMH_init_89 : decode c_MH_init 89 = .ok (.bipush 7, 2) := by decide +kernel
theorem dMH_init_91 : decode c_MH_init 91 = .ok (.sipush 256, 3) := by decide +kernel
theorem dMH_init_94 : decode c_MH_init 94 = .ok (.multianewarray 19 2, 4) := by decide +kernel
theorem dMH_init_98 : decode c_MH_init 98 = .ok (.putfield 36, 3) := by decide +kernel
theorem dMH_init_101 : decode c_MH_init 101 = .ok (.aload_n 0, 1) := by decide +kernel
theorem dMH_init_102 : decode c_MH_init 102 = .ok (.bipush 7, 2) := by decide +kernel
theorem dMH_init_104 : decode c_MH_init 104 = .ok (.sipush 256, 3) := by decide +kernel
theorem dMH_init_107 : decode c_MH_init 107 = .ok (.multianewarray 19 2, 4) := by decide +kernel
theorem dMH_init_111 : decode c_MH_init 111 = .ok (.putfield 39, 3) := by decide +kernel
theorem dMH_init_114 : decode c_MH_init 114 = .ok (.aload_n 0, 1) := by decide +kernel
theorem dMH_init_115 : decode c_MH_init 115 = .ok (.bipush 7, 2) := by decide +kernel
theorem dMH_init_117 : decode c_MH_init 117 = .ok (.sipush 256, 3) := by decide +kernel
theorem dMH_init_120 : decode c_MH_init 120 = .ok (.multianewarray 19 2, 4) := by decide +kernel
theorem dMH_init_124 : decode c_MH_init 124 = .ok (.putfield 42, 3) := by decide +kernel
theorem dMH_init_127 : decode c_MH_init 127 = .ok (.aload_n 0, 1) := by decide +kernel
theorem dMH_init_128 : decode c_MH_init 128 = .ok (.bipush 8, 2) := by decide +kernel
theorem dMH_init_130 : decode c_MH_init 130 = .ok (.sipush 256, 3) := by decide +kernel
theorem dMH_init_133 : decode c_MH_init 133 = .ok (.multianewarray 19 2, 4) := by decide +kernel
theorem dMH_init_137 : decode c_MH_init 137 = .ok (.putfield 45, 3) := by decide +kernel
theorem dMH_init_140 : decode c_MH_init 140 = .ok (.aload_n 0, 1) := by decide +kernel
theorem dMH_init_141 : decode c_MH_init 141 = .ok (.bipush 8, 2) := by decide +kernel
theorem dMH_init_143 : decode c_MH_init 143 = .ok (.sipush 256, 3) := by decide +kernel
theorem dMH_init_146 : decode c_MH_init 146 = .ok (.multianewarray 19 2, 4) := by decide +kernel
theorem dMH_init_150 : decode c_MH_init 150 = .ok (.putfield 48, 3) := by decide +kernel
theorem dMH_init_153 : decode c_MH_init 153 = .ok (.aload_n 0, 1) := by decide +kernel
theorem dMH_init_154 : decode c_MH_init 154 = .ok (.sipush 256, 3) := by decide +kernel
theorem dMH_init_157 : decode c_MH_init 157 = .ok (.newarray .int, 2) := by decide +kernel
theorem dMH_init_159 : decode c_MH_init 159 = .ok (.putfield 51, 3) := by decide +kernel
theorem dMH_init_162 : decode c_MH_init 162 = .ok (.aload_n 0, 1) := by decide +kernel
theorem dMH_init_163 : decode c_MH_init 163 = .ok (.sipush 256, 3) := by decide +kernel
theorem dMH_init_166 : decode c_MH_init 166 = .ok (.newarray .int, 2) := by decide +kernel
theorem dMH_init_168 : decode c_MH_init 168 = .ok (.putfield 55, 3) := by decide +kernel
theorem dMH_init_171 : decode c_MH_init 171 = .ok (.aload_n 0, 1) := by decide +kernel
theorem dMH_init_172 : decode c_MH_init 172 = .ok (.sipush 256, 3) := by decide +kernel
theorem dMH_init_175 : decode c_MH_init 175 = .ok (.newarray .int, 2) := by decide +kernel
theorem dMH_init_177 : decode c_MH_init 177 = .ok (.putfield 58, 3) := by decide +kernel
theorem dMH_init_180 : decode c_MH_init 180 = .ok (.aload_n 0, 1) := by decide +kernel
theorem dMH_init_181 : decode c_MH_init 181 = .ok (.sipush 256, 3) := by decide +kernel
theorem dMH_init_184 : decode c_MH_init 184 = .ok (.newarray .long, 2) := by decide +kernel
theorem dMH_init_186 : decode c_MH_init 186 = .ok (.putfield 61, 3) := by decide +kernel
theorem dMH_init_189 : decode c_MH_init 189 = .ok (.aload_n 0, 1) := by decide +kernel
theorem dMH_init_190 : decode c_MH_init 190 = .ok (.sipush 128, 3) := by decide +kernel
theorem dMH_init_193 : decode c_MH_init 193 = .ok (.newarray .byte, 2) := by decide +kernel
theorem dMH_init_195 : decode c_MH_init 195 = .ok (.putfield 65, 3) := by decide +kernel
theorem dMH_init_198 : decode c_MH_init 198 = .ok (.aload_n 0, 1) := by decide +kernel
theorem dMH_init_199 : decode c_MH_init 199 = .ok (.bipush 64, 2) := by decide +kernel
theorem dMH_init_201 : decode c_MH_init 201 = .ok (.newarray .byte, 2) := by decide +kernel
theorem dMH_init_203 : decode c_MH_init 203 = .ok (.putfield 69, 3) := by decide +kernel
theorem dMH_init_206 : decode c_MH_init 206 = .ok (.aload_n 0, 1) := by decide +kernel
theorem dMH_init_207 : decode c_MH_init 207 = .ok (.bipush 64, 2) := by decide +kernel
theorem dMH_init_209 : decode c_MH_init 209 = .ok (.newarray .byte, 2) := by decide +kernel
theorem dMH_init_211 : decode c_MH_init 211 = .ok (.putfield 72, 3) := by decide +kernel
theorem dMH_init_214 : decode c_MH_init 214 = .ok (.aload_n 0, 1) := by decide +kernel
theorem dMH_init_215 : decode c_MH_init 215 = .ok (.sipush 640, 3) := by decide +kernel
theorem dMH_init_218 : decode c_MH_init 218 = .ok (.newarray .byte, 2) := by decide +kernel
theorem dMH_init_220 : decode c_MH_init 220 = .ok (.putfield 75, 3) := by decide +kernel
theorem dMH_init_223 : decode c_MH_init 223 = .ok (.aload_n 0, 1) := by decide +kernel
theorem dMH_init_224 : decode c_MH_init 224 = .ok (.bipush 64, 2) := by decide +kernel
theorem dMH_init_226 : decode c_MH_init 226 = .ok (.newarray .byte, 2) := by decide +kernel
theorem dMH_init_228 : decode c_MH_init 228 = .ok (.putfield 78, 3) := by decide +kernel
theorem dMH_init_231 : decode c_MH_init 231 = .ok (.aload_n 0, 1) := by decide +kernel
theorem dMH_init_232 : decode c_MH_init 232 = .ok (.bipush 64, 2) := by decide +kernel
theorem dMH_init_234 : decode c_MH_init 234 = .ok (.newarray .byte, 2) := by decide +kernel
theorem dMH_init_236 : decode c_MH_init 236 = .ok (.putfield 81, 3) := by decide +kernel
theorem dMH_init_239 : decode c_MH_init 239 = .ok (.aload_n 0, 1) := by decide +kernel
theorem dMH_init_240 : decode c_MH_init 240 = .ok (.bipush 64, 2) := by decide +kernel
theorem dMH_init_242 : decode c_MH_init 242 = .ok (.newarray .byte, 2) := by decide +kernel
theorem dMH_init_244 : decode c_MH_init 244 = .ok (.putfield 84, 3) := by decide +kernel
theorem dMH_init_247 : decode c_MH_init 247 = .ok (.aload_n 0, 1) := by decide +kernel
theorem dMH_init_248 : decode c_MH_init 248 = .ok (.aload_n 1, 1) := by decide +kernel
theorem dMH_init_249 : decode c_MH_init 249 = .ok (.putfield 87, 3) := by decide +kernel
theorem dMH_init_252 : decode c_MH_init 252 = .ok (.return_, 1) := by decide +kernel
set_option maxHeartbeats 400000 in
set_option maxRecDepth 100000 in
theorem m_MH_init (l : Launch) (g : Gd) (sz : Nat) (h0 sp : Nat)  : Met l y_MH_init w_MH_init ({ frames := 3, cells := 156, slots := 36809, locals := 80 } : Room) (va_Pc [.ref h0, .ref sp] (pr (en g) g.1 vcl sz [(h0, .inr (12, [.null, .null, .null, .null, .null, .null, .null, .null, .null, .null, .null, .null, .null, .null, .null, .null, .null, .null, .null, .null, .null, .null, .null, .int 0, .int 0, .int 0, .int 0, .int 0, .int 0, .int 0, .int 0]))])) (va_Qv (fun (u : Unit) => True) (po g.1 vcl (va_A [(h0, .inr (12, [.null, .null, .null, .null, .null, .null, .null, .null, .null, .null, .null, .null, .null, .null, .null, .null, .null, .null, .null, .null, .null, .null, .null, .int 0, .int 0, .int 0, .int 0, .int 0, .int 0, .int 0, .int 0]))] sz) (fun (u : Unit) => [])) (va_A [(h0, .inr (12, [.null, .null, .null, .null, .null, .null, .null, .null, .null, .null, .null, .null, .null, .null, .null, .null, .null, .null, .null, .null, .null, .null, .null, .int 0, .int 0, .int 0, .int 0, .int 0, .int 0, .int 0, .int 0]))] sz)) 156 36809 (va_A [(h0, .inr (12, [.null, .null, .null, .null, .null, .null, .null, .null, .null, .null, .null, .null, .null, .null, .null, .null, .null, .null, .null, .null, .null, .null, .null, .int 0, .int 0, .int 0, .int 0, .int 0, .int 0, .int 0, .int 0]))] sz) := by
  refine mc_entry (cc := c_MH_init) (maxL := 2) (ret := none) (by decide) rfl (Nat.le_of_ble_eq_true rfl) ?_
  intro p e s m args below meth c ls F hr hlk hnm hsz hP hD hE hA hl
  obtain ⟨hx, hb, hml, hown, hts⟩ := id F
  have hK := hE.1
  generalize va_A [(h0, .inr (12, [.null, .null, .null, .null, .null, .null, .null, .null, .null, .null, .null, .null, .null, .null, .null, .null, .null, .null, .null, .null, .null, .null, .null, .int 0, .int 0, .int 0, .int 0, .int 0, .int 0, .int 0, .int 0]))] sz = A at hD hE hA ⊢
  have hS : va_S A s.heap s.heap [] := va_S.rf
  have hl : lv_has ls 2 [(0, .ref h0), (1, .ref sp)] := hl
  refine lv_aload_n hx hb dMH_init_0 rfl (lv_at hl 0 rfl) ?_
  refine W.objInit hx hb hown (hts _ (wg_t kw_1427)) (hts _ (wg_t kw_41)) (hts _ (wg_t kobj)) rfl (by rw [hml]; exact hl.1) rfl dMH_init_1 (Nat.le_of_ble_eq_true rfl) (Nat.le_of_ble_eq_true rfl) ?_
  refine W.eq (g2 := F0 m 4 ls []) rfl ?_
  refine lv_aload_n hx hb dMH_init_4 rfl (lv_at hl 0 rfl) ?_
  refine va_new (ci := 10) (fs := [.int 0, .int 0, .null, .null, .long 0]) (C := "LatticeKeysModel$Ring") (T := T_MR) (N := 5) hx hb hts (wg_ft i_MR) ty_MR k_MR hown (hts _ (wg_t kw_1428)) (hts _ (wg_t kw_1357)) (hts _ (wg_t kw_12)) hK hP hD hS hA rfl z_MR (by decide) (by decide) dMH_init_5 (fun q1 H hP hD hS => ?_)
  have hP : va_P g.1 vcl [(h0, .inr (12, [.null, .null, .null, .null, .null, .null, .null, .null, .null, .null, .null, .null, .null, .null, .null, .null, .null, .null, .null, .null, .null, .null, .null, .int 0, .int 0, .int 0, .int 0, .int 0, .int 0, .int 0, .int 0])), (q1, .inr (10, [.int 0, .int 0, .null, .null, .long 0]))] _ := hP
  have hD : va_D _ [(h0, .inr (12, [.null, .null, .null, .null, .null, .null, .null, .null, .null, .null, .null, .null, .null, .null, .null, .null, .null, .null, .null, .null, .null, .null, .null, .int 0, .int 0, .int 0, .int 0, .int 0, .int 0, .int 0, .int 0])), (q1, .inr (10, [.int 0, .int 0, .null, .null, .long 0]))] := hD
  refine W.widen (k := 1) (n := 5) (by decide) (by decide) ?_
  refine lv_dup hx hb dMH_init_8 rfl ?_
  refine lv_ldc (v := 8380417) hx hb hown (hts _ (wg_t kw_1429)) dMH_init_9 ?_
  refine mi_as (show (8380417 : Int32) = nI 8380417 by decide) ?_
  refine lv_sipush (v := nI 1753) hx hb dMH_init_11 (by decide) ?_
  refine lv_sipush (v := nI 256) hx hb dMH_init_14 (by decide) ?_
  refine mc_v (wc := [(q1, .inr (10, [.int 0, .int 0, .null, .null, .long 0]))]) (wr := [(h0, .inr (12, [.null, .null, .null, .null, .null, .null, .null, .null, .null, .null, .null, .null, .null, .null, .null, .null, .null, .null, .null, .null, .null, .null, .null, .int 0, .int 0, .int 0, .int 0, .int 0, .int 0, .int 0, .int 0]))]) hP hD hS hA [1] [0] rfl rfl rfl (by decide) (va_runI (As := [.int (nI 8380417), .int (nI 1753), .int (nI 256)]) (rest := [.ref q1, .ref h0]) F (m_MR_init_256 l g _ q1) (cwI 3 hts (wg_in kw_1360) rfl rfl rfl (hts _ (wg_t kw_12)) (hts _ (wg_t kw_1430)) (hts _ (wg_t kw_1359)) rfl (by decide +kernel) ⟨by decide, by decide⟩) (pr_S (en_ok g) hP hD hS hA hE [1] rfl rfl) rfl rfl hl.1 rfl (lv_room (Nat.le_of_ble_eq_true rfl)) dMH_init_17 ⟨(by decide), (by decide)⟩) (fun u1 H locs hu1 hP hD hS => ?_)
  have hP : va_P g.1 vcl [(h0, .inr (12, [.null, .null, .null, .null, .null, .null, .null, .null, .null, .null, .null, .null, .null, .null, .null, .null, .null, .null, .null, .null, .null, .null, .null, .int 0, .int 0, .int 0, .int 0, .int 0, .int 0, .int 0, .int 0]))] _ := hP
  have hD : va_D _ [(h0, .inr (12, [.null, .null, .null, .null, .null, .null, .null, .null, .null, .null, .null, .null, .null, .null, .null, .null, .null, .null, .null, .null, .null, .null, .null, .int 0, .int 0, .int 0, .int 0, .int 0, .int 0, .int 0, .int 0]))] := hD
  refine W.widen (k := 3) (n := 773) (by decide) (by decide) ?_
  refine va_putF (D := g.1) (ci := 12) (v := .ref q1) (ty := .object "LatticeKeysModel$Ring") (C := "LatticeKeysModel$Hands") (T := T_MH) (N := 31) hx hb hts (wg_ft i_MH) ty_MH k_MH n_MH hown hK hP hD hS 0 rfl rfl 1 (by decide) (hts _ (wg_t kw_1433)) (fun _ h9 => h9) rfl hnm rfl (by decide +kernel) rfl rfl (Nat.le_of_ble_eq_true rfl) dMH_init_20 (fun H locs hP hD hS => ?_)
  have hP : va_P g.1 vcl [(h0, .inr (12, [.null, .ref q1, .null, .null, .null, .null, .null, .null, .null, .null, .null, .null, .null, .null, .null, .null, .null, .null, .null, .null, .null, .null, .null, .int 0, .int 0, .int 0, .int 0, .int 0, .int 0, .int 0, .int 0]))] _ := hP
  have hD : va_D _ [(h0, .inr (12, [.null, .ref q1, .null, .null, .null, .null, .null, .null, .null, .null, .null, .null, .null, .null, .null, .null, .null, .null, .null, .null, .null, .null, .null, .int 0, .int 0, .int 0, .int 0, .int 0, .int 0, .int 0, .int 0]))] := hD
  refine lv_aload_n hx hb dMH_init_23 rfl (lv_at hl 0 rfl) ?_
  refine lv_bipush (v := nI 64) hx hb dMH_init_24 (by decide) ?_
  refine lv_sipush (v := nI 256) hx hb dMH_init_26 (by decide) ?_
  refine xm_mna (ty := .int) (N' := 64) (K' := 256) hx hb hown (hts _ (wg_t kw_1431)) (hE.2.2.2.2.2.1) (hts _ (wg_t kw_104)) hP hD hS (by decide) (by decide) (by decide) (by decide) (by decide) (by decide) (by decide) (by decide) (by decide) (by decide) (by decide) dMH_init_29 (fun q2 H hP hD hS => ?_)
  refine W.widen (k := 68) (n := 17221) (by decide) (by decide) ?_
  refine va_putF (D := g.1) (ci := 12) (v := .ref q2) (ty := .array (.array .int)) (C := "LatticeKeysModel$Hands") (T := T_MH) (N := 31) hx hb hts (wg_ft i_MH) ty_MH k_MH n_MH hown hK hP hD hS 0 rfl rfl 2 (by decide) (hts _ (wg_t kw_1434)) (fun _ h9 => h9) rfl hnm rfl (by decide +kernel) rfl rfl (Nat.le_of_ble_eq_true rfl) dMH_init_33 (fun H locs hP hD hS => ?_)
  have hP : va_P g.1 vcl [(h0, .inr (12, [.null, .ref q1, .ref q2, .null, .null, .null, .null, .null, .null, .null, .null, .null, .null, .null, .null, .null, .null, .null, .null, .null, .null, .null, .null, .int 0, .int 0, .int 0, .int 0, .int 0, .int 0, .int 0, .int 0]))] _ := hP
  have hD : va_D _ [(h0, .inr (12, [.null, .ref q1, .ref q2, .null, .null, .null, .null, .null, .null, .null, .null, .null, .null, .null, .null, .null, .null, .null, .null, .null, .null, .null, .null, .int 0, .int 0, .int 0, .int 0, .int 0, .int 0, .int 0, .int 0]))] := hD
  refine lv_aload_n hx hb dMH_init_36 rfl (lv_at hl 0 rfl) ?_
  refine lv_bipush (v := nI 7) hx hb dMH_init_37 (by decide) ?_
  refine lv_sipush (v := nI 256) hx hb dMH_init_39 (by decide) ?_
  refine xm_mna (ty := .int) (N' := 7) (K' := 256) hx hb hown (hts _ (wg_t kw_1431)) (hE.2.2.2.2.2.1) (hts _ (wg_t kw_104)) hP hD hS (by decide) (by decide) (by decide) (by decide) (by decide) (by decide) (by decide) (by decide) (by decide) (by decide) (by decide) dMH_init_42 (fun q3 H hP hD hS => ?_)
  refine W.widen (k := 76) (n := 19020) (by decide) (by decide) ?_
  refine va_putF (D := g.1) (ci := 12) (v := .ref q3) (ty := .array (.array .int)) (C := "LatticeKeysModel$Hands") (T := T_MH) (N := 31) hx hb hts (wg_ft i_MH) ty_MH k_MH n_MH hown hK hP hD hS 0 rfl rfl 3 (by decide) (hts _ (wg_t kw_1435)) (fun _ h9 => h9) rfl hnm rfl (by decide +kernel) rfl rfl (Nat.le_of_ble_eq_true rfl) dMH_init_46 (fun H locs hP hD hS => ?_)
  have hP : va_P g.1 vcl [(h0, .inr (12, [.null, .ref q1, .ref q2, .ref q3, .null, .null, .null, .null, .null, .null, .null, .null, .null, .null, .null, .null, .null, .null, .null, .null, .null, .null, .null, .int 0, .int 0, .int 0, .int 0, .int 0, .int 0, .int 0, .int 0]))] _ := hP
  have hD : va_D _ [(h0, .inr (12, [.null, .ref q1, .ref q2, .ref q3, .null, .null, .null, .null, .null, .null, .null, .null, .null, .null, .null, .null, .null, .null, .null, .null, .null, .null, .null, .int 0, .int 0, .int 0, .int 0, .int 0, .int 0, .int 0, .int 0]))] := hD
  refine lv_aload_n hx hb dMH_init_49 rfl (lv_at hl 0 rfl) ?_
  refine lv_bipush (v := nI 8) hx hb dMH_init_50 (by decide) ?_
  refine lv_sipush (v := nI 256) hx hb dMH_init_52 (by decide) ?_
  refine xm_mna (ty := .int) (N' := 8) (K' := 256) hx hb hown (hts _ (wg_t kw_1431)) (hE.2.2.2.2.2.1) (hts _ (wg_t kw_104)) hP hD hS (by decide) (by decide) (by decide) (by decide) (by decide) (by decide) (by decide) (by decide) (by decide) (by decide) (by decide) dMH_init_55 (fun q4 H hP hD hS => ?_)
  refine W.widen (k := 85) (n := 21076) (by decide) (by decide) ?_
  refine va_putF (D := g.1) (ci := 12) (v := .ref q4) (ty := .array (.array .int)) (C := "LatticeKeysModel$Hands") (T := T_MH) (N := 31) hx hb hts (wg_ft i_MH) ty_MH k_MH n_MH hown hK hP hD hS 0 rfl rfl 4 (by decide) (hts _ (wg_t kw_1436)) (fun _ h9 => h9) rfl hnm rfl (by decide +kernel) rfl rfl (Nat.le_of_ble_eq_true rfl) dMH_init_59 (fun H locs hP hD hS => ?_)
  have hP : va_P g.1 vcl [(h0, .inr (12, [.null, .ref q1, .ref q2, .ref q3, .ref q4, .null, .null, .null, .null, .null, .null, .null, .null, .null, .null, .null, .null, .null, .null, .null, .null, .null, .null, .int 0, .int 0, .int 0, .int 0, .int 0, .int 0, .int 0, .int 0]))] _ := hP
  have hD : va_D _ [(h0, .inr (12, [.null, .ref q1, .ref q2, .ref q3, .ref q4, .null, .null, .null, .null, .null, .null, .null, .null, .null, .null, .null, .null, .null, .null, .null, .null, .null, .null, .int 0, .int 0, .int 0, .int 0, .int 0, .int 0, .int 0, .int 0]))] := hD
  refine lv_aload_n hx hb dMH_init_62 rfl (lv_at hl 0 rfl) ?_
  refine lv_bipush (v := nI 8) hx hb dMH_init_63 (by decide) ?_
  refine lv_sipush (v := nI 256) hx hb dMH_init_65 (by decide) ?_
  refine xm_mna (ty := .int) (N' := 8) (K' := 256) hx hb hown (hts _ (wg_t kw_1431)) (hE.2.2.2.2.2.1) (hts _ (wg_t kw_104)) hP hD hS (by decide) (by decide) (by decide) (by decide) (by decide) (by decide) (by decide) (by decide) (by decide) (by decide) (by decide) dMH_init_68 (fun q5 H hP hD hS => ?_)
  refine W.widen (k := 94) (n := 23132) (by decide) (by decide) ?_
  refine va_putF (D := g.1) (ci := 12) (v := .ref q5) (ty := .array (.array .int)) (C := "LatticeKeysModel$Hands") (T := T_MH) (N := 31) hx hb hts (wg_ft i_MH) ty_MH k_MH n_MH hown hK hP hD hS 0 rfl rfl 5 (by decide) (hts _ (wg_t kw_1437)) (fun _ h9 => h9) rfl hnm rfl (by decide +kernel) rfl rfl (Nat.le_of_ble_eq_true rfl) dMH_init_72 (fun H locs hP hD hS => ?_)
  have hP : va_P g.1 vcl [(h0, .inr (12, [.null, .ref q1, .ref q2, .ref q3, .ref q4, .ref q5, .null, .null, .null, .null, .null, .null, .null, .null, .null, .null, .null, .null, .null, .null, .null, .null, .null, .int 0, .int 0, .int 0, .int 0, .int 0, .int 0, .int 0, .int 0]))] _ := hP
  have hD : va_D _ [(h0, .inr (12, [.null, .ref q1, .ref q2, .ref q3, .ref q4, .ref q5, .null, .null, .null, .null, .null, .null, .null, .null, .null, .null, .null, .null, .null, .null, .null, .null, .null, .int 0, .int 0, .int 0, .int 0, .int 0, .int 0, .int 0, .int 0]))] := hD
  refine lv_aload_n hx hb dMH_init_75 rfl (lv_at hl 0 rfl) ?_
  refine lv_bipush (v := nI 8) hx hb dMH_init_76 (by decide) ?_
  refine lv_sipush (v := nI 256) hx hb dMH_init_78 (by decide) ?_
  refine xm_mna (ty := .int) (N' := 8) (K' := 256) hx hb hown (hts _ (wg_t kw_1431)) (hE.2.2.2.2.2.1) (hts _ (wg_t kw_104)) hP hD hS (by decide) (by decide) (by decide) (by decide) (by decide) (by decide) (by decide) (by decide) (by decide) (by decide) (by decide) dMH_init_81 (fun q6 H hP hD hS => ?_)
  refine W.widen (k := 103) (n := 25188) (by decide) (by decide) ?_
  refine va_putF (D := g.1) (ci := 12) (v := .ref q6) (ty := .array (.array .int)) (C := "LatticeKeysModel$Hands") (T := T_MH) (N := 31) hx hb hts (wg_ft i_MH) ty_MH k_MH n_MH hown hK hP hD hS 0 rfl rfl 6 (by decide) (hts _ (wg_t kw_1438)) (fun _ h9 => h9) rfl hnm rfl (by decide +kernel) rfl rfl (Nat.le_of_ble_eq_true rfl) dMH_init_85 (fun H locs hP hD hS => ?_)
  have hP : va_P g.1 vcl [(h0, .inr (12, [.null, .ref q1, .ref q2, .ref q3, .ref q4, .ref q5, .ref q6, .null, .null, .null, .null, .null, .null, .null, .null, .null, .null, .null, .null, .null, .null, .null, .null, .int 0, .int 0, .int 0, .int 0, .int 0, .int 0, .int 0, .int 0]))] _ := hP
  have hD : va_D _ [(h0, .inr (12, [.null, .ref q1, .ref q2, .ref q3, .ref q4, .ref q5, .ref q6, .null, .null, .null, .null, .null, .null, .null, .null, .null, .null, .null, .null, .null, .null, .null, .null, .int 0, .int 0, .int 0, .int 0, .int 0, .int 0, .int 0, .int 0]))] := hD
  refine lv_aload_n hx hb dMH_init_88 rfl (lv_at hl 0 rfl) ?_
  refine lv_bipush (v := nI 7) hx hb dMH_init_89 (by decide) ?_
  refine lv_sipush (v := nI 256) hx hb dMH_init_91 (by decide) ?_
  refine xm_mna (ty := .int) (N' := 7) (K' := 256) hx hb hown (hts _ (wg_t kw_1431)) (hE.2.2.2.2.2.1) (hts _ (wg_t kw_104)) hP hD hS (by decide) (by decide) (by decide) (by decide) (by decide) (by decide) (by decide) (by decide) (by decide) (by decide) (by decide) dMH_init_94 (fun q7 H hP hD hS => ?_)
  refine W.widen (k := 111) (n := 26987) (by decide) (by decide) ?_
  refine va_putF (D := g.1) (ci := 12) (v := .ref q7) (ty := .array (.array .int)) (C := "LatticeKeysModel$Hands") (T := T_MH) (N := 31) hx hb hts (wg_ft i_MH) ty_MH k_MH n_MH hown hK hP hD hS 0 rfl rfl 7 (by decide) (hts _ (wg_t kw_1439)) (fun _ h9 => h9) rfl hnm rfl (by decide +kernel) rfl rfl (Nat.le_of_ble_eq_true rfl) dMH_init_98 (fun H locs hP hD hS => ?_)
  have hP : va_P g.1 vcl [(h0, .inr (12, [.null, .ref q1, .ref q2, .ref q3, .ref q4, .ref q5, .ref q6, .ref q7, .null, .null, .null, .null, .null, .null, .null, .null, .null, .null, .null, .null, .null, .null, .null, .int 0, .int 0, .int 0, .int 0, .int 0, .int 0, .int 0, .int 0]))] _ := hP
  have hD : va_D _ [(h0, .inr (12, [.null, .ref q1, .ref q2, .ref q3, .ref q4, .ref q5, .ref q6, .ref q7, .null, .null, .null, .null, .null, .null, .null, .null, .null, .null, .null, .null, .null, .null, .null, .int 0, .int 0, .int 0, .int 0, .int 0, .int 0, .int 0, .int 0]))] := hD
  refine lv_aload_n hx hb dMH_init_101 rfl (lv_at hl 0 rfl) ?_
  refine lv_bipush (v := nI 7) hx hb dMH_init_102 (by decide) ?_
  refine lv_sipush (v := nI 256) hx hb dMH_init_104 (by decide) ?_
  refine xm_mna (ty := .int) (N' := 7) (K' := 256) hx hb hown (hts _ (wg_t kw_1431)) (hE.2.2.2.2.2.1) (hts _ (wg_t kw_104)) hP hD hS (by decide) (by decide) (by decide) (by decide) (by decide) (by decide) (by decide) (by decide) (by decide) (by decide) (by decide) dMH_init_107 (fun q8 H hP hD hS => ?_)
  refine W.widen (k := 119) (n := 28786) (by decide) (by decide) ?_
  refine va_putF (D := g.1) (ci := 12) (v := .ref q8) (ty := .array (.array .int)) (C := "LatticeKeysModel$Hands") (T := T_MH) (N := 31) hx hb hts (wg_ft i_MH) ty_MH k_MH n_MH hown hK hP hD hS 0 rfl rfl 8 (by decide) (hts _ (wg_t kw_1440)) (fun _ h9 => h9) rfl hnm rfl (by decide +kernel) rfl rfl (Nat.le_of_ble_eq_true rfl) dMH_init_111 (fun H locs hP hD hS => ?_)
  have hP : va_P g.1 vcl [(h0, .inr (12, [.null, .ref q1, .ref q2, .ref q3, .ref q4, .ref q5, .ref q6, .ref q7, .ref q8, .null, .null, .null, .null, .null, .null, .null, .null, .null, .null, .null, .null, .null, .null, .int 0, .int 0, .int 0, .int 0, .int 0, .int 0, .int 0, .int 0]))] _ := hP
  have hD : va_D _ [(h0, .inr (12, [.null, .ref q1, .ref q2, .ref q3, .ref q4, .ref q5, .ref q6, .ref q7, .ref q8, .null, .null, .null, .null, .null, .null, .null, .null, .null, .null, .null, .null, .null, .null, .int 0, .int 0, .int 0, .int 0, .int 0, .int 0, .int 0, .int 0]))] := hD
  refine lv_aload_n hx hb dMH_init_114 rfl (lv_at hl 0 rfl) ?_
  refine lv_bipush (v := nI 7) hx hb dMH_init_115 (by decide) ?_
  refine lv_sipush (v := nI 256) hx hb dMH_init_117 (by decide) ?_
  refine xm_mna (ty := .int) (N' := 7) (K' := 256) hx hb hown (hts _ (wg_t kw_1431)) (hE.2.2.2.2.2.1) (hts _ (wg_t kw_104)) hP hD hS (by decide) (by decide) (by decide) (by decide) (by decide) (by decide) (by decide) (by decide) (by decide) (by decide) (by decide) dMH_init_120 (fun q9 H hP hD hS => ?_)
  refine W.widen (k := 127) (n := 30585) (by decide) (by decide) ?_
  refine va_putF (D := g.1) (ci := 12) (v := .ref q9) (ty := .array (.array .int)) (C := "LatticeKeysModel$Hands") (T := T_MH) (N := 31) hx hb hts (wg_ft i_MH) ty_MH k_MH n_MH hown hK hP hD hS 0 rfl rfl 9 (by decide) (hts _ (wg_t kw_1441)) (fun _ h9 => h9) rfl hnm rfl (by decide +kernel) rfl rfl (Nat.le_of_ble_eq_true rfl) dMH_init_124 (fun H locs hP hD hS => ?_)
  have hP : va_P g.1 vcl [(h0, .inr (12, [.null, .ref q1, .ref q2, .ref q3, .ref q4, .ref q5, .ref q6, .ref q7, .ref q8, .ref q9, .null, .null, .null, .null, .null, .null, .null, .null, .null, .null, .null, .null, .null, .int 0, .int 0, .int 0, .int 0, .int 0, .int 0, .int 0, .int 0]))] _ := hP
  have hD : va_D _ [(h0, .inr (12, [.null, .ref q1, .ref q2, .ref q3, .ref q4, .ref q5, .ref q6, .ref q7, .ref q8, .ref q9, .null, .null, .null, .null, .null, .null, .null, .null, .null, .null, .null, .null, .null, .int 0, .int 0, .int 0, .int 0, .int 0, .int 0, .int 0, .int 0]))] := hD
  refine lv_aload_n hx hb dMH_init_127 rfl (lv_at hl 0 rfl) ?_
  refine lv_bipush (v := nI 8) hx hb dMH_init_128 (by decide) ?_
  refine lv_sipush (v := nI 256) hx hb dMH_init_130 (by decide) ?_
  refine xm_mna (ty := .int) (N' := 8) (K' := 256) hx hb hown (hts _ (wg_t kw_1431)) (hE.2.2.2.2.2.1) (hts _ (wg_t kw_104)) hP hD hS (by decide) (by decide) (by decide) (by decide) (by decide) (by decide) (by decide) (by decide) (by decide) (by decide) (by decide) dMH_init_133 (fun q10 H hP hD hS => ?_)
  refine W.widen (k := 136) (n := 32641) (by decide) (by decide) ?_
  refine va_putF (D := g.1) (ci := 12) (v := .ref q10) (ty := .array (.array .int)) (C := "LatticeKeysModel$Hands") (T := T_MH) (N := 31) hx hb hts (wg_ft i_MH) ty_MH k_MH n_MH hown hK hP hD hS 0 rfl rfl 10 (by decide) (hts _ (wg_t kw_1442)) (fun _ h9 => h9) rfl hnm rfl (by decide +kernel) rfl rfl (Nat.le_of_ble_eq_true rfl) dMH_init_137 (fun H locs hP hD hS => ?_)
  have hP : va_P g.1 vcl [(h0, .inr (12, [.null, .ref q1, .ref q2, .ref q3, .ref q4, .ref q5, .ref q6, .ref q7, .ref q8, .ref q9, .ref q10, .null, .null, .null, .null, .null, .null, .null, .null, .null, .null, .null, .null, .int 0, .int 0, .int 0, .int 0, .int 0, .int 0, .int 0, .int 0]))] _ := hP
  have hD : va_D _ [(h0, .inr (12, [.null, .ref q1, .ref q2, .ref q3, .ref q4, .ref q5, .ref q6, .ref q7, .ref q8, .ref q9, .ref q10, .null, .null, .null, .null, .null, .null, .null, .null, .null, .null, .null, .null, .int 0, .int 0, .int 0, .int 0, .int 0, .int 0, .int 0, .int 0]))] := hD
  refine lv_aload_n hx hb dMH_init_140 rfl (lv_at hl 0 rfl) ?_
  refine lv_bipush (v := nI 8) hx hb dMH_init_141 (by decide) ?_
  refine lv_sipush (v := nI 256) hx hb dMH_init_143 (by decide) ?_
  refine xm_mna (ty := .int) (N' := 8) (K' := 256) hx hb hown (hts _ (wg_t kw_1431)) (hE.2.2.2.2.2.1) (hts _ (wg_t kw_104)) hP hD hS (by decide) (by decide) (by decide) (by decide) (by decide) (by decide) (by decide) (by decide) (by decide) (by decide) (by decide) dMH_init_146 (fun q11 H hP hD hS => ?_)
  refine W.widen (k := 145) (n := 34697) (by decide) (by decide) ?_
  refine va_putF (D := g.1) (ci := 12) (v := .ref q11) (ty := .array (.array .int)) (C := "LatticeKeysModel$Hands") (T := T_MH) (N := 31) hx hb hts (wg_ft i_MH) ty_MH k_MH n_MH hown hK hP hD hS 0 rfl rfl 11 (by decide) (hts _ (wg_t kw_1443)) (fun _ h9 => h9) rfl hnm rfl (by decide +kernel) rfl rfl (Nat.le_of_ble_eq_true rfl) dMH_init_150 (fun H locs hP hD hS => ?_)
  have hP : va_P g.1 vcl [(h0, .inr (12, [.null, .ref q1, .ref q2, .ref q3, .ref q4, .ref q5, .ref q6, .ref q7, .ref q8, .ref q9, .ref q10, .ref q11, .null, .null, .null, .null, .null, .null, .null, .null, .null, .null, .null, .int 0, .int 0, .int 0, .int 0, .int 0, .int 0, .int 0, .int 0]))] _ := hP
  have hD : va_D _ [(h0, .inr (12, [.null, .ref q1, .ref q2, .ref q3, .ref q4, .ref q5, .ref q6, .ref q7, .ref q8, .ref q9, .ref q10, .ref q11, .null, .null, .null, .null, .null, .null, .null, .null, .null, .null, .null, .int 0, .int 0, .int 0, .int 0, .int 0, .int 0, .int 0, .int 0]))] := hD
  refine lv_aload_n hx hb dMH_init_153 rfl (lv_at hl 0 rfl) ?_
  refine lv_sipush (v := nI 256) hx hb dMH_init_154 (by decide) ?_
  refine ma_newa0 (atype := .int) hx hb (hts _ (wg_t kw_104)) rfl hK hP hD hS hA (N' := 256) (a0 := (256, .inl (fun _ => 0))) (fun _ => rfl) (by decide) (by decide) (by decide) (by decide) (by decide) dMH_init_157 (fun q12 H hP hD hS => ?_)
  refine W.widen (k := 146) (n := 34953) (by decide) (by decide) ?_
  refine va_putF (D := g.1) (ci := 12) (v := .ref q12) (ty := .array .int) (C := "LatticeKeysModel$Hands") (T := T_MH) (N := 31) hx hb hts (wg_ft i_MH) ty_MH k_MH n_MH hown hK hP hD hS 0 rfl rfl 12 (by decide) (hts _ (wg_t kw_1444)) (fun _ h9 => h9) rfl hnm rfl (by decide +kernel) rfl rfl (Nat.le_of_ble_eq_true rfl) dMH_init_159 (fun H locs hP hD hS => ?_)
  have hP : va_P g.1 vcl [(h0, .inr (12, [.null, .ref q1, .ref q2, .ref q3, .ref q4, .ref q5, .ref q6, .ref q7, .ref q8, .ref q9, .ref q10, .ref q11, .ref q12, .null, .null, .null, .null, .null, .null, .null, .null, .null, .null, .int 0, .int 0, .int 0, .int 0, .int 0, .int 0, .int 0, .int 0]))] _ := hP
  have hD : va_D _ [(h0, .inr (12, [.null, .ref q1, .ref q2, .ref q3, .ref q4, .ref q5, .ref q6, .ref q7, .ref q8, .ref q9, .ref q10, .ref q11, .ref q12, .null, .null, .null, .null, .null, .null, .null, .null, .null, .null, .int 0, .int 0, .int 0, .int 0, .int 0, .int 0, .int 0, .int 0]))] := hD
  refine lv_aload_n hx hb dMH_init_162 rfl (lv_at hl 0 rfl) ?_
  refine lv_sipush (v := nI 256) hx hb dMH_init_163 (by decide) ?_
  refine ma_newa0 (atype := .int) hx hb (hts _ (wg_t kw_104)) rfl hK hP hD hS hA (N' := 256) (a0 := (256, .inl (fun _ => 0))) (fun _ => rfl) (by decide) (by decide) (by decide) (by decide) (by decide) dMH_init_166 (fun q13 H hP hD hS => ?_)
  refine W.widen (k := 147) (n := 35209) (by decide) (by decide) ?_
  refine va_putF (D := g.1) (ci := 12) (v := .ref q13) (ty := .array .int) (C := "LatticeKeysModel$Hands") (T := T_MH) (N := 31) hx hb hts (wg_ft i_MH) ty_MH k_MH n_MH hown hK hP hD hS 0 rfl rfl 13 (by decide) (hts _ (wg_t kw_1445)) (fun _ h9 => h9) rfl hnm rfl (by decide +kernel) rfl rfl (Nat.le_of_ble_eq_true rfl) dMH_init_168 (fun H locs hP hD hS => ?_)
  have hP : va_P g.1 vcl [(h0, .inr (12, [.null, .ref q1, .ref q2, .ref q3, .ref q4, .ref q5, .ref q6, .ref q7, .ref q8, .ref q9, .ref q10, .ref q11, .ref q12, .ref q13, .null, .null, .null, .null, .null, .null, .null, .null, .null, .int 0, .int 0, .int 0, .int 0, .int 0, .int 0, .int 0, .int 0]))] _ := hP
  have hD : va_D _ [(h0, .inr (12, [.null, .ref q1, .ref q2, .ref q3, .ref q4, .ref q5, .ref q6, .ref q7, .ref q8, .ref q9, .ref q10, .ref q11, .ref q12, .ref q13, .null, .null, .null, .null, .null, .null, .null, .null, .null, .int 0, .int 0, .int 0, .int 0, .int 0, .int 0, .int 0, .int 0]))] := hD
  refine lv_aload_n hx hb dMH_init_171 rfl (lv_at hl 0 rfl) ?_
  refine lv_sipush (v := nI 256) hx hb dMH_init_172 (by decide) ?_
  refine ma_newa0 (atype := .int) hx hb (hts _ (wg_t kw_104)) rfl hK hP hD hS hA (N' := 256) (a0 := (256, .inl (fun _ => 0))) (fun _ => rfl) (by decide) (by decide) (by decide) (by decide) (by decide) dMH_init_175 (fun q14 H hP hD hS => ?_)
  refine W.widen (k := 148) (n := 35465) (by decide) (by decide) ?_
  refine va_putF (D := g.1) (ci := 12) (v := .ref q14) (ty := .array .int) (C := "LatticeKeysModel$Hands") (T := T_MH) (N := 31) hx hb hts (wg_ft i_MH) ty_MH k_MH n_MH hown hK hP hD hS 0 rfl rfl 14 (by decide) (hts _ (wg_t kw_1446)) (fun _ h9 => h9) rfl hnm rfl (by decide +kernel) rfl rfl (Nat.le_of_ble_eq_true rfl) dMH_init_177 (fun H locs hP hD hS => ?_)
  have hP : va_P g.1 vcl [(h0, .inr (12, [.null, .ref q1, .ref q2, .ref q3, .ref q4, .ref q5, .ref q6, .ref q7, .ref q8, .ref q9, .ref q10, .ref q11, .ref q12, .ref q13, .ref q14, .null, .null, .null, .null, .null, .null, .null, .null, .int 0, .int 0, .int 0, .int 0, .int 0, .int 0, .int 0, .int 0]))] _ := hP
  have hD : va_D _ [(h0, .inr (12, [.null, .ref q1, .ref q2, .ref q3, .ref q4, .ref q5, .ref q6, .ref q7, .ref q8, .ref q9, .ref q10, .ref q11, .ref q12, .ref q13, .ref q14, .null, .null, .null, .null, .null, .null, .null, .null, .int 0, .int 0, .int 0, .int 0, .int 0, .int 0, .int 0, .int 0]))] := hD
  refine lv_aload_n hx hb dMH_init_180 rfl (lv_at hl 0 rfl) ?_
  refine lv_sipush (v := nI 256) hx hb dMH_init_181 (by decide) ?_
  refine ma_newa0 (atype := .long) hx hb (hts _ (wg_t kw_73)) rfl hK hP hD hS hA (N' := 256) (a0 := (256, .inr (.inl (fun _ => 0)))) (fun _ => rfl) (by decide) (by decide) (by decide) (by decide) (by decide) dMH_init_184 (fun q15 H hP hD hS => ?_)
  refine W.widen (k := 149) (n := 35721) (by decide) (by decide) ?_
  refine va_putF (D := g.1) (ci := 12) (v := .ref q15) (ty := .array .long) (C := "LatticeKeysModel$Hands") (T := T_MH) (N := 31) hx hb hts (wg_ft i_MH) ty_MH k_MH n_MH hown hK hP hD hS 0 rfl rfl 15 (by decide) (hts _ (wg_t kw_1447)) (fun _ h9 => h9) rfl hnm rfl (by decide +kernel) rfl rfl (Nat.le_of_ble_eq_true rfl) dMH_init_186 (fun H locs hP hD hS => ?_)
  have hP : va_P g.1 vcl [(h0, .inr (12, [.null, .ref q1, .ref q2, .ref q3, .ref q4, .ref q5, .ref q6, .ref q7, .ref q8, .ref q9, .ref q10, .ref q11, .ref q12, .ref q13, .ref q14, .ref q15, .null, .null, .null, .null, .null, .null, .null, .int 0, .int 0, .int 0, .int 0, .int 0, .int 0, .int 0, .int 0]))] _ := hP
  have hD : va_D _ [(h0, .inr (12, [.null, .ref q1, .ref q2, .ref q3, .ref q4, .ref q5, .ref q6, .ref q7, .ref q8, .ref q9, .ref q10, .ref q11, .ref q12, .ref q13, .ref q14, .ref q15, .null, .null, .null, .null, .null, .null, .null, .int 0, .int 0, .int 0, .int 0, .int 0, .int 0, .int 0, .int 0]))] := hD
  refine lv_aload_n hx hb dMH_init_189 rfl (lv_at hl 0 rfl) ?_
  refine lv_sipush (v := nI 128) hx hb dMH_init_190 (by decide) ?_
  refine ma_newa0 (atype := .byte) hx hb (hts _ (wg_t kw_72)) rfl hK hP hD hS hA (N' := 128) (a0 := (128, .inl (fun _ => 0))) (fun _ => rfl) (by decide) (by decide) (by decide) (by decide) (by decide) dMH_init_193 (fun q16 H hP hD hS => ?_)
  refine W.widen (k := 150) (n := 35849) (by decide) (by decide) ?_
  refine va_putF (D := g.1) (ci := 12) (v := .ref q16) (ty := .array .byte) (C := "LatticeKeysModel$Hands") (T := T_MH) (N := 31) hx hb hts (wg_ft i_MH) ty_MH k_MH n_MH hown hK hP hD hS 0 rfl rfl 16 (by decide) (hts _ (wg_t kw_1448)) (fun _ h9 => h9) rfl hnm rfl (by decide +kernel) rfl rfl (Nat.le_of_ble_eq_true rfl) dMH_init_195 (fun H locs hP hD hS => ?_)
  have hP : va_P g.1 vcl [(h0, .inr (12, [.null, .ref q1, .ref q2, .ref q3, .ref q4, .ref q5, .ref q6, .ref q7, .ref q8, .ref q9, .ref q10, .ref q11, .ref q12, .ref q13, .ref q14, .ref q15, .ref q16, .null, .null, .null, .null, .null, .null, .int 0, .int 0, .int 0, .int 0, .int 0, .int 0, .int 0, .int 0]))] _ := hP
  have hD : va_D _ [(h0, .inr (12, [.null, .ref q1, .ref q2, .ref q3, .ref q4, .ref q5, .ref q6, .ref q7, .ref q8, .ref q9, .ref q10, .ref q11, .ref q12, .ref q13, .ref q14, .ref q15, .ref q16, .null, .null, .null, .null, .null, .null, .int 0, .int 0, .int 0, .int 0, .int 0, .int 0, .int 0, .int 0]))] := hD
  refine lv_aload_n hx hb dMH_init_198 rfl (lv_at hl 0 rfl) ?_
  refine lv_bipush (v := nI 64) hx hb dMH_init_199 (by decide) ?_
  refine ma_newa0 (atype := .byte) hx hb (hts _ (wg_t kw_72)) rfl hK hP hD hS hA (N' := 64) (a0 := (64, .inl (fun _ => 0))) (fun _ => rfl) (by decide) (by decide) (by decide) (by decide) (by decide) dMH_init_201 (fun q17 H hP hD hS => ?_)
  refine W.widen (k := 151) (n := 35913) (by decide) (by decide) ?_
  refine va_putF (D := g.1) (ci := 12) (v := .ref q17) (ty := .array .byte) (C := "LatticeKeysModel$Hands") (T := T_MH) (N := 31) hx hb hts (wg_ft i_MH) ty_MH k_MH n_MH hown hK hP hD hS 0 rfl rfl 17 (by decide) (hts _ (wg_t kw_1449)) (fun _ h9 => h9) rfl hnm rfl (by decide +kernel) rfl rfl (Nat.le_of_ble_eq_true rfl) dMH_init_203 (fun H locs hP hD hS => ?_)
  have hP : va_P g.1 vcl [(h0, .inr (12, [.null, .ref q1, .ref q2, .ref q3, .ref q4, .ref q5, .ref q6, .ref q7, .ref q8, .ref q9, .ref q10, .ref q11, .ref q12, .ref q13, .ref q14, .ref q15, .ref q16, .ref q17, .null, .null, .null, .null, .null, .int 0, .int 0, .int 0, .int 0, .int 0, .int 0, .int 0, .int 0]))] _ := hP
  have hD : va_D _ [(h0, .inr (12, [.null, .ref q1, .ref q2, .ref q3, .ref q4, .ref q5, .ref q6, .ref q7, .ref q8, .ref q9, .ref q10, .ref q11, .ref q12, .ref q13, .ref q14, .ref q15, .ref q16, .ref q17, .null, .null, .null, .null, .null, .int 0, .int 0, .int 0, .int 0, .int 0, .int 0, .int 0, .int 0]))] := hD
  refine lv_aload_n hx hb dMH_init_206 rfl (lv_at hl 0 rfl) ?_
  refine lv_bipush (v := nI 64) hx hb dMH_init_207 (by decide) ?_
  refine ma_newa0 (atype := .byte) hx hb (hts _ (wg_t kw_72)) rfl hK hP hD hS hA (N' := 64) (a0 := (64, .inl (fun _ => 0))) (fun _ => rfl) (by decide) (by decide) (by decide) (by decide) (by decide) dMH_init_209 (fun q18 H hP hD hS => ?_)
  refine W.widen (k := 152) (n := 35977) (by decide) (by decide) ?_
  refine va_putF (D := g.1) (ci := 12) (v := .ref q18) (ty := .array .byte) (C := "LatticeKeysModel$Hands") (T := T_MH) (N := 31) hx hb hts (wg_ft i_MH) ty_MH k_MH n_MH hown hK hP hD hS 0 rfl rfl 18 (by decide) (hts _ (wg_t kw_1450)) (fun _ h9 => h9) rfl hnm rfl (by decide +kernel) rfl rfl (Nat.le_of_ble_eq_true rfl) dMH_init_211 (fun H locs hP hD hS => ?_)
  have hP : va_P g.1 vcl [(h0, .inr (12, [.null, .ref q1, .ref q2, .ref q3, .ref q4, .ref q5, .ref q6, .ref q7, .ref q8, .ref q9, .ref q10, .ref q11, .ref q12, .ref q13, .ref q14, .ref q15, .ref q16, .ref q17, .ref q18, .null, .null, .null, .null, .int 0, .int 0, .int 0, .int 0, .int 0, .int 0, .int 0, .int 0]))] _ := hP
  have hD : va_D _ [(h0, .inr (12, [.null, .ref q1, .ref q2, .ref q3, .ref q4, .ref q5, .ref q6, .ref q7, .ref q8, .ref q9, .ref q10, .ref q11, .ref q12, .ref q13, .ref q14, .ref q15, .ref q16, .ref q17, .ref q18, .null, .null, .null, .null, .int 0, .int 0, .int 0, .int 0, .int 0, .int 0, .int 0, .int 0]))] := hD
  refine lv_aload_n hx hb dMH_init_214 rfl (lv_at hl 0 rfl) ?_
  refine lv_sipush (v := nI 640) hx hb dMH_init_215 (by decide) ?_
  refine ma_newa0 (atype := .byte) hx hb (hts _ (wg_t kw_72)) rfl hK hP hD hS hA (N' := 640) (a0 := (640, .inl (fun _ => 0))) (fun _ => rfl) (by decide) (by decide) (by decide) (by decide) (by decide) dMH_init_218 (fun q19 H hP hD hS => ?_)
  refine W.widen (k := 153) (n := 36617) (by decide) (by decide) ?_
  refine va_putF (D := g.1) (ci := 12) (v := .ref q19) (ty := .array .byte) (C := "LatticeKeysModel$Hands") (T := T_MH) (N := 31) hx hb hts (wg_ft i_MH) ty_MH k_MH n_MH hown hK hP hD hS 0 rfl rfl 19 (by decide) (hts _ (wg_t kw_1451)) (fun _ h9 => h9) rfl hnm rfl (by decide +kernel) rfl rfl (Nat.le_of_ble_eq_true rfl) dMH_init_220 (fun H locs hP hD hS => ?_)
  have hP : va_P g.1 vcl [(h0, .inr (12, [.null, .ref q1, .ref q2, .ref q3, .ref q4, .ref q5, .ref q6, .ref q7, .ref q8, .ref q9, .ref q10, .ref q11, .ref q12, .ref q13, .ref q14, .ref q15, .ref q16, .ref q17, .ref q18, .ref q19, .null, .null, .null, .int 0, .int 0, .int 0, .int 0, .int 0, .int 0, .int 0, .int 0]))] _ := hP
  have hD : va_D _ [(h0, .inr (12, [.null, .ref q1, .ref q2, .ref q3, .ref q4, .ref q5, .ref q6, .ref q7, .ref q8, .ref q9, .ref q10, .ref q11, .ref q12, .ref q13, .ref q14, .ref q15, .ref q16, .ref q17, .ref q18, .ref q19, .null, .null, .null, .int 0, .int 0, .int 0, .int 0, .int 0, .int 0, .int 0, .int 0]))] := hD
  refine lv_aload_n hx hb dMH_init_223 rfl (lv_at hl 0 rfl) ?_
  refine lv_bipush (v := nI 64) hx hb dMH_init_224 (by decide) ?_
  refine ma_newa0 (atype := .byte) hx hb (hts _ (wg_t kw_72)) rfl hK hP hD hS hA (N' := 64) (a0 := (64, .inl (fun _ => 0))) (fun _ => rfl) (by decide) (by decide) (by decide) (by decide) (by decide) dMH_init_226 (fun q20 H hP hD hS => ?_)
  refine W.widen (k := 154) (n := 36681) (by decide) (by decide) ?_
  refine va_putF (D := g.1) (ci := 12) (v := .ref q20) (ty := .array .byte) (C := "LatticeKeysModel$Hands") (T := T_MH) (N := 31) hx hb hts (wg_ft i_MH) ty_MH k_MH n_MH hown hK hP hD hS 0 rfl rfl 20 (by decide) (hts _ (wg_t kw_1452)) (fun _ h9 => h9) rfl hnm rfl (by decide +kernel) rfl rfl (Nat.le_of_ble_eq_true rfl) dMH_init_228 (fun H locs hP hD hS => ?_)
  have hP : va_P g.1 vcl [(h0, .inr (12, [.null, .ref q1, .ref q2, .ref q3, .ref q4, .ref q5, .ref q6, .ref q7, .ref q8, .ref q9, .ref q10, .ref q11, .ref q12, .ref q13, .ref q14, .ref q15, .ref q16, .ref q17, .ref q18, .ref q19, .ref q20, .null, .null, .int 0, .int 0, .int 0, .int 0, .int 0, .int 0, .int 0, .int 0]))] _ := hP
  have hD : va_D _ [(h0, .inr (12, [.null, .ref q1, .ref q2, .ref q3, .ref q4, .ref q5, .ref q6, .ref q7, .ref q8, .ref q9, .ref q10, .ref q11, .ref q12, .ref q13, .ref q14, .ref q15, .ref q16, .ref q17, .ref q18, .ref q19, .ref q20, .null, .null, .int 0, .int 0, .int 0, .int 0, .int 0, .int 0, .int 0, .int 0]))] := hD
  refine lv_aload_n hx hb dMH_init_231 rfl (lv_at hl 0 rfl) ?_
  refine lv_bipush (v := nI 64) hx hb dMH_init_232 (by decide) ?_
  refine ma_newa0 (atype := .byte) hx hb (hts _ (wg_t kw_72)) rfl hK hP hD hS hA (N' := 64) (a0 := (64, .inl (fun _ => 0))) (fun _ => rfl) (by decide) (by decide) (by decide) (by decide) (by decide) dMH_init_234 (fun q21 H hP hD hS => ?_)
  refine W.widen (k := 155) (n := 36745) (by decide) (by decide) ?_
  refine va_putF (D := g.1) (ci := 12) (v := .ref q21) (ty := .array .byte) (C := "LatticeKeysModel$Hands") (T := T_MH) (N := 31) hx hb hts (wg_ft i_MH) ty_MH k_MH n_MH hown hK hP hD hS 0 rfl rfl 21 (by decide) (hts _ (wg_t kw_1453)) (fun _ h9 => h9) rfl hnm rfl (by decide +kernel) rfl rfl (Nat.le_of_ble_eq_true rfl) dMH_init_236 (fun H locs hP hD hS => ?_)
  have hP : va_P g.1 vcl [(h0, .inr (12, [.null, .ref q1, .ref q2, .ref q3, .ref q4, .ref q5, .ref q6, .ref q7, .ref q8, .ref q9, .ref q10, .ref q11, .ref q12, .ref q13, .ref q14, .ref q15, .ref q16, .ref q17, .ref q18, .ref q19, .ref q20, .ref q21, .null, .int 0, .int 0, .int 0, .int 0, .int 0, .int 0, .int 0, .int 0]))] _ := hP
  have hD : va_D _ [(h0, .inr (12, [.null, .ref q1, .ref q2, .ref q3, .ref q4, .ref q5, .ref q6, .ref q7, .ref q8, .ref q9, .ref q10, .ref q11, .ref q12, .ref q13, .ref q14, .ref q15, .ref q16, .ref q17, .ref q18, .ref q19, .ref q20, .ref q21, .null, .int 0, .int 0, .int 0, .int 0, .int 0, .int 0, .int 0, .int 0]))] := hD
  refine lv_aload_n hx hb dMH_init_239 rfl (lv_at hl 0 rfl) ?_
  refine lv_bipush (v := nI 64) hx hb dMH_init_240 (by decide) ?_
  refine ma_newa0 (atype := .byte) hx hb (hts _ (wg_t kw_72)) rfl hK hP hD hS hA (N' := 64) (a0 := (64, .inl (fun _ => 0))) (fun _ => rfl) (by decide) (by decide) (by decide) (by decide) (by decide) dMH_init_242 (fun q22 H hP hD hS => ?_)
  refine W.widen (k := 156) (n := 36809) (by decide) (by decide) ?_
  refine va_putF (D := g.1) (ci := 12) (v := .ref q22) (ty := .array .byte) (C := "LatticeKeysModel$Hands") (T := T_MH) (N := 31) hx hb hts (wg_ft i_MH) ty_MH k_MH n_MH hown hK hP hD hS 0 rfl rfl 22 (by decide) (hts _ (wg_t kw_1454)) (fun _ h9 => h9) rfl hnm rfl (by decide +kernel) rfl rfl (Nat.le_of_ble_eq_true rfl) dMH_init_244 (fun H locs hP hD hS => ?_)
  have hP : va_P g.1 vcl [(h0, .inr (12, [.null, .ref q1, .ref q2, .ref q3, .ref q4, .ref q5, .ref q6, .ref q7, .ref q8, .ref q9, .ref q10, .ref q11, .ref q12, .ref q13, .ref q14, .ref q15, .ref q16, .ref q17, .ref q18, .ref q19, .ref q20, .ref q21, .ref q22, .int 0, .int 0, .int 0, .int 0, .int 0, .int 0, .int 0, .int 0]))] _ := hP
  have hD : va_D _ [(h0, .inr (12, [.null, .ref q1, .ref q2, .ref q3, .ref q4, .ref q5, .ref q6, .ref q7, .ref q8, .ref q9, .ref q10, .ref q11, .ref q12, .ref q13, .ref q14, .ref q15, .ref q16, .ref q17, .ref q18, .ref q19, .ref q20, .ref q21, .ref q22, .int 0, .int 0, .int 0, .int 0, .int 0, .int 0, .int 0, .int 0]))] := hD
  refine lv_aload_n hx hb dMH_init_247 rfl (lv_at hl 0 rfl) ?_
  refine lv_aload_n hx hb dMH_init_248 rfl (lv_at hl 1 rfl) ?_
  refine va_putF (D := g.1) (ci := 12) (v := .ref sp) (ty := .object "LatticeKeysModel$Sponge") (C := "LatticeKeysModel$Hands") (T := T_MH) (N := 31) hx hb hts (wg_ft i_MH) ty_MH k_MH n_MH hown hK hP hD hS 0 rfl rfl 0 (by decide) (hts _ (wg_t kw_1432)) (fun _ h9 => h9) rfl hnm rfl (by decide +kernel) rfl rfl (Nat.le_of_ble_eq_true rfl) dMH_init_249 (fun H locs hP hD hS => ?_)
  have hP : va_P g.1 vcl [(h0, .inr (12, [.ref sp, .ref q1, .ref q2, .ref q3, .ref q4, .ref q5, .ref q6, .ref q7, .ref q8, .ref q9, .ref q10, .ref q11, .ref q12, .ref q13, .ref q14, .ref q15, .ref q16, .ref q17, .ref q18, .ref q19, .ref q20, .ref q21, .ref q22, .int 0, .int 0, .int 0, .int 0, .int 0, .int 0, .int 0, .int 0]))] _ := hP
  have hD : va_D _ [(h0, .inr (12, [.ref sp, .ref q1, .ref q2, .ref q3, .ref q4, .ref q5, .ref q6, .ref q7, .ref q8, .ref q9, .ref q10, .ref q11, .ref q12, .ref q13, .ref q14, .ref q15, .ref q16, .ref q17, .ref q18, .ref q19, .ref q20, .ref q21, .ref q22, .int 0, .int 0, .int 0, .int 0, .int 0, .int 0, .int 0, .int 0]))] := hD
  exact mc_vret hx hb hr hlk hP hD hS () trivial [] rfl rfl (by omega) (by omega) dMH_init_252
