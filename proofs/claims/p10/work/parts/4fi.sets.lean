set_option linter.all false
abbrev c_KS_init : ByteArray := prog_7_method_1_code
abbrev y_KS_init : MethodName := ⟨"LatticeKeys$KemSet", "<init>", "(I)V"⟩
abbrev w_KS_init : List Cond := Cond.code y_KS_init c_KS_init 2 none :: WG
theorem dKS_init_0 : decode c_KS_init 0 = .ok (.aload_n 0, 1) := by decide +kernel
theorem dKS_init_1 : decode c_KS_init 1 = .ok (.invokespecial 1, 3) := by decide +kernel
theorem dKS_init_4 : decode c_KS_init 4 = .ok (.aload_n 0, 1) := by decide +kernel
theorem dKS_init_5 : decode c_KS_init 5 = .ok (.getstatic 7, 3) := by decide +kernel
theorem dKS_init_8 : decode c_KS_init 8 = .ok (.iload_n 1, 1) := by decide +kernel
theorem dKS_init_9 : decode c_KS_init 9 = .ok (.iaload, 1) := by decide +kernel
theorem dKS_init_10 : decode c_KS_init 10 = .ok (.putfield 13, 3) := by decide +kernel
theorem dKS_init_13 : decode c_KS_init 13 = .ok (.aload_n 0, 1) := by decide +kernel
theorem dKS_init_14 : decode c_KS_init 14 = .ok (.getstatic 17, 3) := by decide +kernel
theorem dKS_init_17 : decode c_KS_init 17 = .ok (.iload_n 1, 1) := by decide +kernel
theorem dKS_init_18 : decode c_KS_init 18 = .ok (.iaload, 1) := by decide +kernel
theorem dKS_init_19 : decode c_KS_init 19 = .ok (.putfield 20, 3) := by decide +kernel
theorem dKS_init_22 : decode c_KS_init 22 = .ok (.aload_n 0, 1) := by decide +kernel
theorem dKS_init_23 : decode c_KS_init 23 = .ok (.getstatic 23, 3) := by decide +kernel
theorem dKS_init_26 : decode c_KS_init 26 = .ok (.iload_n 1, 1) := by decide +kernel
theorem dKS_init_27 : decode c_KS_init 27 = .ok (.iaload, 1) := by decide +kernel
theorem dKS_init_28 : decode c_KS_init 28 = .ok (.putfield 26, 3) := by decide +kernel
theorem dKS_init_31 : decode c_KS_init 31 = .ok (.aload_n 0, 1) := by decide +kernel
theorem dKS_init_32 : decode c_KS_init 32 = .ok (.getstatic 29, 3) := by decide +kernel
theorem dKS_init_35 : decode c_KS_init 35 = .ok (.iload_n 1, 1) := by decide +kernel
theorem dKS_init_36 : decode c_KS_init 36 = .ok (.iaload, 1) := by decide +kernel
theorem dKS_init_37 : decode c_KS_init 37 = .ok (.putfield 32, 3) := by decide +kernel
theorem dKS_init_40 : decode c_KS_init 40 = .ok (.aload_n 0, 1) := by decide +kernel
theorem dKS_init_41 : decode c_KS_init 41 = .ok (.sipush 384, 3) := by decide +kernel
theorem dKS_init_44 : decode c_KS_init 44 = .ok (.aload_n 0, 1) := by decide +kernel
theorem dKS_init_45 : decode c_KS_init 45 = .ok (.getfield 13, 3) := by decide +kernel
theorem dKS_init_48 : decode c_KS_init 48 = .ok (.imul, 1) := by decide +kernel
theorem dKS_init_49 : decode c_KS_init 49 = .ok (.bipush 32, 2) := by decide +kernel
theorem dKS_init_51 : decode c_KS_init 51 = .ok (.iadd, 1) := by decide +kernel
theorem dKS_init_52 : decode c_KS_init 52 = .ok (.putfield 37, 3) := by decide +kernel
theorem dKS_init_55 : decode c_KS_init 55 = .ok (.aload_n 0, 1) := by decide +kernel
theorem dKS_init_56 : decode c_KS_init 56 = .ok (.bipush 32, 2) := by decide +kernel
theorem dKS_init_58 : decode c_KS_init 58 = .ok (.aload_n 0, 1) := by decide +kernel
theorem dKS_init_59 : decode c_KS_init 59 = .ok (.getfield 26, 3) := by decide +kernel
theorem dKS_init_62 : decode c_KS_init 62 = .ok (.aload_n 0, 1) := by decide +kernel
theorem dKS_init_63 : decode c_KS_init 63 = .ok (.getfield 13, 3) := by decide +kernel
theorem dKS_init_66 : decode c_KS_init 66 = .ok (.imul, 1) := by decide +kernel
theorem dKS_init_67 : decode c_KS_init 67 = .ok (.aload_n 0, 1) := by decide +kernel
theorem dKS_init_68 : decode c_KS_init 68 = .ok (.getfield 32, 3) := by decide +kernel
theorem dKS_init_71 : decode c_KS_init 71 = .ok (.iadd, 1) := by decide +kernel
theorem dKS_init_72 : decode c_KS_init 72 = .ok (.imul, 1) := by decide +kernel
theorem dKS_init_73 : decode c_KS_init 73 = .ok (.putfield 40, 3) := by decide +kernel
theorem dKS_init_76 : decode c_KS_init 76 = .ok (.aload_n 0, 1) := by decide +kernel
theorem dKS_init_77 : decode c_KS_init 77 = .ok (.sipush 384, 3) := by decide +kernel
theorem dKS_init_80 : decode c_KS_init 80 = .ok (.aload_n 0, 1) := by decide +kernel
theorem dKS_init_81 : decode c_KS_init 81 = .ok (.getfield 13, 3) := by decide +kernel
theorem dKS_init_84 : decode c_KS_init 84 = .ok (.imul, 1) := by decide +kernel
theorem dKS_init_85 : decode c_KS_init 85 = .ok (.putfield 43, 3) := by decide +kernel
theorem dKS_init_88 : decode c_KS_init 88 = .ok (.aload_n 0, 1) := by decide +kernel
theorem dKS_init_89 : decode c_KS_init 89 = .ok (.aload_n 0, 1) := by decide +kernel
theorem dKS_init_90 : decode c_KS_init 90 = .ok (.getfield 43, 3) := by decide +kernel
theorem dKS_init_93 : decode c_KS_init 93 = .ok (.aload_n 0, 1) := by decide +kernel
theorem dKS_init_94 : decode c_KS_init 94 = .ok (.getfield 37, 3) := by decide +kernel
theorem dKS_init_97 : decode c_KS_init 97 = .ok (.iadd, 1) := by decide +kernel
theorem dKS_init_98 : decode c_KS_init 98 = .ok (.putfield 46, 3) := by decide +kernel
theorem dKS_init_101 : decode c_KS_init 101 = .ok (.aload_n 0, 1) := by decide +kernel
theorem dKS_init_102 : decode c_KS_init 102 = .ok (.aload_n 0, 1) := by decide +kernel
theorem dKS_init_103 : decode c_KS_init 103 = .ok (.getfield 46, 3) := by decide +kernel
theorem dKS_init_106 : decode c_KS_init 106 = .ok (.bipush 32, 2) := by decide +kernel
theorem dKS_init_108 : decode c_KS_init 108 = .ok (.iadd, 1) := by decide +kernel
theorem dKS_init_109 : decode c_KS_init 109 = .ok (.putfield 49, 3) := by decide +kernel
theorem dKS_init_112 : decode c_KS_init 112 = .ok (.aload_n 0, 1) := by decide +kernel
theorem dKS_init_113 : decode c_KS_init 113 = .ok (.aload_n 0, 1) := by decide +kernel
theorem dKS_init_114 : decode c_KS_init 114 = .ok (.getfield 49, 3) := by decide +kernel
theorem dKS_init_117 : decode c_KS_init 117 = .ok (.bipush 32, 2) := by decide +kernel
theorem dKS_init_119 : decode c_KS_init 119 = .ok (.iadd, 1) := by decide +kernel
theorem dKS_init_120 : decode c_KS_init 120 = .ok (.putfield 52, 3) := by decide +kernel
theorem dKS_init_123 : decode c_KS_init 123 = .ok (.return_, 1) := by decide +kernel
abbrev c_DS_init : ByteArray := prog_5_method_1_code
abbrev y_DS_init : MethodName := ⟨"LatticeKeys$DsaSet", "<init>", "(I)V"⟩
abbrev w_DS_init : List Cond := Cond.code y_DS_init c_DS_init 2 none :: WG
theorem dDS_init_0 : decode c_DS_init 0 = .ok (.aload_n 0, 1) := by decide +kernel
theorem dDS_init_1 : decode c_DS_init 1 = .ok (.invokespecial 1, 3) := by decide +kernel
theorem dDS_init_4 : decode c_DS_init 4 = .ok (.aload_n 0, 1) := by decide +kernel
theorem dDS_init_5 : decode c_DS_init 5 = .ok (.getstatic 7, 3) := by decide +kernel
theorem dDS_init_8 : decode c_DS_init 8 = .ok (.iload_n 1, 1) := by decide +kernel
theorem dDS_init_9 : decode c_DS_init 9 = .ok (.iaload, 1) := by decide +kernel
theorem dDS_init_10 : decode c_DS_init 10 = .ok (.putfield 13, 3) := by decide +kernel
theorem dDS_init_13 : decode c_DS_init 13 = .ok (.aload_n 0, 1) := by decide +kernel
theorem dDS_init_14 : decode c_DS_init 14 = .ok (.getstatic 17, 3) := by decide +kernel
theorem dDS_init_17 : decode c_DS_init 17 = .ok (.iload_n 1, 1) := by decide +kernel
theorem dDS_init_18 : decode c_DS_init 18 = .ok (.iaload, 1) := by decide +kernel
theorem dDS_init_19 : decode c_DS_init 19 = .ok (.putfield 20, 3) := by decide +kernel
theorem dDS_init_22 : decode c_DS_init 22 = .ok (.aload_n 0, 1) := by decide +kernel
theorem dDS_init_23 : decode c_DS_init 23 = .ok (.getstatic 23, 3) := by decide +kernel
theorem dDS_init_26 : decode c_DS_init 26 = .ok (.iload_n 1, 1) := by decide +kernel
theorem dDS_init_27 : decode c_DS_init 27 = .ok (.iaload, 1) := by decide +kernel
theorem dDS_init_28 : decode c_DS_init 28 = .ok (.putfield 26, 3) := by decide +kernel
theorem dDS_init_31 : decode c_DS_init 31 = .ok (.aload_n 0, 1) := by decide +kernel
theorem dDS_init_32 : decode c_DS_init 32 = .ok (.getstatic 29, 3) := by decide +kernel
theorem dDS_init_35 : decode c_DS_init 35 = .ok (.iload_n 1, 1) := by decide +kernel
theorem dDS_init_36 : decode c_DS_init 36 = .ok (.iaload, 1) := by decide +kernel
theorem dDS_init_37 : decode c_DS_init 37 = .ok (.putfield 32, 3) := by decide +kernel
theorem dDS_init_40 : decode c_DS_init 40 = .ok (.aload_n 0, 1) := by decide +kernel
theorem dDS_init_41 : decode c_DS_init 41 = .ok (.getstatic 35, 3) := by decide +kernel
theorem dDS_init_44 : decode c_DS_init 44 = .ok (.iload_n 1, 1) := by decide +kernel
theorem dDS_init_45 : decode c_DS_init 45 = .ok (.iaload, 1) := by decide +kernel
theorem dDS_init_46 : decode c_DS_init 46 = .ok (.putfield 38, 3) := by decide +kernel
theorem dDS_init_49 : decode c_DS_init 49 = .ok (.aload_n 0, 1) := by decide +kernel
theorem dDS_init_50 : decode c_DS_init 50 = .ok (.getstatic 41, 3) := by decide +kernel
theorem dDS_init_53 : decode c_DS_init 53 = .ok (.iload_n 1, 1) := by decide +kernel
theorem dDS_init_54 : decode c_DS_init 54 = .ok (.iaload, 1) := by decide +kernel
theorem dDS_init_55 : decode c_DS_init 55 = .ok (.putfield 44, 3) := by decide +kernel
theorem dDS_init_58 : decode c_DS_init 58 = .ok (.aload_n 0, 1) := by decide +kernel
theorem dDS_init_59 : decode c_DS_init 59 = .ok (.getstatic 47, 3) := by decide +kernel
theorem dDS_init_62 : decode c_DS_init 62 = .ok (.iload_n 1, 1) := by decide +kernel
theorem dDS_init_63 : decode c_DS_init 63 = .ok (.iaload, 1) := by decide +kernel
theorem dDS_init_64 : decode c_DS_init 64 = .ok (.putfield 50, 3) := by decide +kernel
theorem dDS_init_67 : decode c_DS_init 67 = .ok (.aload_n 0, 1) := by decide +kernel
theorem dDS_init_68 : decode c_DS_init 68 = .ok (.iconst 1, 1) := by decide +kernel
theorem dDS_init_69 : decode c_DS_init 69 = .ok (.aload_n 0, 1) := by decide +kernel
theorem dDS_init_70 : decode c_DS_init 70 = .ok (.getfield 50, 3) := by decide +kernel
theorem dDS_init_73 : decode c_DS_init 73 = .ok (.iconst 1, 1) := by decide +kernel
theorem dDS_init_74 : decode c_DS_init 74 = .ok (.isub, 1) := by decide +kernel
theorem dDS_init_75 : decode c_DS_init 75 = .ok (.ishl, 1) := by decide +kernel
theorem dDS_init_76 : decode c_DS_init 76 = .ok (.putfield 53, 3) := by decide +kernel
theorem dDS_init_79 : decode c_DS_init 79 = .ok (.aload_n 0, 1) := by decide +kernel
theorem dDS_init_80 : decode c_DS_init 80 = .ok (.getstatic 56, 3) := by decide +kernel
theorem dDS_init_83 : decode c_DS_init 83 = .ok (.iload_n 1, 1) := by decide +kernel
theorem dDS_init_84 : decode c_DS_init 84 = .ok (.iaload, 1) := by decide +kernel
theorem dDS_init_85 : decode c_DS_init 85 = .ok (.putfield 59, 3) := by decide +kernel
theorem dDS_init_88 : decode c_DS_init 88 = .ok (.aload_n 0, 1) := by decide +kernel
theorem dDS_init_89 : decode c_DS_init 89 = .ok (.getstatic 62, 3) := by decide +kernel
theorem dDS_init_92 : decode c_DS_init 92 = .ok (.iload_n 1, 1) := by decide +kernel
theorem dDS_init_93 : decode c_DS_init 93 = .ok (.iaload, 1) := by decide +kernel
theorem dDS_init_94 : decode c_DS_init 94 = .ok (.putfield 65, 3) := by decide +kernel
theorem dDS_init_97 : decode c_DS_init 97 = .ok (.aload_n 0, 1) := by decide +kernel
theorem dDS_init_98 : decode c_DS_init 98 = .ok (.ldc 70, 2) := by decide +kernel
theorem dDS_init_100 : decode c_DS_init 100 = .ok (.aload_n 0, 1) := by decide +kernel
theorem dDS_init_101 : decode c_DS_init 101 = .ok (.getfield 59, 3) := by decide +kernel
theorem dDS_init_104 : decode c_DS_init 104 = .ok (.idiv, 1) := by decide +kernel
theorem dDS_init_105 : decode c_DS_init 105 = .ok (.iconst 2, 1) := by decide +kernel
theorem dDS_init_106 : decode c_DS_init 106 = .ok (.idiv, 1) := by decide +kernel
theorem dDS_init_107 : decode c_DS_init 107 = .ok (.putfield 71, 3) := by decide +kernel
theorem dDS_init_110 : decode c_DS_init 110 = .ok (.aload_n 0, 1) := by decide +kernel
theorem dDS_init_111 : decode c_DS_init 111 = .ok (.getstatic 74, 3) := by decide +kernel
theorem dDS_init_114 : decode c_DS_init 114 = .ok (.iload_n 1, 1) := by decide +kernel
theorem dDS_init_115 : decode c_DS_init 115 = .ok (.iaload, 1) := by decide +kernel
theorem dDS_init_116 : decode c_DS_init 116 = .ok (.putfield 77, 3) := by decide +kernel
theorem dDS_init_119 : decode c_DS_init 119 = .ok (.aload_n 0, 1) := by decide +kernel
theorem dDS_init_120 : decode c_DS_init 120 = .ok (.aload_n 0, 1) := by decide +kernel
theorem dDS_init_121 : decode c_DS_init 121 = .ok (.getfield 38, 3) := by decide +kernel
theorem dDS_init_124 : decode c_DS_init 124 = .ok (.aload_n 0, 1) := by decide +kernel
theorem dDS_init_125 : decode c_DS_init 125 = .ok (.getfield 26, 3) := by decide +kernel
theorem dDS_init_128 : decode c_DS_init 128 = .ok (.imul, 1) := by decide +kernel
theorem dDS_init_129 : decode c_DS_init 129 = .ok (.putfield 80, 3) := by decide +kernel
theorem dDS_init_132 : decode c_DS_init 132 = .ok (.aload_n 0, 1) := by decide +kernel
theorem dDS_init_133 : decode c_DS_init 133 = .ok (.bipush 32, 2) := by decide +kernel
theorem dDS_init_135 : decode c_DS_init 135 = .ok (.sipush 320, 3) := by decide +kernel
theorem dDS_init_138 : decode c_DS_init 138 = .ok (.aload_n 0, 1) := by decide +kernel
theorem dDS_init_139 : decode c_DS_init 139 = .ok (.getfield 13, 3) := by decide +kernel
theorem dDS_init_142 : decode c_DS_init 142 = .ok (.imul, 1) := by decide +kernel
theorem dDS_init_143 : decode c_DS_init 143 = .ok (.iadd, 1) := by decide +kernel
theorem dDS_init_144 : decode c_DS_init 144 = .ok (.putfield 83, 3) := by decide +kernel
theorem dDS_init_147 : decode c_DS_init 147 = .ok (.aload_n 0, 1) := by decide +kernel
theorem dDS_init_148 : decode c_DS_init 148 = .ok (.sipush 128, 3) := by decide +kernel
theorem dDS_init_151 : decode c_DS_init 151 = .ok (.bipush 32, 2) := by decide +kernel
theorem dDS_init_153 : decode c_DS_init 153 = .ok (.aload_n 0, 1) := by decide +kernel
theorem dDS_init_154 : decode c_DS_init 154 = .ok (.getfield 32, 3) := by decide +kernel
theorem dDS_init_157 : decode c_DS_init 157 = .ok (.aload_n 0, 1) := by decide +kernel
theorem dDS_init_158 : decode c_DS_init 158 = .ok (.getfield 13, 3) := by decide +kernel
theorem dDS_init_161 : decode c_DS_init 161 = .ok (.aload_n 0, 1) := by decide +kernel
theorem dDS_init_162 : decode c_DS_init 162 = .ok (.getfield 20, 3) := by decide +kernel
theorem dDS_init_165 : decode c_DS_init 165 = .ok (.iadd, 1) := by decide +kernel
theorem dDS_init_166 : decode c_DS_init 166 = .ok (.imul, 1) := by decide +kernel
theorem dDS_init_167 : decode c_DS_init 167 = .ok (.bipush 13, 2) := by decide +kernel
theorem dDS_init_169 : decode c_DS_init 169 = .ok (.aload_n 0, 1) := by decide +kernel
theorem dDS_init_170 : decode c_DS_init 170 = .ok (.getfield 13, 3) := by decide +kernel
theorem dDS_init_173 : decode c_DS_init 173 = .ok (.imul, 1) := by decide +kernel
theorem dDS_init_174 : decode c_DS_init 174 = .ok (.iadd, 1) := by decide +kernel
theorem dDS_init_175 : decode c_DS_init 175 = .ok (.imul, 1) := by decide +kernel
theorem dDS_init_176 : decode c_DS_init 176 = .ok (.iadd, 1) := by decide +kernel
theorem dDS_init_177 : decode c_DS_init 177 = .ok (.putfield 86, 3) := by decide +kernel
theorem dDS_init_180 : decode c_DS_init 180 = .ok (.aload_n 0, 1) := by decide +kernel
theorem dDS_init_181 : decode c_DS_init 181 = .ok (.aload_n 0, 1) := by decide +kernel
theorem dDS_init_182 : decode c_DS_init 182 = .ok (.getfield 44, 3) := by decide +kernel
theorem dDS_init_185 : decode c_DS_init 185 = .ok (.bipush 32, 2) := by decide +kernel
theorem dDS_init_187 : decode c_DS_init 187 = .ok (.aload_n 0, 1) := by decide +kernel
theorem dDS_init_188 : decode c_DS_init 188 = .ok (.getfield 50, 3) := by decide +kernel
theorem dDS_init_191 : decode c_DS_init 191 = .ok (.imul, 1) := by decide +kernel
theorem dDS_init_192 : decode c_DS_init 192 = .ok (.aload_n 0, 1) := by decide +kernel
theorem dDS_init_193 : decode c_DS_init 193 = .ok (.getfield 20, 3) := by decide +kernel
theorem dDS_init_196 : decode c_DS_init 196 = .ok (.imul, 1) := by decide +kernel
theorem dDS_init_197 : decode c_DS_init 197 = .ok (.iadd, 1) := by decide +kernel
theorem dDS_init_198 : decode c_DS_init 198 = .ok (.putfield 89, 3) := by decide +kernel
theorem dDS_init_201 : decode c_DS_init 201 = .ok (.aload_n 0, 1) := by decide +kernel
theorem dDS_init_202 : decode c_DS_init 202 = .ok (.aload_n 0, 1) := by decide +kernel
theorem dDS_init_203 : decode c_DS_init 203 = .ok (.getfield 89, 3) := by decide +kernel
theorem dDS_init_206 : decode c_DS_init 206 = .ok (.aload_n 0, 1) := by decide +kernel
theorem dDS_init_207 : decode c_DS_init 207 = .ok (.getfield 77, 3) := by decide +kernel
theorem dDS_init_210 : decode c_DS_init 210 = .ok (.iadd, 1) := by decide +kernel
theorem dDS_init_211 : decode c_DS_init 211 = .ok (.aload_n 0, 1) := by decide +kernel
theorem dDS_init_212 : decode c_DS_init 212 = .ok (.getfield 13, 3) := by decide +kernel
theorem dDS_init_215 : decode c_DS_init 215 = .ok (.iadd, 1) := by decide +kernel
theorem dDS_init_216 : decode c_DS_init 216 = .ok (.putfield 92, 3) := by decide +kernel
theorem dDS_init_219 : decode c_DS_init 219 = .ok (.return_, 1) := by decide +kernel
set_option maxHeartbeats 400000 in
set_option maxRecDepth 100000 in
theorem m_KS_init_0 (l : Launch) (g : Gd) (sz : Nat) (h0 : Nat)  : Met l y_KS_init w_KS_init ({ frames := 1, cells := 0, slots := 0, locals := 12 } : Room) (va_Pc [.ref h0, .int (nI 0)] (pr (en g) g.1 vcl sz [(h0, .inr (1, [.int 0, .int 0, .int 0, .int 0, .int 0, .int 0, .int 0, .int 0, .int 0, .int 0]))])) (va_Qv (fun (u : Unit) => True) (po g.1 vcl (va_A [(h0, .inr (1, [.int 0, .int 0, .int 0, .int 0, .int 0, .int 0, .int 0, .int 0, .int 0, .int 0]))] sz) (fun (u : Unit) => [(h0, .inr (1, [.int (nI 2), .int (nI 3), .int (nI 10), .int (nI 4), .int (nI 800), .int (nI 1632), .int (nI 768), .int (nI 768), .int (nI 1568), .int (nI 1600)]))])) (va_A [(h0, .inr (1, [.int 0, .int 0, .int 0, .int 0, .int 0, .int 0, .int 0, .int 0, .int 0, .int 0]))] sz)) 0 0 (va_A [(h0, .inr (1, [.int 0, .int 0, .int 0, .int 0, .int 0, .int 0, .int 0, .int 0, .int 0, .int 0]))] sz) := by
  refine mc_entry (cc := c_KS_init) (maxL := 2) (ret := none) (by decide) rfl (Nat.le_of_ble_eq_true rfl) ?_
  intro p e s m args below meth c ls F hr hlk hnm hsz hP hD hE hA hl
  obtain ⟨hx, hb, hml, hown, hts⟩ := id F
  have hK := hE.1
  generalize va_A [(h0, .inr (1, [.int 0, .int 0, .int 0, .int 0, .int 0, .int 0, .int 0, .int 0, .int 0, .int 0]))] sz = A at hD hE hA ⊢
  have hS : va_S A s.heap s.heap [] := va_S.rf
  have hl : lv_has ls 2 [(0, .ref h0), (1, .int (nI 0))] := hl
  refine lv_aload_n hx hb dKS_init_0 rfl (lv_at hl 0 rfl) ?_
  refine W.objInit hx hb hown (hts _ (wg_t kw_221)) (hts _ (wg_t kw_41)) (hts _ (wg_t kobj)) rfl (by rw [hml]; exact hl.1) rfl dKS_init_1 (Nat.le_of_ble_eq_true rfl) (Nat.le_of_ble_eq_true rfl) ?_
  refine W.eq (g2 := F0 m 4 ls []) rfl ?_
  refine lv_aload_n hx hb dKS_init_4 rfl (lv_at hl 0 rfl) ?_
  refine va_gets hx hb (hE.2.1 5 _ rfl).1 hS hown (hts _ (wg_t kw_222)) (fun _ h9 => h9) dKS_init_5 ?_
  refine lv_iload_n hx hb dKS_init_8 rfl (lv_at hl 1 rfl) ?_
  refine va_ti (v := .int (nI 2)) hx hb (hE.2.1 5 _ rfl).2 hS (vp_in_nI (by decide) (by decide)) (by decide +kernel) dKS_init_9 ?_
  refine va_putF (D := g.1) (ci := 1) (v := .int (nI 2)) (ty := .int) (C := "LatticeKeys$KemSet") (T := T_KS) (N := 10) hx hb hts (wg_ft i_KS) ty_KS k_KS n_KS hown hK hP hD hS 0 rfl rfl 0 (by decide) (hts _ (wg_t kw_230)) (fun _ h9 => h9) rfl hnm rfl (by decide +kernel) rfl rfl (Nat.le_of_ble_eq_true rfl) dKS_init_10 (fun H locs hP hD hS => ?_)
  have hP : va_P g.1 vcl [(h0, .inr (1, [.int (nI 2), .int 0, .int 0, .int 0, .int 0, .int 0, .int 0, .int 0, .int 0, .int 0]))] _ := hP
  have hD : va_D _ [(h0, .inr (1, [.int (nI 2), .int 0, .int 0, .int 0, .int 0, .int 0, .int 0, .int 0, .int 0, .int 0]))] := hD
  refine lv_aload_n hx hb dKS_init_13 rfl (lv_at hl 0 rfl) ?_
  refine va_gets hx hb (hE.2.1 6 _ rfl).1 hS hown (hts _ (wg_t kw_224)) (fun _ h9 => h9) dKS_init_14 ?_
  refine lv_iload_n hx hb dKS_init_17 rfl (lv_at hl 1 rfl) ?_
  refine va_ti (v := .int (nI 3)) hx hb (hE.2.1 6 _ rfl).2 hS (vp_in_nI (by decide) (by decide)) (by decide +kernel) dKS_init_18 ?_
  refine va_putF (D := g.1) (ci := 1) (v := .int (nI 3)) (ty := .int) (C := "LatticeKeys$KemSet") (T := T_KS) (N := 10) hx hb hts (wg_ft i_KS) ty_KS k_KS n_KS hown hK hP hD hS 0 rfl rfl 1 (by decide) (hts _ (wg_t kw_232)) (fun _ h9 => h9) rfl hnm rfl (by decide +kernel) rfl rfl (Nat.le_of_ble_eq_true rfl) dKS_init_19 (fun H locs hP hD hS => ?_)
  have hP : va_P g.1 vcl [(h0, .inr (1, [.int (nI 2), .int (nI 3), .int 0, .int 0, .int 0, .int 0, .int 0, .int 0, .int 0, .int 0]))] _ := hP
  have hD : va_D _ [(h0, .inr (1, [.int (nI 2), .int (nI 3), .int 0, .int 0, .int 0, .int 0, .int 0, .int 0, .int 0, .int 0]))] := hD
  refine lv_aload_n hx hb dKS_init_22 rfl (lv_at hl 0 rfl) ?_
  refine va_gets hx hb (hE.2.1 7 _ rfl).1 hS hown (hts _ (wg_t kw_226)) (fun _ h9 => h9) dKS_init_23 ?_
  refine lv_iload_n hx hb dKS_init_26 rfl (lv_at hl 1 rfl) ?_
  refine va_ti (v := .int (nI 10)) hx hb (hE.2.1 7 _ rfl).2 hS (vp_in_nI (by decide) (by decide)) (by decide +kernel) dKS_init_27 ?_
  refine va_putF (D := g.1) (ci := 1) (v := .int (nI 10)) (ty := .int) (C := "LatticeKeys$KemSet") (T := T_KS) (N := 10) hx hb hts (wg_ft i_KS) ty_KS k_KS n_KS hown hK hP hD hS 0 rfl rfl 2 (by decide) (hts _ (wg_t kw_234)) (fun _ h9 => h9) rfl hnm rfl (by decide +kernel) rfl rfl (Nat.le_of_ble_eq_true rfl) dKS_init_28 (fun H locs hP hD hS => ?_)
  have hP : va_P g.1 vcl [(h0, .inr (1, [.int (nI 2), .int (nI 3), .int (nI 10), .int 0, .int 0, .int 0, .int 0, .int 0, .int 0, .int 0]))] _ := hP
  have hD : va_D _ [(h0, .inr (1, [.int (nI 2), .int (nI 3), .int (nI 10), .int 0, .int 0, .int 0, .int 0, .int 0, .int 0, .int 0]))] := hD
  refine lv_aload_n hx hb dKS_init_31 rfl (lv_at hl 0 rfl) ?_
  refine va_gets hx hb (hE.2.1 8 _ rfl).1 hS hown (hts _ (wg_t kw_228)) (fun _ h9 => h9) dKS_init_32 ?_
  refine lv_iload_n hx hb dKS_init_35 rfl (lv_at hl 1 rfl) ?_
  refine va_ti (v := .int (nI 4)) hx hb (hE.2.1 8 _ rfl).2 hS (vp_in_nI (by decide) (by decide)) (by decide +kernel) dKS_init_36 ?_
  refine va_putF (D := g.1) (ci := 1) (v := .int (nI 4)) (ty := .int) (C := "LatticeKeys$KemSet") (T := T_KS) (N := 10) hx hb hts (wg_ft i_KS) ty_KS k_KS n_KS hown hK hP hD hS 0 rfl rfl 3 (by decide) (hts _ (wg_t kw_236)) (fun _ h9 => h9) rfl hnm rfl (by decide +kernel) rfl rfl (Nat.le_of_ble_eq_true rfl) dKS_init_37 (fun H locs hP hD hS => ?_)
  have hP : va_P g.1 vcl [(h0, .inr (1, [.int (nI 2), .int (nI 3), .int (nI 10), .int (nI 4), .int 0, .int 0, .int 0, .int 0, .int 0, .int 0]))] _ := hP
  have hD : va_D _ [(h0, .inr (1, [.int (nI 2), .int (nI 3), .int (nI 10), .int (nI 4), .int 0, .int 0, .int 0, .int 0, .int 0, .int 0]))] := hD
  refine lv_aload_n hx hb dKS_init_40 rfl (lv_at hl 0 rfl) ?_
  refine lv_sipush (v := nI 384) hx hb dKS_init_41 (by decide) ?_
  refine lv_aload_n hx hb dKS_init_44 rfl (lv_at hl 0 rfl) ?_
  refine va_get (D := g.1) (ci := 1) (C := "LatticeKeys$KemSet") (T := T_KS) (N := 10) hx hb hts (wg_ft i_KS) hown hK hP 0 rfl rfl 0 (by decide) (hts _ (wg_t kw_230)) (fun _ h9 => h9) rfl dKS_init_45 ?_
  refine mi_imul hx hb dKS_init_48 ?_
  refine mi_as (show nI (384 * 2) = nI 768 from rfl) ?_
  refine lv_bipush (v := nI 32) hx hb dKS_init_49 (by decide) ?_
  refine mi_iadd hx hb dKS_init_51 ?_
  refine mi_as (show nI (768 + 32) = nI 800 from rfl) ?_
  refine va_putF (D := g.1) (ci := 1) (v := .int (nI 800)) (ty := .int) (C := "LatticeKeys$KemSet") (T := T_KS) (N := 10) hx hb hts (wg_ft i_KS) ty_KS k_KS n_KS hown hK hP hD hS 0 rfl rfl 4 (by decide) (hts _ (wg_t kw_238)) (fun _ h9 => h9) rfl hnm rfl (by decide +kernel) rfl rfl (Nat.le_of_ble_eq_true rfl) dKS_init_52 (fun H locs hP hD hS => ?_)
  have hP : va_P g.1 vcl [(h0, .inr (1, [.int (nI 2), .int (nI 3), .int (nI 10), .int (nI 4), .int (nI 800), .int 0, .int 0, .int 0, .int 0, .int 0]))] _ := hP
  have hD : va_D _ [(h0, .inr (1, [.int (nI 2), .int (nI 3), .int (nI 10), .int (nI 4), .int (nI 800), .int 0, .int 0, .int 0, .int 0, .int 0]))] := hD
  refine lv_aload_n hx hb dKS_init_55 rfl (lv_at hl 0 rfl) ?_
  refine lv_bipush (v := nI 32) hx hb dKS_init_56 (by decide) ?_
  refine lv_aload_n hx hb dKS_init_58 rfl (lv_at hl 0 rfl) ?_
  refine va_get (D := g.1) (ci := 1) (C := "LatticeKeys$KemSet") (T := T_KS) (N := 10) hx hb hts (wg_ft i_KS) hown hK hP 0 rfl rfl 2 (by decide) (hts _ (wg_t kw_234)) (fun _ h9 => h9) rfl dKS_init_59 ?_
  refine lv_aload_n hx hb dKS_init_62 rfl (lv_at hl 0 rfl) ?_
  refine va_get (D := g.1) (ci := 1) (C := "LatticeKeys$KemSet") (T := T_KS) (N := 10) hx hb hts (wg_ft i_KS) hown hK hP 0 rfl rfl 0 (by decide) (hts _ (wg_t kw_230)) (fun _ h9 => h9) rfl dKS_init_63 ?_
  refine mi_imul hx hb dKS_init_66 ?_
  refine mi_as (show nI (10 * 2) = nI 20 from rfl) ?_
  refine lv_aload_n hx hb dKS_init_67 rfl (lv_at hl 0 rfl) ?_
  refine va_get (D := g.1) (ci := 1) (C := "LatticeKeys$KemSet") (T := T_KS) (N := 10) hx hb hts (wg_ft i_KS) hown hK hP 0 rfl rfl 3 (by decide) (hts _ (wg_t kw_236)) (fun _ h9 => h9) rfl dKS_init_68 ?_
  refine mi_iadd hx hb dKS_init_71 ?_
  refine mi_as (show nI (20 + 4) = nI 24 from rfl) ?_
  refine mi_imul hx hb dKS_init_72 ?_
  refine mi_as (show nI (32 * 24) = nI 768 from rfl) ?_
  refine va_putF (D := g.1) (ci := 1) (v := .int (nI 768)) (ty := .int) (C := "LatticeKeys$KemSet") (T := T_KS) (N := 10) hx hb hts (wg_ft i_KS) ty_KS k_KS n_KS hown hK hP hD hS 0 rfl rfl 6 (by decide) (hts _ (wg_t kw_243)) (fun _ h9 => h9) rfl hnm rfl (by decide +kernel) rfl rfl (Nat.le_of_ble_eq_true rfl) dKS_init_73 (fun H locs hP hD hS => ?_)
  have hP : va_P g.1 vcl [(h0, .inr (1, [.int (nI 2), .int (nI 3), .int (nI 10), .int (nI 4), .int (nI 800), .int 0, .int (nI 768), .int 0, .int 0, .int 0]))] _ := hP
  have hD : va_D _ [(h0, .inr (1, [.int (nI 2), .int (nI 3), .int (nI 10), .int (nI 4), .int (nI 800), .int 0, .int (nI 768), .int 0, .int 0, .int 0]))] := hD
  refine lv_aload_n hx hb dKS_init_76 rfl (lv_at hl 0 rfl) ?_
  refine lv_sipush (v := nI 384) hx hb dKS_init_77 (by decide) ?_
  refine lv_aload_n hx hb dKS_init_80 rfl (lv_at hl 0 rfl) ?_
  refine va_get (D := g.1) (ci := 1) (C := "LatticeKeys$KemSet") (T := T_KS) (N := 10) hx hb hts (wg_ft i_KS) hown hK hP 0 rfl rfl 0 (by decide) (hts _ (wg_t kw_230)) (fun _ h9 => h9) rfl dKS_init_81 ?_
  refine mi_imul hx hb dKS_init_84 ?_
  refine mi_as (show nI (384 * 2) = nI 768 from rfl) ?_
  refine va_putF (D := g.1) (ci := 1) (v := .int (nI 768)) (ty := .int) (C := "LatticeKeys$KemSet") (T := T_KS) (N := 10) hx hb hts (wg_ft i_KS) ty_KS k_KS n_KS hown hK hP hD hS 0 rfl rfl 7 (by decide) (hts _ (wg_t kw_246)) (fun _ h9 => h9) rfl hnm rfl (by decide +kernel) rfl rfl (Nat.le_of_ble_eq_true rfl) dKS_init_85 (fun H locs hP hD hS => ?_)
  have hP : va_P g.1 vcl [(h0, .inr (1, [.int (nI 2), .int (nI 3), .int (nI 10), .int (nI 4), .int (nI 800), .int 0, .int (nI 768), .int (nI 768), .int 0, .int 0]))] _ := hP
  have hD : va_D _ [(h0, .inr (1, [.int (nI 2), .int (nI 3), .int (nI 10), .int (nI 4), .int (nI 800), .int 0, .int (nI 768), .int (nI 768), .int 0, .int 0]))] := hD
  refine lv_aload_n hx hb dKS_init_88 rfl (lv_at hl 0 rfl) ?_
  refine lv_aload_n hx hb dKS_init_89 rfl (lv_at hl 0 rfl) ?_
  refine va_get (D := g.1) (ci := 1) (C := "LatticeKeys$KemSet") (T := T_KS) (N := 10) hx hb hts (wg_ft i_KS) hown hK hP 0 rfl rfl 7 (by decide) (hts _ (wg_t kw_246)) (fun _ h9 => h9) rfl dKS_init_90 ?_
  refine lv_aload_n hx hb dKS_init_93 rfl (lv_at hl 0 rfl) ?_
  refine va_get (D := g.1) (ci := 1) (C := "LatticeKeys$KemSet") (T := T_KS) (N := 10) hx hb hts (wg_ft i_KS) hown hK hP 0 rfl rfl 4 (by decide) (hts _ (wg_t kw_238)) (fun _ h9 => h9) rfl dKS_init_94 ?_
  refine mi_iadd hx hb dKS_init_97 ?_
  refine mi_as (show nI (768 + 800) = nI 1568 from rfl) ?_
  refine va_putF (D := g.1) (ci := 1) (v := .int (nI 1568)) (ty := .int) (C := "LatticeKeys$KemSet") (T := T_KS) (N := 10) hx hb hts (wg_ft i_KS) ty_KS k_KS n_KS hown hK hP hD hS 0 rfl rfl 8 (by decide) (hts _ (wg_t kw_249)) (fun _ h9 => h9) rfl hnm rfl (by decide +kernel) rfl rfl (Nat.le_of_ble_eq_true rfl) dKS_init_98 (fun H locs hP hD hS => ?_)
  have hP : va_P g.1 vcl [(h0, .inr (1, [.int (nI 2), .int (nI 3), .int (nI 10), .int (nI 4), .int (nI 800), .int 0, .int (nI 768), .int (nI 768), .int (nI 1568), .int 0]))] _ := hP
  have hD : va_D _ [(h0, .inr (1, [.int (nI 2), .int (nI 3), .int (nI 10), .int (nI 4), .int (nI 800), .int 0, .int (nI 768), .int (nI 768), .int (nI 1568), .int 0]))] := hD
  refine lv_aload_n hx hb dKS_init_101 rfl (lv_at hl 0 rfl) ?_
  refine lv_aload_n hx hb dKS_init_102 rfl (lv_at hl 0 rfl) ?_
  refine va_get (D := g.1) (ci := 1) (C := "LatticeKeys$KemSet") (T := T_KS) (N := 10) hx hb hts (wg_ft i_KS) hown hK hP 0 rfl rfl 8 (by decide) (hts _ (wg_t kw_249)) (fun _ h9 => h9) rfl dKS_init_103 ?_
  refine lv_bipush (v := nI 32) hx hb dKS_init_106 (by decide) ?_
  refine mi_iadd hx hb dKS_init_108 ?_
  refine mi_as (show nI (1568 + 32) = nI 1600 from rfl) ?_
  refine va_putF (D := g.1) (ci := 1) (v := .int (nI 1600)) (ty := .int) (C := "LatticeKeys$KemSet") (T := T_KS) (N := 10) hx hb hts (wg_ft i_KS) ty_KS k_KS n_KS hown hK hP hD hS 0 rfl rfl 9 (by decide) (hts _ (wg_t kw_251)) (fun _ h9 => h9) rfl hnm rfl (by decide +kernel) rfl rfl (Nat.le_of_ble_eq_true rfl) dKS_init_109 (fun H locs hP hD hS => ?_)
  have hP : va_P g.1 vcl [(h0, .inr (1, [.int (nI 2), .int (nI 3), .int (nI 10), .int (nI 4), .int (nI 800), .int 0, .int (nI 768), .int (nI 768), .int (nI 1568), .int (nI 1600)]))] _ := hP
  have hD : va_D _ [(h0, .inr (1, [.int (nI 2), .int (nI 3), .int (nI 10), .int (nI 4), .int (nI 800), .int 0, .int (nI 768), .int (nI 768), .int (nI 1568), .int (nI 1600)]))] := hD
  refine lv_aload_n hx hb dKS_init_112 rfl (lv_at hl 0 rfl) ?_
  refine lv_aload_n hx hb dKS_init_113 rfl (lv_at hl 0 rfl) ?_
  refine va_get (D := g.1) (ci := 1) (C := "LatticeKeys$KemSet") (T := T_KS) (N := 10) hx hb hts (wg_ft i_KS) hown hK hP 0 rfl rfl 9 (by decide) (hts _ (wg_t kw_251)) (fun _ h9 => h9) rfl dKS_init_114 ?_
  refine lv_bipush (v := nI 32) hx hb dKS_init_117 (by decide) ?_
  refine mi_iadd hx hb dKS_init_119 ?_
  refine mi_as (show nI (1600 + 32) = nI 1632 from rfl) ?_
  refine va_putF (D := g.1) (ci := 1) (v := .int (nI 1632)) (ty := .int) (C := "LatticeKeys$KemSet") (T := T_KS) (N := 10) hx hb hts (wg_ft i_KS) ty_KS k_KS n_KS hown hK hP hD hS 0 rfl rfl 5 (by decide) (hts _ (wg_t kw_241)) (fun _ h9 => h9) rfl hnm rfl (by decide +kernel) rfl rfl (Nat.le_of_ble_eq_true rfl) dKS_init_120 (fun H locs hP hD hS => ?_)
  have hP : va_P g.1 vcl [(h0, .inr (1, [.int (nI 2), .int (nI 3), .int (nI 10), .int (nI 4), .int (nI 800), .int (nI 1632), .int (nI 768), .int (nI 768), .int (nI 1568), .int (nI 1600)]))] _ := hP
  have hD : va_D _ [(h0, .inr (1, [.int (nI 2), .int (nI 3), .int (nI 10), .int (nI 4), .int (nI 800), .int (nI 1632), .int (nI 768), .int (nI 768), .int (nI 1568), .int (nI 1600)]))] := hD
  exact mc_vret hx hb hr hlk hP hD hS () trivial [0] rfl rfl (by omega) (by omega) dKS_init_123
set_option maxHeartbeats 400000 in
set_option maxRecDepth 100000 in
theorem m_KS_init_1 (l : Launch) (g : Gd) (sz : Nat) (h0 : Nat)  : Met l y_KS_init w_KS_init ({ frames := 1, cells := 0, slots := 0, locals := 12 } : Room) (va_Pc [.ref h0, .int (nI 1)] (pr (en g) g.1 vcl sz [(h0, .inr (1, [.int 0, .int 0, .int 0, .int 0, .int 0, .int 0, .int 0, .int 0, .int 0, .int 0]))])) (va_Qv (fun (u : Unit) => True) (po g.1 vcl (va_A [(h0, .inr (1, [.int 0, .int 0, .int 0, .int 0, .int 0, .int 0, .int 0, .int 0, .int 0, .int 0]))] sz) (fun (u : Unit) => [(h0, .inr (1, [.int (nI 3), .int (nI 2), .int (nI 10), .int (nI 4), .int (nI 1184), .int (nI 2400), .int (nI 1088), .int (nI 1152), .int (nI 2336), .int (nI 2368)]))])) (va_A [(h0, .inr (1, [.int 0, .int 0, .int 0, .int 0, .int 0, .int 0, .int 0, .int 0, .int 0, .int 0]))] sz)) 0 0 (va_A [(h0, .inr (1, [.int 0, .int 0, .int 0, .int 0, .int 0, .int 0, .int 0, .int 0, .int 0, .int 0]))] sz) := by
  refine mc_entry (cc := c_KS_init) (maxL := 2) (ret := none) (by decide) rfl (Nat.le_of_ble_eq_true rfl) ?_
  intro p e s m args below meth c ls F hr hlk hnm hsz hP hD hE hA hl
  obtain ⟨hx, hb, hml, hown, hts⟩ := id F
  have hK := hE.1
  generalize va_A [(h0, .inr (1, [.int 0, .int 0, .int 0, .int 0, .int 0, .int 0, .int 0, .int 0, .int 0, .int 0]))] sz = A at hD hE hA ⊢
  have hS : va_S A s.heap s.heap [] := va_S.rf
  have hl : lv_has ls 2 [(0, .ref h0), (1, .int (nI 1))] := hl
  refine lv_aload_n hx hb dKS_init_0 rfl (lv_at hl 0 rfl) ?_
  refine W.objInit hx hb hown (hts _ (wg_t kw_221)) (hts _ (wg_t kw_41)) (hts _ (wg_t kobj)) rfl (by rw [hml]; exact hl.1) rfl dKS_init_1 (Nat.le_of_ble_eq_true rfl) (Nat.le_of_ble_eq_true rfl) ?_
  refine W.eq (g2 := F0 m 4 ls []) rfl ?_
  refine lv_aload_n hx hb dKS_init_4 rfl (lv_at hl 0 rfl) ?_
  refine va_gets hx hb (hE.2.1 5 _ rfl).1 hS hown (hts _ (wg_t kw_222)) (fun _ h9 => h9) dKS_init_5 ?_
  refine lv_iload_n hx hb dKS_init_8 rfl (lv_at hl 1 rfl) ?_
  refine va_ti (v := .int (nI 3)) hx hb (hE.2.1 5 _ rfl).2 hS (vp_in_nI (by decide) (by decide)) (by decide +kernel) dKS_init_9 ?_
  refine va_putF (D := g.1) (ci := 1) (v := .int (nI 3)) (ty := .int) (C := "LatticeKeys$KemSet") (T := T_KS) (N := 10) hx hb hts (wg_ft i_KS) ty_KS k_KS n_KS hown hK hP hD hS 0 rfl rfl 0 (by decide) (hts _ (wg_t kw_230)) (fun _ h9 => h9) rfl hnm rfl (by decide +kernel) rfl rfl (Nat.le_of_ble_eq_true rfl) dKS_init_10 (fun H locs hP hD hS => ?_)
  have hP : va_P g.1 vcl [(h0, .inr (1, [.int (nI 3), .int 0, .int 0, .int 0, .int 0, .int 0, .int 0, .int 0, .int 0, .int 0]))] _ := hP
  have hD : va_D _ [(h0, .inr (1, [.int (nI 3), .int 0, .int 0, .int 0, .int 0, .int 0, .int 0, .int 0, .int 0, .int 0]))] := hD
  refine lv_aload_n hx hb dKS_init_13 rfl (lv_at hl 0 rfl) ?_
  refine va_gets hx hb (hE.2.1 6 _ rfl).1 hS hown (hts _ (wg_t kw_224)) (fun _ h9 => h9) dKS_init_14 ?_
  refine lv_iload_n hx hb dKS_init_17 rfl (lv_at hl 1 rfl) ?_
  refine va_ti (v := .int (nI 2)) hx hb (hE.2.1 6 _ rfl).2 hS (vp_in_nI (by decide) (by decide)) (by decide +kernel) dKS_init_18 ?_
  refine va_putF (D := g.1) (ci := 1) (v := .int (nI 2)) (ty := .int) (C := "LatticeKeys$KemSet") (T := T_KS) (N := 10) hx hb hts (wg_ft i_KS) ty_KS k_KS n_KS hown hK hP hD hS 0 rfl rfl 1 (by decide) (hts _ (wg_t kw_232)) (fun _ h9 => h9) rfl hnm rfl (by decide +kernel) rfl rfl (Nat.le_of_ble_eq_true rfl) dKS_init_19 (fun H locs hP hD hS => ?_)
  have hP : va_P g.1 vcl [(h0, .inr (1, [.int (nI 3), .int (nI 2), .int 0, .int 0, .int 0, .int 0, .int 0, .int 0, .int 0, .int 0]))] _ := hP
  have hD : va_D _ [(h0, .inr (1, [.int (nI 3), .int (nI 2), .int 0, .int 0, .int 0, .int 0, .int 0, .int 0, .int 0, .int 0]))] := hD
  refine lv_aload_n hx hb dKS_init_22 rfl (lv_at hl 0 rfl) ?_
  refine va_gets hx hb (hE.2.1 7 _ rfl).1 hS hown (hts _ (wg_t kw_226)) (fun _ h9 => h9) dKS_init_23 ?_
  refine lv_iload_n hx hb dKS_init_26 rfl (lv_at hl 1 rfl) ?_
  refine va_ti (v := .int (nI 10)) hx hb (hE.2.1 7 _ rfl).2 hS (vp_in_nI (by decide) (by decide)) (by decide +kernel) dKS_init_27 ?_
  refine va_putF (D := g.1) (ci := 1) (v := .int (nI 10)) (ty := .int) (C := "LatticeKeys$KemSet") (T := T_KS) (N := 10) hx hb hts (wg_ft i_KS) ty_KS k_KS n_KS hown hK hP hD hS 0 rfl rfl 2 (by decide) (hts _ (wg_t kw_234)) (fun _ h9 => h9) rfl hnm rfl (by decide +kernel) rfl rfl (Nat.le_of_ble_eq_true rfl) dKS_init_28 (fun H locs hP hD hS => ?_)
  have hP : va_P g.1 vcl [(h0, .inr (1, [.int (nI 3), .int (nI 2), .int (nI 10), .int 0, .int 0, .int 0, .int 0, .int 0, .int 0, .int 0]))] _ := hP
  have hD : va_D _ [(h0, .inr (1, [.int (nI 3), .int (nI 2), .int (nI 10), .int 0, .int 0, .int 0, .int 0, .int 0, .int 0, .int 0]))] := hD
  refine lv_aload_n hx hb dKS_init_31 rfl (lv_at hl 0 rfl) ?_
  refine va_gets hx hb (hE.2.1 8 _ rfl).1 hS hown (hts _ (wg_t kw_228)) (fun _ h9 => h9) dKS_init_32 ?_
  refine lv_iload_n hx hb dKS_init_35 rfl (lv_at hl 1 rfl) ?_
  refine va_ti (v := .int (nI 4)) hx hb (hE.2.1 8 _ rfl).2 hS (vp_in_nI (by decide) (by decide)) (by decide +kernel) dKS_init_36 ?_
  refine va_putF (D := g.1) (ci := 1) (v := .int (nI 4)) (ty := .int) (C := "LatticeKeys$KemSet") (T := T_KS) (N := 10) hx hb hts (wg_ft i_KS) ty_KS k_KS n_KS hown hK hP hD hS 0 rfl rfl 3 (by decide) (hts _ (wg_t kw_236)) (fun _ h9 => h9) rfl hnm rfl (by decide +kernel) rfl rfl (Nat.le_of_ble_eq_true rfl) dKS_init_37 (fun H locs hP hD hS => ?_)
  have hP : va_P g.1 vcl [(h0, .inr (1, [.int (nI 3), .int (nI 2), .int (nI 10), .int (nI 4), .int 0, .int 0, .int 0, .int 0, .int 0, .int 0]))] _ := hP
  have hD : va_D _ [(h0, .inr (1, [.int (nI 3), .int (nI 2), .int (nI 10), .int (nI 4), .int 0, .int 0, .int 0, .int 0, .int 0, .int 0]))] := hD
  refine lv_aload_n hx hb dKS_init_40 rfl (lv_at hl 0 rfl) ?_
  refine lv_sipush (v := nI 384) hx hb dKS_init_41 (by decide) ?_
  refine lv_aload_n hx hb dKS_init_44 rfl (lv_at hl 0 rfl) ?_
  refine va_get (D := g.1) (ci := 1) (C := "LatticeKeys$KemSet") (T := T_KS) (N := 10) hx hb hts (wg_ft i_KS) hown hK hP 0 rfl rfl 0 (by decide) (hts _ (wg_t kw_230)) (fun _ h9 => h9) rfl dKS_init_45 ?_
  refine mi_imul hx hb dKS_init_48 ?_
  refine mi_as (show nI (384 * 3) = nI 1152 from rfl) ?_
  refine lv_bipush (v := nI 32) hx hb dKS_init_49 (by decide) ?_
  refine mi_iadd hx hb dKS_init_51 ?_
  refine mi_as (show nI (1152 + 32) = nI 1184 from rfl) ?_
  refine va_putF (D := g.1) (ci := 1) (v := .int (nI 1184)) (ty := .int) (C := "LatticeKeys$KemSet") (T := T_KS) (N := 10) hx hb hts (wg_ft i_KS) ty_KS k_KS n_KS hown hK hP hD hS 0 rfl rfl 4 (by decide) (hts _ (wg_t kw_238)) (fun _ h9 => h9) rfl hnm rfl (by decide +kernel) rfl rfl (Nat.le_of_ble_eq_true rfl) dKS_init_52 (fun H locs hP hD hS => ?_)
  have hP : va_P g.1 vcl [(h0, .inr (1, [.int (nI 3), .int (nI 2), .int (nI 10), .int (nI 4), .int (nI 1184), .int 0, .int 0, .int 0, .int 0, .int 0]))] _ := hP
  have hD : va_D _ [(h0, .inr (1, [.int (nI 3), .int (nI 2), .int (nI 10), .int (nI 4), .int (nI 1184), .int 0, .int 0, .int 0, .int 0, .int 0]))] := hD
  refine lv_aload_n hx hb dKS_init_55 rfl (lv_at hl 0 rfl) ?_
  refine lv_bipush (v := nI 32) hx hb dKS_init_56 (by decide) ?_
  refine lv_aload_n hx hb dKS_init_58 rfl (lv_at hl 0 rfl) ?_
  refine va_get (D := g.1) (ci := 1) (C := "LatticeKeys$KemSet") (T := T_KS) (N := 10) hx hb hts (wg_ft i_KS) hown hK hP 0 rfl rfl 2 (by decide) (hts _ (wg_t kw_234)) (fun _ h9 => h9) rfl dKS_init_59 ?_
  refine lv_aload_n hx hb dKS_init_62 rfl (lv_at hl 0 rfl) ?_
  refine va_get (D := g.1) (ci := 1) (C := "LatticeKeys$KemSet") (T := T_KS) (N := 10) hx hb hts (wg_ft i_KS) hown hK hP 0 rfl rfl 0 (by decide) (hts _ (wg_t kw_230)) (fun _ h9 => h9) rfl dKS_init_63 ?_
  refine mi_imul hx hb dKS_init_66 ?_
  refine mi_as (show nI (10 * 3) = nI 30 from rfl) ?_
  refine lv_aload_n hx hb dKS_init_67 rfl (lv_at hl 0 rfl) ?_
  refine va_get (D := g.1) (ci := 1) (C := "LatticeKeys$KemSet") (T := T_KS) (N := 10) hx hb hts (wg_ft i_KS) hown hK hP 0 rfl rfl 3 (by decide) (hts _ (wg_t kw_236)) (fun _ h9 => h9) rfl dKS_init_68 ?_
  refine mi_iadd hx hb dKS_init_71 ?_
  refine mi_as (show nI (30 + 4) = nI 34 from rfl) ?_
  refine mi_imul hx hb dKS_init_72 ?_
  refine mi_as (show nI (32 * 34) = nI 1088 from rfl) ?_
  refine va_putF (D := g.1) (ci := 1) (v := .int (nI 1088)) (ty := .int) (C := "LatticeKeys$KemSet") (T := T_KS) (N := 10) hx hb hts (wg_ft i_KS) ty_KS k_KS n_KS hown hK hP hD hS 0 rfl rfl 6 (by decide) (hts _ (wg_t kw_243)) (fun _ h9 => h9) rfl hnm rfl (by decide +kernel) rfl rfl (Nat.le_of_ble_eq_true rfl) dKS_init_73 (fun H locs hP hD hS => ?_)
  have hP : va_P g.1 vcl [(h0, .inr (1, [.int (nI 3), .int (nI 2), .int (nI 10), .int (nI 4), .int (nI 1184), .int 0, .int (nI 1088), .int 0, .int 0, .int 0]))] _ := hP
  have hD : va_D _ [(h0, .inr (1, [.int (nI 3), .int (nI 2), .int (nI 10), .int (nI 4), .int (nI 1184), .int 0, .int (nI 1088), .int 0, .int 0, .int 0]))] := hD
  refine lv_aload_n hx hb dKS_init_76 rfl (lv_at hl 0 rfl) ?_
  refine lv_sipush (v := nI 384) hx hb dKS_init_77 (by decide) ?_
  refine lv_aload_n hx hb dKS_init_80 rfl (lv_at hl 0 rfl) ?_
  refine va_get (D := g.1) (ci := 1) (C := "LatticeKeys$KemSet") (T := T_KS) (N := 10) hx hb hts (wg_ft i_KS) hown hK hP 0 rfl rfl 0 (by decide) (hts _ (wg_t kw_230)) (fun _ h9 => h9) rfl dKS_init_81 ?_
  refine mi_imul hx hb dKS_init_84 ?_
  refine mi_as (show nI (384 * 3) = nI 1152 from rfl) ?_
  refine va_putF (D := g.1) (ci := 1) (v := .int (nI 1152)) (ty := .int) (C := "LatticeKeys$KemSet") (T := T_KS) (N := 10) hx hb hts (wg_ft i_KS) ty_KS k_KS n_KS hown hK hP hD hS 0 rfl rfl 7 (by decide) (hts _ (wg_t kw_246)) (fun _ h9 => h9) rfl hnm rfl (by decide +kernel) rfl rfl (Nat.le_of_ble_eq_true rfl) dKS_init_85 (fun H locs hP hD hS => ?_)
  have hP : va_P g.1 vcl [(h0, .inr (1, [.int (nI 3), .int (nI 2), .int (nI 10), .int (nI 4), .int (nI 1184), .int 0, .int (nI 1088), .int (nI 1152), .int 0, .int 0]))] _ := hP
  have hD : va_D _ [(h0, .inr (1, [.int (nI 3), .int (nI 2), .int (nI 10), .int (nI 4), .int (nI 1184), .int 0, .int (nI 1088), .int (nI 1152), .int 0, .int 0]))] := hD
  refine lv_aload_n hx hb dKS_init_88 rfl (lv_at hl 0 rfl) ?_
  refine lv_aload_n hx hb dKS_init_89 rfl (lv_at hl 0 rfl) ?_
  refine va_get (D := g.1) (ci := 1) (C := "LatticeKeys$KemSet") (T := T_KS) (N := 10) hx hb hts (wg_ft i_KS) hown hK hP 0 rfl rfl 7 (by decide) (hts _ (wg_t kw_246)) (fun _ h9 => h9) rfl dKS_init_90 ?_
  refine lv_aload_n hx hb dKS_init_93 rfl (lv_at hl 0 rfl) ?_
  refine va_get (D := g.1) (ci := 1) (C := "LatticeKeys$KemSet") (T := T_KS) (N := 10) hx hb hts (wg_ft i_KS) hown hK hP 0 rfl rfl 4 (by decide) (hts _ (wg_t kw_238)) (fun _ h9 => h9) rfl dKS_init_94 ?_
  refine mi_iadd hx hb dKS_init_97 ?_
  refine mi_as (show nI (1152 + 1184) = nI 2336 from rfl) ?_
  refine va_putF (D := g.1) (ci := 1) (v := .int (nI 2336)) (ty := .int) (C := "LatticeKeys$KemSet") (T := T_KS) (N := 10) hx hb hts (wg_ft i_KS) ty_KS k_KS n_KS hown hK hP hD hS 0 rfl rfl 8 (by decide) (hts _ (wg_t kw_249)) (fun _ h9 => h9) rfl hnm rfl (by decide +kernel) rfl rfl (Nat.le_of_ble_eq_true rfl) dKS_init_98 (fun H locs hP hD hS => ?_)
  have hP : va_P g.1 vcl [(h0, .inr (1, [.int (nI 3), .int (nI 2), .int (nI 10), .int (nI 4), .int (nI 1184), .int 0, .int (nI 1088), .int (nI 1152), .int (nI 2336), .int 0]))] _ := hP
  have hD : va_D _ [(h0, .inr (1, [.int (nI 3), .int (nI 2), .int (nI 10), .int (nI 4), .int (nI 1184), .int 0, .int (nI 1088), .int (nI 1152), .int (nI 2336), .int 0]))] := hD
  refine lv_aload_n hx hb dKS_init_101 rfl (lv_at hl 0 rfl) ?_
  refine lv_aload_n hx hb dKS_init_102 rfl (lv_at hl 0 rfl) ?_
  refine va_get (D := g.1) (ci := 1) (C := "LatticeKeys$KemSet") (T := T_KS) (N := 10) hx hb hts (wg_ft i_KS) hown hK hP 0 rfl rfl 8 (by decide) (hts _ (wg_t kw_249)) (fun _ h9 => h9) rfl dKS_init_103 ?_
  refine lv_bipush (v := nI 32) hx hb dKS_init_106 (by decide) ?_
  refine mi_iadd hx hb dKS_init_108 ?_
  refine mi_as (show nI (2336 + 32) = nI 2368 from rfl) ?_
  refine va_putF (D := g.1) (ci := 1) (v := .int (nI 2368)) (ty := .int) (C := "LatticeKeys$KemSet") (T := T_KS) (N := 10) hx hb hts (wg_ft i_KS) ty_KS k_KS n_KS hown hK hP hD hS 0 rfl rfl 9 (by decide) (hts _ (wg_t kw_251)) (fun _ h9 => h9) rfl hnm rfl (by decide +kernel) rfl rfl (Nat.le_of_ble_eq_true rfl) dKS_init_109 (fun H locs hP hD hS => ?_)
  have hP : va_P g.1 vcl [(h0, .inr (1, [.int (nI 3), .int (nI 2), .int (nI 10), .int (nI 4), .int (nI 1184), .int 0, .int (nI 1088), .int (nI 1152), .int (nI 2336), .int (nI 2368)]))] _ := hP
  have hD : va_D _ [(h0, .inr (1, [.int (nI 3), .int (nI 2), .int (nI 10), .int (nI 4), .int (nI 1184), .int 0, .int (nI 1088), .int (nI 1152), .int (nI 2336), .int (nI 2368)]))] := hD
  refine lv_aload_n hx hb dKS_init_112 rfl (lv_at hl 0 rfl) ?_
  refine lv_aload_n hx hb dKS_init_113 rfl (lv_at hl 0 rfl) ?_
  refine va_get (D := g.1) (ci := 1) (C := "LatticeKeys$KemSet") (T := T_KS) (N := 10) hx hb hts (wg_ft i_KS) hown hK hP 0 rfl rfl 9 (by decide) (hts _ (wg_t kw_251)) (fun _ h9 => h9) rfl dKS_init_114 ?_
  refine lv_bipush (v := nI 32) hx hb dKS_init_117 (by decide) ?_
  refine mi_iadd hx hb dKS_init_119 ?_
  refine mi_as (show nI (2368 + 32) = nI 2400 from rfl) ?_
  refine va_putF (D := g.1) (ci := 1) (v := .int (nI 2400)) (ty := .int) (C := "LatticeKeys$KemSet") (T := T_KS) (N := 10) hx hb hts (wg_ft i_KS) ty_KS k_KS n_KS hown hK hP hD hS 0 rfl rfl 5 (by decide) (hts _ (wg_t kw_241)) (fun _ h9 => h9) rfl hnm rfl (by decide +kernel) rfl rfl (Nat.le_of_ble_eq_true rfl) dKS_init_120 (fun H locs hP hD hS => ?_)
  have hP : va_P g.1 vcl [(h0, .inr (1, [.int (nI 3), .int (nI 2), .int (nI 10), .int (nI 4), .int (nI 1184), .int (nI 2400), .int (nI 1088), .int (nI 1152), .int (nI 2336), .int (nI 2368)]))] _ := hP
  have hD : va_D _ [(h0, .inr (1, [.int (nI 3), .int (nI 2), .int (nI 10), .int (nI 4), .int (nI 1184), .int (nI 2400), .int (nI 1088), .int (nI 1152), .int (nI 2336), .int (nI 2368)]))] := hD
  exact mc_vret hx hb hr hlk hP hD hS () trivial [0] rfl rfl (by omega) (by omega) dKS_init_123
set_option maxHeartbeats 400000 in
set_option maxRecDepth 100000 in
theorem m_KS_init_2 (l : Launch) (g : Gd) (sz : Nat) (h0 : Nat)  : Met l y_KS_init w_KS_init ({ frames := 1, cells := 0, slots := 0, locals := 12 } : Room) (va_Pc [.ref h0, .int (nI 2)] (pr (en g) g.1 vcl sz [(h0, .inr (1, [.int 0, .int 0, .int 0, .int 0, .int 0, .int 0, .int 0, .int 0, .int 0, .int 0]))])) (va_Qv (fun (u : Unit) => True) (po g.1 vcl (va_A [(h0, .inr (1, [.int 0, .int 0, .int 0, .int 0, .int 0, .int 0, .int 0, .int 0, .int 0, .int 0]))] sz) (fun (u : Unit) => [(h0, .inr (1, [.int (nI 4), .int (nI 2), .int (nI 11), .int (nI 5), .int (nI 1568), .int (nI 3168), .int (nI 1568), .int (nI 1536), .int (nI 3104), .int (nI 3136)]))])) (va_A [(h0, .inr (1, [.int 0, .int 0, .int 0, .int 0, .int 0, .int 0, .int 0, .int 0, .int 0, .int 0]))] sz)) 0 0 (va_A [(h0, .inr (1, [.int 0, .int 0, .int 0, .int 0, .int 0, .int 0, .int 0, .int 0, .int 0, .int 0]))] sz) := by
  refine mc_entry (cc := c_KS_init) (maxL := 2) (ret := none) (by decide) rfl (Nat.le_of_ble_eq_true rfl) ?_
  intro p e s m args below meth c ls F hr hlk hnm hsz hP hD hE hA hl
  obtain ⟨hx, hb, hml, hown, hts⟩ := id F
  have hK := hE.1
  generalize va_A [(h0, .inr (1, [.int 0, .int 0, .int 0, .int 0, .int 0, .int 0, .int 0, .int 0, .int 0, .int 0]))] sz = A at hD hE hA ⊢
  have hS : va_S A s.heap s.heap [] := va_S.rf
  have hl : lv_has ls 2 [(0, .ref h0), (1, .int (nI 2))] := hl
  refine lv_aload_n hx hb dKS_init_0 rfl (lv_at hl 0 rfl) ?_
  refine W.objInit hx hb hown (hts _ (wg_t kw_221)) (hts _ (wg_t kw_41)) (hts _ (wg_t kobj)) rfl (by rw [hml]; exact hl.1) rfl dKS_init_1 (Nat.le_of_ble_eq_true rfl) (Nat.le_of_ble_eq_true rfl) ?_
  refine W.eq (g2 := F0 m 4 ls []) rfl ?_
  refine lv_aload_n hx hb dKS_init_4 rfl (lv_at hl 0 rfl) ?_
  refine va_gets hx hb (hE.2.1 5 _ rfl).1 hS hown (hts _ (wg_t kw_222)) (fun _ h9 => h9) dKS_init_5 ?_
  refine lv_iload_n hx hb dKS_init_8 rfl (lv_at hl 1 rfl) ?_
  refine va_ti (v := .int (nI 4)) hx hb (hE.2.1 5 _ rfl).2 hS (vp_in_nI (by decide) (by decide)) (by decide +kernel) dKS_init_9 ?_
  refine va_putF (D := g.1) (ci := 1) (v := .int (nI 4)) (ty := .int) (C := "LatticeKeys$KemSet") (T := T_KS) (N := 10) hx hb hts (wg_ft i_KS) ty_KS k_KS n_KS hown hK hP hD hS 0 rfl rfl 0 (by decide) (hts _ (wg_t kw_230)) (fun _ h9 => h9) rfl hnm rfl (by decide +kernel) rfl rfl (Nat.le_of_ble_eq_true rfl) dKS_init_10 (fun H locs hP hD hS => ?_)
  have hP : va_P g.1 vcl [(h0, .inr (1, [.int (nI 4), .int 0, .int 0, .int 0, .int 0, .int 0, .int 0, .int 0, .int 0, .int 0]))] _ := hP
  have hD : va_D _ [(h0, .inr (1, [.int (nI 4), .int 0, .int 0, .int 0, .int 0, .int 0, .int 0, .int 0, .int 0, .int 0]))] := hD
  refine lv_aload_n hx hb dKS_init_13 rfl (lv_at hl 0 rfl) ?_
  refine va_gets hx hb (hE.2.1 6 _ rfl).1 hS hown (hts _ (wg_t kw_224)) (fun _ h9 => h9) dKS_init_14 ?_
  refine lv_iload_n hx hb dKS_init_17 rfl (lv_at hl 1 rfl) ?_
  refine va_ti (v := .int (nI 2)) hx hb (hE.2.1 6 _ rfl).2 hS (vp_in_nI (by decide) (by decide)) (by decide +kernel) dKS_init_18 ?_
  refine va_putF (D := g.1) (ci := 1) (v := .int (nI 2)) (ty := .int) (C := "LatticeKeys$KemSet") (T := T_KS) (N := 10) hx hb hts (wg_ft i_KS) ty_KS k_KS n_KS hown hK hP hD hS 0 rfl rfl 1 (by decide) (hts _ (wg_t kw_232)) (fun _ h9 => h9) rfl hnm rfl (by decide +kernel) rfl rfl (Nat.le_of_ble_eq_true rfl) dKS_init_19 (fun H locs hP hD hS => ?_)
  have hP : va_P g.1 vcl [(h0, .inr (1, [.int (nI 4), .int (nI 2), .int 0, .int 0, .int 0, .int 0, .int 0, .int 0, .int 0, .int 0]))] _ := hP
  have hD : va_D _ [(h0, .inr (1, [.int (nI 4), .int (nI 2), .int 0, .int 0, .int 0, .int 0, .int 0, .int 0, .int 0, .int 0]))] := hD
  refine lv_aload_n hx hb dKS_init_22 rfl (lv_at hl 0 rfl) ?_
  refine va_gets hx hb (hE.2.1 7 _ rfl).1 hS hown (hts _ (wg_t kw_226)) (fun _ h9 => h9) dKS_init_23 ?_
  refine lv_iload_n hx hb dKS_init_26 rfl (lv_at hl 1 rfl) ?_
  refine va_ti (v := .int (nI 11)) hx hb (hE.2.1 7 _ rfl).2 hS (vp_in_nI (by decide) (by decide)) (by decide +kernel) dKS_init_27 ?_
  refine va_putF (D := g.1) (ci := 1) (v := .int (nI 11)) (ty := .int) (C := "LatticeKeys$KemSet") (T := T_KS) (N := 10) hx hb hts (wg_ft i_KS) ty_KS k_KS n_KS hown hK hP hD hS 0 rfl rfl 2 (by decide) (hts _ (wg_t kw_234)) (fun _ h9 => h9) rfl hnm rfl (by decide +kernel) rfl rfl (Nat.le_of_ble_eq_true rfl) dKS_init_28 (fun H locs hP hD hS => ?_)
  have hP : va_P g.1 vcl [(h0, .inr (1, [.int (nI 4), .int (nI 2), .int (nI 11), .int 0, .int 0, .int 0, .int 0, .int 0, .int 0, .int 0]))] _ := hP
  have hD : va_D _ [(h0, .inr (1, [.int (nI 4), .int (nI 2), .int (nI 11), .int 0, .int 0, .int 0, .int 0, .int 0, .int 0, .int 0]))] := hD
  refine lv_aload_n hx hb dKS_init_31 rfl (lv_at hl 0 rfl) ?_
  refine va_gets hx hb (hE.2.1 8 _ rfl).1 hS hown (hts _ (wg_t kw_228)) (fun _ h9 => h9) dKS_init_32 ?_
  refine lv_iload_n hx hb dKS_init_35 rfl (lv_at hl 1 rfl) ?_
  refine va_ti (v := .int (nI 5)) hx hb (hE.2.1 8 _ rfl).2 hS (vp_in_nI (by decide) (by decide)) (by decide +kernel) dKS_init_36 ?_
  refine va_putF (D := g.1) (ci := 1) (v := .int (nI 5)) (ty := .int) (C := "LatticeKeys$KemSet") (T := T_KS) (N := 10) hx hb hts (wg_ft i_KS) ty_KS k_KS n_KS hown hK hP hD hS 0 rfl rfl 3 (by decide) (hts _ (wg_t kw_236)) (fun _ h9 => h9) rfl hnm rfl (by decide +kernel) rfl rfl (Nat.le_of_ble_eq_true rfl) dKS_init_37 (fun H locs hP hD hS => ?_)
  have hP : va_P g.1 vcl [(h0, .inr (1, [.int (nI 4), .int (nI 2), .int (nI 11), .int (nI 5), .int 0, .int 0, .int 0, .int 0, .int 0, .int 0]))] _ := hP
  have hD : va_D _ [(h0, .inr (1, [.int (nI 4), .int (nI 2), .int (nI 11), .int (nI 5), .int 0, .int 0, .int 0, .int 0, .int 0, .int 0]))] := hD
  refine lv_aload_n hx hb dKS_init_40 rfl (lv_at hl 0 rfl) ?_
  refine lv_sipush (v := nI 384) hx hb dKS_init_41 (by decide) ?_
  refine lv_aload_n hx hb dKS_init_44 rfl (lv_at hl 0 rfl) ?_
  refine va_get (D := g.1) (ci := 1) (C := "LatticeKeys$KemSet") (T := T_KS) (N := 10) hx hb hts (wg_ft i_KS) hown hK hP 0 rfl rfl 0 (by decide) (hts _ (wg_t kw_230)) (fun _ h9 => h9) rfl dKS_init_45 ?_
  refine mi_imul hx hb dKS_init_48 ?_
  refine mi_as (show nI (384 * 4) = nI 1536 from rfl) ?_
  refine lv_bipush (v := nI 32) hx hb dKS_init_49 (by decide) ?_
  refine mi_iadd hx hb dKS_init_51 ?_
  refine mi_as (show nI (1536 + 32) = nI 1568 from rfl) ?_
  refine va_putF (D := g.1) (ci := 1) (v := .int (nI 1568)) (ty := .int) (C := "LatticeKeys$KemSet") (T := T_KS) (N := 10) hx hb hts (wg_ft i_KS) ty_KS k_KS n_KS hown hK hP hD hS 0 rfl rfl 4 (by decide) (hts _ (wg_t kw_238)) (fun _ h9 => h9) rfl hnm rfl (by decide +kernel) rfl rfl (Nat.le_of_ble_eq_true rfl) dKS_init_52 (fun H locs hP hD hS => ?_)
  have hP : va_P g.1 vcl [(h0, .inr (1, [.int (nI 4), .int (nI 2), .int (nI 11), .int (nI 5), .int (nI 1568), .int 0, .int 0, .int 0, .int 0, .int 0]))] _ := hP
  have hD : va_D _ [(h0, .inr (1, [.int (nI 4), .int (nI 2), .int (nI 11), .int (nI 5), .int (nI 1568), .int 0, .int 0, .int 0, .int 0, .int 0]))] := hD
  refine lv_aload_n hx hb dKS_init_55 rfl (lv_at hl 0 rfl) ?_
  refine lv_bipush (v := nI 32) hx hb dKS_init_56 (by decide) ?_
  refine lv_aload_n hx hb dKS_init_58 rfl (lv_at hl 0 rfl) ?_
  refine va_get (D := g.1) (ci := 1) (C := "LatticeKeys$KemSet") (T := T_KS) (N := 10) hx hb hts (wg_ft i_KS) hown hK hP 0 rfl rfl 2 (by decide) (hts _ (wg_t kw_234)) (fun _ h9 => h9) rfl dKS_init_59 ?_
  refine lv_aload_n hx hb dKS_init_62 rfl (lv_at hl 0 rfl) ?_
  refine va_get (D := g.1) (ci := 1) (C := "LatticeKeys$KemSet") (T := T_KS) (N := 10) hx hb hts (wg_ft i_KS) hown hK hP 0 rfl rfl 0 (by decide) (hts _ (wg_t kw_230)) (fun _ h9 => h9) rfl dKS_init_63 ?_
  refine mi_imul hx hb dKS_init_66 ?_
  refine mi_as (show nI (11 * 4) = nI 44 from rfl) ?_
  refine lv_aload_n hx hb dKS_init_67 rfl (lv_at hl 0 rfl) ?_
  refine va_get (D := g.1) (ci := 1) (C := "LatticeKeys$KemSet") (T := T_KS) (N := 10) hx hb hts (wg_ft i_KS) hown hK hP 0 rfl rfl 3 (by decide) (hts _ (wg_t kw_236)) (fun _ h9 => h9) rfl dKS_init_68 ?_
  refine mi_iadd hx hb dKS_init_71 ?_
  refine mi_as (show nI (44 + 5) = nI 49 from rfl) ?_
  refine mi_imul hx hb dKS_init_72 ?_
  refine mi_as (show nI (32 * 49) = nI 1568 from rfl) ?_
  refine va_putF (D := g.1) (ci := 1) (v := .int (nI 1568)) (ty := .int) (C := "LatticeKeys$KemSet") (T := T_KS) (N := 10) hx hb hts (wg_ft i_KS) ty_KS k_KS n_KS hown hK hP hD hS 0 rfl rfl 6 (by decide) (hts _ (wg_t kw_243)) (fun _ h9 => h9) rfl hnm rfl (by decide +kernel) rfl rfl (Nat.le_of_ble_eq_true rfl) dKS_init_73 (fun H locs hP hD hS => ?_)
  have hP : va_P g.1 vcl [(h0, .inr (1, [.int (nI 4), .int (nI 2), .int (nI 11), .int (nI 5), .int (nI 1568), .int 0, .int (nI 1568), .int 0, .int 0, .int 0]))] _ := hP
  have hD : va_D _ [(h0, .inr (1, [.int (nI 4), .int (nI 2), .int (nI 11), .int (nI 5), .int (nI 1568), .int 0, .int (nI 1568), .int 0, .int 0, .int 0]))] := hD
  refine lv_aload_n hx hb dKS_init_76 rfl (lv_at hl 0 rfl) ?_
  refine lv_sipush (v := nI 384) hx hb dKS_init_77 (by decide) ?_
  refine lv_aload_n hx hb dKS_init_80 rfl (lv_at hl 0 rfl) ?_
  refine va_get (D := g.1) (ci := 1) (C := "LatticeKeys$KemSet") (T := T_KS) (N := 10) hx hb hts (wg_ft i_KS) hown hK hP 0 rfl rfl 0 (by decide) (hts _ (wg_t kw_230)) (fun _ h9 => h9) rfl dKS_init_81 ?_
  refine mi_imul hx hb dKS_init_84 ?_
  refine mi_as (show nI (384 * 4) = nI 1536 from rfl) ?_
  refine va_putF (D := g.1) (ci := 1) (v := .int (nI 1536)) (ty := .int) (C := "LatticeKeys$KemSet") (T := T_KS) (N := 10) hx hb hts (wg_ft i_KS) ty_KS k_KS n_KS hown hK hP hD hS 0 rfl rfl 7 (by decide) (hts _ (wg_t kw_246)) (fun _ h9 => h9) rfl hnm rfl (by decide +kernel) rfl rfl (Nat.le_of_ble_eq_true rfl) dKS_init_85 (fun H locs hP hD hS => ?_)
  have hP : va_P g.1 vcl [(h0, .inr (1, [.int (nI 4), .int (nI 2), .int (nI 11), .int (nI 5), .int (nI 1568), .int 0, .int (nI 1568), .int (nI 1536), .int 0, .int 0]))] _ := hP
  have hD : va_D _ [(h0, .inr (1, [.int (nI 4), .int (nI 2), .int (nI 11), .int (nI 5), .int (nI 1568), .int 0, .int (nI 1568), .int (nI 1536), .int 0, .int 0]))] := hD
  refine lv_aload_n hx hb dKS_init_88 rfl (lv_at hl 0 rfl) ?_
  refine lv_aload_n hx hb dKS_init_89 rfl (lv_at hl 0 rfl) ?_
  refine va_get (D := g.1) (ci := 1) (C := "LatticeKeys$KemSet") (T := T_KS) (N := 10) hx hb hts (wg_ft i_KS) hown hK hP 0 rfl rfl 7 (by decide) (hts _ (wg_t kw_246)) (fun _ h9 => h9) rfl dKS_init_90 ?_
  refine lv_aload_n hx hb dKS_init_93 rfl (lv_at hl 0 rfl) ?_
  refine va_get (D := g.1) (ci := 1) (C := "LatticeKeys$KemSet") (T := T_KS) (N := 10) hx hb hts (wg_ft i_KS) hown hK hP 0 rfl rfl 4 (by decide) (hts _ (wg_t kw_238)) (fun _ h9 => h9) rfl dKS_init_94 ?_
  refine mi_iadd hx hb dKS_init_97 ?_
  refine mi_as (show nI (1536 + 1568) = nI 3104 from rfl) ?_
  refine va_putF (D := g.1) (ci := 1) (v := .int (nI 3104)) (ty := .int) (C := "LatticeKeys$KemSet") (T := T_KS) (N := 10) hx hb hts (wg_ft i_KS) ty_KS k_KS n_KS hown hK hP hD hS 0 rfl rfl 8 (by decide) (hts _ (wg_t kw_249)) (fun _ h9 => h9) rfl hnm rfl (by decide +kernel) rfl rfl (Nat.le_of_ble_eq_true rfl) dKS_init_98 (fun H locs hP hD hS => ?_)
  have hP : va_P g.1 vcl [(h0, .inr (1, [.int (nI 4), .int (nI 2), .int (nI 11), .int (nI 5), .int (nI 1568), .int 0, .int (nI 1568), .int (nI 1536), .int (nI 3104), .int 0]))] _ := hP
  have hD : va_D _ [(h0, .inr (1, [.int (nI 4), .int (nI 2), .int (nI 11), .int (nI 5), .int (nI 1568), .int 0, .int (nI 1568), .int (nI 1536), .int (nI 3104), .int 0]))] := hD
  refine lv_aload_n hx hb dKS_init_101 rfl (lv_at hl 0 rfl) ?_
  refine lv_aload_n hx hb dKS_init_102 rfl (lv_at hl 0 rfl) ?_
  refine va_get (D := g.1) (ci := 1) (C := "LatticeKeys$KemSet") (T := T_KS) (N := 10) hx hb hts (wg_ft i_KS) hown hK hP 0 rfl rfl 8 (by decide) (hts _ (wg_t kw_249)) (fun _ h9 => h9) rfl dKS_init_103 ?_
  refine lv_bipush (v := nI 32) hx hb dKS_init_106 (by decide) ?_
  refine mi_iadd hx hb dKS_init_108 ?_
  refine mi_as (show nI (3104 + 32) = nI 3136 from rfl) ?_
  refine va_putF (D := g.1) (ci := 1) (v := .int (nI 3136)) (ty := .int) (C := "LatticeKeys$KemSet") (T := T_KS) (N := 10) hx hb hts (wg_ft i_KS) ty_KS k_KS n_KS hown hK hP hD hS 0 rfl rfl 9 (by decide) (hts _ (wg_t kw_251)) (fun _ h9 => h9) rfl hnm rfl (by decide +kernel) rfl rfl (Nat.le_of_ble_eq_true rfl) dKS_init_109 (fun H locs hP hD hS => ?_)
  have hP : va_P g.1 vcl [(h0, .inr (1, [.int (nI 4), .int (nI 2), .int (nI 11), .int (nI 5), .int (nI 1568), .int 0, .int (nI 1568), .int (nI 1536), .int (nI 3104), .int (nI 3136)]))] _ := hP
  have hD : va_D _ [(h0, .inr (1, [.int (nI 4), .int (nI 2), .int (nI 11), .int (nI 5), .int (nI 1568), .int 0, .int (nI 1568), .int (nI 1536), .int (nI 3104), .int (nI 3136)]))] := hD
  refine lv_aload_n hx hb dKS_init_112 rfl (lv_at hl 0 rfl) ?_
  refine lv_aload_n hx hb dKS_init_113 rfl (lv_at hl 0 rfl) ?_
  refine va_get (D := g.1) (ci := 1) (C := "LatticeKeys$KemSet") (T := T_KS) (N := 10) hx hb hts (wg_ft i_KS) hown hK hP 0 rfl rfl 9 (by decide) (hts _ (wg_t kw_251)) (fun _ h9 => h9) rfl dKS_init_114 ?_
  refine lv_bipush (v := nI 32) hx hb dKS_init_117 (by decide) ?_
  refine mi_iadd hx hb dKS_init_119 ?_
  refine mi_as (show nI (3136 + 32) = nI 3168 from rfl) ?_
  refine va_putF (D := g.1) (ci := 1) (v := .int (nI 3168)) (ty := .int) (C := "LatticeKeys$KemSet") (T := T_KS) (N := 10) hx hb hts (wg_ft i_KS) ty_KS k_KS n_KS hown hK hP hD hS 0 rfl rfl 5 (by decide) (hts _ (wg_t kw_241)) (fun _ h9 => h9) rfl hnm rfl (by decide +kernel) rfl rfl (Nat.le_of_ble_eq_true rfl) dKS_init_120 (fun H locs hP hD hS => ?_)
  have hP : va_P g.1 vcl [(h0, .inr (1, [.int (nI 4), .int (nI 2), .int (nI 11), .int (nI 5), .int (nI 1568), .int (nI 3168), .int (nI 1568), .int (nI 1536), .int (nI 3104), .int (nI 3136)]))] _ := hP
  have hD : va_D _ [(h0, .inr (1, [.int (nI 4), .int (nI 2), .int (nI 11), .int (nI 5), .int (nI 1568), .int (nI 3168), .int (nI 1568), .int (nI 1536), .int (nI 3104), .int (nI 3136)]))] := hD
  exact mc_vret hx hb hr hlk hP hD hS () trivial [0] rfl rfl (by omega) (by omega) dKS_init_123
set_option maxHeartbeats 400000 in
set_option maxRecDepth 100000 in
theorem m_DS_init_0 (l : Launch) (g : Gd) (sz : Nat) (h0 : Nat)  : Met l y_DS_init w_DS_init ({ frames := 1, cells := 0, slots := 0, locals := 12 } : Room) (va_Pc [.ref h0, .int (nI 0)] (pr (en g) g.1 vcl sz [(h0, .inr (2, [.int 0, .int 0, .int 0, .int 0, .int 0, .int 0, .int 0, .int 0, .int 0, .int 0, .int 0, .int 0, .int 0, .int 0, .int 0, .int 0, .int 0]))])) (va_Qv (fun (u : Unit) => True) (po g.1 vcl (va_A [(h0, .inr (2, [.int 0, .int 0, .int 0, .int 0, .int 0, .int 0, .int 0, .int 0, .int 0, .int 0, .int 0, .int 0, .int 0, .int 0, .int 0, .int 0, .int 0]))] sz) (fun (u : Unit) => [(h0, .inr (2, [.int (nI 4), .int (nI 4), .int (nI 2), .int (nI 3), .int (nI 39), .int (nI 32), .int (nI 18), .int (nI 131072), .int (nI 44), .int (nI 6), .int (nI 95232), .int (nI 80), .int (nI 78), .int (nI 1312), .int (nI 2560), .int (nI 2336), .int (nI 2420)]))])) (va_A [(h0, .inr (2, [.int 0, .int 0, .int 0, .int 0, .int 0, .int 0, .int 0, .int 0, .int 0, .int 0, .int 0, .int 0, .int 0, .int 0, .int 0, .int 0, .int 0]))] sz)) 0 0 (va_A [(h0, .inr (2, [.int 0, .int 0, .int 0, .int 0, .int 0, .int 0, .int 0, .int 0, .int 0, .int 0, .int 0, .int 0, .int 0, .int 0, .int 0, .int 0, .int 0]))] sz) := by
  refine mc_entry (cc := c_DS_init) (maxL := 2) (ret := none) (by decide) rfl (Nat.le_of_ble_eq_true rfl) ?_
  intro p e s m args below meth c ls F hr hlk hnm hsz hP hD hE hA hl
  obtain ⟨hx, hb, hml, hown, hts⟩ := id F
  have hK := hE.1
  generalize va_A [(h0, .inr (2, [.int 0, .int 0, .int 0, .int 0, .int 0, .int 0, .int 0, .int 0, .int 0, .int 0, .int 0, .int 0, .int 0, .int 0, .int 0, .int 0, .int 0]))] sz = A at hD hE hA ⊢
  have hS : va_S A s.heap s.heap [] := va_S.rf
  have hl : lv_has ls 2 [(0, .ref h0), (1, .int (nI 0))] := hl
  refine lv_aload_n hx hb dDS_init_0 rfl (lv_at hl 0 rfl) ?_
  refine W.objInit hx hb hown (hts _ (wg_t kw_278)) (hts _ (wg_t kw_41)) (hts _ (wg_t kobj)) rfl (by rw [hml]; exact hl.1) rfl dDS_init_1 (Nat.le_of_ble_eq_true rfl) (Nat.le_of_ble_eq_true rfl) ?_
  refine W.eq (g2 := F0 m 4 ls []) rfl ?_
  refine lv_aload_n hx hb dDS_init_4 rfl (lv_at hl 0 rfl) ?_
  refine va_gets hx hb (hE.2.1 9 _ rfl).1 hS hown (hts _ (wg_t kw_279)) (fun _ h9 => h9) dDS_init_5 ?_
  refine lv_iload_n hx hb dDS_init_8 rfl (lv_at hl 1 rfl) ?_
  refine va_ti (v := .int (nI 4)) hx hb (hE.2.1 9 _ rfl).2 hS (vp_in_nI (by decide) (by decide)) (by decide +kernel) dDS_init_9 ?_
  refine va_putF (D := g.1) (ci := 2) (v := .int (nI 4)) (ty := .int) (C := "LatticeKeys$DsaSet") (T := T_DS) (N := 17) hx hb hts (wg_ft i_DS) ty_DS k_DS n_DS hown hK hP hD hS 0 rfl rfl 0 (by decide) (hts _ (wg_t kw_300)) (fun _ h9 => h9) rfl hnm rfl (by decide +kernel) rfl rfl (Nat.le_of_ble_eq_true rfl) dDS_init_10 (fun H locs hP hD hS => ?_)
  have hP : va_P g.1 vcl [(h0, .inr (2, [.int (nI 4), .int 0, .int 0, .int 0, .int 0, .int 0, .int 0, .int 0, .int 0, .int 0, .int 0, .int 0, .int 0, .int 0, .int 0, .int 0, .int 0]))] _ := hP
  have hD : va_D _ [(h0, .inr (2, [.int (nI 4), .int 0, .int 0, .int 0, .int 0, .int 0, .int 0, .int 0, .int 0, .int 0, .int 0, .int 0, .int 0, .int 0, .int 0, .int 0, .int 0]))] := hD
  refine lv_aload_n hx hb dDS_init_13 rfl (lv_at hl 0 rfl) ?_
  refine va_gets hx hb (hE.2.1 10 _ rfl).1 hS hown (hts _ (wg_t kw_281)) (fun _ h9 => h9) dDS_init_14 ?_
  refine lv_iload_n hx hb dDS_init_17 rfl (lv_at hl 1 rfl) ?_
  refine va_ti (v := .int (nI 4)) hx hb (hE.2.1 10 _ rfl).2 hS (vp_in_nI (by decide) (by decide)) (by decide +kernel) dDS_init_18 ?_
  refine va_putF (D := g.1) (ci := 2) (v := .int (nI 4)) (ty := .int) (C := "LatticeKeys$DsaSet") (T := T_DS) (N := 17) hx hb hts (wg_ft i_DS) ty_DS k_DS n_DS hown hK hP hD hS 0 rfl rfl 1 (by decide) (hts _ (wg_t kw_303)) (fun _ h9 => h9) rfl hnm rfl (by decide +kernel) rfl rfl (Nat.le_of_ble_eq_true rfl) dDS_init_19 (fun H locs hP hD hS => ?_)
  have hP : va_P g.1 vcl [(h0, .inr (2, [.int (nI 4), .int (nI 4), .int 0, .int 0, .int 0, .int 0, .int 0, .int 0, .int 0, .int 0, .int 0, .int 0, .int 0, .int 0, .int 0, .int 0, .int 0]))] _ := hP
  have hD : va_D _ [(h0, .inr (2, [.int (nI 4), .int (nI 4), .int 0, .int 0, .int 0, .int 0, .int 0, .int 0, .int 0, .int 0, .int 0, .int 0, .int 0, .int 0, .int 0, .int 0, .int 0]))] := hD
  refine lv_aload_n hx hb dDS_init_22 rfl (lv_at hl 0 rfl) ?_
  refine va_gets hx hb (hE.2.1 11 _ rfl).1 hS hown (hts _ (wg_t kw_283)) (fun _ h9 => h9) dDS_init_23 ?_
  refine lv_iload_n hx hb dDS_init_26 rfl (lv_at hl 1 rfl) ?_
  refine va_ti (v := .int (nI 2)) hx hb (hE.2.1 11 _ rfl).2 hS (vp_in_nI (by decide) (by decide)) (by decide +kernel) dDS_init_27 ?_
  refine va_putF (D := g.1) (ci := 2) (v := .int (nI 2)) (ty := .int) (C := "LatticeKeys$DsaSet") (T := T_DS) (N := 17) hx hb hts (wg_ft i_DS) ty_DS k_DS n_DS hown hK hP hD hS 0 rfl rfl 2 (by decide) (hts _ (wg_t kw_306)) (fun _ h9 => h9) rfl hnm rfl (by decide +kernel) rfl rfl (Nat.le_of_ble_eq_true rfl) dDS_init_28 (fun H locs hP hD hS => ?_)
  have hP : va_P g.1 vcl [(h0, .inr (2, [.int (nI 4), .int (nI 4), .int (nI 2), .int 0, .int 0, .int 0, .int 0, .int 0, .int 0, .int 0, .int 0, .int 0, .int 0, .int 0, .int 0, .int 0, .int 0]))] _ := hP
  have hD : va_D _ [(h0, .inr (2, [.int (nI 4), .int (nI 4), .int (nI 2), .int 0, .int 0, .int 0, .int 0, .int 0, .int 0, .int 0, .int 0, .int 0, .int 0, .int 0, .int 0, .int 0, .int 0]))] := hD
  refine lv_aload_n hx hb dDS_init_31 rfl (lv_at hl 0 rfl) ?_
  refine va_gets hx hb (hE.2.1 12 _ rfl).1 hS hown (hts _ (wg_t kw_285)) (fun _ h9 => h9) dDS_init_32 ?_
  refine lv_iload_n hx hb dDS_init_35 rfl (lv_at hl 1 rfl) ?_
  refine va_ti (v := .int (nI 3)) hx hb (hE.2.1 12 _ rfl).2 hS (vp_in_nI (by decide) (by decide)) (by decide +kernel) dDS_init_36 ?_
  refine va_putF (D := g.1) (ci := 2) (v := .int (nI 3)) (ty := .int) (C := "LatticeKeys$DsaSet") (T := T_DS) (N := 17) hx hb hts (wg_ft i_DS) ty_DS k_DS n_DS hown hK hP hD hS 0 rfl rfl 3 (by decide) (hts _ (wg_t kw_309)) (fun _ h9 => h9) rfl hnm rfl (by decide +kernel) rfl rfl (Nat.le_of_ble_eq_true rfl) dDS_init_37 (fun H locs hP hD hS => ?_)
  have hP : va_P g.1 vcl [(h0, .inr (2, [.int (nI 4), .int (nI 4), .int (nI 2), .int (nI 3), .int 0, .int 0, .int 0, .int 0, .int 0, .int 0, .int 0, .int 0, .int 0, .int 0, .int 0, .int 0, .int 0]))] _ := hP
  have hD : va_D _ [(h0, .inr (2, [.int (nI 4), .int (nI 4), .int (nI 2), .int (nI 3), .int 0, .int 0, .int 0, .int 0, .int 0, .int 0, .int 0, .int 0, .int 0, .int 0, .int 0, .int 0, .int 0]))] := hD
  refine lv_aload_n hx hb dDS_init_40 rfl (lv_at hl 0 rfl) ?_
  refine va_gets hx hb (hE.2.1 13 _ rfl).1 hS hown (hts _ (wg_t kw_287)) (fun _ h9 => h9) dDS_init_41 ?_
  refine lv_iload_n hx hb dDS_init_44 rfl (lv_at hl 1 rfl) ?_
  refine va_ti (v := .int (nI 39)) hx hb (hE.2.1 13 _ rfl).2 hS (vp_in_nI (by decide) (by decide)) (by decide +kernel) dDS_init_45 ?_
  refine va_putF (D := g.1) (ci := 2) (v := .int (nI 39)) (ty := .int) (C := "LatticeKeys$DsaSet") (T := T_DS) (N := 17) hx hb hts (wg_ft i_DS) ty_DS k_DS n_DS hown hK hP hD hS 0 rfl rfl 4 (by decide) (hts _ (wg_t kw_311)) (fun _ h9 => h9) rfl hnm rfl (by decide +kernel) rfl rfl (Nat.le_of_ble_eq_true rfl) dDS_init_46 (fun H locs hP hD hS => ?_)
  have hP : va_P g.1 vcl [(h0, .inr (2, [.int (nI 4), .int (nI 4), .int (nI 2), .int (nI 3), .int (nI 39), .int 0, .int 0, .int 0, .int 0, .int 0, .int 0, .int 0, .int 0, .int 0, .int 0, .int 0, .int 0]))] _ := hP
  have hD : va_D _ [(h0, .inr (2, [.int (nI 4), .int (nI 4), .int (nI 2), .int (nI 3), .int (nI 39), .int 0, .int 0, .int 0, .int 0, .int 0, .int 0, .int 0, .int 0, .int 0, .int 0, .int 0, .int 0]))] := hD
  refine lv_aload_n hx hb dDS_init_49 rfl (lv_at hl 0 rfl) ?_
  refine va_gets hx hb (hE.2.1 14 _ rfl).1 hS hown (hts _ (wg_t kw_289)) (fun _ h9 => h9) dDS_init_50 ?_
  refine lv_iload_n hx hb dDS_init_53 rfl (lv_at hl 1 rfl) ?_
  refine va_ti (v := .int (nI 32)) hx hb (hE.2.1 14 _ rfl).2 hS (vp_in_nI (by decide) (by decide)) (by decide +kernel) dDS_init_54 ?_
  refine va_putF (D := g.1) (ci := 2) (v := .int (nI 32)) (ty := .int) (C := "LatticeKeys$DsaSet") (T := T_DS) (N := 17) hx hb hts (wg_ft i_DS) ty_DS k_DS n_DS hown hK hP hD hS 0 rfl rfl 5 (by decide) (hts _ (wg_t kw_313)) (fun _ h9 => h9) rfl hnm rfl (by decide +kernel) rfl rfl (Nat.le_of_ble_eq_true rfl) dDS_init_55 (fun H locs hP hD hS => ?_)
  have hP : va_P g.1 vcl [(h0, .inr (2, [.int (nI 4), .int (nI 4), .int (nI 2), .int (nI 3), .int (nI 39), .int (nI 32), .int 0, .int 0, .int 0, .int 0, .int 0, .int 0, .int 0, .int 0, .int 0, .int 0, .int 0]))] _ := hP
  have hD : va_D _ [(h0, .inr (2, [.int (nI 4), .int (nI 4), .int (nI 2), .int (nI 3), .int (nI 39), .int (nI 32), .int 0, .int 0, .int 0, .int 0, .int 0, .int 0, .int 0, .int 0, .int 0, .int 0, .int 0]))] := hD
  refine lv_aload_n hx hb dDS_init_58 rfl (lv_at hl 0 rfl) ?_
  refine va_gets hx hb (hE.2.1 15 _ rfl).1 hS hown (hts _ (wg_t kw_291)) (fun _ h9 => h9) dDS_init_59 ?_
  refine lv_iload_n hx hb dDS_init_62 rfl (lv_at hl 1 rfl) ?_
  refine va_ti (v := .int (nI 18)) hx hb (hE.2.1 15 _ rfl).2 hS (vp_in_nI (by decide) (by decide)) (by decide +kernel) dDS_init_63 ?_
  refine va_putF (D := g.1) (ci := 2) (v := .int (nI 18)) (ty := .int) (C := "LatticeKeys$DsaSet") (T := T_DS) (N := 17) hx hb hts (wg_ft i_DS) ty_DS k_DS n_DS hown hK hP hD hS 0 rfl rfl 6 (by decide) (hts _ (wg_t kw_316)) (fun _ h9 => h9) rfl hnm rfl (by decide +kernel) rfl rfl (Nat.le_of_ble_eq_true rfl) dDS_init_64 (fun H locs hP hD hS => ?_)
  have hP : va_P g.1 vcl [(h0, .inr (2, [.int (nI 4), .int (nI 4), .int (nI 2), .int (nI 3), .int (nI 39), .int (nI 32), .int (nI 18), .int 0, .int 0, .int 0, .int 0, .int 0, .int 0, .int 0, .int 0, .int 0, .int 0]))] _ := hP
  have hD : va_D _ [(h0, .inr (2, [.int (nI 4), .int (nI 4), .int (nI 2), .int (nI 3), .int (nI 39), .int (nI 32), .int (nI 18), .int 0, .int 0, .int 0, .int 0, .int 0, .int 0, .int 0, .int 0, .int 0, .int 0]))] := hD
  refine lv_aload_n hx hb dDS_init_67 rfl (lv_at hl 0 rfl) ?_
  refine lv_iconst (v := nI 1) hx hb dDS_init_68 (by decide) ?_
  refine lv_aload_n hx hb dDS_init_69 rfl (lv_at hl 0 rfl) ?_
  refine va_get (D := g.1) (ci := 2) (C := "LatticeKeys$DsaSet") (T := T_DS) (N := 17) hx hb hts (wg_ft i_DS) hown hK hP 0 rfl rfl 6 (by decide) (hts _ (wg_t kw_316)) (fun _ h9 => h9) rfl dDS_init_70 ?_
  refine lv_iconst (v := nI 1) hx hb dDS_init_73 (by decide) ?_
  refine mi_isub hx hb dDS_init_74 (by omega) ?_
  refine mi_as (show nI (18 - 1) = nI 17 from rfl) ?_
  refine mi_ishl hx hb dDS_init_75 (by decide) (by decide) ?_
  refine mi_as (show nI (1 * 2 ^ 17) = nI 131072 from rfl) ?_
  refine va_putF (D := g.1) (ci := 2) (v := .int (nI 131072)) (ty := .int) (C := "LatticeKeys$DsaSet") (T := T_DS) (N := 17) hx hb hts (wg_ft i_DS) ty_DS k_DS n_DS hown hK hP hD hS 0 rfl rfl 7 (by decide) (hts _ (wg_t kw_319)) (fun _ h9 => h9) rfl hnm rfl (by decide +kernel) rfl rfl (Nat.le_of_ble_eq_true rfl) dDS_init_76 (fun H locs hP hD hS => ?_)
  have hP : va_P g.1 vcl [(h0, .inr (2, [.int (nI 4), .int (nI 4), .int (nI 2), .int (nI 3), .int (nI 39), .int (nI 32), .int (nI 18), .int (nI 131072), .int 0, .int 0, .int 0, .int 0, .int 0, .int 0, .int 0, .int 0, .int 0]))] _ := hP
  have hD : va_D _ [(h0, .inr (2, [.int (nI 4), .int (nI 4), .int (nI 2), .int (nI 3), .int (nI 39), .int (nI 32), .int (nI 18), .int (nI 131072), .int 0, .int 0, .int 0, .int 0, .int 0, .int 0, .int 0, .int 0, .int 0]))] := hD
  refine lv_aload_n hx hb dDS_init_79 rfl (lv_at hl 0 rfl) ?_
  refine va_gets hx hb (hE.2.1 16 _ rfl).1 hS hown (hts _ (wg_t kw_293)) (fun _ h9 => h9) dDS_init_80 ?_
  refine lv_iload_n hx hb dDS_init_83 rfl (lv_at hl 1 rfl) ?_
  refine va_ti (v := .int (nI 44)) hx hb (hE.2.1 16 _ rfl).2 hS (vp_in_nI (by decide) (by decide)) (by decide +kernel) dDS_init_84 ?_
  refine va_putF (D := g.1) (ci := 2) (v := .int (nI 44)) (ty := .int) (C := "LatticeKeys$DsaSet") (T := T_DS) (N := 17) hx hb hts (wg_ft i_DS) ty_DS k_DS n_DS hown hK hP hD hS 0 rfl rfl 8 (by decide) (hts _ (wg_t kw_321)) (fun _ h9 => h9) rfl hnm rfl (by decide +kernel) rfl rfl (Nat.le_of_ble_eq_true rfl) dDS_init_85 (fun H locs hP hD hS => ?_)
  have hP : va_P g.1 vcl [(h0, .inr (2, [.int (nI 4), .int (nI 4), .int (nI 2), .int (nI 3), .int (nI 39), .int (nI 32), .int (nI 18), .int (nI 131072), .int (nI 44), .int 0, .int 0, .int 0, .int 0, .int 0, .int 0, .int 0, .int 0]))] _ := hP
  have hD : va_D _ [(h0, .inr (2, [.int (nI 4), .int (nI 4), .int (nI 2), .int (nI 3), .int (nI 39), .int (nI 32), .int (nI 18), .int (nI 131072), .int (nI 44), .int 0, .int 0, .int 0, .int 0, .int 0, .int 0, .int 0, .int 0]))] := hD
  refine lv_aload_n hx hb dDS_init_88 rfl (lv_at hl 0 rfl) ?_
  refine va_gets hx hb (hE.2.1 17 _ rfl).1 hS hown (hts _ (wg_t kw_295)) (fun _ h9 => h9) dDS_init_89 ?_
  refine lv_iload_n hx hb dDS_init_92 rfl (lv_at hl 1 rfl) ?_
  refine va_ti (v := .int (nI 6)) hx hb (hE.2.1 17 _ rfl).2 hS (vp_in_nI (by decide) (by decide)) (by decide +kernel) dDS_init_93 ?_
  refine va_putF (D := g.1) (ci := 2) (v := .int (nI 6)) (ty := .int) (C := "LatticeKeys$DsaSet") (T := T_DS) (N := 17) hx hb hts (wg_ft i_DS) ty_DS k_DS n_DS hown hK hP hD hS 0 rfl rfl 9 (by decide) (hts _ (wg_t kw_322)) (fun _ h9 => h9) rfl hnm rfl (by decide +kernel) rfl rfl (Nat.le_of_ble_eq_true rfl) dDS_init_94 (fun H locs hP hD hS => ?_)
  have hP : va_P g.1 vcl [(h0, .inr (2, [.int (nI 4), .int (nI 4), .int (nI 2), .int (nI 3), .int (nI 39), .int (nI 32), .int (nI 18), .int (nI 131072), .int (nI 44), .int (nI 6), .int 0, .int 0, .int 0, .int 0, .int 0, .int 0, .int 0]))] _ := hP
  have hD : va_D _ [(h0, .inr (2, [.int (nI 4), .int (nI 4), .int (nI 2), .int (nI 3), .int (nI 39), .int (nI 32), .int (nI 18), .int (nI 131072), .int (nI 44), .int (nI 6), .int 0, .int 0, .int 0, .int 0, .int 0, .int 0, .int 0]))] := hD
  refine lv_aload_n hx hb dDS_init_97 rfl (lv_at hl 0 rfl) ?_
  refine lv_ldc (v := 8380416) hx hb hown (hts _ (wg_t kw_297)) dDS_init_98 ?_
  refine mi_as (show (8380416 : Int32) = nI 8380416 by decide) ?_
  refine lv_aload_n hx hb dDS_init_100 rfl (lv_at hl 0 rfl) ?_
  refine va_get (D := g.1) (ci := 2) (C := "LatticeKeys$DsaSet") (T := T_DS) (N := 17) hx hb hts (wg_ft i_DS) hown hK hP 0 rfl rfl 8 (by decide) (hts _ (wg_t kw_321)) (fun _ h9 => h9) rfl dDS_init_101 ?_
  refine mi_idiv hx hb dDS_init_104 (by omega) (by omega) (by omega) ?_
  refine mi_as (show nI (8380416 / 44) = nI 190464 from rfl) ?_
  refine lv_iconst (v := nI 2) hx hb dDS_init_105 (by decide) ?_
  refine mi_idiv hx hb dDS_init_106 (by omega) (by omega) (by omega) ?_
  refine mi_as (show nI (190464 / 2) = nI 95232 from rfl) ?_
  refine va_putF (D := g.1) (ci := 2) (v := .int (nI 95232)) (ty := .int) (C := "LatticeKeys$DsaSet") (T := T_DS) (N := 17) hx hb hts (wg_ft i_DS) ty_DS k_DS n_DS hown hK hP hD hS 0 rfl rfl 10 (by decide) (hts _ (wg_t kw_324)) (fun _ h9 => h9) rfl hnm rfl (by decide +kernel) rfl rfl (Nat.le_of_ble_eq_true rfl) dDS_init_107 (fun H locs hP hD hS => ?_)
  have hP : va_P g.1 vcl [(h0, .inr (2, [.int (nI 4), .int (nI 4), .int (nI 2), .int (nI 3), .int (nI 39), .int (nI 32), .int (nI 18), .int (nI 131072), .int (nI 44), .int (nI 6), .int (nI 95232), .int 0, .int 0, .int 0, .int 0, .int 0, .int 0]))] _ := hP
  have hD : va_D _ [(h0, .inr (2, [.int (nI 4), .int (nI 4), .int (nI 2), .int (nI 3), .int (nI 39), .int (nI 32), .int (nI 18), .int (nI 131072), .int (nI 44), .int (nI 6), .int (nI 95232), .int 0, .int 0, .int 0, .int 0, .int 0, .int 0]))] := hD
  refine lv_aload_n hx hb dDS_init_110 rfl (lv_at hl 0 rfl) ?_
  refine va_gets hx hb (hE.2.1 18 _ rfl).1 hS hown (hts _ (wg_t kw_298)) (fun _ h9 => h9) dDS_init_111 ?_
  refine lv_iload_n hx hb dDS_init_114 rfl (lv_at hl 1 rfl) ?_
  refine va_ti (v := .int (nI 80)) hx hb (hE.2.1 18 _ rfl).2 hS (vp_in_nI (by decide) (by decide)) (by decide +kernel) dDS_init_115 ?_
  refine va_putF (D := g.1) (ci := 2) (v := .int (nI 80)) (ty := .int) (C := "LatticeKeys$DsaSet") (T := T_DS) (N := 17) hx hb hts (wg_ft i_DS) ty_DS k_DS n_DS hown hK hP hD hS 0 rfl rfl 11 (by decide) (hts _ (wg_t kw_326)) (fun _ h9 => h9) rfl hnm rfl (by decide +kernel) rfl rfl (Nat.le_of_ble_eq_true rfl) dDS_init_116 (fun H locs hP hD hS => ?_)
  have hP : va_P g.1 vcl [(h0, .inr (2, [.int (nI 4), .int (nI 4), .int (nI 2), .int (nI 3), .int (nI 39), .int (nI 32), .int (nI 18), .int (nI 131072), .int (nI 44), .int (nI 6), .int (nI 95232), .int (nI 80), .int 0, .int 0, .int 0, .int 0, .int 0]))] _ := hP
  have hD : va_D _ [(h0, .inr (2, [.int (nI 4), .int (nI 4), .int (nI 2), .int (nI 3), .int (nI 39), .int (nI 32), .int (nI 18), .int (nI 131072), .int (nI 44), .int (nI 6), .int (nI 95232), .int (nI 80), .int 0, .int 0, .int 0, .int 0, .int 0]))] := hD
  refine lv_aload_n hx hb dDS_init_119 rfl (lv_at hl 0 rfl) ?_
  refine lv_aload_n hx hb dDS_init_120 rfl (lv_at hl 0 rfl) ?_
  refine va_get (D := g.1) (ci := 2) (C := "LatticeKeys$DsaSet") (T := T_DS) (N := 17) hx hb hts (wg_ft i_DS) hown hK hP 0 rfl rfl 4 (by decide) (hts _ (wg_t kw_311)) (fun _ h9 => h9) rfl dDS_init_121 ?_
  refine lv_aload_n hx hb dDS_init_124 rfl (lv_at hl 0 rfl) ?_
  refine va_get (D := g.1) (ci := 2) (C := "LatticeKeys$DsaSet") (T := T_DS) (N := 17) hx hb hts (wg_ft i_DS) hown hK hP 0 rfl rfl 2 (by decide) (hts _ (wg_t kw_306)) (fun _ h9 => h9) rfl dDS_init_125 ?_
  refine mi_imul hx hb dDS_init_128 ?_
  refine mi_as (show nI (39 * 2) = nI 78 from rfl) ?_
  refine va_putF (D := g.1) (ci := 2) (v := .int (nI 78)) (ty := .int) (C := "LatticeKeys$DsaSet") (T := T_DS) (N := 17) hx hb hts (wg_ft i_DS) ty_DS k_DS n_DS hown hK hP hD hS 0 rfl rfl 12 (by decide) (hts _ (wg_t kw_328)) (fun _ h9 => h9) rfl hnm rfl (by decide +kernel) rfl rfl (Nat.le_of_ble_eq_true rfl) dDS_init_129 (fun H locs hP hD hS => ?_)
  have hP : va_P g.1 vcl [(h0, .inr (2, [.int (nI 4), .int (nI 4), .int (nI 2), .int (nI 3), .int (nI 39), .int (nI 32), .int (nI 18), .int (nI 131072), .int (nI 44), .int (nI 6), .int (nI 95232), .int (nI 80), .int (nI 78), .int 0, .int 0, .int 0, .int 0]))] _ := hP
  have hD : va_D _ [(h0, .inr (2, [.int (nI 4), .int (nI 4), .int (nI 2), .int (nI 3), .int (nI 39), .int (nI 32), .int (nI 18), .int (nI 131072), .int (nI 44), .int (nI 6), .int (nI 95232), .int (nI 80), .int (nI 78), .int 0, .int 0, .int 0, .int 0]))] := hD
  refine lv_aload_n hx hb dDS_init_132 rfl (lv_at hl 0 rfl) ?_
  refine lv_bipush (v := nI 32) hx hb dDS_init_133 (by decide) ?_
  refine lv_sipush (v := nI 320) hx hb dDS_init_135 (by decide) ?_
  refine lv_aload_n hx hb dDS_init_138 rfl (lv_at hl 0 rfl) ?_
  refine va_get (D := g.1) (ci := 2) (C := "LatticeKeys$DsaSet") (T := T_DS) (N := 17) hx hb hts (wg_ft i_DS) hown hK hP 0 rfl rfl 0 (by decide) (hts _ (wg_t kw_300)) (fun _ h9 => h9) rfl dDS_init_139 ?_
  refine mi_imul hx hb dDS_init_142 ?_
  refine mi_as (show nI (320 * 4) = nI 1280 from rfl) ?_
  refine mi_iadd hx hb dDS_init_143 ?_
  refine mi_as (show nI (32 + 1280) = nI 1312 from rfl) ?_
  refine va_putF (D := g.1) (ci := 2) (v := .int (nI 1312)) (ty := .int) (C := "LatticeKeys$DsaSet") (T := T_DS) (N := 17) hx hb hts (wg_ft i_DS) ty_DS k_DS n_DS hown hK hP hD hS 0 rfl rfl 13 (by decide) (hts _ (wg_t kw_330)) (fun _ h9 => h9) rfl hnm rfl (by decide +kernel) rfl rfl (Nat.le_of_ble_eq_true rfl) dDS_init_144 (fun H locs hP hD hS => ?_)
  have hP : va_P g.1 vcl [(h0, .inr (2, [.int (nI 4), .int (nI 4), .int (nI 2), .int (nI 3), .int (nI 39), .int (nI 32), .int (nI 18), .int (nI 131072), .int (nI 44), .int (nI 6), .int (nI 95232), .int (nI 80), .int (nI 78), .int (nI 1312), .int 0, .int 0, .int 0]))] _ := hP
  have hD : va_D _ [(h0, .inr (2, [.int (nI 4), .int (nI 4), .int (nI 2), .int (nI 3), .int (nI 39), .int (nI 32), .int (nI 18), .int (nI 131072), .int (nI 44), .int (nI 6), .int (nI 95232), .int (nI 80), .int (nI 78), .int (nI 1312), .int 0, .int 0, .int 0]))] := hD
  refine lv_aload_n hx hb dDS_init_147 rfl (lv_at hl 0 rfl) ?_
  refine lv_sipush (v := nI 128) hx hb dDS_init_148 (by decide) ?_
  refine lv_bipush (v := nI 32) hx hb dDS_init_151 (by decide) ?_
  refine lv_aload_n hx hb dDS_init_153 rfl (lv_at hl 0 rfl) ?_
  refine va_get (D := g.1) (ci := 2) (C := "LatticeKeys$DsaSet") (T := T_DS) (N := 17) hx hb hts (wg_ft i_DS) hown hK hP 0 rfl rfl 3 (by decide) (hts _ (wg_t kw_309)) (fun _ h9 => h9) rfl dDS_init_154 ?_
  refine lv_aload_n hx hb dDS_init_157 rfl (lv_at hl 0 rfl) ?_
  refine va_get (D := g.1) (ci := 2) (C := "LatticeKeys$DsaSet") (T := T_DS) (N := 17) hx hb hts (wg_ft i_DS) hown hK hP 0 rfl rfl 0 (by decide) (hts _ (wg_t kw_300)) (fun _ h9 => h9) rfl dDS_init_158 ?_
  refine lv_aload_n hx hb dDS_init_161 rfl (lv_at hl 0 rfl) ?_
  refine va_get (D := g.1) (ci := 2) (C := "LatticeKeys$DsaSet") (T := T_DS) (N := 17) hx hb hts (wg_ft i_DS) hown hK hP 0 rfl rfl 1 (by decide) (hts _ (wg_t kw_303)) (fun _ h9 => h9) rfl dDS_init_162 ?_
  refine mi_iadd hx hb dDS_init_165 ?_
  refine mi_as (show nI (4 + 4) = nI 8 from rfl) ?_
  refine mi_imul hx hb dDS_init_166 ?_
  refine mi_as (show nI (3 * 8) = nI 24 from rfl) ?_
  refine lv_bipush (v := nI 13) hx hb dDS_init_167 (by decide) ?_
  refine lv_aload_n hx hb dDS_init_169 rfl (lv_at hl 0 rfl) ?_
  refine va_get (D := g.1) (ci := 2) (C := "LatticeKeys$DsaSet") (T := T_DS) (N := 17) hx hb hts (wg_ft i_DS) hown hK hP 0 rfl rfl 0 (by decide) (hts _ (wg_t kw_300)) (fun _ h9 => h9) rfl dDS_init_170 ?_
  refine mi_imul hx hb dDS_init_173 ?_
  refine mi_as (show nI (13 * 4) = nI 52 from rfl) ?_
  refine mi_iadd hx hb dDS_init_174 ?_
  refine mi_as (show nI (24 + 52) = nI 76 from rfl) ?_
  refine mi_imul hx hb dDS_init_175 ?_
  refine mi_as (show nI (32 * 76) = nI 2432 from rfl) ?_
  refine mi_iadd hx hb dDS_init_176 ?_
  refine mi_as (show nI (128 + 2432) = nI 2560 from rfl) ?_
  refine va_putF (D := g.1) (ci := 2) (v := .int (nI 2560)) (ty := .int) (C := "LatticeKeys$DsaSet") (T := T_DS) (N := 17) hx hb hts (wg_ft i_DS) ty_DS k_DS n_DS hown hK hP hD hS 0 rfl rfl 14 (by decide) (hts _ (wg_t kw_332)) (fun _ h9 => h9) rfl hnm rfl (by decide +kernel) rfl rfl (Nat.le_of_ble_eq_true rfl) dDS_init_177 (fun H locs hP hD hS => ?_)
  have hP : va_P g.1 vcl [(h0, .inr (2, [.int (nI 4), .int (nI 4), .int (nI 2), .int (nI 3), .int (nI 39), .int (nI 32), .int (nI 18), .int (nI 131072), .int (nI 44), .int (nI 6), .int (nI 95232), .int (nI 80), .int (nI 78), .int (nI 1312), .int (nI 2560), .int 0, .int 0]))] _ := hP
  have hD : va_D _ [(h0, .inr (2, [.int (nI 4), .int (nI 4), .int (nI 2), .int (nI 3), .int (nI 39), .int (nI 32), .int (nI 18), .int (nI 131072), .int (nI 44), .int (nI 6), .int (nI 95232), .int (nI 80), .int (nI 78), .int (nI 1312), .int (nI 2560), .int 0, .int 0]))] := hD
  refine lv_aload_n hx hb dDS_init_180 rfl (lv_at hl 0 rfl) ?_
  refine lv_aload_n hx hb dDS_init_181 rfl (lv_at hl 0 rfl) ?_
  refine va_get (D := g.1) (ci := 2) (C := "LatticeKeys$DsaSet") (T := T_DS) (N := 17) hx hb hts (wg_ft i_DS) hown hK hP 0 rfl rfl 5 (by decide) (hts _ (wg_t kw_313)) (fun _ h9 => h9) rfl dDS_init_182 ?_
  refine lv_bipush (v := nI 32) hx hb dDS_init_185 (by decide) ?_
  refine lv_aload_n hx hb dDS_init_187 rfl (lv_at hl 0 rfl) ?_
  refine va_get (D := g.1) (ci := 2) (C := "LatticeKeys$DsaSet") (T := T_DS) (N := 17) hx hb hts (wg_ft i_DS) hown hK hP 0 rfl rfl 6 (by decide) (hts _ (wg_t kw_316)) (fun _ h9 => h9) rfl dDS_init_188 ?_
  refine mi_imul hx hb dDS_init_191 ?_
  refine mi_as (show nI (32 * 18) = nI 576 from rfl) ?_
  refine lv_aload_n hx hb dDS_init_192 rfl (lv_at hl 0 rfl) ?_
  refine va_get (D := g.1) (ci := 2) (C := "LatticeKeys$DsaSet") (T := T_DS) (N := 17) hx hb hts (wg_ft i_DS) hown hK hP 0 rfl rfl 1 (by decide) (hts _ (wg_t kw_303)) (fun _ h9 => h9) rfl dDS_init_193 ?_
  refine mi_imul hx hb dDS_init_196 ?_
  refine mi_as (show nI (576 * 4) = nI 2304 from rfl) ?_
  refine mi_iadd hx hb dDS_init_197 ?_
  refine mi_as (show nI (32 + 2304) = nI 2336 from rfl) ?_
  refine va_putF (D := g.1) (ci := 2) (v := .int (nI 2336)) (ty := .int) (C := "LatticeKeys$DsaSet") (T := T_DS) (N := 17) hx hb hts (wg_ft i_DS) ty_DS k_DS n_DS hown hK hP hD hS 0 rfl rfl 15 (by decide) (hts _ (wg_t kw_334)) (fun _ h9 => h9) rfl hnm rfl (by decide +kernel) rfl rfl (Nat.le_of_ble_eq_true rfl) dDS_init_198 (fun H locs hP hD hS => ?_)
  have hP : va_P g.1 vcl [(h0, .inr (2, [.int (nI 4), .int (nI 4), .int (nI 2), .int (nI 3), .int (nI 39), .int (nI 32), .int (nI 18), .int (nI 131072), .int (nI 44), .int (nI 6), .int (nI 95232), .int (nI 80), .int (nI 78), .int (nI 1312), .int (nI 2560), .int (nI 2336), .int 0]))] _ := hP
  have hD : va_D _ [(h0, .inr (2, [.int (nI 4), .int (nI 4), .int (nI 2), .int (nI 3), .int (nI 39), .int (nI 32), .int (nI 18), .int (nI 131072), .int (nI 44), .int (nI 6), .int (nI 95232), .int (nI 80), .int (nI 78), .int (nI 1312), .int (nI 2560), .int (nI 2336), .int 0]))] := hD
  refine lv_aload_n hx hb dDS_init_201 rfl (lv_at hl 0 rfl) ?_
  refine lv_aload_n hx hb dDS_init_202 rfl (lv_at hl 0 rfl) ?_
  refine va_get (D := g.1) (ci := 2) (C := "LatticeKeys$DsaSet") (T := T_DS) (N := 17) hx hb hts (wg_ft i_DS) hown hK hP 0 rfl rfl 15 (by decide) (hts _ (wg_t kw_334)) (fun _ h9 => h9) rfl dDS_init_203 ?_
  refine lv_aload_n hx hb dDS_init_206 rfl (lv_at hl 0 rfl) ?_
  refine va_get (D := g.1) (ci := 2) (C := "LatticeKeys$DsaSet") (T := T_DS) (N := 17) hx hb hts (wg_ft i_DS) hown hK hP 0 rfl rfl 11 (by decide) (hts _ (wg_t kw_326)) (fun _ h9 => h9) rfl dDS_init_207 ?_
  refine mi_iadd hx hb dDS_init_210 ?_
  refine mi_as (show nI (2336 + 80) = nI 2416 from rfl) ?_
  refine lv_aload_n hx hb dDS_init_211 rfl (lv_at hl 0 rfl) ?_
  refine va_get (D := g.1) (ci := 2) (C := "LatticeKeys$DsaSet") (T := T_DS) (N := 17) hx hb hts (wg_ft i_DS) hown hK hP 0 rfl rfl 0 (by decide) (hts _ (wg_t kw_300)) (fun _ h9 => h9) rfl dDS_init_212 ?_
  refine mi_iadd hx hb dDS_init_215 ?_
  refine mi_as (show nI (2416 + 4) = nI 2420 from rfl) ?_
  refine va_putF (D := g.1) (ci := 2) (v := .int (nI 2420)) (ty := .int) (C := "LatticeKeys$DsaSet") (T := T_DS) (N := 17) hx hb hts (wg_ft i_DS) ty_DS k_DS n_DS hown hK hP hD hS 0 rfl rfl 16 (by decide) (hts _ (wg_t kw_336)) (fun _ h9 => h9) rfl hnm rfl (by decide +kernel) rfl rfl (Nat.le_of_ble_eq_true rfl) dDS_init_216 (fun H locs hP hD hS => ?_)
  have hP : va_P g.1 vcl [(h0, .inr (2, [.int (nI 4), .int (nI 4), .int (nI 2), .int (nI 3), .int (nI 39), .int (nI 32), .int (nI 18), .int (nI 131072), .int (nI 44), .int (nI 6), .int (nI 95232), .int (nI 80), .int (nI 78), .int (nI 1312), .int (nI 2560), .int (nI 2336), .int (nI 2420)]))] _ := hP
  have hD : va_D _ [(h0, .inr (2, [.int (nI 4), .int (nI 4), .int (nI 2), .int (nI 3), .int (nI 39), .int (nI 32), .int (nI 18), .int (nI 131072), .int (nI 44), .int (nI 6), .int (nI 95232), .int (nI 80), .int (nI 78), .int (nI 1312), .int (nI 2560), .int (nI 2336), .int (nI 2420)]))] := hD
  exact mc_vret hx hb hr hlk hP hD hS () trivial [0] rfl rfl (by omega) (by omega) dDS_init_219
set_option maxHeartbeats 400000 in
set_option maxRecDepth 100000 in
theorem m_DS_init_1 (l : Launch) (g : Gd) (sz : Nat) (h0 : Nat)  : Met l y_DS_init w_DS_init ({ frames := 1, cells := 0, slots := 0, locals := 12 } : Room) (va_Pc [.ref h0, .int (nI 1)] (pr (en g) g.1 vcl sz [(h0, .inr (2, [.int 0, .int 0, .int 0, .int 0, .int 0, .int 0, .int 0, .int 0, .int 0, .int 0, .int 0, .int 0, .int 0, .int 0, .int 0, .int 0, .int 0]))])) (va_Qv (fun (u : Unit) => True) (po g.1 vcl (va_A [(h0, .inr (2, [.int 0, .int 0, .int 0, .int 0, .int 0, .int 0, .int 0, .int 0, .int 0, .int 0, .int 0, .int 0, .int 0, .int 0, .int 0, .int 0, .int 0]))] sz) (fun (u : Unit) => [(h0, .inr (2, [.int (nI 6), .int (nI 5), .int (nI 4), .int (nI 4), .int (nI 49), .int (nI 48), .int (nI 20), .int (nI 524288), .int (nI 16), .int (nI 4), .int (nI 261888), .int (nI 55), .int (nI 196), .int (nI 1952), .int (nI 4032), .int (nI 3248), .int (nI 3309)]))])) (va_A [(h0, .inr (2, [.int 0, .int 0, .int 0, .int 0, .int 0, .int 0, .int 0, .int 0, .int 0, .int 0, .int 0, .int 0, .int 0, .int 0, .int 0, .int 0, .int 0]))] sz)) 0 0 (va_A [(h0, .inr (2, [.int 0, .int 0, .int 0, .int 0, .int 0, .int 0, .int 0, .int 0, .int 0, .int 0, .int 0, .int 0, .int 0, .int 0, .int 0, .int 0, .int 0]))] sz) := by
  refine mc_entry (cc := c_DS_init) (maxL := 2) (ret := none) (by decide) rfl (Nat.le_of_ble_eq_true rfl) ?_
  intro p e s m args below meth c ls F hr hlk hnm hsz hP hD hE hA hl
  obtain ⟨hx, hb, hml, hown, hts⟩ := id F
  have hK := hE.1
  generalize va_A [(h0, .inr (2, [.int 0, .int 0, .int 0, .int 0, .int 0, .int 0, .int 0, .int 0, .int 0, .int 0, .int 0, .int 0, .int 0, .int 0, .int 0, .int 0, .int 0]))] sz = A at hD hE hA ⊢
  have hS : va_S A s.heap s.heap [] := va_S.rf
  have hl : lv_has ls 2 [(0, .ref h0), (1, .int (nI 1))] := hl
  refine lv_aload_n hx hb dDS_init_0 rfl (lv_at hl 0 rfl) ?_
  refine W.objInit hx hb hown (hts _ (wg_t kw_278)) (hts _ (wg_t kw_41)) (hts _ (wg_t kobj)) rfl (by rw [hml]; exact hl.1) rfl dDS_init_1 (Nat.le_of_ble_eq_true rfl) (Nat.le_of_ble_eq_true rfl) ?_
  refine W.eq (g2 := F0 m 4 ls []) rfl ?_
  refine lv_aload_n hx hb dDS_init_4 rfl (lv_at hl 0 rfl) ?_
  refine va_gets hx hb (hE.2.1 9 _ rfl).1 hS hown (hts _ (wg_t kw_279)) (fun _ h9 => h9) dDS_init_5 ?_
  refine lv_iload_n hx hb dDS_init_8 rfl (lv_at hl 1 rfl) ?_
  refine va_ti (v := .int (nI 6)) hx hb (hE.2.1 9 _ rfl).2 hS (vp_in_nI (by decide) (by decide)) (by decide +kernel) dDS_init_9 ?_
  refine va_putF (D := g.1) (ci := 2) (v := .int (nI 6)) (ty := .int) (C := "LatticeKeys$DsaSet") (T := T_DS) (N := 17) hx hb hts (wg_ft i_DS) ty_DS k_DS n_DS hown hK hP hD hS 0 rfl rfl 0 (by decide) (hts _ (wg_t kw_300)) (fun _ h9 => h9) rfl hnm rfl (by decide +kernel) rfl rfl (Nat.le_of_ble_eq_true rfl) dDS_init_10 (fun H locs hP hD hS => ?_)
  have hP : va_P g.1 vcl [(h0, .inr (2, [.int (nI 6), .int 0, .int 0, .int 0, .int 0, .int 0, .int 0, .int 0, .int 0, .int 0, .int 0, .int 0, .int 0, .int 0, .int 0, .int 0, .int 0]))] _ := hP
  have hD : va_D _ [(h0, .inr (2, [.int (nI 6), .int 0, .int 0, .int 0, .int 0, .int 0, .int 0, .int 0, .int 0, .int 0, .int 0, .int 0, .int 0, .int 0, .int 0, .int 0, .int 0]))] := hD
  refine lv_aload_n hx hb dDS_init_13 rfl (lv_at hl 0 rfl) ?_
  refine va_gets hx hb (hE.2.1 10 _ rfl).1 hS hown (hts _ (wg_t kw_281)) (fun _ h9 => h9) dDS_init_14 ?_
  refine lv_iload_n hx hb dDS_init_17 rfl (lv_at hl 1 rfl) ?_
  refine va_ti (v := .int (nI 5)) hx hb (hE.2.1 10 _ rfl).2 hS (vp_in_nI (by decide) (by decide)) (by decide +kernel) dDS_init_18 ?_
  refine va_putF (D := g.1) (ci := 2) (v := .int (nI 5)) (ty := .int) (C := "LatticeKeys$DsaSet") (T := T_DS) (N := 17) hx hb hts (wg_ft i_DS) ty_DS k_DS n_DS hown hK hP hD hS 0 rfl rfl 1 (by decide) (hts _ (wg_t kw_303)) (fun _ h9 => h9) rfl hnm rfl (by decide +kernel) rfl rfl (Nat.le_of_ble_eq_true rfl) dDS_init_19 (fun H locs hP hD hS => ?_)
  have hP : va_P g.1 vcl [(h0, .inr (2, [.int (nI 6), .int (nI 5), .int 0, .int 0, .int 0, .int 0, .int 0, .int 0, .int 0, .int 0, .int 0, .int 0, .int 0, .int 0, .int 0, .int 0, .int 0]))] _ := hP
  have hD : va_D _ [(h0, .inr (2, [.int (nI 6), .int (nI 5), .int 0, .int 0, .int 0, .int 0, .int 0, .int 0, .int 0, .int 0, .int 0, .int 0, .int 0, .int 0, .int 0, .int 0, .int 0]))] := hD
  refine lv_aload_n hx hb dDS_init_22 rfl (lv_at hl 0 rfl) ?_
  refine va_gets hx hb (hE.2.1 11 _ rfl).1 hS hown (hts _ (wg_t kw_283)) (fun _ h9 => h9) dDS_init_23 ?_
  refine lv_iload_n hx hb dDS_init_26 rfl (lv_at hl 1 rfl) ?_
  refine va_ti (v := .int (nI 4)) hx hb (hE.2.1 11 _ rfl).2 hS (vp_in_nI (by decide) (by decide)) (by decide +kernel) dDS_init_27 ?_
  refine va_putF (D := g.1) (ci := 2) (v := .int (nI 4)) (ty := .int) (C := "LatticeKeys$DsaSet") (T := T_DS) (N := 17) hx hb hts (wg_ft i_DS) ty_DS k_DS n_DS hown hK hP hD hS 0 rfl rfl 2 (by decide) (hts _ (wg_t kw_306)) (fun _ h9 => h9) rfl hnm rfl (by decide +kernel) rfl rfl (Nat.le_of_ble_eq_true rfl) dDS_init_28 (fun H locs hP hD hS => ?_)
  have hP : va_P g.1 vcl [(h0, .inr (2, [.int (nI 6), .int (nI 5), .int (nI 4), .int 0, .int 0, .int 0, .int 0, .int 0, .int 0, .int 0, .int 0, .int 0, .int 0, .int 0, .int 0, .int 0, .int 0]))] _ := hP
  have hD : va_D _ [(h0, .inr (2, [.int (nI 6), .int (nI 5), .int (nI 4), .int 0, .int 0, .int 0, .int 0, .int 0, .int 0, .int 0, .int 0, .int 0, .int 0, .int 0, .int 0, .int 0, .int 0]))] := hD
  refine lv_aload_n hx hb dDS_init_31 rfl (lv_at hl 0 rfl) ?_
  refine va_gets hx hb (hE.2.1 12 _ rfl).1 hS hown (hts _ (wg_t kw_285)) (fun _ h9 => h9) dDS_init_32 ?_
  refine lv_iload_n hx hb dDS_init_35 rfl (lv_at hl 1 rfl) ?_
  refine va_ti (v := .int (nI 4)) hx hb (hE.2.1 12 _ rfl).2 hS (vp_in_nI (by decide) (by decide)) (by decide +kernel) dDS_init_36 ?_
  refine va_putF (D := g.1) (ci := 2) (v := .int (nI 4)) (ty := .int) (C := "LatticeKeys$DsaSet") (T := T_DS) (N := 17) hx hb hts (wg_ft i_DS) ty_DS k_DS n_DS hown hK hP hD hS 0 rfl rfl 3 (by decide) (hts _ (wg_t kw_309)) (fun _ h9 => h9) rfl hnm rfl (by decide +kernel) rfl rfl (Nat.le_of_ble_eq_true rfl) dDS_init_37 (fun H locs hP hD hS => ?_)
  have hP : va_P g.1 vcl [(h0, .inr (2, [.int (nI 6), .int (nI 5), .int (nI 4), .int (nI 4), .int 0, .int 0, .int 0, .int 0, .int 0, .int 0, .int 0, .int 0, .int 0, .int 0, .int 0, .int 0, .int 0]))] _ := hP
  have hD : va_D _ [(h0, .inr (2, [.int (nI 6), .int (nI 5), .int (nI 4), .int (nI 4), .int 0, .int 0, .int 0, .int 0, .int 0, .int 0, .int 0, .int 0, .int 0, .int 0, .int 0, .int 0, .int 0]))] := hD
  refine lv_aload_n hx hb dDS_init_40 rfl (lv_at hl 0 rfl) ?_
  refine va_gets hx hb (hE.2.1 13 _ rfl).1 hS hown (hts _ (wg_t kw_287)) (fun _ h9 => h9) dDS_init_41 ?_
  refine lv_iload_n hx hb dDS_init_44 rfl (lv_at hl 1 rfl) ?_
  refine va_ti (v := .int (nI 49)) hx hb (hE.2.1 13 _ rfl).2 hS (vp_in_nI (by decide) (by decide)) (by decide +kernel) dDS_init_45 ?_
  refine va_putF (D := g.1) (ci := 2) (v := .int (nI 49)) (ty := .int) (C := "LatticeKeys$DsaSet") (T := T_DS) (N := 17) hx hb hts (wg_ft i_DS) ty_DS k_DS n_DS hown hK hP hD hS 0 rfl rfl 4 (by decide) (hts _ (wg_t kw_311)) (fun _ h9 => h9) rfl hnm rfl (by decide +kernel) rfl rfl (Nat.le_of_ble_eq_true rfl) dDS_init_46 (fun H locs hP hD hS => ?_)
  have hP : va_P g.1 vcl [(h0, .inr (2, [.int (nI 6), .int (nI 5), .int (nI 4), .int (nI 4), .int (nI 49), .int 0, .int 0, .int 0, .int 0, .int 0, .int 0, .int 0, .int 0, .int 0, .int 0, .int 0, .int 0]))] _ := hP
  have hD : va_D _ [(h0, .inr (2, [.int (nI 6), .int (nI 5), .int (nI 4), .int (nI 4), .int (nI 49), .int 0, .int 0, .int 0, .int 0, .int 0, .int 0, .int 0, .int 0, .int 0, .int 0, .int 0, .int 0]))] := hD
  refine lv_aload_n hx hb dDS_init_49 rfl (lv_at hl 0 rfl) ?_
  refine va_gets hx hb (hE.2.1 14 _ rfl).1 hS hown (hts _ (wg_t kw_289)) (fun _ h9 => h9) dDS_init_50 ?_
  refine lv_iload_n hx hb dDS_init_53 rfl (lv_at hl 1 rfl) ?_
  refine va_ti (v := .int (nI 48)) hx hb (hE.2.1 14 _ rfl).2 hS (vp_in_nI (by decide) (by decide)) (by decide +kernel) dDS_init_54 ?_
  refine va_putF (D := g.1) (ci := 2) (v := .int (nI 48)) (ty := .int) (C := "LatticeKeys$DsaSet") (T := T_DS) (N := 17) hx hb hts (wg_ft i_DS) ty_DS k_DS n_DS hown hK hP hD hS 0 rfl rfl 5 (by decide) (hts _ (wg_t kw_313)) (fun _ h9 => h9) rfl hnm rfl (by decide +kernel) rfl rfl (Nat.le_of_ble_eq_true rfl) dDS_init_55 (fun H locs hP hD hS => ?_)
  have hP : va_P g.1 vcl [(h0, .inr (2, [.int (nI 6), .int (nI 5), .int (nI 4), .int (nI 4), .int (nI 49), .int (nI 48), .int 0, .int 0, .int 0, .int 0, .int 0, .int 0, .int 0, .int 0, .int 0, .int 0, .int 0]))] _ := hP
  have hD : va_D _ [(h0, .inr (2, [.int (nI 6), .int (nI 5), .int (nI 4), .int (nI 4), .int (nI 49), .int (nI 48), .int 0, .int 0, .int 0, .int 0, .int 0, .int 0, .int 0, .int 0, .int 0, .int 0, .int 0]))] := hD
  refine lv_aload_n hx hb dDS_init_58 rfl (lv_at hl 0 rfl) ?_
  refine va_gets hx hb (hE.2.1 15 _ rfl).1 hS hown (hts _ (wg_t kw_291)) (fun _ h9 => h9) dDS_init_59 ?_
  refine lv_iload_n hx hb dDS_init_62 rfl (lv_at hl 1 rfl) ?_
  refine va_ti (v := .int (nI 20)) hx hb (hE.2.1 15 _ rfl).2 hS (vp_in_nI (by decide) (by decide)) (by decide +kernel) dDS_init_63 ?_
  refine va_putF (D := g.1) (ci := 2) (v := .int (nI 20)) (ty := .int) (C := "LatticeKeys$DsaSet") (T := T_DS) (N := 17) hx hb hts (wg_ft i_DS) ty_DS k_DS n_DS hown hK hP hD hS 0 rfl rfl 6 (by decide) (hts _ (wg_t kw_316)) (fun _ h9 => h9) rfl hnm rfl (by decide +kernel) rfl rfl (Nat.le_of_ble_eq_true rfl) dDS_init_64 (fun H locs hP hD hS => ?_)
  have hP : va_P g.1 vcl [(h0, .inr (2, [.int (nI 6), .int (nI 5), .int (nI 4), .int (nI 4), .int (nI 49), .int (nI 48), .int (nI 20), .int 0, .int 0, .int 0, .int 0, .int 0, .int 0, .int 0, .int 0, .int 0, .int 0]))] _ := hP
  have hD : va_D _ [(h0, .inr (2, [.int (nI 6), .int (nI 5), .int (nI 4), .int (nI 4), .int (nI 49), .int (nI 48), .int (nI 20), .int 0, .int 0, .int 0, .int 0, .int 0, .int 0, .int 0, .int 0, .int 0, .int 0]))] := hD
  refine lv_aload_n hx hb dDS_init_67 rfl (lv_at hl 0 rfl) ?_
  refine lv_iconst (v := nI 1) hx hb dDS_init_68 (by decide) ?_
  refine lv_aload_n hx hb dDS_init_69 rfl (lv_at hl 0 rfl) ?_
  refine va_get (D := g.1) (ci := 2) (C := "LatticeKeys$DsaSet") (T := T_DS) (N := 17) hx hb hts (wg_ft i_DS) hown hK hP 0 rfl rfl 6 (by decide) (hts _ (wg_t kw_316)) (fun _ h9 => h9) rfl dDS_init_70 ?_
  refine lv_iconst (v := nI 1) hx hb dDS_init_73 (by decide) ?_
  refine mi_isub hx hb dDS_init_74 (by omega) ?_
  refine mi_as (show nI (20 - 1) = nI 19 from rfl) ?_
  refine mi_ishl hx hb dDS_init_75 (by decide) (by decide) ?_
  refine mi_as (show nI (1 * 2 ^ 19) = nI 524288 from rfl) ?_
  refine va_putF (D := g.1) (ci := 2) (v := .int (nI 524288)) (ty := .int) (C := "LatticeKeys$DsaSet") (T := T_DS) (N := 17) hx hb hts (wg_ft i_DS) ty_DS k_DS n_DS hown hK hP hD hS 0 rfl rfl 7 (by decide) (hts _ (wg_t kw_319)) (fun _ h9 => h9) rfl hnm rfl (by decide +kernel) rfl rfl (Nat.le_of_ble_eq_true rfl) dDS_init_76 (fun H locs hP hD hS => ?_)
  have hP : va_P g.1 vcl [(h0, .inr (2, [.int (nI 6), .int (nI 5), .int (nI 4), .int (nI 4), .int (nI 49), .int (nI 48), .int (nI 20), .int (nI 524288), .int 0, .int 0, .int 0, .int 0, .int 0, .int 0, .int 0, .int 0, .int 0]))] _ := hP
  have hD : va_D _ [(h0, .inr (2, [.int (nI 6), .int (nI 5), .int (nI 4), .int (nI 4), .int (nI 49), .int (nI 48), .int (nI 20), .int (nI 524288), .int 0, .int 0, .int 0, .int 0, .int 0, .int 0, .int 0, .int 0, .int 0]))] := hD
  refine lv_aload_n hx hb dDS_init_79 rfl (lv_at hl 0 rfl) ?_
  refine va_gets hx hb (hE.2.1 16 _ rfl).1 hS hown (hts _ (wg_t kw_293)) (fun _ h9 => h9) dDS_init_80 ?_
  refine lv_iload_n hx hb dDS_init_83 rfl (lv_at hl 1 rfl) ?_
  refine va_ti (v := .int (nI 16)) hx hb (hE.2.1 16 _ rfl).2 hS (vp_in_nI (by decide) (by decide)) (by decide +kernel) dDS_init_84 ?_
  refine va_putF (D := g.1) (ci := 2) (v := .int (nI 16)) (ty := .int) (C := "LatticeKeys$DsaSet") (T := T_DS) (N := 17) hx hb hts (wg_ft i_DS) ty_DS k_DS n_DS hown hK hP hD hS 0 rfl rfl 8 (by decide) (hts _ (wg_t kw_321)) (fun _ h9 => h9) rfl hnm rfl (by decide +kernel) rfl rfl (Nat.le_of_ble_eq_true rfl) dDS_init_85 (fun H locs hP hD hS => ?_)
  have hP : va_P g.1 vcl [(h0, .inr (2, [.int (nI 6), .int (nI 5), .int (nI 4), .int (nI 4), .int (nI 49), .int (nI 48), .int (nI 20), .int (nI 524288), .int (nI 16), .int 0, .int 0, .int 0, .int 0, .int 0, .int 0, .int 0, .int 0]))] _ := hP
  have hD : va_D _ [(h0, .inr (2, [.int (nI 6), .int (nI 5), .int (nI 4), .int (nI 4), .int (nI 49), .int (nI 48), .int (nI 20), .int (nI 524288), .int (nI 16), .int 0, .int 0, .int 0, .int 0, .int 0, .int 0, .int 0, .int 0]))] := hD
  refine lv_aload_n hx hb dDS_init_88 rfl (lv_at hl 0 rfl) ?_
  refine va_gets hx hb (hE.2.1 17 _ rfl).1 hS hown (hts _ (wg_t kw_295)) (fun _ h9 => h9) dDS_init_89 ?_
  refine lv_iload_n hx hb dDS_init_92 rfl (lv_at hl 1 rfl) ?_
  refine va_ti (v := .int (nI 4)) hx hb (hE.2.1 17 _ rfl).2 hS (vp_in_nI (by decide) (by decide)) (by decide +kernel) dDS_init_93 ?_
  refine va_putF (D := g.1) (ci := 2) (v := .int (nI 4)) (ty := .int) (C := "LatticeKeys$DsaSet") (T := T_DS) (N := 17) hx hb hts (wg_ft i_DS) ty_DS k_DS n_DS hown hK hP hD hS 0 rfl rfl 9 (by decide) (hts _ (wg_t kw_322)) (fun _ h9 => h9) rfl hnm rfl (by decide +kernel) rfl rfl (Nat.le_of_ble_eq_true rfl) dDS_init_94 (fun H locs hP hD hS => ?_)
  have hP : va_P g.1 vcl [(h0, .inr (2, [.int (nI 6), .int (nI 5), .int (nI 4), .int (nI 4), .int (nI 49), .int (nI 48), .int (nI 20), .int (nI 524288), .int (nI 16), .int (nI 4), .int 0, .int 0, .int 0, .int 0, .int 0, .int 0, .int 0]))] _ := hP
  have hD : va_D _ [(h0, .inr (2, [.int (nI 6), .int (nI 5), .int (nI 4), .int (nI 4), .int (nI 49), .int (nI 48), .int (nI 20), .int (nI 524288), .int (nI 16), .int (nI 4), .int 0, .int 0, .int 0, .int 0, .int 0, .int 0, .int 0]))] := hD
  refine lv_aload_n hx hb dDS_init_97 rfl (lv_at hl 0 rfl) ?_
  refine lv_ldc (v := 8380416) hx hb hown (hts _ (wg_t kw_297)) dDS_init_98 ?_
  refine mi_as (show (8380416 : Int32) = nI 8380416 by decide) ?_
  refine lv_aload_n hx hb dDS_init_100 rfl (lv_at hl 0 rfl) ?_
  refine va_get (D := g.1) (ci := 2) (C := "LatticeKeys$DsaSet") (T := T_DS) (N := 17) hx hb hts (wg_ft i_DS) hown hK hP 0 rfl rfl 8 (by decide) (hts _ (wg_t kw_321)) (fun _ h9 => h9) rfl dDS_init_101 ?_
  refine mi_idiv hx hb dDS_init_104 (by omega) (by omega) (by omega) ?_
  refine mi_as (show nI (8380416 / 16) = nI 523776 from rfl) ?_
  refine lv_iconst (v := nI 2) hx hb dDS_init_105 (by decide) ?_
  refine mi_idiv hx hb dDS_init_106 (by omega) (by omega) (by omega) ?_
  refine mi_as (show nI (523776 / 2) = nI 261888 from rfl) ?_
  refine va_putF (D := g.1) (ci := 2) (v := .int (nI 261888)) (ty := .int) (C := "LatticeKeys$DsaSet") (T := T_DS) (N := 17) hx hb hts (wg_ft i_DS) ty_DS k_DS n_DS hown hK hP hD hS 0 rfl rfl 10 (by decide) (hts _ (wg_t kw_324)) (fun _ h9 => h9) rfl hnm rfl (by decide +kernel) rfl rfl (Nat.le_of_ble_eq_true rfl) dDS_init_107 (fun H locs hP hD hS => ?_)
  have hP : va_P g.1 vcl [(h0, .inr (2, [.int (nI 6), .int (nI 5), .int (nI 4), .int (nI 4), .int (nI 49), .int (nI 48), .int (nI 20), .int (nI 524288), .int (nI 16), .int (nI 4), .int (nI 261888), .int 0, .int 0, .int 0, .int 0, .int 0, .int 0]))] _ := hP
  have hD : va_D _ [(h0, .inr (2, [.int (nI 6), .int (nI 5), .int (nI 4), .int (nI 4), .int (nI 49), .int (nI 48), .int (nI 20), .int (nI 524288), .int (nI 16), .int (nI 4), .int (nI 261888), .int 0, .int 0, .int 0, .int 0, .int 0, .int 0]))] := hD
  refine lv_aload_n hx hb dDS_init_110 rfl (lv_at hl 0 rfl) ?_
  refine va_gets hx hb (hE.2.1 18 _ rfl).1 hS hown (hts _ (wg_t kw_298)) (fun _ h9 => h9) dDS_init_111 ?_
  refine lv_iload_n hx hb dDS_init_114 rfl (lv_at hl 1 rfl) ?_
  refine va_ti (v := .int (nI 55)) hx hb (hE.2.1 18 _ rfl).2 hS (vp_in_nI (by decide) (by decide)) (by decide +kernel) dDS_init_115 ?_
  refine va_putF (D := g.1) (ci := 2) (v := .int (nI 55)) (ty := .int) (C := "LatticeKeys$DsaSet") (T := T_DS) (N := 17) hx hb hts (wg_ft i_DS) ty_DS k_DS n_DS hown hK hP hD hS 0 rfl rfl 11 (by decide) (hts _ (wg_t kw_326)) (fun _ h9 => h9) rfl hnm rfl (by decide +kernel) rfl rfl (Nat.le_of_ble_eq_true rfl) dDS_init_116 (fun H locs hP hD hS => ?_)
  have hP : va_P g.1 vcl [(h0, .inr (2, [.int (nI 6), .int (nI 5), .int (nI 4), .int (nI 4), .int (nI 49), .int (nI 48), .int (nI 20), .int (nI 524288), .int (nI 16), .int (nI 4), .int (nI 261888), .int (nI 55), .int 0, .int 0, .int 0, .int 0, .int 0]))] _ := hP
  have hD : va_D _ [(h0, .inr (2, [.int (nI 6), .int (nI 5), .int (nI 4), .int (nI 4), .int (nI 49), .int (nI 48), .int (nI 20), .int (nI 524288), .int (nI 16), .int (nI 4), .int (nI 261888), .int (nI 55), .int 0, .int 0, .int 0, .int 0, .int 0]))] := hD
  refine lv_aload_n hx hb dDS_init_119 rfl (lv_at hl 0 rfl) ?_
  refine lv_aload_n hx hb dDS_init_120 rfl (lv_at hl 0 rfl) ?_
  refine va_get (D := g.1) (ci := 2) (C := "LatticeKeys$DsaSet") (T := T_DS) (N := 17) hx hb hts (wg_ft i_DS) hown hK hP 0 rfl rfl 4 (by decide) (hts _ (wg_t kw_311)) (fun _ h9 => h9) rfl dDS_init_121 ?_
  refine lv_aload_n hx hb dDS_init_124 rfl (lv_at hl 0 rfl) ?_
  refine va_get (D := g.1) (ci := 2) (C := "LatticeKeys$DsaSet") (T := T_DS) (N := 17) hx hb hts (wg_ft i_DS) hown hK hP 0 rfl rfl 2 (by decide) (hts _ (wg_t kw_306)) (fun _ h9 => h9) rfl dDS_init_125 ?_
  refine mi_imul hx hb dDS_init_128 ?_
  refine mi_as (show nI (49 * 4) = nI 196 from rfl) ?_
  refine va_putF (D := g.1) (ci := 2) (v := .int (nI 196)) (ty := .int) (C := "LatticeKeys$DsaSet") (T := T_DS) (N := 17) hx hb hts (wg_ft i_DS) ty_DS k_DS n_DS hown hK hP hD hS 0 rfl rfl 12 (by decide) (hts _ (wg_t kw_328)) (fun _ h9 => h9) rfl hnm rfl (by decide +kernel) rfl rfl (Nat.le_of_ble_eq_true rfl) dDS_init_129 (fun H locs hP hD hS => ?_)
  have hP : va_P g.1 vcl [(h0, .inr (2, [.int (nI 6), .int (nI 5), .int (nI 4), .int (nI 4), .int (nI 49), .int (nI 48), .int (nI 20), .int (nI 524288), .int (nI 16), .int (nI 4), .int (nI 261888), .int (nI 55), .int (nI 196), .int 0, .int 0, .int 0, .int 0]))] _ := hP
  have hD : va_D _ [(h0, .inr (2, [.int (nI 6), .int (nI 5), .int (nI 4), .int (nI 4), .int (nI 49), .int (nI 48), .int (nI 20), .int (nI 524288), .int (nI 16), .int (nI 4), .int (nI 261888), .int (nI 55), .int (nI 196), .int 0, .int 0, .int 0, .int 0]))] := hD
  refine lv_aload_n hx hb dDS_init_132 rfl (lv_at hl 0 rfl) ?_
  refine lv_bipush (v := nI 32) hx hb dDS_init_133 (by decide) ?_
  refine lv_sipush (v := nI 320) hx hb dDS_init_135 (by decide) ?_
  refine lv_aload_n hx hb dDS_init_138 rfl (lv_at hl 0 rfl) ?_
  refine va_get (D := g.1) (ci := 2) (C := "LatticeKeys$DsaSet") (T := T_DS) (N := 17) hx hb hts (wg_ft i_DS) hown hK hP 0 rfl rfl 0 (by decide) (hts _ (wg_t kw_300)) (fun _ h9 => h9) rfl dDS_init_139 ?_
  refine mi_imul hx hb dDS_init_142 ?_
  refine mi_as (show nI (320 * 6) = nI 1920 from rfl) ?_
  refine mi_iadd hx hb dDS_init_143 ?_
  refine mi_as (show nI (32 + 1920) = nI 1952 from rfl) ?_
  refine va_putF (D := g.1) (ci := 2) (v := .int (nI 1952)) (ty := .int) (C := "LatticeKeys$DsaSet") (T := T_DS) (N := 17) hx hb hts (wg_ft i_DS) ty_DS k_DS n_DS hown hK hP hD hS 0 rfl rfl 13 (by decide) (hts _ (wg_t kw_330)) (fun _ h9 => h9) rfl hnm rfl (by decide +kernel) rfl rfl (Nat.le_of_ble_eq_true rfl) dDS_init_144 (fun H locs hP hD hS => ?_)
  have hP : va_P g.1 vcl [(h0, .inr (2, [.int (nI 6), .int (nI 5), .int (nI 4), .int (nI 4), .int (nI 49), .int (nI 48), .int (nI 20), .int (nI 524288), .int (nI 16), .int (nI 4), .int (nI 261888), .int (nI 55), .int (nI 196), .int (nI 1952), .int 0, .int 0, .int 0]))] _ := hP
  have hD : va_D _ [(h0, .inr (2, [.int (nI 6), .int (nI 5), .int (nI 4), .int (nI 4), .int (nI 49), .int (nI 48), .int (nI 20), .int (nI 524288), .int (nI 16), .int (nI 4), .int (nI 261888), .int (nI 55), .int (nI 196), .int (nI 1952), .int 0, .int 0, .int 0]))] := hD
  refine lv_aload_n hx hb dDS_init_147 rfl (lv_at hl 0 rfl) ?_
  refine lv_sipush (v := nI 128) hx hb dDS_init_148 (by decide) ?_
  refine lv_bipush (v := nI 32) hx hb dDS_init_151 (by decide) ?_
  refine lv_aload_n hx hb dDS_init_153 rfl (lv_at hl 0 rfl) ?_
  refine va_get (D := g.1) (ci := 2) (C := "LatticeKeys$DsaSet") (T := T_DS) (N := 17) hx hb hts (wg_ft i_DS) hown hK hP 0 rfl rfl 3 (by decide) (hts _ (wg_t kw_309)) (fun _ h9 => h9) rfl dDS_init_154 ?_
  refine lv_aload_n hx hb dDS_init_157 rfl (lv_at hl 0 rfl) ?_
  refine va_get (D := g.1) (ci := 2) (C := "LatticeKeys$DsaSet") (T := T_DS) (N := 17) hx hb hts (wg_ft i_DS) hown hK hP 0 rfl rfl 0 (by decide) (hts _ (wg_t kw_300)) (fun _ h9 => h9) rfl dDS_init_158 ?_
  refine lv_aload_n hx hb dDS_init_161 rfl (lv_at hl 0 rfl) ?_
  refine va_get (D := g.1) (ci := 2) (C := "LatticeKeys$DsaSet") (T := T_DS) (N := 17) hx hb hts (wg_ft i_DS) hown hK hP 0 rfl rfl 1 (by decide) (hts _ (wg_t kw_303)) (fun _ h9 => h9) rfl dDS_init_162 ?_
  refine mi_iadd hx hb dDS_init_165 ?_
  refine mi_as (show nI (6 + 5) = nI 11 from rfl) ?_
  refine mi_imul hx hb dDS_init_166 ?_
  refine mi_as (show nI (4 * 11) = nI 44 from rfl) ?_
  refine lv_bipush (v := nI 13) hx hb dDS_init_167 (by decide) ?_
  refine lv_aload_n hx hb dDS_init_169 rfl (lv_at hl 0 rfl) ?_
  refine va_get (D := g.1) (ci := 2) (C := "LatticeKeys$DsaSet") (T := T_DS) (N := 17) hx hb hts (wg_ft i_DS) hown hK hP 0 rfl rfl 0 (by decide) (hts _ (wg_t kw_300)) (fun _ h9 => h9) rfl dDS_init_170 ?_
  refine mi_imul hx hb dDS_init_173 ?_
  refine mi_as (show nI (13 * 6) = nI 78 from rfl) ?_
  refine mi_iadd hx hb dDS_init_174 ?_
  refine mi_as (show nI (44 + 78) = nI 122 from rfl) ?_
  refine mi_imul hx hb dDS_init_175 ?_
  refine mi_as (show nI (32 * 122) = nI 3904 from rfl) ?_
  refine mi_iadd hx hb dDS_init_176 ?_
  refine mi_as (show nI (128 + 3904) = nI 4032 from rfl) ?_
  refine va_putF (D := g.1) (ci := 2) (v := .int (nI 4032)) (ty := .int) (C := "LatticeKeys$DsaSet") (T := T_DS) (N := 17) hx hb hts (wg_ft i_DS) ty_DS k_DS n_DS hown hK hP hD hS 0 rfl rfl 14 (by decide) (hts _ (wg_t kw_332)) (fun _ h9 => h9) rfl hnm rfl (by decide +kernel) rfl rfl (Nat.le_of_ble_eq_true rfl) dDS_init_177 (fun H locs hP hD hS => ?_)
  have hP : va_P g.1 vcl [(h0, .inr (2, [.int (nI 6), .int (nI 5), .int (nI 4), .int (nI 4), .int (nI 49), .int (nI 48), .int (nI 20), .int (nI 524288), .int (nI 16), .int (nI 4), .int (nI 261888), .int (nI 55), .int (nI 196), .int (nI 1952), .int (nI 4032), .int 0, .int 0]))] _ := hP
  have hD : va_D _ [(h0, .inr (2, [.int (nI 6), .int (nI 5), .int (nI 4), .int (nI 4), .int (nI 49), .int (nI 48), .int (nI 20), .int (nI 524288), .int (nI 16), .int (nI 4), .int (nI 261888), .int (nI 55), .int (nI 196), .int (nI 1952), .int (nI 4032), .int 0, .int 0]))] := hD
  refine lv_aload_n hx hb dDS_init_180 rfl (lv_at hl 0 rfl) ?_
  refine lv_aload_n hx hb dDS_init_181 rfl (lv_at hl 0 rfl) ?_
  refine va_get (D := g.1) (ci := 2) (C := "LatticeKeys$DsaSet") (T := T_DS) (N := 17) hx hb hts (wg_ft i_DS) hown hK hP 0 rfl rfl 5 (by decide) (hts _ (wg_t kw_313)) (fun _ h9 => h9) rfl dDS_init_182 ?_
  refine lv_bipush (v := nI 32) hx hb dDS_init_185 (by decide) ?_
  refine lv_aload_n hx hb dDS_init_187 rfl (lv_at hl 0 rfl) ?_
  refine va_get (D := g.1) (ci := 2) (C := "LatticeKeys$DsaSet") (T := T_DS) (N := 17) hx hb hts (wg_ft i_DS) hown hK hP 0 rfl rfl 6 (by decide) (hts _ (wg_t kw_316)) (fun _ h9 => h9) rfl dDS_init_188 ?_
  refine mi_imul hx hb dDS_init_191 ?_
  refine mi_as (show nI (32 * 20) = nI 640 from rfl) ?_
  refine lv_aload_n hx hb dDS_init_192 rfl (lv_at hl 0 rfl) ?_
  refine va_get (D := g.1) (ci := 2) (C := "LatticeKeys$DsaSet") (T := T_DS) (N := 17) hx hb hts (wg_ft i_DS) hown hK hP 0 rfl rfl 1 (by decide) (hts _ (wg_t kw_303)) (fun _ h9 => h9) rfl dDS_init_193 ?_
  refine mi_imul hx hb dDS_init_196 ?_
  refine mi_as (show nI (640 * 5) = nI 3200 from rfl) ?_
  refine mi_iadd hx hb dDS_init_197 ?_
  refine mi_as (show nI (48 + 3200) = nI 3248 from rfl) ?_
  refine va_putF (D := g.1) (ci := 2) (v := .int (nI 3248)) (ty := .int) (C := "LatticeKeys$DsaSet") (T := T_DS) (N := 17) hx hb hts (wg_ft i_DS) ty_DS k_DS n_DS hown hK hP hD hS 0 rfl rfl 15 (by decide) (hts _ (wg_t kw_334)) (fun _ h9 => h9) rfl hnm rfl (by decide +kernel) rfl rfl (Nat.le_of_ble_eq_true rfl) dDS_init_198 (fun H locs hP hD hS => ?_)
  have hP : va_P g.1 vcl [(h0, .inr (2, [.int (nI 6), .int (nI 5), .int (nI 4), .int (nI 4), .int (nI 49), .int (nI 48), .int (nI 20), .int (nI 524288), .int (nI 16), .int (nI 4), .int (nI 261888), .int (nI 55), .int (nI 196), .int (nI 1952), .int (nI 4032), .int (nI 3248), .int 0]))] _ := hP
  have hD : va_D _ [(h0, .inr (2, [.int (nI 6), .int (nI 5), .int (nI 4), .int (nI 4), .int (nI 49), .int (nI 48), .int (nI 20), .int (nI 524288), .int (nI 16), .int (nI 4), .int (nI 261888), .int (nI 55), .int (nI 196), .int (nI 1952), .int (nI 4032), .int (nI 3248), .int 0]))] := hD
  refine lv_aload_n hx hb dDS_init_201 rfl (lv_at hl 0 rfl) ?_
  refine lv_aload_n hx hb dDS_init_202 rfl (lv_at hl 0 rfl) ?_
  refine va_get (D := g.1) (ci := 2) (C := "LatticeKeys$DsaSet") (T := T_DS) (N := 17) hx hb hts (wg_ft i_DS) hown hK hP 0 rfl rfl 15 (by decide) (hts _ (wg_t kw_334)) (fun _ h9 => h9) rfl dDS_init_203 ?_
  refine lv_aload_n hx hb dDS_init_206 rfl (lv_at hl 0 rfl) ?_
  refine va_get (D := g.1) (ci := 2) (C := "LatticeKeys$DsaSet") (T := T_DS) (N := 17) hx hb hts (wg_ft i_DS) hown hK hP 0 rfl rfl 11 (by decide) (hts _ (wg_t kw_326)) (fun _ h9 => h9) rfl dDS_init_207 ?_
  refine mi_iadd hx hb dDS_init_210 ?_
  refine mi_as (show nI (3248 + 55) = nI 3303 from rfl) ?_
  refine lv_aload_n hx hb dDS_init_211 rfl (lv_at hl 0 rfl) ?_
  refine va_get (D := g.1) (ci := 2) (C := "LatticeKeys$DsaSet") (T := T_DS) (N := 17) hx hb hts (wg_ft i_DS) hown hK hP 0 rfl rfl 0 (by decide) (hts _ (wg_t kw_300)) (fun _ h9 => h9) rfl dDS_init_212 ?_
  refine mi_iadd hx hb dDS_init_215 ?_
  refine mi_as (show nI (3303 + 6) = nI 3309 from rfl) ?_
  refine va_putF (D := g.1) (ci := 2) (v := .int (nI 3309)) (ty := .int) (C := "LatticeKeys$DsaSet") (T := T_DS) (N := 17) hx hb hts (wg_ft i_DS) ty_DS k_DS n_DS hown hK hP hD hS 0 rfl rfl 16 (by decide) (hts _ (wg_t kw_336)) (fun _ h9 => h9) rfl hnm rfl (by decide +kernel) rfl rfl (Nat.le_of_ble_eq_true rfl) dDS_init_216 (fun H locs hP hD hS => ?_)
  have hP : va_P g.1 vcl [(h0, .inr (2, [.int (nI 6), .int (nI 5), .int (nI 4), .int (nI 4), .int (nI 49), .int (nI 48), .int (nI 20), .int (nI 524288), .int (nI 16), .int (nI 4), .int (nI 261888), .int (nI 55), .int (nI 196), .int (nI 1952), .int (nI 4032), .int (nI 3248), .int (nI 3309)]))] _ := hP
  have hD : va_D _ [(h0, .inr (2, [.int (nI 6), .int (nI 5), .int (nI 4), .int (nI 4), .int (nI 49), .int (nI 48), .int (nI 20), .int (nI 524288), .int (nI 16), .int (nI 4), .int (nI 261888), .int (nI 55), .int (nI 196), .int (nI 1952), .int (nI 4032), .int (nI 3248), .int (nI 3309)]))] := hD
  exact mc_vret hx hb hr hlk hP hD hS () trivial [0] rfl rfl (by omega) (by omega) dDS_init_219
set_option maxHeartbeats 400000 in
set_option maxRecDepth 100000 in
theorem m_DS_init_2 (l : Launch) (g : Gd) (sz : Nat) (h0 : Nat)  : Met l y_DS_init w_DS_init ({ frames := 1, cells := 0, slots := 0, locals := 12 } : Room) (va_Pc [.ref h0, .int (nI 2)] (pr (en g) g.1 vcl sz [(h0, .inr (2, [.int 0, .int 0, .int 0, .int 0, .int 0, .int 0, .int 0, .int 0, .int 0, .int 0, .int 0, .int 0, .int 0, .int 0, .int 0, .int 0, .int 0]))])) (va_Qv (fun (u : Unit) => True) (po g.1 vcl (va_A [(h0, .inr (2, [.int 0, .int 0, .int 0, .int 0, .int 0, .int 0, .int 0, .int 0, .int 0, .int 0, .int 0, .int 0, .int 0, .int 0, .int 0, .int 0, .int 0]))] sz) (fun (u : Unit) => [(h0, .inr (2, [.int (nI 8), .int (nI 7), .int (nI 2), .int (nI 3), .int (nI 60), .int (nI 64), .int (nI 20), .int (nI 524288), .int (nI 16), .int (nI 4), .int (nI 261888), .int (nI 75), .int (nI 120), .int (nI 2592), .int (nI 4896), .int (nI 4544), .int (nI 4627)]))])) (va_A [(h0, .inr (2, [.int 0, .int 0, .int 0, .int 0, .int 0, .int 0, .int 0, .int 0, .int 0, .int 0, .int 0, .int 0, .int 0, .int 0, .int 0, .int 0, .int 0]))] sz)) 0 0 (va_A [(h0, .inr (2, [.int 0, .int 0, .int 0, .int 0, .int 0, .int 0, .int 0, .int 0, .int 0, .int 0, .int 0, .int 0, .int 0, .int 0, .int 0, .int 0, .int 0]))] sz) := by
  refine mc_entry (cc := c_DS_init) (maxL := 2) (ret := none) (by decide) rfl (Nat.le_of_ble_eq_true rfl) ?_
  intro p e s m args below meth c ls F hr hlk hnm hsz hP hD hE hA hl
  obtain ⟨hx, hb, hml, hown, hts⟩ := id F
  have hK := hE.1
  generalize va_A [(h0, .inr (2, [.int 0, .int 0, .int 0, .int 0, .int 0, .int 0, .int 0, .int 0, .int 0, .int 0, .int 0, .int 0, .int 0, .int 0, .int 0, .int 0, .int 0]))] sz = A at hD hE hA ⊢
  have hS : va_S A s.heap s.heap [] := va_S.rf
  have hl : lv_has ls 2 [(0, .ref h0), (1, .int (nI 2))] := hl
  refine lv_aload_n hx hb dDS_init_0 rfl (lv_at hl 0 rfl) ?_
  refine W.objInit hx hb hown (hts _ (wg_t kw_278)) (hts _ (wg_t kw_41)) (hts _ (wg_t kobj)) rfl (by rw [hml]; exact hl.1) rfl dDS_init_1 (Nat.le_of_ble_eq_true rfl) (Nat.le_of_ble_eq_true rfl) ?_
  refine W.eq (g2 := F0 m 4 ls []) rfl ?_
  refine lv_aload_n hx hb dDS_init_4 rfl (lv_at hl 0 rfl) ?_
  refine va_gets hx hb (hE.2.1 9 _ rfl).1 hS hown (hts _ (wg_t kw_279)) (fun _ h9 => h9) dDS_init_5 ?_
  refine lv_iload_n hx hb dDS_init_8 rfl (lv_at hl 1 rfl) ?_
  refine va_ti (v := .int (nI 8)) hx hb (hE.2.1 9 _ rfl).2 hS (vp_in_nI (by decide) (by decide)) (by decide +kernel) dDS_init_9 ?_
  refine va_putF (D := g.1) (ci := 2) (v := .int (nI 8)) (ty := .int) (C := "LatticeKeys$DsaSet") (T := T_DS) (N := 17) hx hb hts (wg_ft i_DS) ty_DS k_DS n_DS hown hK hP hD hS 0 rfl rfl 0 (by decide) (hts _ (wg_t kw_300)) (fun _ h9 => h9) rfl hnm rfl (by decide +kernel) rfl rfl (Nat.le_of_ble_eq_true rfl) dDS_init_10 (fun H locs hP hD hS => ?_)
  have hP : va_P g.1 vcl [(h0, .inr (2, [.int (nI 8), .int 0, .int 0, .int 0, .int 0, .int 0, .int 0, .int 0, .int 0, .int 0, .int 0, .int 0, .int 0, .int 0, .int 0, .int 0, .int 0]))] _ := hP
  have hD : va_D _ [(h0, .inr (2, [.int (nI 8), .int 0, .int 0, .int 0, .int 0, .int 0, .int 0, .int 0, .int 0, .int 0, .int 0, .int 0, .int 0, .int 0, .int 0, .int 0, .int 0]))] := hD
  refine lv_aload_n hx hb dDS_init_13 rfl (lv_at hl 0 rfl) ?_
  refine va_gets hx hb (hE.2.1 10 _ rfl).1 hS hown (hts _ (wg_t kw_281)) (fun _ h9 => h9) dDS_init_14 ?_
  refine lv_iload_n hx hb dDS_init_17 rfl (lv_at hl 1 rfl) ?_
  refine va_ti (v := .int (nI 7)) hx hb (hE.2.1 10 _ rfl).2 hS (vp_in_nI (by decide) (by decide)) (by decide +kernel) dDS_init_18 ?_
  refine va_putF (D := g.1) (ci := 2) (v := .int (nI 7)) (ty := .int) (C := "LatticeKeys$DsaSet") (T := T_DS) (N := 17) hx hb hts (wg_ft i_DS) ty_DS k_DS n_DS hown hK hP hD hS 0 rfl rfl 1 (by decide) (hts _ (wg_t kw_303)) (fun _ h9 => h9) rfl hnm rfl (by decide +kernel) rfl rfl (Nat.le_of_ble_eq_true rfl) dDS_init_19 (fun H locs hP hD hS => ?_)
  have hP : va_P g.1 vcl [(h0, .inr (2, [.int (nI 8), .int (nI 7), .int 0, .int 0, .int 0, .int 0, .int 0, .int 0, .int 0, .int 0, .int 0, .int 0, .int 0, .int 0, .int 0, .int 0, .int 0]))] _ := hP
  have hD : va_D _ [(h0, .inr (2, [.int (nI 8), .int (nI 7), .int 0, .int 0, .int 0, .int 0, .int 0, .int 0, .int 0, .int 0, .int 0, .int 0, .int 0, .int 0, .int 0, .int 0, .int 0]))] := hD
  refine lv_aload_n hx hb dDS_init_22 rfl (lv_at hl 0 rfl) ?_
  refine va_gets hx hb (hE.2.1 11 _ rfl).1 hS hown (hts _ (wg_t kw_283)) (fun _ h9 => h9) dDS_init_23 ?_
  refine lv_iload_n hx hb dDS_init_26 rfl (lv_at hl 1 rfl) ?_
  refine va_ti (v := .int (nI 2)) hx hb (hE.2.1 11 _ rfl).2 hS (vp_in_nI (by decide) (by decide)) (by decide +kernel) dDS_init_27 ?_
  refine va_putF (D := g.1) (ci := 2) (v := .int (nI 2)) (ty := .int) (C := "LatticeKeys$DsaSet") (T := T_DS) (N := 17) hx hb hts (wg_ft i_DS) ty_DS k_DS n_DS hown hK hP hD hS 0 rfl rfl 2 (by decide) (hts _ (wg_t kw_306)) (fun _ h9 => h9) rfl hnm rfl (by decide +kernel) rfl rfl (Nat.le_of_ble_eq_true rfl) dDS_init_28 (fun H locs hP hD hS => ?_)
  have hP : va_P g.1 vcl [(h0, .inr (2, [.int (nI 8), .int (nI 7), .int (nI 2), .int 0, .int 0, .int 0, .int 0, .int 0, .int 0, .int 0, .int 0, .int 0, .int 0, .int 0, .int 0, .int 0, .int 0]))] _ := hP
  have hD : va_D _ [(h0, .inr (2, [.int (nI 8), .int (nI 7), .int (nI 2), .int 0, .int 0, .int 0, .int 0, .int 0, .int 0, .int 0, .int 0, .int 0, .int 0, .int 0, .int 0, .int 0, .int 0]))] := hD
  refine lv_aload_n hx hb dDS_init_31 rfl (lv_at hl 0 rfl) ?_
  refine va_gets hx hb (hE.2.1 12 _ rfl).1 hS hown (hts _ (wg_t kw_285)) (fun _ h9 => h9) dDS_init_32 ?_
  refine lv_iload_n hx hb dDS_init_35 rfl (lv_at hl 1 rfl) ?_
  refine va_ti (v := .int (nI 3)) hx hb (hE.2.1 12 _ rfl).2 hS (vp_in_nI (by decide) (by decide)) (by decide +kernel) dDS_init_36 ?_
  refine va_putF (D := g.1) (ci := 2) (v := .int (nI 3)) (ty := .int) (C := "LatticeKeys$DsaSet") (T := T_DS) (N := 17) hx hb hts (wg_ft i_DS) ty_DS k_DS n_DS hown hK hP hD hS 0 rfl rfl 3 (by decide) (hts _ (wg_t kw_309)) (fun _ h9 => h9) rfl hnm rfl (by decide +kernel) rfl rfl (Nat.le_of_ble_eq_true rfl) dDS_init_37 (fun H locs hP hD hS => ?_)
  have hP : va_P g.1 vcl [(h0, .inr (2, [.int (nI 8), .int (nI 7), .int (nI 2), .int (nI 3), .int 0, .int 0, .int 0, .int 0, .int 0, .int 0, .int 0, .int 0, .int 0, .int 0, .int 0, .int 0, .int 0]))] _ := hP
  have hD : va_D _ [(h0, .inr (2, [.int (nI 8), .int (nI 7), .int (nI 2), .int (nI 3), .int 0, .int 0, .int 0, .int 0, .int 0, .int 0, .int 0, .int 0, .int 0, .int 0, .int 0, .int 0, .int 0]))] := hD
  refine lv_aload_n hx hb dDS_init_40 rfl (lv_at hl 0 rfl) ?_
  refine va_gets hx hb (hE.2.1 13 _ rfl).1 hS hown (hts _ (wg_t kw_287)) (fun _ h9 => h9) dDS_init_41 ?_
  refine lv_iload_n hx hb dDS_init_44 rfl (lv_at hl 1 rfl) ?_
  refine va_ti (v := .int (nI 60)) hx hb (hE.2.1 13 _ rfl).2 hS (vp_in_nI (by decide) (by decide)) (by decide +kernel) dDS_init_45 ?_
  refine va_putF (D := g.1) (ci := 2) (v := .int (nI 60)) (ty := .int) (C := "LatticeKeys$DsaSet") (T := T_DS) (N := 17) hx hb hts (wg_ft i_DS) ty_DS k_DS n_DS hown hK hP hD hS 0 rfl rfl 4 (by decide) (hts _ (wg_t kw_311)) (fun _ h9 => h9) rfl hnm rfl (by decide +kernel) rfl rfl (Nat.le_of_ble_eq_true rfl) dDS_init_46 (fun H locs hP hD hS => ?_)
  have hP : va_P g.1 vcl [(h0, .inr (2, [.int (nI 8), .int (nI 7), .int (nI 2), .int (nI 3), .int (nI 60), .int 0, .int 0, .int 0, .int 0, .int 0, .int 0, .int 0, .int 0, .int 0, .int 0, .int 0, .int 0]))] _ := hP
  have hD : va_D _ [(h0, .inr (2, [.int (nI 8), .int (nI 7), .int (nI 2), .int (nI 3), .int (nI 60), .int 0, .int 0, .int 0, .int 0, .int 0, .int 0, .int 0, .int 0, .int 0, .int 0, .int 0, .int 0]))] := hD
  refine lv_aload_n hx hb dDS_init_49 rfl (lv_at hl 0 rfl) ?_
  refine va_gets hx hb (hE.2.1 14 _ rfl).1 hS hown (hts _ (wg_t kw_289)) (fun _ h9 => h9) dDS_init_50 ?_
  refine lv_iload_n hx hb dDS_init_53 rfl (lv_at hl 1 rfl) ?_
  refine va_ti (v := .int (nI 64)) hx hb (hE.2.1 14 _ rfl).2 hS (vp_in_nI (by decide) (by decide)) (by decide +kernel) dDS_init_54 ?_
  refine va_putF (D := g.1) (ci := 2) (v := .int (nI 64)) (ty := .int) (C := "LatticeKeys$DsaSet") (T := T_DS) (N := 17) hx hb hts (wg_ft i_DS) ty_DS k_DS n_DS hown hK hP hD hS 0 rfl rfl 5 (by decide) (hts _ (wg_t kw_313)) (fun _ h9 => h9) rfl hnm rfl (by decide +kernel) rfl rfl (Nat.le_of_ble_eq_true rfl) dDS_init_55 (fun H locs hP hD hS => ?_)
  have hP : va_P g.1 vcl [(h0, .inr (2, [.int (nI 8), .int (nI 7), .int (nI 2), .int (nI 3), .int (nI 60), .int (nI 64), .int 0, .int 0, .int 0, .int 0, .int 0, .int 0, .int 0, .int 0, .int 0, .int 0, .int 0]))] _ := hP
  have hD : va_D _ [(h0, .inr (2, [.int (nI 8), .int (nI 7), .int (nI 2), .int (nI 3), .int (nI 60), .int (nI 64), .int 0, .int 0, .int 0, .int 0, .int 0, .int 0, .int 0, .int 0, .int 0, .int 0, .int 0]))] := hD
  refine lv_aload_n hx hb dDS_init_58 rfl (lv_at hl 0 rfl) ?_
  refine va_gets hx hb (hE.2.1 15 _ rfl).1 hS hown (hts _ (wg_t kw_291)) (fun _ h9 => h9) dDS_init_59 ?_
  refine lv_iload_n hx hb dDS_init_62 rfl (lv_at hl 1 rfl) ?_
  refine va_ti (v := .int (nI 20)) hx hb (hE.2.1 15 _ rfl).2 hS (vp_in_nI (by decide) (by decide)) (by decide +kernel) dDS_init_63 ?_
  refine va_putF (D := g.1) (ci := 2) (v := .int (nI 20)) (ty := .int) (C := "LatticeKeys$DsaSet") (T := T_DS) (N := 17) hx hb hts (wg_ft i_DS) ty_DS k_DS n_DS hown hK hP hD hS 0 rfl rfl 6 (by decide) (hts _ (wg_t kw_316)) (fun _ h9 => h9) rfl hnm rfl (by decide +kernel) rfl rfl (Nat.le_of_ble_eq_true rfl) dDS_init_64 (fun H locs hP hD hS => ?_)
  have hP : va_P g.1 vcl [(h0, .inr (2, [.int (nI 8), .int (nI 7), .int (nI 2), .int (nI 3), .int (nI 60), .int (nI 64), .int (nI 20), .int 0, .int 0, .int 0, .int 0, .int 0, .int 0, .int 0, .int 0, .int 0, .int 0]))] _ := hP
  have hD : va_D _ [(h0, .inr (2, [.int (nI 8), .int (nI 7), .int (nI 2), .int (nI 3), .int (nI 60), .int (nI 64), .int (nI 20), .int 0, .int 0, .int 0, .int 0, .int 0, .int 0, .int 0, .int 0, .int 0, .int 0]))] := hD
  refine lv_aload_n hx hb dDS_init_67 rfl (lv_at hl 0 rfl) ?_
  refine lv_iconst (v := nI 1) hx hb dDS_init_68 (by decide) ?_
  refine lv_aload_n hx hb dDS_init_69 rfl (lv_at hl 0 rfl) ?_
  refine va_get (D := g.1) (ci := 2) (C := "LatticeKeys$DsaSet") (T := T_DS) (N := 17) hx hb hts (wg_ft i_DS) hown hK hP 0 rfl rfl 6 (by decide) (hts _ (wg_t kw_316)) (fun _ h9 => h9) rfl dDS_init_70 ?_
  refine lv_iconst (v := nI 1) hx hb dDS_init_73 (by decide) ?_
  refine mi_isub hx hb dDS_init_74 (by omega) ?_
  refine mi_as (show nI (20 - 1) = nI 19 from rfl) ?_
  refine mi_ishl hx hb dDS_init_75 (by decide) (by decide) ?_
  refine mi_as (show nI (1 * 2 ^ 19) = nI 524288 from rfl) ?_
  refine va_putF (D := g.1) (ci := 2) (v := .int (nI 524288)) (ty := .int) (C := "LatticeKeys$DsaSet") (T := T_DS) (N := 17) hx hb hts (wg_ft i_DS) ty_DS k_DS n_DS hown hK hP hD hS 0 rfl rfl 7 (by decide) (hts _ (wg_t kw_319)) (fun _ h9 => h9) rfl hnm rfl (by decide +kernel) rfl rfl (Nat.le_of_ble_eq_true rfl) dDS_init_76 (fun H locs hP hD hS => ?_)
  have hP : va_P g.1 vcl [(h0, .inr (2, [.int (nI 8), .int (nI 7), .int (nI 2), .int (nI 3), .int (nI 60), .int (nI 64), .int (nI 20), .int (nI 524288), .int 0, .int 0, .int 0, .int 0, .int 0, .int 0, .int 0, .int 0, .int 0]))] _ := hP
  have hD : va_D _ [(h0, .inr (2, [.int (nI 8), .int (nI 7), .int (nI 2), .int (nI 3), .int (nI 60), .int (nI 64), .int (nI 20), .int (nI 524288), .int 0, .int 0, .int 0, .int 0, .int 0, .int 0, .int 0, .int 0, .int 0]))] := hD
  refine lv_aload_n hx hb dDS_init_79 rfl (lv_at hl 0 rfl) ?_
  refine va_gets hx hb (hE.2.1 16 _ rfl).1 hS hown (hts _ (wg_t kw_293)) (fun _ h9 => h9) dDS_init_80 ?_
  refine lv_iload_n hx hb dDS_init_83 rfl (lv_at hl 1 rfl) ?_
  refine va_ti (v := .int (nI 16)) hx hb (hE.2.1 16 _ rfl).2 hS (vp_in_nI (by decide) (by decide)) (by decide +kernel) dDS_init_84 ?_
  refine va_putF (D := g.1) (ci := 2) (v := .int (nI 16)) (ty := .int) (C := "LatticeKeys$DsaSet") (T := T_DS) (N := 17) hx hb hts (wg_ft i_DS) ty_DS k_DS n_DS hown hK hP hD hS 0 rfl rfl 8 (by decide) (hts _ (wg_t kw_321)) (fun _ h9 => h9) rfl hnm rfl (by decide +kernel) rfl rfl (Nat.le_of_ble_eq_true rfl) dDS_init_85 (fun H locs hP hD hS => ?_)
  have hP : va_P g.1 vcl [(h0, .inr (2, [.int (nI 8), .int (nI 7), .int (nI 2), .int (nI 3), .int (nI 60), .int (nI 64), .int (nI 20), .int (nI 524288), .int (nI 16), .int 0, .int 0, .int 0, .int 0, .int 0, .int 0, .int 0, .int 0]))] _ := hP
  have hD : va_D _ [(h0, .inr (2, [.int (nI 8), .int (nI 7), .int (nI 2), .int (nI 3), .int (nI 60), .int (nI 64), .int (nI 20), .int (nI 524288), .int (nI 16), .int 0, .int 0, .int 0, .int 0, .int 0, .int 0, .int 0, .int 0]))] := hD
  refine lv_aload_n hx hb dDS_init_88 rfl (lv_at hl 0 rfl) ?_
  refine va_gets hx hb (hE.2.1 17 _ rfl).1 hS hown (hts _ (wg_t kw_295)) (fun _ h9 => h9) dDS_init_89 ?_
  refine lv_iload_n hx hb dDS_init_92 rfl (lv_at hl 1 rfl) ?_
  refine va_ti (v := .int (nI 4)) hx hb (hE.2.1 17 _ rfl).2 hS (vp_in_nI (by decide) (by decide)) (by decide +kernel) dDS_init_93 ?_
  refine va_putF (D := g.1) (ci := 2) (v := .int (nI 4)) (ty := .int) (C := "LatticeKeys$DsaSet") (T := T_DS) (N := 17) hx hb hts (wg_ft i_DS) ty_DS k_DS n_DS hown hK hP hD hS 0 rfl rfl 9 (by decide) (hts _ (wg_t kw_322)) (fun _ h9 => h9) rfl hnm rfl (by decide +kernel) rfl rfl (Nat.le_of_ble_eq_true rfl) dDS_init_94 (fun H locs hP hD hS => ?_)
  have hP : va_P g.1 vcl [(h0, .inr (2, [.int (nI 8), .int (nI 7), .int (nI 2), .int (nI 3), .int (nI 60), .int (nI 64), .int (nI 20), .int (nI 524288), .int (nI 16), .int (nI 4), .int 0, .int 0, .int 0, .int 0, .int 0, .int 0, .int 0]))] _ := hP
  have hD : va_D _ [(h0, .inr (2, [.int (nI 8), .int (nI 7), .int (nI 2), .int (nI 3), .int (nI 60), .int (nI 64), .int (nI 20), .int (nI 524288), .int (nI 16), .int (nI 4), .int 0, .int 0, .int 0, .int 0, .int 0, .int 0, .int 0]))] := hD
  refine lv_aload_n hx hb dDS_init_97 rfl (lv_at hl 0 rfl) ?_
  refine lv_ldc (v := 8380416) hx hb hown (hts _ (wg_t kw_297)) dDS_init_98 ?_
  refine mi_as (show (8380416 : Int32) = nI 8380416 by decide) ?_
  refine lv_aload_n hx hb dDS_init_100 rfl (lv_at hl 0 rfl) ?_
  refine va_get (D := g.1) (ci := 2) (C := "LatticeKeys$DsaSet") (T := T_DS) (N := 17) hx hb hts (wg_ft i_DS) hown hK hP 0 rfl rfl 8 (by decide) (hts _ (wg_t kw_321)) (fun _ h9 => h9) rfl dDS_init_101 ?_
  refine mi_idiv hx hb dDS_init_104 (by omega) (by omega) (by omega) ?_
  refine mi_as (show nI (8380416 / 16) = nI 523776 from rfl) ?_
  refine lv_iconst (v := nI 2) hx hb dDS_init_105 (by decide) ?_
  refine mi_idiv hx hb dDS_init_106 (by omega) (by omega) (by omega) ?_
  refine mi_as (show nI (523776 / 2) = nI 261888 from rfl) ?_
  refine va_putF (D := g.1) (ci := 2) (v := .int (nI 261888)) (ty := .int) (C := "LatticeKeys$DsaSet") (T := T_DS) (N := 17) hx hb hts (wg_ft i_DS) ty_DS k_DS n_DS hown hK hP hD hS 0 rfl rfl 10 (by decide) (hts _ (wg_t kw_324)) (fun _ h9 => h9) rfl hnm rfl (by decide +kernel) rfl rfl (Nat.le_of_ble_eq_true rfl) dDS_init_107 (fun H locs hP hD hS => ?_)
  have hP : va_P g.1 vcl [(h0, .inr (2, [.int (nI 8), .int (nI 7), .int (nI 2), .int (nI 3), .int (nI 60), .int (nI 64), .int (nI 20), .int (nI 524288), .int (nI 16), .int (nI 4), .int (nI 261888), .int 0, .int 0, .int 0, .int 0, .int 0, .int 0]))] _ := hP
  have hD : va_D _ [(h0, .inr (2, [.int (nI 8), .int (nI 7), .int (nI 2), .int (nI 3), .int (nI 60), .int (nI 64), .int (nI 20), .int (nI 524288), .int (nI 16), .int (nI 4), .int (nI 261888), .int 0, .int 0, .int 0, .int 0, .int 0, .int 0]))] := hD
  refine lv_aload_n hx hb dDS_init_110 rfl (lv_at hl 0 rfl) ?_
  refine va_gets hx hb (hE.2.1 18 _ rfl).1 hS hown (hts _ (wg_t kw_298)) (fun _ h9 => h9) dDS_init_111 ?_
  refine lv_iload_n hx hb dDS_init_114 rfl (lv_at hl 1 rfl) ?_
  refine va_ti (v := .int (nI 75)) hx hb (hE.2.1 18 _ rfl).2 hS (vp_in_nI (by decide) (by decide)) (by decide +kernel) dDS_init_115 ?_
  refine va_putF (D := g.1) (ci := 2) (v := .int (nI 75)) (ty := .int) (C := "LatticeKeys$DsaSet") (T := T_DS) (N := 17) hx hb hts (wg_ft i_DS) ty_DS k_DS n_DS hown hK hP hD hS 0 rfl rfl 11 (by decide) (hts _ (wg_t kw_326)) (fun _ h9 => h9) rfl hnm rfl (by decide +kernel) rfl rfl (Nat.le_of_ble_eq_true rfl) dDS_init_116 (fun H locs hP hD hS => ?_)
  have hP : va_P g.1 vcl [(h0, .inr (2, [.int (nI 8), .int (nI 7), .int (nI 2), .int (nI 3), .int (nI 60), .int (nI 64), .int (nI 20), .int (nI 524288), .int (nI 16), .int (nI 4), .int (nI 261888), .int (nI 75), .int 0, .int 0, .int 0, .int 0, .int 0]))] _ := hP
  have hD : va_D _ [(h0, .inr (2, [.int (nI 8), .int (nI 7), .int (nI 2), .int (nI 3), .int (nI 60), .int (nI 64), .int (nI 20), .int (nI 524288), .int (nI 16), .int (nI 4), .int (nI 261888), .int (nI 75), .int 0, .int 0, .int 0, .int 0, .int 0]))] := hD
  refine lv_aload_n hx hb dDS_init_119 rfl (lv_at hl 0 rfl) ?_
  refine lv_aload_n hx hb dDS_init_120 rfl (lv_at hl 0 rfl) ?_
  refine va_get (D := g.1) (ci := 2) (C := "LatticeKeys$DsaSet") (T := T_DS) (N := 17) hx hb hts (wg_ft i_DS) hown hK hP 0 rfl rfl 4 (by decide) (hts _ (wg_t kw_311)) (fun _ h9 => h9) rfl dDS_init_121 ?_
  refine lv_aload_n hx hb dDS_init_124 rfl (lv_at hl 0 rfl) ?_
  refine va_get (D := g.1) (ci := 2) (C := "LatticeKeys$DsaSet") (T := T_DS) (N := 17) hx hb hts (wg_ft i_DS) hown hK hP 0 rfl rfl 2 (by decide) (hts _ (wg_t kw_306)) (fun _ h9 => h9) rfl dDS_init_125 ?_
  refine mi_imul hx hb dDS_init_128 ?_
  refine mi_as (show nI (60 * 2) = nI 120 from rfl) ?_
  refine va_putF (D := g.1) (ci := 2) (v := .int (nI 120)) (ty := .int) (C := "LatticeKeys$DsaSet") (T := T_DS) (N := 17) hx hb hts (wg_ft i_DS) ty_DS k_DS n_DS hown hK hP hD hS 0 rfl rfl 12 (by decide) (hts _ (wg_t kw_328)) (fun _ h9 => h9) rfl hnm rfl (by decide +kernel) rfl rfl (Nat.le_of_ble_eq_true rfl) dDS_init_129 (fun H locs hP hD hS => ?_)
  have hP : va_P g.1 vcl [(h0, .inr (2, [.int (nI 8), .int (nI 7), .int (nI 2), .int (nI 3), .int (nI 60), .int (nI 64), .int (nI 20), .int (nI 524288), .int (nI 16), .int (nI 4), .int (nI 261888), .int (nI 75), .int (nI 120), .int 0, .int 0, .int 0, .int 0]))] _ := hP
  have hD : va_D _ [(h0, .inr (2, [.int (nI 8), .int (nI 7), .int (nI 2), .int (nI 3), .int (nI 60), .int (nI 64), .int (nI 20), .int (nI 524288), .int (nI 16), .int (nI 4), .int (nI 261888), .int (nI 75), .int (nI 120), .int 0, .int 0, .int 0, .int 0]))] := hD
  refine lv_aload_n hx hb dDS_init_132 rfl (lv_at hl 0 rfl) ?_
  refine lv_bipush (v := nI 32) hx hb dDS_init_133 (by decide) ?_
  refine lv_sipush (v := nI 320) hx hb dDS_init_135 (by decide) ?_
  refine lv_aload_n hx hb dDS_init_138 rfl (lv_at hl 0 rfl) ?_
  refine va_get (D := g.1) (ci := 2) (C := "LatticeKeys$DsaSet") (T := T_DS) (N := 17) hx hb hts (wg_ft i_DS) hown hK hP 0 rfl rfl 0 (by decide) (hts _ (wg_t kw_300)) (fun _ h9 => h9) rfl dDS_init_139 ?_
  refine mi_imul hx hb dDS_init_142 ?_
  refine mi_as (show nI (320 * 8) = nI 2560 from rfl) ?_
  refine mi_iadd hx hb dDS_init_143 ?_
  refine mi_as (show nI (32 + 2560) = nI 2592 from rfl) ?_
  refine va_putF (D := g.1) (ci := 2) (v := .int (nI 2592)) (ty := .int) (C := "LatticeKeys$DsaSet") (T := T_DS) (N := 17) hx hb hts (wg_ft i_DS) ty_DS k_DS n_DS hown hK hP hD hS 0 rfl rfl 13 (by decide) (hts _ (wg_t kw_330)) (fun _ h9 => h9) rfl hnm rfl (by decide +kernel) rfl rfl (Nat.le_of_ble_eq_true rfl) dDS_init_144 (fun H locs hP hD hS => ?_)
  have hP : va_P g.1 vcl [(h0, .inr (2, [.int (nI 8), .int (nI 7), .int (nI 2), .int (nI 3), .int (nI 60), .int (nI 64), .int (nI 20), .int (nI 524288), .int (nI 16), .int (nI 4), .int (nI 261888), .int (nI 75), .int (nI 120), .int (nI 2592), .int 0, .int 0, .int 0]))] _ := hP
  have hD : va_D _ [(h0, .inr (2, [.int (nI 8), .int (nI 7), .int (nI 2), .int (nI 3), .int (nI 60), .int (nI 64), .int (nI 20), .int (nI 524288), .int (nI 16), .int (nI 4), .int (nI 261888), .int (nI 75), .int (nI 120), .int (nI 2592), .int 0, .int 0, .int 0]))] := hD
  refine lv_aload_n hx hb dDS_init_147 rfl (lv_at hl 0 rfl) ?_
  refine lv_sipush (v := nI 128) hx hb dDS_init_148 (by decide) ?_
  refine lv_bipush (v := nI 32) hx hb dDS_init_151 (by decide) ?_
  refine lv_aload_n hx hb dDS_init_153 rfl (lv_at hl 0 rfl) ?_
  refine va_get (D := g.1) (ci := 2) (C := "LatticeKeys$DsaSet") (T := T_DS) (N := 17) hx hb hts (wg_ft i_DS) hown hK hP 0 rfl rfl 3 (by decide) (hts _ (wg_t kw_309)) (fun _ h9 => h9) rfl dDS_init_154 ?_
  refine lv_aload_n hx hb dDS_init_157 rfl (lv_at hl 0 rfl) ?_
  refine va_get (D := g.1) (ci := 2) (C := "LatticeKeys$DsaSet") (T := T_DS) (N := 17) hx hb hts (wg_ft i_DS) hown hK hP 0 rfl rfl 0 (by decide) (hts _ (wg_t kw_300)) (fun _ h9 => h9) rfl dDS_init_158 ?_
  refine lv_aload_n hx hb dDS_init_161 rfl (lv_at hl 0 rfl) ?_
  refine va_get (D := g.1) (ci := 2) (C := "LatticeKeys$DsaSet") (T := T_DS) (N := 17) hx hb hts (wg_ft i_DS) hown hK hP 0 rfl rfl 1 (by decide) (hts _ (wg_t kw_303)) (fun _ h9 => h9) rfl dDS_init_162 ?_
  refine mi_iadd hx hb dDS_init_165 ?_
  refine mi_as (show nI (8 + 7) = nI 15 from rfl) ?_
  refine mi_imul hx hb dDS_init_166 ?_
  refine mi_as (show nI (3 * 15) = nI 45 from rfl) ?_
  refine lv_bipush (v := nI 13) hx hb dDS_init_167 (by decide) ?_
  refine lv_aload_n hx hb dDS_init_169 rfl (lv_at hl 0 rfl) ?_
  refine va_get (D := g.1) (ci := 2) (C := "LatticeKeys$DsaSet") (T := T_DS) (N := 17) hx hb hts (wg_ft i_DS) hown hK hP 0 rfl rfl 0 (by decide) (hts _ (wg_t kw_300)) (fun _ h9 => h9) rfl dDS_init_170 ?_
  refine mi_imul hx hb dDS_init_173 ?_
  refine mi_as (show nI (13 * 8) = nI 104 from rfl) ?_
  refine mi_iadd hx hb dDS_init_174 ?_
  refine mi_as (show nI (45 + 104) = nI 149 from rfl) ?_
  refine mi_imul hx hb dDS_init_175 ?_
  refine mi_as (show nI (32 * 149) = nI 4768 from rfl) ?_
  refine mi_iadd hx hb dDS_init_176 ?_
  refine mi_as (show nI (128 + 4768) = nI 4896 from rfl) ?_
  refine va_putF (D := g.1) (ci := 2) (v := .int (nI 4896)) (ty := .int) (C := "LatticeKeys$DsaSet") (T := T_DS) (N := 17) hx hb hts (wg_ft i_DS) ty_DS k_DS n_DS hown hK hP hD hS 0 rfl rfl 14 (by decide) (hts _ (wg_t kw_332)) (fun _ h9 => h9) rfl hnm rfl (by decide +kernel) rfl rfl (Nat.le_of_ble_eq_true rfl) dDS_init_177 (fun H locs hP hD hS => ?_)
  have hP : va_P g.1 vcl [(h0, .inr (2, [.int (nI 8), .int (nI 7), .int (nI 2), .int (nI 3), .int (nI 60), .int (nI 64), .int (nI 20), .int (nI 524288), .int (nI 16), .int (nI 4), .int (nI 261888), .int (nI 75), .int (nI 120), .int (nI 2592), .int (nI 4896), .int 0, .int 0]))] _ := hP
  have hD : va_D _ [(h0, .inr (2, [.int (nI 8), .int (nI 7), .int (nI 2), .int (nI 3), .int (nI 60), .int (nI 64), .int (nI 20), .int (nI 524288), .int (nI 16), .int (nI 4), .int (nI 261888), .int (nI 75), .int (nI 120), .int (nI 2592), .int (nI 4896), .int 0, .int 0]))] := hD
  refine lv_aload_n hx hb dDS_init_180 rfl (lv_at hl 0 rfl) ?_
  refine lv_aload_n hx hb dDS_init_181 rfl (lv_at hl 0 rfl) ?_
  refine va_get (D := g.1) (ci := 2) (C := "LatticeKeys$DsaSet") (T := T_DS) (N := 17) hx hb hts (wg_ft i_DS) hown hK hP 0 rfl rfl 5 (by decide) (hts _ (wg_t kw_313)) (fun _ h9 => h9) rfl dDS_init_182 ?_
  refine lv_bipush (v := nI 32) hx hb dDS_init_185 (by decide) ?_
  refine lv_aload_n hx hb dDS_init_187 rfl (lv_at hl 0 rfl) ?_
  refine va_get (D := g.1) (ci := 2) (C := "LatticeKeys$DsaSet") (T := T_DS) (N := 17) hx hb hts (wg_ft i_DS) hown hK hP 0 rfl rfl 6 (by decide) (hts _ (wg_t kw_316)) (fun _ h9 => h9) rfl dDS_init_188 ?_
  refine mi_imul hx hb dDS_init_191 ?_
  refine mi_as (show nI (32 * 20) = nI 640 from rfl) ?_
  refine lv_aload_n hx hb dDS_init_192 rfl (lv_at hl 0 rfl) ?_
  refine va_get (D := g.1) (ci := 2) (C := "LatticeKeys$DsaSet") (T := T_DS) (N := 17) hx hb hts (wg_ft i_DS) hown hK hP 0 rfl rfl 1 (by decide) (hts _ (wg_t kw_303)) (fun _ h9 => h9) rfl dDS_init_193 ?_
  refine mi_imul hx hb dDS_init_196 ?_
  refine mi_as (show nI (640 * 7) = nI 4480 from rfl) ?_
  refine mi_iadd hx hb dDS_init_197 ?_
  refine mi_as (show nI (64 + 4480) = nI 4544 from rfl) ?_
  refine va_putF (D := g.1) (ci := 2) (v := .int (nI 4544)) (ty := .int) (C := "LatticeKeys$DsaSet") (T := T_DS) (N := 17) hx hb hts (wg_ft i_DS) ty_DS k_DS n_DS hown hK hP hD hS 0 rfl rfl 15 (by decide) (hts _ (wg_t kw_334)) (fun _ h9 => h9) rfl hnm rfl (by decide +kernel) rfl rfl (Nat.le_of_ble_eq_true rfl) dDS_init_198 (fun H locs hP hD hS => ?_)
  have hP : va_P g.1 vcl [(h0, .inr (2, [.int (nI 8), .int (nI 7), .int (nI 2), .int (nI 3), .int (nI 60), .int (nI 64), .int (nI 20), .int (nI 524288), .int (nI 16), .int (nI 4), .int (nI 261888), .int (nI 75), .int (nI 120), .int (nI 2592), .int (nI 4896), .int (nI 4544), .int 0]))] _ := hP
  have hD : va_D _ [(h0, .inr (2, [.int (nI 8), .int (nI 7), .int (nI 2), .int (nI 3), .int (nI 60), .int (nI 64), .int (nI 20), .int (nI 524288), .int (nI 16), .int (nI 4), .int (nI 261888), .int (nI 75), .int (nI 120), .int (nI 2592), .int (nI 4896), .int (nI 4544), .int 0]))] := hD
  refine lv_aload_n hx hb dDS_init_201 rfl (lv_at hl 0 rfl) ?_
  refine lv_aload_n hx hb dDS_init_202 rfl (lv_at hl 0 rfl) ?_
  refine va_get (D := g.1) (ci := 2) (C := "LatticeKeys$DsaSet") (T := T_DS) (N := 17) hx hb hts (wg_ft i_DS) hown hK hP 0 rfl rfl 15 (by decide) (hts _ (wg_t kw_334)) (fun _ h9 => h9) rfl dDS_init_203 ?_
  refine lv_aload_n hx hb dDS_init_206 rfl (lv_at hl 0 rfl) ?_
  refine va_get (D := g.1) (ci := 2) (C := "LatticeKeys$DsaSet") (T := T_DS) (N := 17) hx hb hts (wg_ft i_DS) hown hK hP 0 rfl rfl 11 (by decide) (hts _ (wg_t kw_326)) (fun _ h9 => h9) rfl dDS_init_207 ?_
  refine mi_iadd hx hb dDS_init_210 ?_
  refine mi_as (show nI (4544 + 75) = nI 4619 from rfl) ?_
  refine lv_aload_n hx hb dDS_init_211 rfl (lv_at hl 0 rfl) ?_
  refine va_get (D := g.1) (ci := 2) (C := "LatticeKeys$DsaSet") (T := T_DS) (N := 17) hx hb hts (wg_ft i_DS) hown hK hP 0 rfl rfl 0 (by decide) (hts _ (wg_t kw_300)) (fun _ h9 => h9) rfl dDS_init_212 ?_
  refine mi_iadd hx hb dDS_init_215 ?_
  refine mi_as (show nI (4619 + 8) = nI 4627 from rfl) ?_
  refine va_putF (D := g.1) (ci := 2) (v := .int (nI 4627)) (ty := .int) (C := "LatticeKeys$DsaSet") (T := T_DS) (N := 17) hx hb hts (wg_ft i_DS) ty_DS k_DS n_DS hown hK hP hD hS 0 rfl rfl 16 (by decide) (hts _ (wg_t kw_336)) (fun _ h9 => h9) rfl hnm rfl (by decide +kernel) rfl rfl (Nat.le_of_ble_eq_true rfl) dDS_init_216 (fun H locs hP hD hS => ?_)
  have hP : va_P g.1 vcl [(h0, .inr (2, [.int (nI 8), .int (nI 7), .int (nI 2), .int (nI 3), .int (nI 60), .int (nI 64), .int (nI 20), .int (nI 524288), .int (nI 16), .int (nI 4), .int (nI 261888), .int (nI 75), .int (nI 120), .int (nI 2592), .int (nI 4896), .int (nI 4544), .int (nI 4627)]))] _ := hP
  have hD : va_D _ [(h0, .inr (2, [.int (nI 8), .int (nI 7), .int (nI 2), .int (nI 3), .int (nI 60), .int (nI 64), .int (nI 20), .int (nI 524288), .int (nI 16), .int (nI 4), .int (nI 261888), .int (nI 75), .int (nI 120), .int (nI 2592), .int (nI 4896), .int (nI 4544), .int (nI 4627)]))] := hD
  exact mc_vret hx hb hr hlk hP hD hS () trivial [0] rfl rfl (by omega) (by omega) dDS_init_219
