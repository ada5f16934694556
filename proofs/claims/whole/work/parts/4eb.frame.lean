set_option linter.all false
/-! THE CLAIM OUT OF ONE WALK OF THE LAW'S BODY. Your part is whole_start (and what it stands on); all else here is the same for every law, but numbers. -/
def R_law : String := "LatticeKeysLaw"
def lw_P (b : Addr) (xs : List Int32) (args : Array Value) (s : State) : Prop := args = #[.ref b] ∧ s.IntsAt b xs ∧ xs.length ≤ 3072 ∧ (Jvm.Cond.and given_1 narrow_1).before args s = true
def lw_Q (_ : Array Value) (s : State) (o : Outcome) (t : State) : Prop := o = .returned (some (.int 1)) ∧ Framed s o t [] 601024 7293034
def lw_Z (below : List Frame) (a : Array Value) (s : State) : State → Prop := fun t => ∃ o, t.status = .running ∧ Ended t below o ∧ lw_Q a s o t
/-- the law's own end, with 1 on the stack, nothing written that was there before, its room as the claim has it -/
theorem lw_ret {p : Program} {l : Launch} {e : Env} {s : State} {m : MethodId} {below : List Frame} {meth : Method} {c : Code} {b : Nat} (hx : p.tables.exec = Jvm.exec) (hb : c.code = code) (hr : meth.sig.returnType = ret) (hlocks : meth.locks = false) {pc : Nat} {H : Heap} {ls : Array Slot} (hdg : decode code pc = .ok (.ireturn, 1)) : W p l e room_1 s m #[Value.ref b] below meth c H [] 601024 7293034 (lw_Z below #[Value.ref b] s) (F0 m pc ls [.int 1]) := by
  intro T hT X
  obtain ⟨fs, hret, hrun, hended, hW, hframe⟩ := X.leave (v := some (.int 1)) (hlocks := hlocks) (fun h => by rw [hr] at h; cases h)
  have hmeth' : T.vm.method? m = some meth := X.method'
  refine ⟨T.setFrames fs, ?_, .returned (some (.int 1)), hrun, hended, rfl, ⟨_, rfl⟩, hW, hframe⟩
  jvm_step X.here [X.here.top, hx, hb, hdg, hmeth', hr, ret, narrow_b1]
  (try refine ⟨rfl, ?_⟩); (try refine ⟨rfl, ?_⟩)
  first | (intro acts; rw [hret _ acts rfl rfl rfl]) | rw [hret _ _ rfl rfl rfl]
  exact Steps.refl _
/-- what holds at the law's entry: the machine, the code, the tables' words (any of lw_tbl by 'hts w (by decide +kernel)'), the script of L ints xs at the cell b, what the Statement gives of the start (any of its parts by flat_of_before) -/
def lw_At (p : Program) (s : State) (m : MethodId) (meth : Method) (c : Code) (b L : Nat) (xs : Nat → Int32) : Prop :=
  p.tables.exec = Jvm.exec ∧ c.code = code ∧ meth.sig.returnType = ret ∧ c.maxLocals = 7 ∧ s.vm.findClass R_law = some m.cls ∧ (∀ w ∈ lw_tbl, w.before #[Value.ref b] s = true) ∧ va_X b L xs s s.heap ∧ b < s.heap.size ∧ meth.locks = false ∧ (Jvm.Cond.and given_1 narrow_1).before #[Value.ref b] s = true
theorem lc_cmp (x : Int64) : lg_cmp x x = nI 0 := by
  unfold lg_cmp
  rw [if_neg (by rw [gt_iff_lt, Int64.lt_iff_toInt_lt]; omega), if_pos rfl]
  rfl
theorem lt6 : ∀ L : Nat, L < 6 → nI L - nI 6 < nI 0 := by decide
theorem lv_subm {ls : Array Slot} {n : Nat} {lv lw : List (Nat × Value)} (h : lv_has ls n lv) (is : List Nat) (hs : is.map (fun i => lv[i]?) = lw.map some) : lv_has ls n lw := by
  refine ⟨h.1, h.2.1, fun q hq => ?_⟩
  obtain ⟨k, hk⟩ := List.getElem?_of_mem hq
  have h1 : (is.map (fun i => lv[i]?))[k]? = some (some q) := by rw [hs, List.getElem?_map, hk]; rfl
  rw [List.getElem?_map] at h1
  cases hi : is[k]? with
  | none => rw [hi] at h1; cases h1
  | some i => rw [hi] at h1; exact h.2.2 q (List.mem_of_getElem? (Option.some.inj h1))
abbrev wL : List Cond := Cond.code Lib.objectInit ⟨#[0xb1]⟩ 1 none :: WG
abbrev Alaw (s : State) : Nat → Prop := fun q => s.heap.size ≤ q
set_option maxRecDepth 100000 in
theorem kw_414 : (Jvm.Cond.codeWith ({ cls := "LatticeKeysLaw", name := "feed", desc := "(LLatticeKeys;IIIII[J)I" } : Jvm.MethodName) method_3_code (8 : Nat) (Option.some Jvm.ClassFile.FieldType.int) [((0 : Nat), (16 : Nat), (19 : Nat), (13 : Nat))]) ∈ WG := wgr_2 174 (by rfl) (by rfl)
set_option maxRecDepth 100000 in
theorem kw_495 : (Jvm.Cond.codeWith ({ cls := "LatticeKeysLaw", name := "end", desc := "(LLatticeKeys;I[J)I" } : Jvm.MethodName) method_4_code (4 : Nat) (Option.some Jvm.ClassFile.FieldType.int) [((0 : Nat), (9 : Nat), (12 : Nat), (19 : Nat))]) ∈ WG := wgr_3 15 (by rfl) (by rfl)
set_option maxRecDepth 100000 in
theorem kw_519 : (Jvm.Cond.codeWith ({ cls := "LatticeKeysLaw", name := "again", desc := "(LLatticeKeys;[J)I" } : Jvm.MethodName) method_5_code (3 : Nat) (Option.some Jvm.ClassFile.FieldType.int) [((0 : Nat), (8 : Nat), (11 : Nat), (13 : Nat))]) ∈ WG := wgr_3 39 (by rfl) (by rfl)
set_option maxRecDepth 100000 in
theorem kw_529 : (Jvm.Cond.codeWith ({ cls := "LatticeKeysLaw", name := "alter", desc := "(LLatticeKeys;II[J)I" } : Jvm.MethodName) method_6_code (5 : Nat) (Option.some Jvm.ClassFile.FieldType.int) [((0 : Nat), (10 : Nat), (13 : Nat), (29 : Nat))]) ∈ WG := wgr_3 49 (by rfl) (by rfl)
set_option maxRecDepth 100000 in
theorem kw_553 : (Jvm.Cond.codeWith ({ cls := "LatticeKeysLaw", name := "keys", desc := "(LLatticeKeys;I[J)I" } : Jvm.MethodName) method_7_code (4 : Nat) (Option.some Jvm.ClassFile.FieldType.int) [((0 : Nat), (9 : Nat), (12 : Nat), (19 : Nat)), ((0 : Nat), (9 : Nat), (15 : Nat), (13 : Nat))]) ∈ WG := wgr_3 73 (by rfl) (by rfl)
set_option maxRecDepth 100000 in
theorem kw_766 : (Jvm.Cond.codeWith ({ cls := "LatticeKeysLaw", name := "load", desc := "(LLatticeKeys;IZ[J)I" } : Jvm.MethodName) method_8_code (5 : Nat) (Option.some Jvm.ClassFile.FieldType.int) [((0 : Nat), (10 : Nat), (13 : Nat), (19 : Nat)), ((0 : Nat), (10 : Nat), (17 : Nat), (38 : Nat)), ((0 : Nat), (10 : Nat), (21 : Nat), (13 : Nat))]) ∈ WG := wgr_4 46 (by rfl) (by rfl)
set_option maxRecDepth 100000 in
theorem kw_1050 : (Jvm.Cond.codeWith ({ cls := "LatticeKeysLaw", name := "part", desc := "(LLatticeKeys;IZI[J)I" } : Jvm.MethodName) method_9_code (6 : Nat) (Option.some Jvm.ClassFile.FieldType.int) [((0 : Nat), (12 : Nat), (15 : Nat), (44 : Nat)), ((0 : Nat), (12 : Nat), (19 : Nat), (29 : Nat))]) ∈ WG := wgr_5 90 (by rfl) (by rfl)
set_option maxRecDepth 100000 in
theorem kw_1083 : (Jvm.Cond.codeWith ({ cls := "LatticeKeysLaw", name := "show", desc := "(LLatticeKeys;IZ[J)I" } : Jvm.MethodName) method_10_code (5 : Nat) (Option.some Jvm.ClassFile.FieldType.int) [((0 : Nat), (10 : Nat), (13 : Nat), (44 : Nat))]) ∈ WG := wgr_5 123 (by rfl) (by rfl)
set_option maxRecDepth 100000 in
theorem kw_1090 : (Jvm.Cond.codeWith ({ cls := "LatticeKeysLaw", name := "told", desc := "(LLatticeKeys;II[J)I" } : Jvm.MethodName) method_11_code (5 : Nat) (Option.some Jvm.ClassFile.FieldType.int) [((0 : Nat), (10 : Nat), (13 : Nat), (44 : Nat)), ((0 : Nat), (10 : Nat), (17 : Nat), (19 : Nat))]) ∈ WG := wgr_5 130 (by rfl) (by rfl)
set_option maxRecDepth 100000 in
theorem kw_1099 : (Jvm.Cond.codeWith ({ cls := "LatticeKeysLaw", name := "seal", desc := "(LLatticeKeys;I[J)I" } : Jvm.MethodName) method_12_code (4 : Nat) (Option.some Jvm.ClassFile.FieldType.int) [((0 : Nat), (9 : Nat), (12 : Nat), (44 : Nat)), ((0 : Nat), (9 : Nat), (15 : Nat), (19 : Nat))]) ∈ WG := wgr_5 139 (by rfl) (by rfl)
set_option maxRecDepth 100000 in
theorem kw_1139 : (Jvm.Cond.codeWith ({ cls := "LatticeKeysLaw", name := "open", desc := "(LLatticeKeys;I[J)I" } : Jvm.MethodName) method_13_code (4 : Nat) (Option.some Jvm.ClassFile.FieldType.int) [((0 : Nat), (9 : Nat), (12 : Nat), (44 : Nat)), ((0 : Nat), (9 : Nat), (15 : Nat), (19 : Nat))]) ∈ WG := wgr_5 179 (by rfl) (by rfl)
set_option maxRecDepth 100000 in
theorem kw_1160 : (Jvm.Cond.codeWith ({ cls := "LatticeKeysLaw", name := "sign", desc := "(LLatticeKeys;II[J)I" } : Jvm.MethodName) method_14_code (5 : Nat) (Option.some Jvm.ClassFile.FieldType.int) [((0 : Nat), (10 : Nat), (13 : Nat), (44 : Nat)), ((0 : Nat), (10 : Nat), (17 : Nat), (19 : Nat)), ((0 : Nat), (10 : Nat), (21 : Nat), (13 : Nat))]) ∈ WG := wgr_5 200 (by rfl) (by rfl)
set_option maxRecDepth 100000 in
theorem kw_1255 : (Jvm.Cond.codeWith ({ cls := "LatticeKeysLaw", name := "verify", desc := "(LLatticeKeys;II[J)I" } : Jvm.MethodName) method_15_code (5 : Nat) (Option.some Jvm.ClassFile.FieldType.int) [((0 : Nat), (17 : Nat), (20 : Nat), (44 : Nat)), ((0 : Nat), (17 : Nat), (24 : Nat), (19 : Nat))]) ∈ WG := wgr_6 55 (by rfl) (by rfl)
set_option maxRecDepth 100000 in
theorem kw_1293 : (Jvm.Cond.codeWith ({ cls := "LatticeKeysLaw", name := "hash", desc := "(LLatticeKeys;II[J)I" } : Jvm.MethodName) method_16_code (5 : Nat) (Option.some Jvm.ClassFile.FieldType.int) [((0 : Nat), (10 : Nat), (13 : Nat), (19 : Nat))]) ∈ WG := wgr_6 93 (by rfl) (by rfl)
set_option maxRecDepth 100000 in
theorem kw_1305 : (Jvm.Cond.codeWith ({ cls := "LatticeKeysLaw", name := "result", desc := "(LLatticeKeys;I[J)I" } : Jvm.MethodName) method_17_code (4 : Nat) (Option.some Jvm.ClassFile.FieldType.int) [((0 : Nat), (9 : Nat), (12 : Nat), (29 : Nat))]) ∈ WG := wgr_6 105 (by rfl) (by rfl)
abbrev c_L_law : ByteArray := code
theorem dL_law_0 : decode c_L_law 0 = .ok (.new 8, 3) := by decide +kernel
theorem dL_law_3 : decode c_L_law 3 = .ok (.dup, 1) := by decide +kernel
theorem dL_law_4 : decode c_L_law 4 = .ok (.invokespecial 71, 3) := by decide +kernel
theorem dL_law_7 : decode c_L_law 7 = .ok (.astore_n 1, 1) := by decide +kernel
theorem dL_law_8 : decode c_L_law 8 = .ok (.new 72, 3) := by decide +kernel
theorem dL_law_11 : decode c_L_law 11 = .ok (.dup, 1) := by decide +kernel
theorem dL_law_12 : decode c_L_law 12 = .ok (.invokespecial 74, 3) := by decide +kernel
theorem dL_law_15 : decode c_L_law 15 = .ok (.astore_n 2, 1) := by decide +kernel
theorem dL_law_16 : decode c_L_law 16 = .ok (.iconst 1, 1) := by decide +kernel
theorem dL_law_17 : decode c_L_law 17 = .ok (.newarray .long, 2) := by decide +kernel
theorem dL_law_19 : decode c_L_law 19 = .ok (.astore_n 3, 1) := by decide +kernel
theorem dL_law_20 : decode c_L_law 20 = .ok (.iconst 0, 1) := by decide +kernel
theorem dL_law_21 : decode c_L_law 21 = .ok (.istore 4, 2) := by decide +kernel
theorem dL_law_23 : decode c_L_law 23 = .ok (.iload 4, 2) := by decide +kernel
theorem dL_law_25 : decode c_L_law 25 = .ok (.aload_n 0, 1) := by decide +kernel
theorem dL_law_26 : decode c_L_law 26 = .ok (.arraylength, 1) := by decide +kernel
theorem dL_law_27 : decode c_L_law 27 = .ok (.bipush 6, 2) := by decide +kernel
theorem dL_law_29 : decode c_L_law 29 = .ok (.isub, 1) := by decide +kernel
theorem dL_law_30 : decode c_L_law 30 = .ok (.if_icmp .gt 1160, 3) := by decide +kernel
theorem dL_law_33 : decode c_L_law 33 = .ok (.aload_n 0, 1) := by decide +kernel
theorem dL_law_34 : decode c_L_law 34 = .ok (.iload 4, 2) := by decide +kernel
theorem dL_law_36 : decode c_L_law 36 = .ok (.iaload, 1) := by decide +kernel
theorem dL_law_37 : decode c_L_law 37 = .ok (.bipush 15, 2) := by decide +kernel
theorem dL_law_39 : decode c_L_law 39 = .ok (.iand, 1) := by decide +kernel
theorem dL_law_40 : decode c_L_law 40 = .ok (.tableswitch 1144 0 15 #[80, 184, 240, 284, 352, 408, 492, 588, 672, 740, 796, 852, 920, 995, 1063, 1119], 80) := by decide +kernel
theorem dL_law_120 : decode c_L_law 120 = .ok (.aload_n 1, 1) := by decide +kernel
theorem dL_law_121 : decode c_L_law 121 = .ok (.aload_n 0, 1) := by decide +kernel
theorem dL_law_122 : decode c_L_law 122 = .ok (.iload 4, 2) := by decide +kernel
theorem dL_law_124 : decode c_L_law 124 = .ok (.iconst 1, 1) := by decide +kernel
theorem dL_law_125 : decode c_L_law 125 = .ok (.iadd, 1) := by decide +kernel
theorem dL_law_126 : decode c_L_law 126 = .ok (.iaload, 1) := by decide +kernel
theorem dL_law_127 : decode c_L_law 127 = .ok (.aload_n 0, 1) := by decide +kernel
theorem dL_law_128 : decode c_L_law 128 = .ok (.iload 4, 2) := by decide +kernel
theorem dL_law_130 : decode c_L_law 130 = .ok (.iconst 2, 1) := by decide +kernel
theorem dL_law_131 : decode c_L_law 131 = .ok (.iadd, 1) := by decide +kernel
theorem dL_law_132 : decode c_L_law 132 = .ok (.iaload, 1) := by decide +kernel
theorem dL_law_133 : decode c_L_law 133 = .ok (.aload_n 0, 1) := by decide +kernel
theorem dL_law_134 : decode c_L_law 134 = .ok (.iload 4, 2) := by decide +kernel
theorem dL_law_136 : decode c_L_law 136 = .ok (.iconst 3, 1) := by decide +kernel
theorem dL_law_137 : decode c_L_law 137 = .ok (.iadd, 1) := by decide +kernel
theorem dL_law_138 : decode c_L_law 138 = .ok (.iaload, 1) := by decide +kernel
theorem dL_law_139 : decode c_L_law 139 = .ok (.aload_n 0, 1) := by decide +kernel
theorem dL_law_140 : decode c_L_law 140 = .ok (.iload 4, 2) := by decide +kernel
theorem dL_law_142 : decode c_L_law 142 = .ok (.iconst 4, 1) := by decide +kernel
theorem dL_law_143 : decode c_L_law 143 = .ok (.iadd, 1) := by decide +kernel
theorem dL_law_144 : decode c_L_law 144 = .ok (.iaload, 1) := by decide +kernel
theorem dL_law_145 : decode c_L_law 145 = .ok (.aload_n 0, 1) := by decide +kernel
theorem dL_law_146 : decode c_L_law 146 = .ok (.iload 4, 2) := by decide +kernel
theorem dL_law_148 : decode c_L_law 148 = .ok (.iconst 5, 1) := by decide +kernel
theorem dL_law_149 : decode c_L_law 149 = .ok (.iadd, 1) := by decide +kernel
theorem dL_law_150 : decode c_L_law 150 = .ok (.iaload, 1) := by decide +kernel
theorem dL_law_151 : decode c_L_law 151 = .ok (.aload_n 3, 1) := by decide +kernel
theorem dL_law_152 : decode c_L_law 152 = .ok (.invokestatic 75, 3) := by decide +kernel
theorem dL_law_155 : decode c_L_law 155 = .ok (.istore 5, 2) := by decide +kernel
theorem dL_law_157 : decode c_L_law 157 = .ok (.aload_n 2, 1) := by decide +kernel
theorem dL_law_158 : decode c_L_law 158 = .ok (.aload_n 0, 1) := by decide +kernel
theorem dL_law_159 : decode c_L_law 159 = .ok (.iload 4, 2) := by decide +kernel
theorem dL_law_161 : decode c_L_law 161 = .ok (.iconst 1, 1) := by decide +kernel
theorem dL_law_162 : decode c_L_law 162 = .ok (.iadd, 1) := by decide +kernel
theorem dL_law_163 : decode c_L_law 163 = .ok (.iaload, 1) := by decide +kernel
theorem dL_law_164 : decode c_L_law 164 = .ok (.aload_n 0, 1) := by decide +kernel
theorem dL_law_165 : decode c_L_law 165 = .ok (.iload 4, 2) := by decide +kernel
theorem dL_law_167 : decode c_L_law 167 = .ok (.iconst 2, 1) := by decide +kernel
theorem dL_law_168 : decode c_L_law 168 = .ok (.iadd, 1) := by decide +kernel
theorem dL_law_169 : decode c_L_law 169 = .ok (.iaload, 1) := by decide +kernel
theorem dL_law_170 : decode c_L_law 170 = .ok (.aload_n 0, 1) := by decide +kernel
theorem dL_law_171 : decode c_L_law 171 = .ok (.iload 4, 2) := by decide +kernel
theorem dL_law_173 : decode c_L_law 173 = .ok (.iconst 3, 1) := by decide +kernel
theorem dL_law_174 : decode c_L_law 174 = .ok (.iadd, 1) := by decide +kernel
theorem dL_law_175 : decode c_L_law 175 = .ok (.iaload, 1) := by decide +kernel
theorem dL_law_176 : decode c_L_law 176 = .ok (.aload_n 0, 1) := by decide +kernel
theorem dL_law_177 : decode c_L_law 177 = .ok (.iload 4, 2) := by decide +kernel
theorem dL_law_179 : decode c_L_law 179 = .ok (.iconst 4, 1) := by decide +kernel
theorem dL_law_180 : decode c_L_law 180 = .ok (.iadd, 1) := by decide +kernel
theorem dL_law_181 : decode c_L_law 181 = .ok (.iaload, 1) := by decide +kernel
theorem dL_law_182 : decode c_L_law 182 = .ok (.aload_n 0, 1) := by decide +kernel
theorem dL_law_183 : decode c_L_law 183 = .ok (.iload 4, 2) := by decide +kernel
theorem dL_law_185 : decode c_L_law 185 = .ok (.iconst 5, 1) := by decide +kernel
theorem dL_law_186 : decode c_L_law 186 = .ok (.iadd, 1) := by decide +kernel
theorem dL_law_187 : decode c_L_law 187 = .ok (.iaload, 1) := by decide +kernel
theorem dL_law_188 : decode c_L_law 188 = .ok (.invokevirtual 80, 3) := by decide +kernel
theorem dL_law_191 : decode c_L_law 191 = .ok (.istore 6, 2) := by decide +kernel
theorem dL_law_193 : decode c_L_law 193 = .ok (.aload_n 2, 1) := by decide +kernel
theorem dL_law_194 : decode c_L_law 194 = .ok (.invokevirtual 81, 3) := by decide +kernel
theorem dL_law_197 : decode c_L_law 197 = .ok (.iload 5, 2) := by decide +kernel
theorem dL_law_199 : decode c_L_law 199 = .ok (.if_icmp .eq 5, 3) := by decide +kernel
theorem dL_law_202 : decode c_L_law 202 = .ok (.iconst 0, 1) := by decide +kernel
theorem dL_law_203 : decode c_L_law 203 = .ok (.ireturn, 1) := by decide +kernel
theorem dL_law_204 : decode c_L_law 204 = .ok (.iload 5, 2) := by decide +kernel
theorem dL_law_206 : decode c_L_law 206 = .ok (.ifCond .ne 15, 3) := by decide +kernel
theorem dL_law_209 : decode c_L_law 209 = .ok (.aload_n 3, 1) := by decide +kernel
theorem dL_law_210 : decode c_L_law 210 = .ok (.iconst 0, 1) := by decide +kernel
theorem dL_law_211 : decode c_L_law 211 = .ok (.laload, 1) := by decide +kernel
theorem dL_law_212 : decode c_L_law 212 = .ok (.iload 6, 2) := by decide +kernel
theorem dL_law_214 : decode c_L_law 214 = .ok (.i2l, 1) := by decide +kernel
theorem dL_law_215 : decode c_L_law 215 = .ok (.lcmp, 1) := by decide +kernel
theorem dL_law_216 : decode c_L_law 216 = .ok (.ifCond .eq 5, 3) := by decide +kernel
theorem dL_law_219 : decode c_L_law 219 = .ok (.iconst 0, 1) := by decide +kernel
theorem dL_law_220 : decode c_L_law 220 = .ok (.ireturn, 1) := by decide +kernel
theorem dL_law_221 : decode c_L_law 221 = .ok (.goto 963, 3) := by decide +kernel
theorem dL_law_224 : decode c_L_law 224 = .ok (.aload_n 1, 1) := by decide +kernel
theorem dL_law_225 : decode c_L_law 225 = .ok (.aload_n 0, 1) := by decide +kernel
theorem dL_law_226 : decode c_L_law 226 = .ok (.iload 4, 2) := by decide +kernel
theorem dL_law_228 : decode c_L_law 228 = .ok (.iconst 1, 1) := by decide +kernel
theorem dL_law_229 : decode c_L_law 229 = .ok (.iadd, 1) := by decide +kernel
theorem dL_law_230 : decode c_L_law 230 = .ok (.iaload, 1) := by decide +kernel
theorem dL_law_231 : decode c_L_law 231 = .ok (.aload_n 3, 1) := by decide +kernel
theorem dL_law_232 : decode c_L_law 232 = .ok (.invokestatic 84, 3) := by decide +kernel
theorem dL_law_235 : decode c_L_law 235 = .ok (.istore 5, 2) := by decide +kernel
theorem dL_law_237 : decode c_L_law 237 = .ok (.aload_n 2, 1) := by decide +kernel
theorem dL_law_238 : decode c_L_law 238 = .ok (.aload_n 0, 1) := by decide +kernel
theorem dL_law_239 : decode c_L_law 239 = .ok (.iload 4, 2) := by decide +kernel
theorem dL_law_241 : decode c_L_law 241 = .ok (.iconst 1, 1) := by decide +kernel
theorem dL_law_242 : decode c_L_law 242 = .ok (.iadd, 1) := by decide +kernel
theorem dL_law_243 : decode c_L_law 243 = .ok (.iaload, 1) := by decide +kernel
theorem dL_law_244 : decode c_L_law 244 = .ok (.invokevirtual 87, 3) := by decide +kernel
theorem dL_law_247 : decode c_L_law 247 = .ok (.istore 6, 2) := by decide +kernel
theorem dL_law_249 : decode c_L_law 249 = .ok (.aload_n 2, 1) := by decide +kernel
theorem dL_law_250 : decode c_L_law 250 = .ok (.invokevirtual 81, 3) := by decide +kernel
theorem dL_law_253 : decode c_L_law 253 = .ok (.iload 5, 2) := by decide +kernel
theorem dL_law_255 : decode c_L_law 255 = .ok (.if_icmp .eq 5, 3) := by decide +kernel
theorem dL_law_258 : decode c_L_law 258 = .ok (.iconst 0, 1) := by decide +kernel
theorem dL_law_259 : decode c_L_law 259 = .ok (.ireturn, 1) := by decide +kernel
theorem dL_law_260 : decode c_L_law 260 = .ok (.iload 5, 2) := by decide +kernel
theorem dL_law_262 : decode c_L_law 262 = .ok (.ifCond .ne 15, 3) := by decide +kernel
theorem dL_law_265 : decode c_L_law 265 = .ok (.aload_n 3, 1) := by decide +kernel
theorem dL_law_266 : decode c_L_law 266 = .ok (.iconst 0, 1) := by decide +kernel
theorem dL_law_267 : decode c_L_law 267 = .ok (.laload, 1) := by decide +kernel
theorem dL_law_268 : decode c_L_law 268 = .ok (.iload 6, 2) := by decide +kernel
theorem dL_law_270 : decode c_L_law 270 = .ok (.i2l, 1) := by decide +kernel
theorem dL_law_271 : decode c_L_law 271 = .ok (.lcmp, 1) := by decide +kernel
theorem dL_law_272 : decode c_L_law 272 = .ok (.ifCond .eq 5, 3) := by decide +kernel
theorem dL_law_275 : decode c_L_law 275 = .ok (.iconst 0, 1) := by decide +kernel
theorem dL_law_276 : decode c_L_law 276 = .ok (.ireturn, 1) := by decide +kernel
theorem dL_law_277 : decode c_L_law 277 = .ok (.goto 907, 3) := by decide +kernel
theorem dL_law_280 : decode c_L_law 280 = .ok (.aload_n 1, 1) := by decide +kernel
theorem dL_law_281 : decode c_L_law 281 = .ok (.aload_n 3, 1) := by decide +kernel
theorem dL_law_282 : decode c_L_law 282 = .ok (.invokestatic 88, 3) := by decide +kernel
theorem dL_law_285 : decode c_L_law 285 = .ok (.istore 5, 2) := by decide +kernel
theorem dL_law_287 : decode c_L_law 287 = .ok (.aload_n 2, 1) := by decide +kernel
theorem dL_law_288 : decode c_L_law 288 = .ok (.invokevirtual 91, 3) := by decide +kernel
theorem dL_law_291 : decode c_L_law 291 = .ok (.istore 6, 2) := by decide +kernel
theorem dL_law_293 : decode c_L_law 293 = .ok (.aload_n 2, 1) := by decide +kernel
theorem dL_law_294 : decode c_L_law 294 = .ok (.invokevirtual 81, 3) := by decide +kernel
theorem dL_law_297 : decode c_L_law 297 = .ok (.iload 5, 2) := by decide +kernel
theorem dL_law_299 : decode c_L_law 299 = .ok (.if_icmp .eq 5, 3) := by decide +kernel
theorem dL_law_302 : decode c_L_law 302 = .ok (.iconst 0, 1) := by decide +kernel
theorem dL_law_303 : decode c_L_law 303 = .ok (.ireturn, 1) := by decide +kernel
theorem dL_law_304 : decode c_L_law 304 = .ok (.iload 5, 2) := by decide +kernel
theorem dL_law_306 : decode c_L_law 306 = .ok (.ifCond .ne 15, 3) := by decide +kernel
theorem dL_law_309 : decode c_L_law 309 = .ok (.aload_n 3, 1) := by decide +kernel
theorem dL_law_310 : decode c_L_law 310 = .ok (.iconst 0, 1) := by decide +kernel
theorem dL_law_311 : decode c_L_law 311 = .ok (.laload, 1) := by decide +kernel
theorem dL_law_312 : decode c_L_law 312 = .ok (.iload 6, 2) := by decide +kernel
theorem dL_law_314 : decode c_L_law 314 = .ok (.i2l, 1) := by decide +kernel
theorem dL_law_315 : decode c_L_law 315 = .ok (.lcmp, 1) := by decide +kernel
theorem dL_law_316 : decode c_L_law 316 = .ok (.ifCond .eq 5, 3) := by decide +kernel
theorem dL_law_319 : decode c_L_law 319 = .ok (.iconst 0, 1) := by decide +kernel
theorem dL_law_320 : decode c_L_law 320 = .ok (.ireturn, 1) := by decide +kernel
theorem dL_law_321 : decode c_L_law 321 = .ok (.goto 863, 3) := by decide +kernel
theorem dL_law_324 : decode c_L_law 324 = .ok (.aload_n 1, 1) := by decide +kernel
theorem dL_law_325 : decode c_L_law 325 = .ok (.aload_n 0, 1) := by decide +kernel
theorem dL_law_326 : decode c_L_law 326 = .ok (.iload 4, 2) := by decide +kernel
theorem dL_law_328 : decode c_L_law 328 = .ok (.iconst 1, 1) := by decide +kernel
theorem dL_law_329 : decode c_L_law 329 = .ok (.iadd, 1) := by decide +kernel
theorem dL_law_330 : decode c_L_law 330 = .ok (.iaload, 1) := by decide +kernel
theorem dL_law_331 : decode c_L_law 331 = .ok (.aload_n 0, 1) := by decide +kernel
theorem dL_law_332 : decode c_L_law 332 = .ok (.iload 4, 2) := by decide +kernel
theorem dL_law_334 : decode c_L_law 334 = .ok (.iconst 2, 1) := by decide +kernel
theorem dL_law_335 : decode c_L_law 335 = .ok (.iadd, 1) := by decide +kernel
theorem dL_law_336 : decode c_L_law 336 = .ok (.iaload, 1) := by decide +kernel
theorem dL_law_337 : decode c_L_law 337 = .ok (.aload_n 3, 1) := by decide +kernel
theorem dL_law_338 : decode c_L_law 338 = .ok (.invokestatic 92, 3) := by decide +kernel
theorem dL_law_341 : decode c_L_law 341 = .ok (.istore 5, 2) := by decide +kernel
theorem dL_law_343 : decode c_L_law 343 = .ok (.aload_n 2, 1) := by decide +kernel
theorem dL_law_344 : decode c_L_law 344 = .ok (.aload_n 0, 1) := by decide +kernel
theorem dL_law_345 : decode c_L_law 345 = .ok (.iload 4, 2) := by decide +kernel
theorem dL_law_347 : decode c_L_law 347 = .ok (.iconst 1, 1) := by decide +kernel
theorem dL_law_348 : decode c_L_law 348 = .ok (.iadd, 1) := by decide +kernel
theorem dL_law_349 : decode c_L_law 349 = .ok (.iaload, 1) := by decide +kernel
theorem dL_law_350 : decode c_L_law 350 = .ok (.aload_n 0, 1) := by decide +kernel
theorem dL_law_351 : decode c_L_law 351 = .ok (.iload 4, 2) := by decide +kernel
theorem dL_law_353 : decode c_L_law 353 = .ok (.iconst 2, 1) := by decide +kernel
theorem dL_law_354 : decode c_L_law 354 = .ok (.iadd, 1) := by decide +kernel
theorem dL_law_355 : decode c_L_law 355 = .ok (.iaload, 1) := by decide +kernel
theorem dL_law_356 : decode c_L_law 356 = .ok (.invokevirtual 95, 3) := by decide +kernel
theorem dL_law_359 : decode c_L_law 359 = .ok (.istore 6, 2) := by decide +kernel
theorem dL_law_361 : decode c_L_law 361 = .ok (.aload_n 2, 1) := by decide +kernel
theorem dL_law_362 : decode c_L_law 362 = .ok (.invokevirtual 81, 3) := by decide +kernel
theorem dL_law_365 : decode c_L_law 365 = .ok (.iload 5, 2) := by decide +kernel
theorem dL_law_367 : decode c_L_law 367 = .ok (.if_icmp .eq 5, 3) := by decide +kernel
theorem dL_law_370 : decode c_L_law 370 = .ok (.iconst 0, 1) := by decide +kernel
theorem dL_law_371 : decode c_L_law 371 = .ok (.ireturn, 1) := by decide +kernel
theorem dL_law_372 : decode c_L_law 372 = .ok (.iload 5, 2) := by decide +kernel
theorem dL_law_374 : decode c_L_law 374 = .ok (.ifCond .ne 15, 3) := by decide +kernel
theorem dL_law_377 : decode c_L_law 377 = .ok (.aload_n 3, 1) := by decide +kernel
theorem dL_law_378 : decode c_L_law 378 = .ok (.iconst 0, 1) := by decide +kernel
theorem dL_law_379 : decode c_L_law 379 = .ok (.laload, 1) := by decide +kernel
theorem dL_law_380 : decode c_L_law 380 = .ok (.iload 6, 2) := by decide +kernel
theorem dL_law_382 : decode c_L_law 382 = .ok (.i2l, 1) := by decide +kernel
theorem dL_law_383 : decode c_L_law 383 = .ok (.lcmp, 1) := by decide +kernel
theorem dL_law_384 : decode c_L_law 384 = .ok (.ifCond .eq 5, 3) := by decide +kernel
theorem dL_law_387 : decode c_L_law 387 = .ok (.iconst 0, 1) := by decide +kernel
theorem dL_law_388 : decode c_L_law 388 = .ok (.ireturn, 1) := by decide +kernel
theorem dL_law_389 : decode c_L_law 389 = .ok (.goto 795, 3) := by decide +kernel
theorem dL_law_392 : decode c_L_law 392 = .ok (.aload_n 1, 1) := by decide +kernel
theorem dL_law_393 : decode c_L_law 393 = .ok (.aload_n 0, 1) := by decide +kernel
theorem dL_law_394 : decode c_L_law 394 = .ok (.iload 4, 2) := by decide +kernel
theorem dL_law_396 : decode c_L_law 396 = .ok (.iconst 1, 1) := by decide +kernel
theorem dL_law_397 : decode c_L_law 397 = .ok (.iadd, 1) := by decide +kernel
theorem dL_law_398 : decode c_L_law 398 = .ok (.iaload, 1) := by decide +kernel
theorem dL_law_399 : decode c_L_law 399 = .ok (.aload_n 3, 1) := by decide +kernel
theorem dL_law_400 : decode c_L_law 400 = .ok (.invokestatic 96, 3) := by decide +kernel
theorem dL_law_403 : decode c_L_law 403 = .ok (.istore 5, 2) := by decide +kernel
theorem dL_law_405 : decode c_L_law 405 = .ok (.aload_n 2, 1) := by decide +kernel
theorem dL_law_406 : decode c_L_law 406 = .ok (.aload_n 0, 1) := by decide +kernel
theorem dL_law_407 : decode c_L_law 407 = .ok (.iload 4, 2) := by decide +kernel
theorem dL_law_409 : decode c_L_law 409 = .ok (.iconst 1, 1) := by decide +kernel
theorem dL_law_410 : decode c_L_law 410 = .ok (.iadd, 1) := by decide +kernel
theorem dL_law_411 : decode c_L_law 411 = .ok (.iaload, 1) := by decide +kernel
theorem dL_law_412 : decode c_L_law 412 = .ok (.invokevirtual 98, 3) := by decide +kernel
theorem dL_law_415 : decode c_L_law 415 = .ok (.istore 6, 2) := by decide +kernel
theorem dL_law_417 : decode c_L_law 417 = .ok (.aload_n 2, 1) := by decide +kernel
theorem dL_law_418 : decode c_L_law 418 = .ok (.invokevirtual 81, 3) := by decide +kernel
theorem dL_law_421 : decode c_L_law 421 = .ok (.iload 5, 2) := by decide +kernel
theorem dL_law_423 : decode c_L_law 423 = .ok (.if_icmp .eq 5, 3) := by decide +kernel
theorem dL_law_426 : decode c_L_law 426 = .ok (.iconst 0, 1) := by decide +kernel
theorem dL_law_427 : decode c_L_law 427 = .ok (.ireturn, 1) := by decide +kernel
theorem dL_law_428 : decode c_L_law 428 = .ok (.iload 5, 2) := by decide +kernel
theorem dL_law_430 : decode c_L_law 430 = .ok (.ifCond .ne 15, 3) := by decide +kernel
theorem dL_law_433 : decode c_L_law 433 = .ok (.aload_n 3, 1) := by decide +kernel
theorem dL_law_434 : decode c_L_law 434 = .ok (.iconst 0, 1) := by decide +kernel
theorem dL_law_435 : decode c_L_law 435 = .ok (.laload, 1) := by decide +kernel
theorem dL_law_436 : decode c_L_law 436 = .ok (.iload 6, 2) := by decide +kernel
theorem dL_law_438 : decode c_L_law 438 = .ok (.i2l, 1) := by decide +kernel
theorem dL_law_439 : decode c_L_law 439 = .ok (.lcmp, 1) := by decide +kernel
theorem dL_law_440 : decode c_L_law 440 = .ok (.ifCond .eq 5, 3) := by decide +kernel
theorem dL_law_443 : decode c_L_law 443 = .ok (.iconst 0, 1) := by decide +kernel
theorem dL_law_444 : decode c_L_law 444 = .ok (.ireturn, 1) := by decide +kernel
theorem dL_law_445 : decode c_L_law 445 = .ok (.goto 739, 3) := by decide +kernel
theorem dL_law_448 : decode c_L_law 448 = .ok (.aload_n 1, 1) := by decide +kernel
theorem dL_law_449 : decode c_L_law 449 = .ok (.aload_n 0, 1) := by decide +kernel
theorem dL_law_450 : decode c_L_law 450 = .ok (.iload 4, 2) := by decide +kernel
theorem dL_law_452 : decode c_L_law 452 = .ok (.iconst 1, 1) := by decide +kernel
theorem dL_law_453 : decode c_L_law 453 = .ok (.iadd, 1) := by decide +kernel
theorem dL_law_454 : decode c_L_law 454 = .ok (.iaload, 1) := by decide +kernel
theorem dL_law_455 : decode c_L_law 455 = .ok (.aload_n 0, 1) := by decide +kernel
theorem dL_law_456 : decode c_L_law 456 = .ok (.iload 4, 2) := by decide +kernel
theorem dL_law_458 : decode c_L_law 458 = .ok (.iconst 2, 1) := by decide +kernel
theorem dL_law_459 : decode c_L_law 459 = .ok (.iadd, 1) := by decide +kernel
theorem dL_law_460 : decode c_L_law 460 = .ok (.iaload, 1) := by decide +kernel
theorem dL_law_461 : decode c_L_law 461 = .ok (.ifCond .eq 7, 3) := by decide +kernel
theorem dL_law_464 : decode c_L_law 464 = .ok (.iconst 1, 1) := by decide +kernel
theorem dL_law_465 : decode c_L_law 465 = .ok (.goto 4, 3) := by decide +kernel
theorem dL_law_468 : decode c_L_law 468 = .ok (.iconst 0, 1) := by decide +kernel
theorem dL_law_469 : decode c_L_law 469 = .ok (.aload_n 3, 1) := by decide +kernel
theorem dL_law_470 : decode c_L_law 470 = .ok (.invokestatic 99, 3) := by decide +kernel
theorem dL_law_473 : decode c_L_law 473 = .ok (.istore 5, 2) := by decide +kernel
theorem dL_law_475 : decode c_L_law 475 = .ok (.aload_n 2, 1) := by decide +kernel
theorem dL_law_476 : decode c_L_law 476 = .ok (.aload_n 0, 1) := by decide +kernel
theorem dL_law_477 : decode c_L_law 477 = .ok (.iload 4, 2) := by decide +kernel
theorem dL_law_479 : decode c_L_law 479 = .ok (.iconst 1, 1) := by decide +kernel
theorem dL_law_480 : decode c_L_law 480 = .ok (.iadd, 1) := by decide +kernel
theorem dL_law_481 : decode c_L_law 481 = .ok (.iaload, 1) := by decide +kernel
theorem dL_law_482 : decode c_L_law 482 = .ok (.aload_n 0, 1) := by decide +kernel
theorem dL_law_483 : decode c_L_law 483 = .ok (.iload 4, 2) := by decide +kernel
theorem dL_law_485 : decode c_L_law 485 = .ok (.iconst 2, 1) := by decide +kernel
theorem dL_law_486 : decode c_L_law 486 = .ok (.iadd, 1) := by decide +kernel
theorem dL_law_487 : decode c_L_law 487 = .ok (.iaload, 1) := by decide +kernel
theorem dL_law_488 : decode c_L_law 488 = .ok (.ifCond .eq 7, 3) := by decide +kernel
theorem dL_law_491 : decode c_L_law 491 = .ok (.iconst 1, 1) := by decide +kernel
theorem dL_law_492 : decode c_L_law 492 = .ok (.goto 4, 3) := by decide +kernel
theorem dL_law_495 : decode c_L_law 495 = .ok (.iconst 0, 1) := by decide +kernel
theorem dL_law_496 : decode c_L_law 496 = .ok (.invokevirtual 102, 3) := by decide +kernel
theorem dL_law_499 : decode c_L_law 499 = .ok (.istore 6, 2) := by decide +kernel
theorem dL_law_501 : decode c_L_law 501 = .ok (.aload_n 2, 1) := by decide +kernel
theorem dL_law_502 : decode c_L_law 502 = .ok (.invokevirtual 81, 3) := by decide +kernel
theorem dL_law_505 : decode c_L_law 505 = .ok (.iload 5, 2) := by decide +kernel
theorem dL_law_507 : decode c_L_law 507 = .ok (.if_icmp .eq 5, 3) := by decide +kernel
theorem dL_law_510 : decode c_L_law 510 = .ok (.iconst 0, 1) := by decide +kernel
theorem dL_law_511 : decode c_L_law 511 = .ok (.ireturn, 1) := by decide +kernel
theorem dL_law_512 : decode c_L_law 512 = .ok (.iload 5, 2) := by decide +kernel
theorem dL_law_514 : decode c_L_law 514 = .ok (.ifCond .ne 15, 3) := by decide +kernel
theorem dL_law_517 : decode c_L_law 517 = .ok (.aload_n 3, 1) := by decide +kernel
theorem dL_law_518 : decode c_L_law 518 = .ok (.iconst 0, 1) := by decide +kernel
theorem dL_law_519 : decode c_L_law 519 = .ok (.laload, 1) := by decide +kernel
theorem dL_law_520 : decode c_L_law 520 = .ok (.iload 6, 2) := by decide +kernel
theorem dL_law_522 : decode c_L_law 522 = .ok (.i2l, 1) := by decide +kernel
theorem dL_law_523 : decode c_L_law 523 = .ok (.lcmp, 1) := by decide +kernel
theorem dL_law_524 : decode c_L_law 524 = .ok (.ifCond .eq 5, 3) := by decide +kernel
theorem dL_law_527 : decode c_L_law 527 = .ok (.iconst 0, 1) := by decide +kernel
theorem dL_law_528 : decode c_L_law 528 = .ok (.ireturn, 1) := by decide +kernel
theorem dL_law_529 : decode c_L_law 529 = .ok (.goto 655, 3) := by decide +kernel
theorem dL_law_532 : decode c_L_law 532 = .ok (.aload_n 1, 1) := by decide +kernel
theorem dL_law_533 : decode c_L_law 533 = .ok (.aload_n 0, 1) := by decide +kernel
theorem dL_law_534 : decode c_L_law 534 = .ok (.iload 4, 2) := by decide +kernel
theorem dL_law_536 : decode c_L_law 536 = .ok (.iconst 1, 1) := by decide +kernel
theorem dL_law_537 : decode c_L_law 537 = .ok (.iadd, 1) := by decide +kernel
theorem dL_law_538 : decode c_L_law 538 = .ok (.iaload, 1) := by decide +kernel
theorem dL_law_539 : decode c_L_law 539 = .ok (.aload_n 0, 1) := by decide +kernel
theorem dL_law_540 : decode c_L_law 540 = .ok (.iload 4, 2) := by decide +kernel
theorem dL_law_542 : decode c_L_law 542 = .ok (.iconst 2, 1) := by decide +kernel
theorem dL_law_543 : decode c_L_law 543 = .ok (.iadd, 1) := by decide +kernel
theorem dL_law_544 : decode c_L_law 544 = .ok (.iaload, 1) := by decide +kernel
theorem dL_law_545 : decode c_L_law 545 = .ok (.ifCond .eq 7, 3) := by decide +kernel
theorem dL_law_548 : decode c_L_law 548 = .ok (.iconst 1, 1) := by decide +kernel
theorem dL_law_549 : decode c_L_law 549 = .ok (.goto 4, 3) := by decide +kernel
theorem dL_law_552 : decode c_L_law 552 = .ok (.iconst 0, 1) := by decide +kernel
theorem dL_law_553 : decode c_L_law 553 = .ok (.aload_n 0, 1) := by decide +kernel
theorem dL_law_554 : decode c_L_law 554 = .ok (.iload 4, 2) := by decide +kernel
theorem dL_law_556 : decode c_L_law 556 = .ok (.iconst 3, 1) := by decide +kernel
theorem dL_law_557 : decode c_L_law 557 = .ok (.iadd, 1) := by decide +kernel
theorem dL_law_558 : decode c_L_law 558 = .ok (.iaload, 1) := by decide +kernel
theorem dL_law_559 : decode c_L_law 559 = .ok (.aload_n 3, 1) := by decide +kernel
theorem dL_law_560 : decode c_L_law 560 = .ok (.invokestatic 103, 3) := by decide +kernel
theorem dL_law_563 : decode c_L_law 563 = .ok (.istore 5, 2) := by decide +kernel
theorem dL_law_565 : decode c_L_law 565 = .ok (.aload_n 2, 1) := by decide +kernel
theorem dL_law_566 : decode c_L_law 566 = .ok (.aload_n 0, 1) := by decide +kernel
theorem dL_law_567 : decode c_L_law 567 = .ok (.iload 4, 2) := by decide +kernel
theorem dL_law_569 : decode c_L_law 569 = .ok (.iconst 1, 1) := by decide +kernel
theorem dL_law_570 : decode c_L_law 570 = .ok (.iadd, 1) := by decide +kernel
theorem dL_law_571 : decode c_L_law 571 = .ok (.iaload, 1) := by decide +kernel
theorem dL_law_572 : decode c_L_law 572 = .ok (.aload_n 0, 1) := by decide +kernel
theorem dL_law_573 : decode c_L_law 573 = .ok (.iload 4, 2) := by decide +kernel
theorem dL_law_575 : decode c_L_law 575 = .ok (.iconst 2, 1) := by decide +kernel
theorem dL_law_576 : decode c_L_law 576 = .ok (.iadd, 1) := by decide +kernel
theorem dL_law_577 : decode c_L_law 577 = .ok (.iaload, 1) := by decide +kernel
theorem dL_law_578 : decode c_L_law 578 = .ok (.ifCond .eq 7, 3) := by decide +kernel
theorem dL_law_581 : decode c_L_law 581 = .ok (.iconst 1, 1) := by decide +kernel
theorem dL_law_582 : decode c_L_law 582 = .ok (.goto 4, 3) := by decide +kernel
theorem dL_law_585 : decode c_L_law 585 = .ok (.iconst 0, 1) := by decide +kernel
theorem dL_law_586 : decode c_L_law 586 = .ok (.aload_n 0, 1) := by decide +kernel
theorem dL_law_587 : decode c_L_law 587 = .ok (.iload 4, 2) := by decide +kernel
theorem dL_law_589 : decode c_L_law 589 = .ok (.iconst 3, 1) := by decide +kernel
theorem dL_law_590 : decode c_L_law 590 = .ok (.iadd, 1) := by decide +kernel
theorem dL_law_591 : decode c_L_law 591 = .ok (.iaload, 1) := by decide +kernel
theorem dL_law_592 : decode c_L_law 592 = .ok (.invokevirtual 106, 3) := by decide +kernel
theorem dL_law_595 : decode c_L_law 595 = .ok (.istore 6, 2) := by decide +kernel
theorem dL_law_597 : decode c_L_law 597 = .ok (.aload_n 2, 1) := by decide +kernel
theorem dL_law_598 : decode c_L_law 598 = .ok (.invokevirtual 81, 3) := by decide +kernel
theorem dL_law_601 : decode c_L_law 601 = .ok (.iload 5, 2) := by decide +kernel
theorem dL_law_603 : decode c_L_law 603 = .ok (.if_icmp .eq 5, 3) := by decide +kernel
theorem dL_law_606 : decode c_L_law 606 = .ok (.iconst 0, 1) := by decide +kernel
theorem dL_law_607 : decode c_L_law 607 = .ok (.ireturn, 1) := by decide +kernel
theorem dL_law_608 : decode c_L_law 608 = .ok (.iload 5, 2) := by decide +kernel
theorem dL_law_610 : decode c_L_law 610 = .ok (.ifCond .ne 15, 3) := by decide +kernel
theorem dL_law_613 : decode c_L_law 613 = .ok (.aload_n 3, 1) := by decide +kernel
theorem dL_law_614 : decode c_L_law 614 = .ok (.iconst 0, 1) := by decide +kernel
theorem dL_law_615 : decode c_L_law 615 = .ok (.laload, 1) := by decide +kernel
theorem dL_law_616 : decode c_L_law 616 = .ok (.iload 6, 2) := by decide +kernel
theorem dL_law_618 : decode c_L_law 618 = .ok (.i2l, 1) := by decide +kernel
theorem dL_law_619 : decode c_L_law 619 = .ok (.lcmp, 1) := by decide +kernel
theorem dL_law_620 : decode c_L_law 620 = .ok (.ifCond .eq 5, 3) := by decide +kernel
theorem dL_law_623 : decode c_L_law 623 = .ok (.iconst 0, 1) := by decide +kernel
theorem dL_law_624 : decode c_L_law 624 = .ok (.ireturn, 1) := by decide +kernel
theorem dL_law_625 : decode c_L_law 625 = .ok (.goto 559, 3) := by decide +kernel
theorem dL_law_628 : decode c_L_law 628 = .ok (.aload_n 1, 1) := by decide +kernel
theorem dL_law_629 : decode c_L_law 629 = .ok (.aload_n 0, 1) := by decide +kernel
theorem dL_law_630 : decode c_L_law 630 = .ok (.iload 4, 2) := by decide +kernel
theorem dL_law_632 : decode c_L_law 632 = .ok (.iconst 1, 1) := by decide +kernel
theorem dL_law_633 : decode c_L_law 633 = .ok (.iadd, 1) := by decide +kernel
theorem dL_law_634 : decode c_L_law 634 = .ok (.iaload, 1) := by decide +kernel
theorem dL_law_635 : decode c_L_law 635 = .ok (.aload_n 0, 1) := by decide +kernel
theorem dL_law_636 : decode c_L_law 636 = .ok (.iload 4, 2) := by decide +kernel
theorem dL_law_638 : decode c_L_law 638 = .ok (.iconst 2, 1) := by decide +kernel
theorem dL_law_639 : decode c_L_law 639 = .ok (.iadd, 1) := by decide +kernel
theorem dL_law_640 : decode c_L_law 640 = .ok (.iaload, 1) := by decide +kernel
theorem dL_law_641 : decode c_L_law 641 = .ok (.ifCond .eq 7, 3) := by decide +kernel
theorem dL_law_644 : decode c_L_law 644 = .ok (.iconst 1, 1) := by decide +kernel
theorem dL_law_645 : decode c_L_law 645 = .ok (.goto 4, 3) := by decide +kernel
theorem dL_law_648 : decode c_L_law 648 = .ok (.iconst 0, 1) := by decide +kernel
theorem dL_law_649 : decode c_L_law 649 = .ok (.aload_n 3, 1) := by decide +kernel
theorem dL_law_650 : decode c_L_law 650 = .ok (.invokestatic 107, 3) := by decide +kernel
theorem dL_law_653 : decode c_L_law 653 = .ok (.istore 5, 2) := by decide +kernel
theorem dL_law_655 : decode c_L_law 655 = .ok (.aload_n 2, 1) := by decide +kernel
theorem dL_law_656 : decode c_L_law 656 = .ok (.aload_n 0, 1) := by decide +kernel
theorem dL_law_657 : decode c_L_law 657 = .ok (.iload 4, 2) := by decide +kernel
theorem dL_law_659 : decode c_L_law 659 = .ok (.iconst 1, 1) := by decide +kernel
theorem dL_law_660 : decode c_L_law 660 = .ok (.iadd, 1) := by decide +kernel
theorem dL_law_661 : decode c_L_law 661 = .ok (.iaload, 1) := by decide +kernel
theorem dL_law_662 : decode c_L_law 662 = .ok (.aload_n 0, 1) := by decide +kernel
theorem dL_law_663 : decode c_L_law 663 = .ok (.iload 4, 2) := by decide +kernel
theorem dL_law_665 : decode c_L_law 665 = .ok (.iconst 2, 1) := by decide +kernel
theorem dL_law_666 : decode c_L_law 666 = .ok (.iadd, 1) := by decide +kernel
theorem dL_law_667 : decode c_L_law 667 = .ok (.iaload, 1) := by decide +kernel
theorem dL_law_668 : decode c_L_law 668 = .ok (.ifCond .eq 7, 3) := by decide +kernel
theorem dL_law_671 : decode c_L_law 671 = .ok (.iconst 1, 1) := by decide +kernel
theorem dL_law_672 : decode c_L_law 672 = .ok (.goto 4, 3) := by decide +kernel
theorem dL_law_675 : decode c_L_law 675 = .ok (.iconst 0, 1) := by decide +kernel
theorem dL_law_676 : decode c_L_law 676 = .ok (.invokevirtual 109, 3) := by decide +kernel
theorem dL_law_679 : decode c_L_law 679 = .ok (.istore 6, 2) := by decide +kernel
theorem dL_law_681 : decode c_L_law 681 = .ok (.aload_n 2, 1) := by decide +kernel
theorem dL_law_682 : decode c_L_law 682 = .ok (.invokevirtual 81, 3) := by decide +kernel
theorem dL_law_685 : decode c_L_law 685 = .ok (.iload 5, 2) := by decide +kernel
theorem dL_law_687 : decode c_L_law 687 = .ok (.if_icmp .eq 5, 3) := by decide +kernel
theorem dL_law_690 : decode c_L_law 690 = .ok (.iconst 0, 1) := by decide +kernel
theorem dL_law_691 : decode c_L_law 691 = .ok (.ireturn, 1) := by decide +kernel
theorem dL_law_692 : decode c_L_law 692 = .ok (.iload 5, 2) := by decide +kernel
theorem dL_law_694 : decode c_L_law 694 = .ok (.ifCond .ne 15, 3) := by decide +kernel
theorem dL_law_697 : decode c_L_law 697 = .ok (.aload_n 3, 1) := by decide +kernel
theorem dL_law_698 : decode c_L_law 698 = .ok (.iconst 0, 1) := by decide +kernel
theorem dL_law_699 : decode c_L_law 699 = .ok (.laload, 1) := by decide +kernel
theorem dL_law_700 : decode c_L_law 700 = .ok (.iload 6, 2) := by decide +kernel
theorem dL_law_702 : decode c_L_law 702 = .ok (.i2l, 1) := by decide +kernel
theorem dL_law_703 : decode c_L_law 703 = .ok (.lcmp, 1) := by decide +kernel
theorem dL_law_704 : decode c_L_law 704 = .ok (.ifCond .eq 5, 3) := by decide +kernel
theorem dL_law_707 : decode c_L_law 707 = .ok (.iconst 0, 1) := by decide +kernel
theorem dL_law_708 : decode c_L_law 708 = .ok (.ireturn, 1) := by decide +kernel
theorem dL_law_709 : decode c_L_law 709 = .ok (.goto 475, 3) := by decide +kernel
theorem dL_law_712 : decode c_L_law 712 = .ok (.aload_n 1, 1) := by decide +kernel
theorem dL_law_713 : decode c_L_law 713 = .ok (.aload_n 0, 1) := by decide +kernel
theorem dL_law_714 : decode c_L_law 714 = .ok (.iload 4, 2) := by decide +kernel
theorem dL_law_716 : decode c_L_law 716 = .ok (.iconst 1, 1) := by decide +kernel
theorem dL_law_717 : decode c_L_law 717 = .ok (.iadd, 1) := by decide +kernel
theorem dL_law_718 : decode c_L_law 718 = .ok (.iaload, 1) := by decide +kernel
theorem dL_law_719 : decode c_L_law 719 = .ok (.aload_n 0, 1) := by decide +kernel
theorem dL_law_720 : decode c_L_law 720 = .ok (.iload 4, 2) := by decide +kernel
theorem dL_law_722 : decode c_L_law 722 = .ok (.iconst 2, 1) := by decide +kernel
theorem dL_law_723 : decode c_L_law 723 = .ok (.iadd, 1) := by decide +kernel
theorem dL_law_724 : decode c_L_law 724 = .ok (.iaload, 1) := by decide +kernel
theorem dL_law_725 : decode c_L_law 725 = .ok (.aload_n 3, 1) := by decide +kernel
theorem dL_law_726 : decode c_L_law 726 = .ok (.invokestatic 110, 3) := by decide +kernel
theorem dL_law_729 : decode c_L_law 729 = .ok (.istore 5, 2) := by decide +kernel
theorem dL_law_731 : decode c_L_law 731 = .ok (.aload_n 2, 1) := by decide +kernel
theorem dL_law_732 : decode c_L_law 732 = .ok (.aload_n 0, 1) := by decide +kernel
theorem dL_law_733 : decode c_L_law 733 = .ok (.iload 4, 2) := by decide +kernel
theorem dL_law_735 : decode c_L_law 735 = .ok (.iconst 1, 1) := by decide +kernel
theorem dL_law_736 : decode c_L_law 736 = .ok (.iadd, 1) := by decide +kernel
theorem dL_law_737 : decode c_L_law 737 = .ok (.iaload, 1) := by decide +kernel
theorem dL_law_738 : decode c_L_law 738 = .ok (.aload_n 0, 1) := by decide +kernel
theorem dL_law_739 : decode c_L_law 739 = .ok (.iload 4, 2) := by decide +kernel
theorem dL_law_741 : decode c_L_law 741 = .ok (.iconst 2, 1) := by decide +kernel
theorem dL_law_742 : decode c_L_law 742 = .ok (.iadd, 1) := by decide +kernel
theorem dL_law_743 : decode c_L_law 743 = .ok (.iaload, 1) := by decide +kernel
theorem dL_law_744 : decode c_L_law 744 = .ok (.invokevirtual 112, 3) := by decide +kernel
theorem dL_law_747 : decode c_L_law 747 = .ok (.istore 6, 2) := by decide +kernel
theorem dL_law_749 : decode c_L_law 749 = .ok (.aload_n 2, 1) := by decide +kernel
theorem dL_law_750 : decode c_L_law 750 = .ok (.invokevirtual 81, 3) := by decide +kernel
theorem dL_law_753 : decode c_L_law 753 = .ok (.iload 5, 2) := by decide +kernel
theorem dL_law_755 : decode c_L_law 755 = .ok (.if_icmp .eq 5, 3) := by decide +kernel
theorem dL_law_758 : decode c_L_law 758 = .ok (.iconst 0, 1) := by decide +kernel
theorem dL_law_759 : decode c_L_law 759 = .ok (.ireturn, 1) := by decide +kernel
theorem dL_law_760 : decode c_L_law 760 = .ok (.iload 5, 2) := by decide +kernel
theorem dL_law_762 : decode c_L_law 762 = .ok (.ifCond .ne 15, 3) := by decide +kernel
theorem dL_law_765 : decode c_L_law 765 = .ok (.aload_n 3, 1) := by decide +kernel
theorem dL_law_766 : decode c_L_law 766 = .ok (.iconst 0, 1) := by decide +kernel
theorem dL_law_767 : decode c_L_law 767 = .ok (.laload, 1) := by decide +kernel
theorem dL_law_768 : decode c_L_law 768 = .ok (.iload 6, 2) := by decide +kernel
theorem dL_law_770 : decode c_L_law 770 = .ok (.i2l, 1) := by decide +kernel
theorem dL_law_771 : decode c_L_law 771 = .ok (.lcmp, 1) := by decide +kernel
theorem dL_law_772 : decode c_L_law 772 = .ok (.ifCond .eq 5, 3) := by decide +kernel
theorem dL_law_775 : decode c_L_law 775 = .ok (.iconst 0, 1) := by decide +kernel
theorem dL_law_776 : decode c_L_law 776 = .ok (.ireturn, 1) := by decide +kernel
theorem dL_law_777 : decode c_L_law 777 = .ok (.goto 407, 3) := by decide +kernel
theorem dL_law_780 : decode c_L_law 780 = .ok (.aload_n 1, 1) := by decide +kernel
theorem dL_law_781 : decode c_L_law 781 = .ok (.aload_n 0, 1) := by decide +kernel
theorem dL_law_782 : decode c_L_law 782 = .ok (.iload 4, 2) := by decide +kernel
theorem dL_law_784 : decode c_L_law 784 = .ok (.iconst 1, 1) := by decide +kernel
theorem dL_law_785 : decode c_L_law 785 = .ok (.iadd, 1) := by decide +kernel
theorem dL_law_786 : decode c_L_law 786 = .ok (.iaload, 1) := by decide +kernel
theorem dL_law_787 : decode c_L_law 787 = .ok (.aload_n 3, 1) := by decide +kernel
theorem dL_law_788 : decode c_L_law 788 = .ok (.invokestatic 113, 3) := by decide +kernel
theorem dL_law_791 : decode c_L_law 791 = .ok (.istore 5, 2) := by decide +kernel
theorem dL_law_793 : decode c_L_law 793 = .ok (.aload_n 2, 1) := by decide +kernel
theorem dL_law_794 : decode c_L_law 794 = .ok (.aload_n 0, 1) := by decide +kernel
theorem dL_law_795 : decode c_L_law 795 = .ok (.iload 4, 2) := by decide +kernel
theorem dL_law_797 : decode c_L_law 797 = .ok (.iconst 1, 1) := by decide +kernel
theorem dL_law_798 : decode c_L_law 798 = .ok (.iadd, 1) := by decide +kernel
theorem dL_law_799 : decode c_L_law 799 = .ok (.iaload, 1) := by decide +kernel
theorem dL_law_800 : decode c_L_law 800 = .ok (.invokevirtual 115, 3) := by decide +kernel
theorem dL_law_803 : decode c_L_law 803 = .ok (.istore 6, 2) := by decide +kernel
theorem dL_law_805 : decode c_L_law 805 = .ok (.aload_n 2, 1) := by decide +kernel
theorem dL_law_806 : decode c_L_law 806 = .ok (.invokevirtual 81, 3) := by decide +kernel
theorem dL_law_809 : decode c_L_law 809 = .ok (.iload 5, 2) := by decide +kernel
theorem dL_law_811 : decode c_L_law 811 = .ok (.if_icmp .eq 5, 3) := by decide +kernel
theorem dL_law_814 : decode c_L_law 814 = .ok (.iconst 0, 1) := by decide +kernel
theorem dL_law_815 : decode c_L_law 815 = .ok (.ireturn, 1) := by decide +kernel
theorem dL_law_816 : decode c_L_law 816 = .ok (.iload 5, 2) := by decide +kernel
theorem dL_law_818 : decode c_L_law 818 = .ok (.ifCond .ne 15, 3) := by decide +kernel
theorem dL_law_821 : decode c_L_law 821 = .ok (.aload_n 3, 1) := by decide +kernel
theorem dL_law_822 : decode c_L_law 822 = .ok (.iconst 0, 1) := by decide +kernel
theorem dL_law_823 : decode c_L_law 823 = .ok (.laload, 1) := by decide +kernel
theorem dL_law_824 : decode c_L_law 824 = .ok (.iload 6, 2) := by decide +kernel
theorem dL_law_826 : decode c_L_law 826 = .ok (.i2l, 1) := by decide +kernel
theorem dL_law_827 : decode c_L_law 827 = .ok (.lcmp, 1) := by decide +kernel
theorem dL_law_828 : decode c_L_law 828 = .ok (.ifCond .eq 5, 3) := by decide +kernel
theorem dL_law_831 : decode c_L_law 831 = .ok (.iconst 0, 1) := by decide +kernel
theorem dL_law_832 : decode c_L_law 832 = .ok (.ireturn, 1) := by decide +kernel
theorem dL_law_833 : decode c_L_law 833 = .ok (.goto 351, 3) := by decide +kernel
theorem dL_law_836 : decode c_L_law 836 = .ok (.aload_n 1, 1) := by decide +kernel
theorem dL_law_837 : decode c_L_law 837 = .ok (.aload_n 0, 1) := by decide +kernel
theorem dL_law_838 : decode c_L_law 838 = .ok (.iload 4, 2) := by decide +kernel
theorem dL_law_840 : decode c_L_law 840 = .ok (.iconst 1, 1) := by decide +kernel
theorem dL_law_841 : decode c_L_law 841 = .ok (.iadd, 1) := by decide +kernel
theorem dL_law_842 : decode c_L_law 842 = .ok (.iaload, 1) := by decide +kernel
theorem dL_law_843 : decode c_L_law 843 = .ok (.aload_n 3, 1) := by decide +kernel
theorem dL_law_844 : decode c_L_law 844 = .ok (.invokestatic 116, 3) := by decide +kernel
theorem dL_law_847 : decode c_L_law 847 = .ok (.istore 5, 2) := by decide +kernel
theorem dL_law_849 : decode c_L_law 849 = .ok (.aload_n 2, 1) := by decide +kernel
theorem dL_law_850 : decode c_L_law 850 = .ok (.aload_n 0, 1) := by decide +kernel
theorem dL_law_851 : decode c_L_law 851 = .ok (.iload 4, 2) := by decide +kernel
theorem dL_law_853 : decode c_L_law 853 = .ok (.iconst 1, 1) := by decide +kernel
theorem dL_law_854 : decode c_L_law 854 = .ok (.iadd, 1) := by decide +kernel
theorem dL_law_855 : decode c_L_law 855 = .ok (.iaload, 1) := by decide +kernel
theorem dL_law_856 : decode c_L_law 856 = .ok (.invokevirtual 118, 3) := by decide +kernel
theorem dL_law_859 : decode c_L_law 859 = .ok (.istore 6, 2) := by decide +kernel
theorem dL_law_861 : decode c_L_law 861 = .ok (.aload_n 2, 1) := by decide +kernel
theorem dL_law_862 : decode c_L_law 862 = .ok (.invokevirtual 81, 3) := by decide +kernel
theorem dL_law_865 : decode c_L_law 865 = .ok (.iload 5, 2) := by decide +kernel
theorem dL_law_867 : decode c_L_law 867 = .ok (.if_icmp .eq 5, 3) := by decide +kernel
theorem dL_law_870 : decode c_L_law 870 = .ok (.iconst 0, 1) := by decide +kernel
theorem dL_law_871 : decode c_L_law 871 = .ok (.ireturn, 1) := by decide +kernel
theorem dL_law_872 : decode c_L_law 872 = .ok (.iload 5, 2) := by decide +kernel
theorem dL_law_874 : decode c_L_law 874 = .ok (.ifCond .ne 15, 3) := by decide +kernel
theorem dL_law_877 : decode c_L_law 877 = .ok (.aload_n 3, 1) := by decide +kernel
theorem dL_law_878 : decode c_L_law 878 = .ok (.iconst 0, 1) := by decide +kernel
theorem dL_law_879 : decode c_L_law 879 = .ok (.laload, 1) := by decide +kernel
theorem dL_law_880 : decode c_L_law 880 = .ok (.iload 6, 2) := by decide +kernel
theorem dL_law_882 : decode c_L_law 882 = .ok (.i2l, 1) := by decide +kernel
theorem dL_law_883 : decode c_L_law 883 = .ok (.lcmp, 1) := by decide +kernel
theorem dL_law_884 : decode c_L_law 884 = .ok (.ifCond .eq 5, 3) := by decide +kernel
theorem dL_law_887 : decode c_L_law 887 = .ok (.iconst 0, 1) := by decide +kernel
theorem dL_law_888 : decode c_L_law 888 = .ok (.ireturn, 1) := by decide +kernel
theorem dL_law_889 : decode c_L_law 889 = .ok (.goto 295, 3) := by decide +kernel
theorem dL_law_892 : decode c_L_law 892 = .ok (.aload_n 1, 1) := by decide +kernel
theorem dL_law_893 : decode c_L_law 893 = .ok (.aload_n 0, 1) := by decide +kernel
theorem dL_law_894 : decode c_L_law 894 = .ok (.iload 4, 2) := by decide +kernel
theorem dL_law_896 : decode c_L_law 896 = .ok (.iconst 1, 1) := by decide +kernel
theorem dL_law_897 : decode c_L_law 897 = .ok (.iadd, 1) := by decide +kernel
theorem dL_law_898 : decode c_L_law 898 = .ok (.iaload, 1) := by decide +kernel
theorem dL_law_899 : decode c_L_law 899 = .ok (.aload_n 0, 1) := by decide +kernel
theorem dL_law_900 : decode c_L_law 900 = .ok (.iload 4, 2) := by decide +kernel
theorem dL_law_902 : decode c_L_law 902 = .ok (.iconst 2, 1) := by decide +kernel
theorem dL_law_903 : decode c_L_law 903 = .ok (.iadd, 1) := by decide +kernel
theorem dL_law_904 : decode c_L_law 904 = .ok (.iaload, 1) := by decide +kernel
theorem dL_law_905 : decode c_L_law 905 = .ok (.aload_n 3, 1) := by decide +kernel
theorem dL_law_906 : decode c_L_law 906 = .ok (.invokestatic 119, 3) := by decide +kernel
theorem dL_law_909 : decode c_L_law 909 = .ok (.istore 5, 2) := by decide +kernel
theorem dL_law_911 : decode c_L_law 911 = .ok (.aload_n 2, 1) := by decide +kernel
theorem dL_law_912 : decode c_L_law 912 = .ok (.aload_n 0, 1) := by decide +kernel
theorem dL_law_913 : decode c_L_law 913 = .ok (.iload 4, 2) := by decide +kernel
theorem dL_law_915 : decode c_L_law 915 = .ok (.iconst 1, 1) := by decide +kernel
theorem dL_law_916 : decode c_L_law 916 = .ok (.iadd, 1) := by decide +kernel
theorem dL_law_917 : decode c_L_law 917 = .ok (.iaload, 1) := by decide +kernel
theorem dL_law_918 : decode c_L_law 918 = .ok (.aload_n 0, 1) := by decide +kernel
theorem dL_law_919 : decode c_L_law 919 = .ok (.iload 4, 2) := by decide +kernel
theorem dL_law_921 : decode c_L_law 921 = .ok (.iconst 2, 1) := by decide +kernel
theorem dL_law_922 : decode c_L_law 922 = .ok (.iadd, 1) := by decide +kernel
theorem dL_law_923 : decode c_L_law 923 = .ok (.iaload, 1) := by decide +kernel
theorem dL_law_924 : decode c_L_law 924 = .ok (.invokevirtual 121, 3) := by decide +kernel
theorem dL_law_927 : decode c_L_law 927 = .ok (.istore 6, 2) := by decide +kernel
theorem dL_law_929 : decode c_L_law 929 = .ok (.aload_n 2, 1) := by decide +kernel
theorem dL_law_930 : decode c_L_law 930 = .ok (.invokevirtual 81, 3) := by decide +kernel
theorem dL_law_933 : decode c_L_law 933 = .ok (.iload 5, 2) := by decide +kernel
theorem dL_law_935 : decode c_L_law 935 = .ok (.if_icmp .eq 5, 3) := by decide +kernel
theorem dL_law_938 : decode c_L_law 938 = .ok (.iconst 0, 1) := by decide +kernel
theorem dL_law_939 : decode c_L_law 939 = .ok (.ireturn, 1) := by decide +kernel
theorem dL_law_940 : decode c_L_law 940 = .ok (.iload 5, 2) := by decide +kernel
theorem dL_law_942 : decode c_L_law 942 = .ok (.ifCond .ne 15, 3) := by decide +kernel
theorem dL_law_945 : decode c_L_law 945 = .ok (.aload_n 3, 1) := by decide +kernel
theorem dL_law_946 : decode c_L_law 946 = .ok (.iconst 0, 1) := by decide +kernel
theorem dL_law_947 : decode c_L_law 947 = .ok (.laload, 1) := by decide +kernel
theorem dL_law_948 : decode c_L_law 948 = .ok (.iload 6, 2) := by decide +kernel
theorem dL_law_950 : decode c_L_law 950 = .ok (.i2l, 1) := by decide +kernel
theorem dL_law_951 : decode c_L_law 951 = .ok (.lcmp, 1) := by decide +kernel
theorem dL_law_952 : decode c_L_law 952 = .ok (.ifCond .eq 5, 3) := by decide +kernel
theorem dL_law_955 : decode c_L_law 955 = .ok (.iconst 0, 1) := by decide +kernel
theorem dL_law_956 : decode c_L_law 956 = .ok (.ireturn, 1) := by decide +kernel
theorem dL_law_957 : decode c_L_law 957 = .ok (.goto 227, 3) := by decide +kernel
theorem dL_law_960 : decode c_L_law 960 = .ok (.aload_n 1, 1) := by decide +kernel
theorem dL_law_961 : decode c_L_law 961 = .ok (.aload_n 0, 1) := by decide +kernel
theorem dL_law_962 : decode c_L_law 962 = .ok (.iload 4, 2) := by decide +kernel
theorem dL_law_964 : decode c_L_law 964 = .ok (.iconst 1, 1) := by decide +kernel
theorem dL_law_965 : decode c_L_law 965 = .ok (.iadd, 1) := by decide +kernel
theorem dL_law_966 : decode c_L_law 966 = .ok (.iaload, 1) := by decide +kernel
theorem dL_law_967 : decode c_L_law 967 = .ok (.aload_n 0, 1) := by decide +kernel
theorem dL_law_968 : decode c_L_law 968 = .ok (.iload 4, 2) := by decide +kernel
theorem dL_law_970 : decode c_L_law 970 = .ok (.iconst 2, 1) := by decide +kernel
theorem dL_law_971 : decode c_L_law 971 = .ok (.iadd, 1) := by decide +kernel
theorem dL_law_972 : decode c_L_law 972 = .ok (.iaload, 1) := by decide +kernel
theorem dL_law_973 : decode c_L_law 973 = .ok (.aload_n 3, 1) := by decide +kernel
theorem dL_law_974 : decode c_L_law 974 = .ok (.invokestatic 122, 3) := by decide +kernel
theorem dL_law_977 : decode c_L_law 977 = .ok (.istore 5, 2) := by decide +kernel
theorem dL_law_979 : decode c_L_law 979 = .ok (.aload_n 2, 1) := by decide +kernel
theorem dL_law_980 : decode c_L_law 980 = .ok (.aload_n 0, 1) := by decide +kernel
theorem dL_law_981 : decode c_L_law 981 = .ok (.iload 4, 2) := by decide +kernel
theorem dL_law_983 : decode c_L_law 983 = .ok (.iconst 1, 1) := by decide +kernel
theorem dL_law_984 : decode c_L_law 984 = .ok (.iadd, 1) := by decide +kernel
theorem dL_law_985 : decode c_L_law 985 = .ok (.iaload, 1) := by decide +kernel
theorem dL_law_986 : decode c_L_law 986 = .ok (.aload_n 0, 1) := by decide +kernel
theorem dL_law_987 : decode c_L_law 987 = .ok (.iload 4, 2) := by decide +kernel
theorem dL_law_989 : decode c_L_law 989 = .ok (.iconst 2, 1) := by decide +kernel
theorem dL_law_990 : decode c_L_law 990 = .ok (.iadd, 1) := by decide +kernel
theorem dL_law_991 : decode c_L_law 991 = .ok (.iaload, 1) := by decide +kernel
theorem dL_law_992 : decode c_L_law 992 = .ok (.invokevirtual 124, 3) := by decide +kernel
theorem dL_law_995 : decode c_L_law 995 = .ok (.istore 6, 2) := by decide +kernel
theorem dL_law_997 : decode c_L_law 997 = .ok (.aload_n 2, 1) := by decide +kernel
theorem dL_law_998 : decode c_L_law 998 = .ok (.invokevirtual 81, 3) := by decide +kernel
theorem dL_law_1001 : decode c_L_law 1001 = .ok (.iload 5, 2) := by decide +kernel
theorem dL_law_1003 : decode c_L_law 1003 = .ok (.if_icmp .eq 5, 3) := by decide +kernel
theorem dL_law_1006 : decode c_L_law 1006 = .ok (.iconst 0, 1) := by decide +kernel
theorem dL_law_1007 : decode c_L_law 1007 = .ok (.ireturn, 1) := by decide +kernel
theorem dL_law_1008 : decode c_L_law 1008 = .ok (.iload 5, 2) := by decide +kernel
theorem dL_law_1010 : decode c_L_law 1010 = .ok (.ifCond .ne 22, 3) := by decide +kernel
theorem dL_law_1013 : decode c_L_law 1013 = .ok (.aload_n 3, 1) := by decide +kernel
theorem dL_law_1014 : decode c_L_law 1014 = .ok (.iconst 0, 1) := by decide +kernel
theorem dL_law_1015 : decode c_L_law 1015 = .ok (.laload, 1) := by decide +kernel
theorem dL_law_1016 : decode c_L_law 1016 = .ok (.iload 6, 2) := by decide +kernel
theorem dL_law_1018 : decode c_L_law 1018 = .ok (.ifCond .eq 7, 3) := by decide +kernel
theorem dL_law_1021 : decode c_L_law 1021 = .ok (.lconst 1, 1) := by decide +kernel
theorem dL_law_1022 : decode c_L_law 1022 = .ok (.goto 4, 3) := by decide +kernel
theorem dL_law_1025 : decode c_L_law 1025 = .ok (.lconst 0, 1) := by decide +kernel
theorem dL_law_1026 : decode c_L_law 1026 = .ok (.lcmp, 1) := by decide +kernel
theorem dL_law_1027 : decode c_L_law 1027 = .ok (.ifCond .eq 5, 3) := by decide +kernel
theorem dL_law_1030 : decode c_L_law 1030 = .ok (.iconst 0, 1) := by decide +kernel
theorem dL_law_1031 : decode c_L_law 1031 = .ok (.ireturn, 1) := by decide +kernel
theorem dL_law_1032 : decode c_L_law 1032 = .ok (.goto 152, 3) := by decide +kernel
theorem dL_law_1035 : decode c_L_law 1035 = .ok (.aload_n 1, 1) := by decide +kernel
theorem dL_law_1036 : decode c_L_law 1036 = .ok (.aload_n 0, 1) := by decide +kernel
theorem dL_law_1037 : decode c_L_law 1037 = .ok (.iload 4, 2) := by decide +kernel
theorem dL_law_1039 : decode c_L_law 1039 = .ok (.iconst 1, 1) := by decide +kernel
theorem dL_law_1040 : decode c_L_law 1040 = .ok (.iadd, 1) := by decide +kernel
theorem dL_law_1041 : decode c_L_law 1041 = .ok (.iaload, 1) := by decide +kernel
theorem dL_law_1042 : decode c_L_law 1042 = .ok (.aload_n 0, 1) := by decide +kernel
theorem dL_law_1043 : decode c_L_law 1043 = .ok (.iload 4, 2) := by decide +kernel
theorem dL_law_1045 : decode c_L_law 1045 = .ok (.iconst 2, 1) := by decide +kernel
theorem dL_law_1046 : decode c_L_law 1046 = .ok (.iadd, 1) := by decide +kernel
theorem dL_law_1047 : decode c_L_law 1047 = .ok (.iaload, 1) := by decide +kernel
theorem dL_law_1048 : decode c_L_law 1048 = .ok (.aload_n 3, 1) := by decide +kernel
theorem dL_law_1049 : decode c_L_law 1049 = .ok (.invokestatic 125, 3) := by decide +kernel
theorem dL_law_1052 : decode c_L_law 1052 = .ok (.istore 5, 2) := by decide +kernel
theorem dL_law_1054 : decode c_L_law 1054 = .ok (.aload_n 2, 1) := by decide +kernel
theorem dL_law_1055 : decode c_L_law 1055 = .ok (.aload_n 0, 1) := by decide +kernel
theorem dL_law_1056 : decode c_L_law 1056 = .ok (.iload 4, 2) := by decide +kernel
theorem dL_law_1058 : decode c_L_law 1058 = .ok (.iconst 1, 1) := by decide +kernel
theorem dL_law_1059 : decode c_L_law 1059 = .ok (.iadd, 1) := by decide +kernel
theorem dL_law_1060 : decode c_L_law 1060 = .ok (.iaload, 1) := by decide +kernel
theorem dL_law_1061 : decode c_L_law 1061 = .ok (.aload_n 0, 1) := by decide +kernel
theorem dL_law_1062 : decode c_L_law 1062 = .ok (.iload 4, 2) := by decide +kernel
theorem dL_law_1064 : decode c_L_law 1064 = .ok (.iconst 2, 1) := by decide +kernel
theorem dL_law_1065 : decode c_L_law 1065 = .ok (.iadd, 1) := by decide +kernel
theorem dL_law_1066 : decode c_L_law 1066 = .ok (.iaload, 1) := by decide +kernel
theorem dL_law_1067 : decode c_L_law 1067 = .ok (.invokevirtual 127, 3) := by decide +kernel
theorem dL_law_1070 : decode c_L_law 1070 = .ok (.istore 6, 2) := by decide +kernel
theorem dL_law_1072 : decode c_L_law 1072 = .ok (.aload_n 2, 1) := by decide +kernel
theorem dL_law_1073 : decode c_L_law 1073 = .ok (.invokevirtual 81, 3) := by decide +kernel
theorem dL_law_1076 : decode c_L_law 1076 = .ok (.iload 5, 2) := by decide +kernel
theorem dL_law_1078 : decode c_L_law 1078 = .ok (.if_icmp .eq 5, 3) := by decide +kernel
theorem dL_law_1081 : decode c_L_law 1081 = .ok (.iconst 0, 1) := by decide +kernel
theorem dL_law_1082 : decode c_L_law 1082 = .ok (.ireturn, 1) := by decide +kernel
theorem dL_law_1083 : decode c_L_law 1083 = .ok (.iload 5, 2) := by decide +kernel
theorem dL_law_1085 : decode c_L_law 1085 = .ok (.ifCond .ne 15, 3) := by decide +kernel
theorem dL_law_1088 : decode c_L_law 1088 = .ok (.aload_n 3, 1) := by decide +kernel
theorem dL_law_1089 : decode c_L_law 1089 = .ok (.iconst 0, 1) := by decide +kernel
theorem dL_law_1090 : decode c_L_law 1090 = .ok (.laload, 1) := by decide +kernel
theorem dL_law_1091 : decode c_L_law 1091 = .ok (.iload 6, 2) := by decide +kernel
theorem dL_law_1093 : decode c_L_law 1093 = .ok (.i2l, 1) := by decide +kernel
theorem dL_law_1094 : decode c_L_law 1094 = .ok (.lcmp, 1) := by decide +kernel
theorem dL_law_1095 : decode c_L_law 1095 = .ok (.ifCond .eq 5, 3) := by decide +kernel
theorem dL_law_1098 : decode c_L_law 1098 = .ok (.iconst 0, 1) := by decide +kernel
theorem dL_law_1099 : decode c_L_law 1099 = .ok (.ireturn, 1) := by decide +kernel
theorem dL_law_1100 : decode c_L_law 1100 = .ok (.goto 84, 3) := by decide +kernel
theorem dL_law_1103 : decode c_L_law 1103 = .ok (.aload_n 1, 1) := by decide +kernel
theorem dL_law_1104 : decode c_L_law 1104 = .ok (.aload_n 0, 1) := by decide +kernel
theorem dL_law_1105 : decode c_L_law 1105 = .ok (.iload 4, 2) := by decide +kernel
theorem dL_law_1107 : decode c_L_law 1107 = .ok (.iconst 1, 1) := by decide +kernel
theorem dL_law_1108 : decode c_L_law 1108 = .ok (.iadd, 1) := by decide +kernel
theorem dL_law_1109 : decode c_L_law 1109 = .ok (.iaload, 1) := by decide +kernel
theorem dL_law_1110 : decode c_L_law 1110 = .ok (.aload_n 3, 1) := by decide +kernel
theorem dL_law_1111 : decode c_L_law 1111 = .ok (.invokestatic 128, 3) := by decide +kernel
theorem dL_law_1114 : decode c_L_law 1114 = .ok (.istore 5, 2) := by decide +kernel
theorem dL_law_1116 : decode c_L_law 1116 = .ok (.aload_n 2, 1) := by decide +kernel
theorem dL_law_1117 : decode c_L_law 1117 = .ok (.aload_n 0, 1) := by decide +kernel
theorem dL_law_1118 : decode c_L_law 1118 = .ok (.iload 4, 2) := by decide +kernel
theorem dL_law_1120 : decode c_L_law 1120 = .ok (.iconst 1, 1) := by decide +kernel
theorem dL_law_1121 : decode c_L_law 1121 = .ok (.iadd, 1) := by decide +kernel
theorem dL_law_1122 : decode c_L_law 1122 = .ok (.iaload, 1) := by decide +kernel
theorem dL_law_1123 : decode c_L_law 1123 = .ok (.invokevirtual 130, 3) := by decide +kernel
theorem dL_law_1126 : decode c_L_law 1126 = .ok (.istore 6, 2) := by decide +kernel
theorem dL_law_1128 : decode c_L_law 1128 = .ok (.aload_n 2, 1) := by decide +kernel
theorem dL_law_1129 : decode c_L_law 1129 = .ok (.invokevirtual 81, 3) := by decide +kernel
theorem dL_law_1132 : decode c_L_law 1132 = .ok (.iload 5, 2) := by decide +kernel
theorem dL_law_1134 : decode c_L_law 1134 = .ok (.if_icmp .eq 5, 3) := by decide +kernel
theorem dL_law_1137 : decode c_L_law 1137 = .ok (.iconst 0, 1) := by decide +kernel
theorem dL_law_1138 : decode c_L_law 1138 = .ok (.ireturn, 1) := by decide +kernel
theorem dL_law_1139 : decode c_L_law 1139 = .ok (.iload 5, 2) := by decide +kernel
theorem dL_law_1141 : decode c_L_law 1141 = .ok (.ifCond .ne 15, 3) := by decide +kernel
theorem dL_law_1144 : decode c_L_law 1144 = .ok (.aload_n 3, 1) := by decide +kernel
theorem dL_law_1145 : decode c_L_law 1145 = .ok (.iconst 0, 1) := by decide +kernel
theorem dL_law_1146 : decode c_L_law 1146 = .ok (.laload, 1) := by decide +kernel
theorem dL_law_1147 : decode c_L_law 1147 = .ok (.iload 6, 2) := by decide +kernel
theorem dL_law_1149 : decode c_L_law 1149 = .ok (.i2l, 1) := by decide +kernel
theorem dL_law_1150 : decode c_L_law 1150 = .ok (.lcmp, 1) := by decide +kernel
theorem dL_law_1151 : decode c_L_law 1151 = .ok (.ifCond .eq 5, 3) := by decide +kernel
theorem dL_law_1154 : decode c_L_law 1154 = .ok (.iconst 0, 1) := by decide +kernel
theorem dL_law_1155 : decode c_L_law 1155 = .ok (.ireturn, 1) := by decide +kernel
theorem dL_law_1156 : decode c_L_law 1156 = .ok (.goto 28, 3) := by decide +kernel
theorem dL_law_1159 : decode c_L_law 1159 = .ok (.aload_n 1, 1) := by decide +kernel
theorem dL_law_1160 : decode c_L_law 1160 = .ok (.aload_n 0, 1) := by decide +kernel
theorem dL_law_1161 : decode c_L_law 1161 = .ok (.iload 4, 2) := by decide +kernel
theorem dL_law_1163 : decode c_L_law 1163 = .ok (.iconst 1, 1) := by decide +kernel
theorem dL_law_1164 : decode c_L_law 1164 = .ok (.iadd, 1) := by decide +kernel
theorem dL_law_1165 : decode c_L_law 1165 = .ok (.iaload, 1) := by decide +kernel
theorem dL_law_1166 : decode c_L_law 1166 = .ok (.invokevirtual 131, 3) := by decide +kernel
theorem dL_law_1169 : decode c_L_law 1169 = .ok (.aload_n 2, 1) := by decide +kernel
theorem dL_law_1170 : decode c_L_law 1170 = .ok (.aload_n 0, 1) := by decide +kernel
theorem dL_law_1171 : decode c_L_law 1171 = .ok (.iload 4, 2) := by decide +kernel
theorem dL_law_1173 : decode c_L_law 1173 = .ok (.iconst 1, 1) := by decide +kernel
theorem dL_law_1174 : decode c_L_law 1174 = .ok (.iadd, 1) := by decide +kernel
theorem dL_law_1175 : decode c_L_law 1175 = .ok (.iaload, 1) := by decide +kernel
theorem dL_law_1176 : decode c_L_law 1176 = .ok (.invokevirtual 134, 3) := by decide +kernel
theorem dL_law_1179 : decode c_L_law 1179 = .ok (.if_icmp .eq 5, 3) := by decide +kernel
theorem dL_law_1182 : decode c_L_law 1182 = .ok (.iconst 0, 1) := by decide +kernel
theorem dL_law_1183 : decode c_L_law 1183 = .ok (.ireturn, 1) := by decide +kernel
theorem dL_law_1184 : decode c_L_law 1184 = .ok (.iinc 4 6, 3) := by decide +kernel
theorem dL_law_1187 : decode c_L_law 1187 = .ok (.goto (-1164), 3) := by decide +kernel
theorem dL_law_1190 : decode c_L_law 1190 = .ok (.iconst 1, 1) := by decide +kernel
theorem dL_law_1191 : decode c_L_law 1191 = .ok (.ireturn, 1) := by decide +kernel
