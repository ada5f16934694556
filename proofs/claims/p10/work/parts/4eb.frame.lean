set_option linter.all false
/-! THE CLAIM OUT OF ONE WALK OF THE LAW'S BODY. Your part is whole_start (and what it stands on); all else here is the same for every law, but numbers. -/
def R_law : String := "LatticeKeysLaw"
def lw_P (b : Addr) (xs : List Int32) (args : Array Value) (s : State) : Prop := args = #[.ref b] ∧ s.IntsAt b xs ∧ xs.length ≤ 3072 ∧ (Jvm.Cond.and given_1 narrow_1).before args s = true
def lw_Q (_ : Array Value) (s : State) (o : Outcome) (t : State) : Prop := o = .returned (some (.int 1)) ∧ Framed s o t [] 601024 7293034
def lw_Z (below : List Frame) (a : Array Value) (s : State) : State → Prop := fun t => ∃ o, t.status = .running ∧ Ended t below o ∧ lw_Q a s o t
/-- the law's own end, with 1 on the stack, nothing written that was there before, its room as the claim has it -/
theorem lw_ret {p : Program} {l : Launch} {e : Env} {s : State} {m : MethodId} {below : List Frame} {meth : Method} {c : Code} {b : Nat} (hx : p.tables.exec = Jvm.exec) (hb : c.code = code) (hr : meth.sig.returnType = ret) (hlocks : meth.locks = false) {pc : Nat} {H : Heap} {ls : Array Slot} (hdg : decode code pc = .ok (.ireturn, 1)) : W p l e room_1 s m #[Value.ref b] below meth c H [] 601024 7293034 (lw_Z below #[Value.ref b] s) (F0 m pc ls [.int 1]) := by
  intro T hT X
  obtain ⟨fs, hret, hrun, hended, hW, hframe⟩ := X.leave (v := some (.int 1)) (hlocks := hlocks) (fun h => by rw [hr] at h; cases h)
  have hmeth' : T.vm.method? m = some meth := X.method'
  refine ⟨T.setFrames fs, ?_, .returned (some (.int 1)), hrun, hended, rfl, ⟨_, rfl⟩, hW, hframe⟩
  jvm_step X.here [X.here.top, hx, hb, hdg, hmeth', hr, ret, narrow_b1]
  (try refine ⟨rfl, ?_⟩); (try refine ⟨rfl, ?_⟩)
  first | (intro acts; rw [hret _ acts rfl rfl rfl]) | rw [hret _ _ rfl rfl rfl]
  exact Steps.refl _
/-- what holds at the law's entry: the machine, the code, the tables' words (any of lw_tbl by 'hts w (by decide +kernel)'), the script of L ints xs at the cell b, what the Statement gives of the start (any of its parts by flat_of_before) -/
def lw_At (p : Program) (s : State) (m : MethodId) (meth : Method) (c : Code) (b L : Nat) (xs : Nat → Int32) : Prop :=
  p.tables.exec = Jvm.exec ∧ c.code = code ∧ meth.sig.returnType = ret ∧ c.maxLocals = 7 ∧ s.vm.findClass R_law = some m.cls ∧ (∀ w ∈ lw_tbl, w.before #[Value.ref b] s = true) ∧ va_X b L xs s s.heap ∧ b < s.heap.size ∧ meth.locks = false ∧ (Jvm.Cond.and given_1 narrow_1).before #[Value.ref b] s = true
theorem lc_cmp (x : Int64) : lg_cmp x x = nI 0 := by
  unfold lg_cmp
  rw [if_neg (by rw [gt_iff_lt, Int64.lt_iff_toInt_lt]; omega), if_pos rfl]
  rfl
theorem lt6 : ∀ L : Nat, L < 6 → nI L - nI 6 < nI 0 := by decide
theorem lv_subm {ls : Array Slot} {n : Nat} {lv lw : List (Nat × Value)} (h : lv_has ls n lv) (is : List Nat) (hs : is.map (fun i => lv[i]?) = lw.map some) : lv_has ls n lw := by
  refine ⟨h.1, h.2.1, fun q hq => ?_⟩
  obtain ⟨k, hk⟩ := List.getElem?_of_mem hq
  have h1 : (is.map (fun i => lv[i]?))[k]? = some (some q) := by rw [hs, List.getElem?_map, hk]; rfl
  rw [List.getElem?_map] at h1
  cases hi : is[k]? with
  | none => rw [hi] at h1; cases h1
  | some i => rw [hi] at h1; exact h.2.2 q (List.mem_of_getElem? (Option.some.inj h1))
abbrev wL : List Cond := Cond.code Lib.objectInit ⟨#[0xb1]⟩ 1 none :: WG
abbrev Alaw (s : State) : Nat → Prop := fun q => s.heap.size ≤ q
set_option maxRecDepth 100000 in
theorem kw_414 : (Jvm.Cond.codeWith ({ cls := "LatticeKeysLaw", name := "feed", desc := "(LLatticeKeys;IIIII[J)I" } : Jvm.MethodName) method_3_code (8 : Nat) (Option.some Jvm.ClassFile.FieldType.int) [((0 : Nat), (16 : Nat), (19 : Nat), (13 : Nat))]) ∈ WG := wgr_2 174 (by rfl) (by rfl)
set_option maxRecDepth 100000 in
theorem kw_495 : (Jvm.Cond.codeWith ({ cls := "LatticeKeysLaw", name := "end", desc := "(LLatticeKeys;I[J)I" } : Jvm.MethodName) method_4_code (4 : Nat) (Option.some Jvm.ClassFile.FieldType.int) [((0 : Nat), (9 : Nat), (12 : Nat), (19 : Nat))]) ∈ WG := wgr_3 15 (by rfl) (by rfl)
set_option maxRecDepth 100000 in
theorem kw_519 : (Jvm.Cond.codeWith ({ cls := "LatticeKeysLaw", name := "again", desc := "(LLatticeKeys;[J)I" } : Jvm.MethodName) method_5_code (3 : Nat) (Option.some Jvm.ClassFile.FieldType.int) [((0 : Nat), (8 : Nat), (11 : Nat), (13 : Nat))]) ∈ WG := wgr_3 39 (by rfl) (by rfl)
set_option maxRecDepth 100000 in
theorem kw_529 : (Jvm.Cond.codeWith ({ cls := "LatticeKeysLaw", name := "alter", desc := "(LLatticeKeys;II[J)I" } : Jvm.MethodName) method_6_code (5 : Nat) (Option.some Jvm.ClassFile.FieldType.int) [((0 : Nat), (10 : Nat), (13 : Nat), (29 : Nat))]) ∈ WG := wgr_3 49 (by rfl) (by rfl)
set_option maxRecDepth 100000 in
theorem kw_553 : (Jvm.Cond.codeWith ({ cls := "LatticeKeysLaw", name := "keys", desc := "(LLatticeKeys;I[J)I" } : Jvm.MethodName) method_7_code (4 : Nat) (Option.some Jvm.ClassFile.FieldType.int) [((0 : Nat), (9 : Nat), (12 : Nat), (19 : Nat)), ((0 : Nat), (9 : Nat), (15 : Nat), (13 : Nat))]) ∈ WG := wgr_3 73 (by rfl) (by rfl)
set_option maxRecDepth 100000 in
theorem kw_766 : (Jvm.Cond.codeWith ({ cls := "LatticeKeysLaw", name := "load", desc := "(LLatticeKeys;IZ[J)I" } : Jvm.MethodName) method_8_code (5 : Nat) (Option.some Jvm.ClassFile.FieldType.int) [((0 : Nat), (10 : Nat), (13 : Nat), (19 : Nat)), ((0 : Nat), (10 : Nat), (17 : Nat), (38 : Nat)), ((0 : Nat), (10 : Nat), (21 : Nat), (13 : Nat))]) ∈ WG := wgr_4 46 (by rfl) (by rfl)
set_option maxRecDepth 100000 in
theorem kw_1050 : (Jvm.Cond.codeWith ({ cls := "LatticeKeysLaw", name := "part", desc := "(LLatticeKeys;IZI[J)I" } : Jvm.MethodName) method_9_code (6 : Nat) (Option.some Jvm.ClassFile.FieldType.int) [((0 : Nat), (12 : Nat), (15 : Nat), (44 : Nat)), ((0 : Nat), (12 : Nat), (19 : Nat), (29 : Nat))]) ∈ WG := wgr_5 90 (by rfl) (by rfl)
set_option maxRecDepth 100000 in
theorem kw_1083 : (Jvm.Cond.codeWith ({ cls := "LatticeKeysLaw", name := "show", desc := "(LLatticeKeys;IZ[J)I" } : Jvm.MethodName) method_10_code (5 : Nat) (Option.some Jvm.ClassFile.FieldType.int) [((0 : Nat), (10 : Nat), (13 : Nat), (44 : Nat))]) ∈ WG := wgr_5 123 (by rfl) (by rfl)
set_option maxRecDepth 100000 in
theorem kw_1090 : (Jvm.Cond.codeWith ({ cls := "LatticeKeysLaw", name := "told", desc := "(LLatticeKeys;II[J)I" } : Jvm.MethodName) method_11_code (5 : Nat) (Option.some Jvm.ClassFile.FieldType.int) [((0 : Nat), (10 : Nat), (13 : Nat), (44 : Nat)), ((0 : Nat), (10 : Nat), (17 : Nat), (19 : Nat))]) ∈ WG := wgr_5 130 (by rfl) (by rfl)
set_option maxRecDepth 100000 in
theorem kw_1099 : (Jvm.Cond.codeWith ({ cls := "LatticeKeysLaw", name := "seal", desc := "(LLatticeKeys;I[J)I" } : Jvm.MethodName) method_12_code (4 : Nat) (Option.some Jvm.ClassFile.FieldType.int) [((0 : Nat), (9 : Nat), (12 : Nat), (44 : Nat)), ((0 : Nat), (9 : Nat), (15 : Nat), (19 : Nat))]) ∈ WG := wgr_5 139 (by rfl) (by rfl)
set_option maxRecDepth 100000 in
theorem kw_1139 : (Jvm.Cond.codeWith ({ cls := "LatticeKeysLaw", name := "open", desc := "(LLatticeKeys;I[J)I" } : Jvm.MethodName) method_13_code (4 : Nat) (Option.some Jvm.ClassFile.FieldType.int) [((0 : Nat), (9 : Nat), (12 : Nat), (44 : Nat)), ((0 : Nat), (9 : Nat), (15 : Nat), (19 : Nat))]) ∈ WG := wgr_5 179 (by rfl) (by rfl)
set_option maxRecDepth 100000 in
theorem kw_1160 : (Jvm.Cond.codeWith ({ cls := "LatticeKeysLaw", name := "sign", desc := "(LLatticeKeys;II[J)I" } : Jvm.MethodName) method_14_code (5 : Nat) (Option.some Jvm.ClassFile.FieldType.int) [((0 : Nat), (10 : Nat), (13 : Nat), (44 : Nat)), ((0 : Nat), (10 : Nat), (17 : Nat), (19 : Nat)), ((0 : Nat), (10 : Nat), (21 : Nat), (13 : Nat))]) ∈ WG := wgr_5 200 (by rfl) (by rfl)
set_option maxRecDepth 100000 in
theorem kw_1255 : (Jvm.Cond.codeWith ({ cls := "LatticeKeysLaw", name := "verify", desc := "(LLatticeKeys;II[J)I" } : Jvm.MethodName) method_15_code (5 : Nat) (Option.some Jvm.ClassFile.FieldType.int) [((0 : Nat), (17 : Nat), (20 : Nat), (44 : Nat)), ((0 : Nat), (17 : Nat), (24 : Nat), (19 : Nat))]) ∈ WG := wgr_6 55 (by rfl) (by rfl)
set_option maxRecDepth 100000 in
theorem kw_1293 : (Jvm.Cond.codeWith ({ cls := "LatticeKeysLaw", name := "hash", desc := "(LLatticeKeys;II[J)I" } : Jvm.MethodName) method_16_code (5 : Nat) (Option.some Jvm.ClassFile.FieldType.int) [((0 : Nat), (10 : Nat), (13 : Nat), (19 : Nat))]) ∈ WG := wgr_6 93 (by rfl) (by rfl)
set_option maxRecDepth 100000 in
theorem kw_1305 : (Jvm.Cond.codeWith ({ cls := "LatticeKeysLaw", name := "result", desc := "(LLatticeKeys;I[J)I" } : Jvm.MethodName) method_17_code (4 : Nat) (Option.some Jvm.ClassFile.FieldType.int) [((0 : Nat), (9 : Nat), (12 : Nat), (29 : Nat))]) ∈ WG := wgr_6 105 (by rfl) (by rfl)
abbrev c_L_law : ByteArray := code
theorem dL_law_0 : decode c_L_law 0 = .ok (.new 8, 3) := by decide +kernel
theorem dL_law_3 : decode c_L_law 3 = .ok (.dup, 1) := by decide +kernel
theorem dL_law_4 : decode c_L_law 4 = .ok (.invokespecial 71, 3) := by decide +kernel
theorem dL_law_7 : decode c_L_law 7 = .ok (.astore_n 1, 1) := by decide +kernel
theorem dL_law_8 : decode c_L_law 8 = .ok (.new 72, 3) := by decide +kernel
theorem dL_law_11 : decode c_L_law 11 = .ok (.dup, 1) := by decide +kernel
theorem dL_law_12 : decode c_L_law 12 = .ok (.invokespecial 74, 3) := by decide +kernel
theorem dL_law_15 : decode c_L_law 15 = .ok (.astore_n 2, 1) := by decide +kernel
theorem dL_law_16 : decode c_L_law 16 = .ok (.iconst 1, 1) := by decide +kernel
theorem dL_law_17 : decode c_L_law 17 = .ok (.newarray .long, 2) := by decide +kernel
theorem dL_law_19 : decode c_L_law 19 = .ok (.astore_n 3, 1) := by decide +kernel
theorem dL_law_20 : decode c_L_law 20 = .ok (.iconst 0, 1) := by decide +kernel
theorem dL_law_21 : decode c_L_law 21 = .ok (.istore 4, 2) := by decide +kernel
theorem dL_law_23 : decode c_L_law 23 = .ok (.iload 4, 2) := by decide +kernel
theorem dL_law_25 : decode c_L_law 25 = .ok (.aload_n 0, 1) := by decide +kernel
theorem dL_law_26 : decode c_L_law 26 = .ok (.arraylength, 1) := by decide +kernel
theorem dL_law_27 : decode c_L_law 27 = .ok (.bipush 6, 2) := by decide +kernel
theorem dL_law_29 : decode c_L_law 29 = .ok (.isub, 1) := by decide +kernel
theorem dL_law_30 : decode c_L_law 30 = .ok (.if_icmp .gt 761, 3) := by decide +kernel
theorem dL_law_33 : decode c_L_law 33 = .ok (.aload_n 0, 1) := by decide +kernel
theorem dL_law_34 : decode c_L_law 34 = .ok (.iload 4, 2) := by decide +kernel
theorem dL_law_36 : decode c_L_law 36 = .ok (.iaload, 1) := by decide +kernel
theorem dL_law_37 : decode c_L_law 37 = .ok (.bipush 15, 2) := by decide +kernel
theorem dL_law_39 : decode c_L_law 39 = .ok (.iand, 1) := by decide +kernel
theorem dL_law_40 : decode c_L_law 40 = .ok (.tableswitch 745 0 15 #[80, 156, 184, 200, 240, 268, 324, 392, 448, 516, 544, 572, 612, 652, 692, 720], 80) := by decide +kernel
theorem dL_law_120 : decode c_L_law 120 = .ok (.aload_n 1, 1) := by decide +kernel
theorem dL_law_121 : decode c_L_law 121 = .ok (.aload_n 0, 1) := by decide +kernel
theorem dL_law_122 : decode c_L_law 122 = .ok (.iload 4, 2) := by decide +kernel
theorem dL_law_124 : decode c_L_law 124 = .ok (.iconst 1, 1) := by decide +kernel
theorem dL_law_125 : decode c_L_law 125 = .ok (.iadd, 1) := by decide +kernel
theorem dL_law_126 : decode c_L_law 126 = .ok (.iaload, 1) := by decide +kernel
theorem dL_law_127 : decode c_L_law 127 = .ok (.aload_n 0, 1) := by decide +kernel
theorem dL_law_128 : decode c_L_law 128 = .ok (.iload 4, 2) := by decide +kernel
theorem dL_law_130 : decode c_L_law 130 = .ok (.iconst 2, 1) := by decide +kernel
theorem dL_law_131 : decode c_L_law 131 = .ok (.iadd, 1) := by decide +kernel
theorem dL_law_132 : decode c_L_law 132 = .ok (.iaload, 1) := by decide +kernel
theorem dL_law_133 : decode c_L_law 133 = .ok (.aload_n 0, 1) := by decide +kernel
theorem dL_law_134 : decode c_L_law 134 = .ok (.iload 4, 2) := by decide +kernel
theorem dL_law_136 : decode c_L_law 136 = .ok (.iconst 3, 1) := by decide +kernel
theorem dL_law_137 : decode c_L_law 137 = .ok (.iadd, 1) := by decide +kernel
theorem dL_law_138 : decode c_L_law 138 = .ok (.iaload, 1) := by decide +kernel
theorem dL_law_139 : decode c_L_law 139 = .ok (.aload_n 0, 1) := by decide +kernel
theorem dL_law_140 : decode c_L_law 140 = .ok (.iload 4, 2) := by decide +kernel
theorem dL_law_142 : decode c_L_law 142 = .ok (.iconst 4, 1) := by decide +kernel
theorem dL_law_143 : decode c_L_law 143 = .ok (.iadd, 1) := by decide +kernel
theorem dL_law_144 : decode c_L_law 144 = .ok (.iaload, 1) := by decide +kernel
theorem dL_law_145 : decode c_L_law 145 = .ok (.aload_n 0, 1) := by decide +kernel
theorem dL_law_146 : decode c_L_law 146 = .ok (.iload 4, 2) := by decide +kernel
theorem dL_law_148 : decode c_L_law 148 = .ok (.iconst 5, 1) := by decide +kernel
theorem dL_law_149 : decode c_L_law 149 = .ok (.iadd, 1) := by decide +kernel
theorem dL_law_150 : decode c_L_law 150 = .ok (.iaload, 1) := by decide +kernel
theorem dL_law_151 : decode c_L_law 151 = .ok (.aload_n 3, 1) := by decide +kernel
theorem dL_law_152 : decode c_L_law 152 = .ok (.invokestatic 75, 3) := by decide +kernel
theorem dL_law_155 : decode c_L_law 155 = .ok (.istore 5, 2) := by decide +kernel
theorem dL_law_157 : decode c_L_law 157 = .ok (.aload_n 2, 1) := by decide +kernel
theorem dL_law_158 : decode c_L_law 158 = .ok (.aload_n 0, 1) := by decide +kernel
theorem dL_law_159 : decode c_L_law 159 = .ok (.iload 4, 2) := by decide +kernel
theorem dL_law_161 : decode c_L_law 161 = .ok (.iconst 1, 1) := by decide +kernel
theorem dL_law_162 : decode c_L_law 162 = .ok (.iadd, 1) := by decide +kernel
theorem dL_law_163 : decode c_L_law 163 = .ok (.iaload, 1) := by decide +kernel
theorem dL_law_164 : decode c_L_law 164 = .ok (.aload_n 0, 1) := by decide +kernel
theorem dL_law_165 : decode c_L_law 165 = .ok (.iload 4, 2) := by decide +kernel
theorem dL_law_167 : decode c_L_law 167 = .ok (.iconst 2, 1) := by decide +kernel
theorem dL_law_168 : decode c_L_law 168 = .ok (.iadd, 1) := by decide +kernel
theorem dL_law_169 : decode c_L_law 169 = .ok (.iaload, 1) := by decide +kernel
theorem dL_law_170 : decode c_L_law 170 = .ok (.aload_n 0, 1) := by decide +kernel
theorem dL_law_171 : decode c_L_law 171 = .ok (.iload 4, 2) := by decide +kernel
theorem dL_law_173 : decode c_L_law 173 = .ok (.iconst 3, 1) := by decide +kernel
theorem dL_law_174 : decode c_L_law 174 = .ok (.iadd, 1) := by decide +kernel
theorem dL_law_175 : decode c_L_law 175 = .ok (.iaload, 1) := by decide +kernel
theorem dL_law_176 : decode c_L_law 176 = .ok (.aload_n 0, 1) := by decide +kernel
theorem dL_law_177 : decode c_L_law 177 = .ok (.iload 4, 2) := by decide +kernel
theorem dL_law_179 : decode c_L_law 179 = .ok (.iconst 4, 1) := by decide +kernel
theorem dL_law_180 : decode c_L_law 180 = .ok (.iadd, 1) := by decide +kernel
theorem dL_law_181 : decode c_L_law 181 = .ok (.iaload, 1) := by decide +kernel
theorem dL_law_182 : decode c_L_law 182 = .ok (.aload_n 0, 1) := by decide +kernel
theorem dL_law_183 : decode c_L_law 183 = .ok (.iload 4, 2) := by decide +kernel
theorem dL_law_185 : decode c_L_law 185 = .ok (.iconst 5, 1) := by decide +kernel
theorem dL_law_186 : decode c_L_law 186 = .ok (.iadd, 1) := by decide +kernel
theorem dL_law_187 : decode c_L_law 187 = .ok (.iaload, 1) := by decide +kernel
theorem dL_law_188 : decode c_L_law 188 = .ok (.invokevirtual 80, 3) := by decide +kernel
theorem dL_law_191 : decode c_L_law 191 = .ok (.istore 6, 2) := by decide +kernel
theorem dL_law_193 : decode c_L_law 193 = .ok (.goto 592, 3) := by decide +kernel
theorem dL_law_196 : decode c_L_law 196 = .ok (.aload_n 1, 1) := by decide +kernel
theorem dL_law_197 : decode c_L_law 197 = .ok (.aload_n 0, 1) := by decide +kernel
theorem dL_law_198 : decode c_L_law 198 = .ok (.iload 4, 2) := by decide +kernel
theorem dL_law_200 : decode c_L_law 200 = .ok (.iconst 1, 1) := by decide +kernel
theorem dL_law_201 : decode c_L_law 201 = .ok (.iadd, 1) := by decide +kernel
theorem dL_law_202 : decode c_L_law 202 = .ok (.iaload, 1) := by decide +kernel
theorem dL_law_203 : decode c_L_law 203 = .ok (.aload_n 3, 1) := by decide +kernel
theorem dL_law_204 : decode c_L_law 204 = .ok (.invokestatic 81, 3) := by decide +kernel
theorem dL_law_207 : decode c_L_law 207 = .ok (.istore 5, 2) := by decide +kernel
theorem dL_law_209 : decode c_L_law 209 = .ok (.aload_n 2, 1) := by decide +kernel
theorem dL_law_210 : decode c_L_law 210 = .ok (.aload_n 0, 1) := by decide +kernel
theorem dL_law_211 : decode c_L_law 211 = .ok (.iload 4, 2) := by decide +kernel
theorem dL_law_213 : decode c_L_law 213 = .ok (.iconst 1, 1) := by decide +kernel
theorem dL_law_214 : decode c_L_law 214 = .ok (.iadd, 1) := by decide +kernel
theorem dL_law_215 : decode c_L_law 215 = .ok (.iaload, 1) := by decide +kernel
theorem dL_law_216 : decode c_L_law 216 = .ok (.invokevirtual 84, 3) := by decide +kernel
theorem dL_law_219 : decode c_L_law 219 = .ok (.istore 6, 2) := by decide +kernel
theorem dL_law_221 : decode c_L_law 221 = .ok (.goto 564, 3) := by decide +kernel
theorem dL_law_224 : decode c_L_law 224 = .ok (.aload_n 1, 1) := by decide +kernel
theorem dL_law_225 : decode c_L_law 225 = .ok (.aload_n 3, 1) := by decide +kernel
theorem dL_law_226 : decode c_L_law 226 = .ok (.invokestatic 85, 3) := by decide +kernel
theorem dL_law_229 : decode c_L_law 229 = .ok (.istore 5, 2) := by decide +kernel
theorem dL_law_231 : decode c_L_law 231 = .ok (.aload_n 2, 1) := by decide +kernel
theorem dL_law_232 : decode c_L_law 232 = .ok (.invokevirtual 88, 3) := by decide +kernel
theorem dL_law_235 : decode c_L_law 235 = .ok (.istore 6, 2) := by decide +kernel
theorem dL_law_237 : decode c_L_law 237 = .ok (.goto 548, 3) := by decide +kernel
theorem dL_law_240 : decode c_L_law 240 = .ok (.aload_n 1, 1) := by decide +kernel
theorem dL_law_241 : decode c_L_law 241 = .ok (.aload_n 0, 1) := by decide +kernel
theorem dL_law_242 : decode c_L_law 242 = .ok (.iload 4, 2) := by decide +kernel
theorem dL_law_244 : decode c_L_law 244 = .ok (.iconst 1, 1) := by decide +kernel
theorem dL_law_245 : decode c_L_law 245 = .ok (.iadd, 1) := by decide +kernel
theorem dL_law_246 : decode c_L_law 246 = .ok (.iaload, 1) := by decide +kernel
theorem dL_law_247 : decode c_L_law 247 = .ok (.aload_n 0, 1) := by decide +kernel
theorem dL_law_248 : decode c_L_law 248 = .ok (.iload 4, 2) := by decide +kernel
theorem dL_law_250 : decode c_L_law 250 = .ok (.iconst 2, 1) := by decide +kernel
theorem dL_law_251 : decode c_L_law 251 = .ok (.iadd, 1) := by decide +kernel
theorem dL_law_252 : decode c_L_law 252 = .ok (.iaload, 1) := by decide +kernel
theorem dL_law_253 : decode c_L_law 253 = .ok (.aload_n 3, 1) := by decide +kernel
theorem dL_law_254 : decode c_L_law 254 = .ok (.invokestatic 89, 3) := by decide +kernel
theorem dL_law_257 : decode c_L_law 257 = .ok (.istore 5, 2) := by decide +kernel
theorem dL_law_259 : decode c_L_law 259 = .ok (.aload_n 2, 1) := by decide +kernel
theorem dL_law_260 : decode c_L_law 260 = .ok (.aload_n 0, 1) := by decide +kernel
theorem dL_law_261 : decode c_L_law 261 = .ok (.iload 4, 2) := by decide +kernel
theorem dL_law_263 : decode c_L_law 263 = .ok (.iconst 1, 1) := by decide +kernel
theorem dL_law_264 : decode c_L_law 264 = .ok (.iadd, 1) := by decide +kernel
theorem dL_law_265 : decode c_L_law 265 = .ok (.iaload, 1) := by decide +kernel
theorem dL_law_266 : decode c_L_law 266 = .ok (.aload_n 0, 1) := by decide +kernel
theorem dL_law_267 : decode c_L_law 267 = .ok (.iload 4, 2) := by decide +kernel
theorem dL_law_269 : decode c_L_law 269 = .ok (.iconst 2, 1) := by decide +kernel
theorem dL_law_270 : decode c_L_law 270 = .ok (.iadd, 1) := by decide +kernel
theorem dL_law_271 : decode c_L_law 271 = .ok (.iaload, 1) := by decide +kernel
theorem dL_law_272 : decode c_L_law 272 = .ok (.invokevirtual 92, 3) := by decide +kernel
theorem dL_law_275 : decode c_L_law 275 = .ok (.istore 6, 2) := by decide +kernel
theorem dL_law_277 : decode c_L_law 277 = .ok (.goto 508, 3) := by decide +kernel
theorem dL_law_280 : decode c_L_law 280 = .ok (.aload_n 1, 1) := by decide +kernel
theorem dL_law_281 : decode c_L_law 281 = .ok (.aload_n 0, 1) := by decide +kernel
theorem dL_law_282 : decode c_L_law 282 = .ok (.iload 4, 2) := by decide +kernel
theorem dL_law_284 : decode c_L_law 284 = .ok (.iconst 1, 1) := by decide +kernel
theorem dL_law_285 : decode c_L_law 285 = .ok (.iadd, 1) := by decide +kernel
theorem dL_law_286 : decode c_L_law 286 = .ok (.iaload, 1) := by decide +kernel
theorem dL_law_287 : decode c_L_law 287 = .ok (.aload_n 3, 1) := by decide +kernel
theorem dL_law_288 : decode c_L_law 288 = .ok (.invokestatic 93, 3) := by decide +kernel
theorem dL_law_291 : decode c_L_law 291 = .ok (.istore 5, 2) := by decide +kernel
theorem dL_law_293 : decode c_L_law 293 = .ok (.aload_n 2, 1) := by decide +kernel
theorem dL_law_294 : decode c_L_law 294 = .ok (.aload_n 0, 1) := by decide +kernel
theorem dL_law_295 : decode c_L_law 295 = .ok (.iload 4, 2) := by decide +kernel
theorem dL_law_297 : decode c_L_law 297 = .ok (.iconst 1, 1) := by decide +kernel
theorem dL_law_298 : decode c_L_law 298 = .ok (.iadd, 1) := by decide +kernel
theorem dL_law_299 : decode c_L_law 299 = .ok (.iaload, 1) := by decide +kernel
theorem dL_law_300 : decode c_L_law 300 = .ok (.invokevirtual 95, 3) := by decide +kernel
theorem dL_law_303 : decode c_L_law 303 = .ok (.istore 6, 2) := by decide +kernel
theorem dL_law_305 : decode c_L_law 305 = .ok (.goto 480, 3) := by decide +kernel
theorem dL_law_308 : decode c_L_law 308 = .ok (.aload_n 1, 1) := by decide +kernel
theorem dL_law_309 : decode c_L_law 309 = .ok (.aload_n 0, 1) := by decide +kernel
theorem dL_law_310 : decode c_L_law 310 = .ok (.iload 4, 2) := by decide +kernel
theorem dL_law_312 : decode c_L_law 312 = .ok (.iconst 1, 1) := by decide +kernel
theorem dL_law_313 : decode c_L_law 313 = .ok (.iadd, 1) := by decide +kernel
theorem dL_law_314 : decode c_L_law 314 = .ok (.iaload, 1) := by decide +kernel
theorem dL_law_315 : decode c_L_law 315 = .ok (.aload_n 0, 1) := by decide +kernel
theorem dL_law_316 : decode c_L_law 316 = .ok (.iload 4, 2) := by decide +kernel
theorem dL_law_318 : decode c_L_law 318 = .ok (.iconst 2, 1) := by decide +kernel
theorem dL_law_319 : decode c_L_law 319 = .ok (.iadd, 1) := by decide +kernel
theorem dL_law_320 : decode c_L_law 320 = .ok (.iaload, 1) := by decide +kernel
theorem dL_law_321 : decode c_L_law 321 = .ok (.ifCond .eq 7, 3) := by decide +kernel
theorem dL_law_324 : decode c_L_law 324 = .ok (.iconst 1, 1) := by decide +kernel
theorem dL_law_325 : decode c_L_law 325 = .ok (.goto 4, 3) := by decide +kernel
theorem dL_law_328 : decode c_L_law 328 = .ok (.iconst 0, 1) := by decide +kernel
theorem dL_law_329 : decode c_L_law 329 = .ok (.aload_n 3, 1) := by decide +kernel
theorem dL_law_330 : decode c_L_law 330 = .ok (.invokestatic 96, 3) := by decide +kernel
theorem dL_law_333 : decode c_L_law 333 = .ok (.istore 5, 2) := by decide +kernel
theorem dL_law_335 : decode c_L_law 335 = .ok (.aload_n 2, 1) := by decide +kernel
theorem dL_law_336 : decode c_L_law 336 = .ok (.aload_n 0, 1) := by decide +kernel
theorem dL_law_337 : decode c_L_law 337 = .ok (.iload 4, 2) := by decide +kernel
theorem dL_law_339 : decode c_L_law 339 = .ok (.iconst 1, 1) := by decide +kernel
theorem dL_law_340 : decode c_L_law 340 = .ok (.iadd, 1) := by decide +kernel
theorem dL_law_341 : decode c_L_law 341 = .ok (.iaload, 1) := by decide +kernel
theorem dL_law_342 : decode c_L_law 342 = .ok (.aload_n 0, 1) := by decide +kernel
theorem dL_law_343 : decode c_L_law 343 = .ok (.iload 4, 2) := by decide +kernel
theorem dL_law_345 : decode c_L_law 345 = .ok (.iconst 2, 1) := by decide +kernel
theorem dL_law_346 : decode c_L_law 346 = .ok (.iadd, 1) := by decide +kernel
theorem dL_law_347 : decode c_L_law 347 = .ok (.iaload, 1) := by decide +kernel
theorem dL_law_348 : decode c_L_law 348 = .ok (.ifCond .eq 7, 3) := by decide +kernel
theorem dL_law_351 : decode c_L_law 351 = .ok (.iconst 1, 1) := by decide +kernel
theorem dL_law_352 : decode c_L_law 352 = .ok (.goto 4, 3) := by decide +kernel
theorem dL_law_355 : decode c_L_law 355 = .ok (.iconst 0, 1) := by decide +kernel
theorem dL_law_356 : decode c_L_law 356 = .ok (.invokevirtual 99, 3) := by decide +kernel
theorem dL_law_359 : decode c_L_law 359 = .ok (.istore 6, 2) := by decide +kernel
theorem dL_law_361 : decode c_L_law 361 = .ok (.goto 424, 3) := by decide +kernel
theorem dL_law_364 : decode c_L_law 364 = .ok (.aload_n 1, 1) := by decide +kernel
theorem dL_law_365 : decode c_L_law 365 = .ok (.aload_n 0, 1) := by decide +kernel
theorem dL_law_366 : decode c_L_law 366 = .ok (.iload 4, 2) := by decide +kernel
theorem dL_law_368 : decode c_L_law 368 = .ok (.iconst 1, 1) := by decide +kernel
theorem dL_law_369 : decode c_L_law 369 = .ok (.iadd, 1) := by decide +kernel
theorem dL_law_370 : decode c_L_law 370 = .ok (.iaload, 1) := by decide +kernel
theorem dL_law_371 : decode c_L_law 371 = .ok (.aload_n 0, 1) := by decide +kernel
theorem dL_law_372 : decode c_L_law 372 = .ok (.iload 4, 2) := by decide +kernel
theorem dL_law_374 : decode c_L_law 374 = .ok (.iconst 2, 1) := by decide +kernel
theorem dL_law_375 : decode c_L_law 375 = .ok (.iadd, 1) := by decide +kernel
theorem dL_law_376 : decode c_L_law 376 = .ok (.iaload, 1) := by decide +kernel
theorem dL_law_377 : decode c_L_law 377 = .ok (.ifCond .eq 7, 3) := by decide +kernel
theorem dL_law_380 : decode c_L_law 380 = .ok (.iconst 1, 1) := by decide +kernel
theorem dL_law_381 : decode c_L_law 381 = .ok (.goto 4, 3) := by decide +kernel
theorem dL_law_384 : decode c_L_law 384 = .ok (.iconst 0, 1) := by decide +kernel
theorem dL_law_385 : decode c_L_law 385 = .ok (.aload_n 0, 1) := by decide +kernel
theorem dL_law_386 : decode c_L_law 386 = .ok (.iload 4, 2) := by decide +kernel
theorem dL_law_388 : decode c_L_law 388 = .ok (.iconst 3, 1) := by decide +kernel
theorem dL_law_389 : decode c_L_law 389 = .ok (.iadd, 1) := by decide +kernel
theorem dL_law_390 : decode c_L_law 390 = .ok (.iaload, 1) := by decide +kernel
theorem dL_law_391 : decode c_L_law 391 = .ok (.aload_n 3, 1) := by decide +kernel
theorem dL_law_392 : decode c_L_law 392 = .ok (.invokestatic 100, 3) := by decide +kernel
theorem dL_law_395 : decode c_L_law 395 = .ok (.istore 5, 2) := by decide +kernel
theorem dL_law_397 : decode c_L_law 397 = .ok (.aload_n 2, 1) := by decide +kernel
theorem dL_law_398 : decode c_L_law 398 = .ok (.aload_n 0, 1) := by decide +kernel
theorem dL_law_399 : decode c_L_law 399 = .ok (.iload 4, 2) := by decide +kernel
theorem dL_law_401 : decode c_L_law 401 = .ok (.iconst 1, 1) := by decide +kernel
theorem dL_law_402 : decode c_L_law 402 = .ok (.iadd, 1) := by decide +kernel
theorem dL_law_403 : decode c_L_law 403 = .ok (.iaload, 1) := by decide +kernel
theorem dL_law_404 : decode c_L_law 404 = .ok (.aload_n 0, 1) := by decide +kernel
theorem dL_law_405 : decode c_L_law 405 = .ok (.iload 4, 2) := by decide +kernel
theorem dL_law_407 : decode c_L_law 407 = .ok (.iconst 2, 1) := by decide +kernel
theorem dL_law_408 : decode c_L_law 408 = .ok (.iadd, 1) := by decide +kernel
theorem dL_law_409 : decode c_L_law 409 = .ok (.iaload, 1) := by decide +kernel
theorem dL_law_410 : decode c_L_law 410 = .ok (.ifCond .eq 7, 3) := by decide +kernel
theorem dL_law_413 : decode c_L_law 413 = .ok (.iconst 1, 1) := by decide +kernel
theorem dL_law_414 : decode c_L_law 414 = .ok (.goto 4, 3) := by decide +kernel
theorem dL_law_417 : decode c_L_law 417 = .ok (.iconst 0, 1) := by decide +kernel
theorem dL_law_418 : decode c_L_law 418 = .ok (.aload_n 0, 1) := by decide +kernel
theorem dL_law_419 : decode c_L_law 419 = .ok (.iload 4, 2) := by decide +kernel
theorem dL_law_421 : decode c_L_law 421 = .ok (.iconst 3, 1) := by decide +kernel
theorem dL_law_422 : decode c_L_law 422 = .ok (.iadd, 1) := by decide +kernel
theorem dL_law_423 : decode c_L_law 423 = .ok (.iaload, 1) := by decide +kernel
theorem dL_law_424 : decode c_L_law 424 = .ok (.invokevirtual 103, 3) := by decide +kernel
theorem dL_law_427 : decode c_L_law 427 = .ok (.istore 6, 2) := by decide +kernel
theorem dL_law_429 : decode c_L_law 429 = .ok (.goto 356, 3) := by decide +kernel
theorem dL_law_432 : decode c_L_law 432 = .ok (.aload_n 1, 1) := by decide +kernel
theorem dL_law_433 : decode c_L_law 433 = .ok (.aload_n 0, 1) := by decide +kernel
theorem dL_law_434 : decode c_L_law 434 = .ok (.iload 4, 2) := by decide +kernel
theorem dL_law_436 : decode c_L_law 436 = .ok (.iconst 1, 1) := by decide +kernel
theorem dL_law_437 : decode c_L_law 437 = .ok (.iadd, 1) := by decide +kernel
theorem dL_law_438 : decode c_L_law 438 = .ok (.iaload, 1) := by decide +kernel
theorem dL_law_439 : decode c_L_law 439 = .ok (.aload_n 0, 1) := by decide +kernel
theorem dL_law_440 : decode c_L_law 440 = .ok (.iload 4, 2) := by decide +kernel
theorem dL_law_442 : decode c_L_law 442 = .ok (.iconst 2, 1) := by decide +kernel
theorem dL_law_443 : decode c_L_law 443 = .ok (.iadd, 1) := by decide +kernel
theorem dL_law_444 : decode c_L_law 444 = .ok (.iaload, 1) := by decide +kernel
theorem dL_law_445 : decode c_L_law 445 = .ok (.ifCond .eq 7, 3) := by decide +kernel
theorem dL_law_448 : decode c_L_law 448 = .ok (.iconst 1, 1) := by decide +kernel
theorem dL_law_449 : decode c_L_law 449 = .ok (.goto 4, 3) := by decide +kernel
theorem dL_law_452 : decode c_L_law 452 = .ok (.iconst 0, 1) := by decide +kernel
theorem dL_law_453 : decode c_L_law 453 = .ok (.aload_n 3, 1) := by decide +kernel
theorem dL_law_454 : decode c_L_law 454 = .ok (.invokestatic 104, 3) := by decide +kernel
theorem dL_law_457 : decode c_L_law 457 = .ok (.istore 5, 2) := by decide +kernel
theorem dL_law_459 : decode c_L_law 459 = .ok (.aload_n 2, 1) := by decide +kernel
theorem dL_law_460 : decode c_L_law 460 = .ok (.aload_n 0, 1) := by decide +kernel
theorem dL_law_461 : decode c_L_law 461 = .ok (.iload 4, 2) := by decide +kernel
theorem dL_law_463 : decode c_L_law 463 = .ok (.iconst 1, 1) := by decide +kernel
theorem dL_law_464 : decode c_L_law 464 = .ok (.iadd, 1) := by decide +kernel
theorem dL_law_465 : decode c_L_law 465 = .ok (.iaload, 1) := by decide +kernel
theorem dL_law_466 : decode c_L_law 466 = .ok (.aload_n 0, 1) := by decide +kernel
theorem dL_law_467 : decode c_L_law 467 = .ok (.iload 4, 2) := by decide +kernel
theorem dL_law_469 : decode c_L_law 469 = .ok (.iconst 2, 1) := by decide +kernel
theorem dL_law_470 : decode c_L_law 470 = .ok (.iadd, 1) := by decide +kernel
theorem dL_law_471 : decode c_L_law 471 = .ok (.iaload, 1) := by decide +kernel
theorem dL_law_472 : decode c_L_law 472 = .ok (.ifCond .eq 7, 3) := by decide +kernel
theorem dL_law_475 : decode c_L_law 475 = .ok (.iconst 1, 1) := by decide +kernel
theorem dL_law_476 : decode c_L_law 476 = .ok (.goto 4, 3) := by decide +kernel
theorem dL_law_479 : decode c_L_law 479 = .ok (.iconst 0, 1) := by decide +kernel
theorem dL_law_480 : decode c_L_law 480 = .ok (.invokevirtual 106, 3) := by decide +kernel
theorem dL_law_483 : decode c_L_law 483 = .ok (.istore 6, 2) := by decide +kernel
theorem dL_law_485 : decode c_L_law 485 = .ok (.goto 300, 3) := by decide +kernel
theorem dL_law_488 : decode c_L_law 488 = .ok (.aload_n 1, 1) := by decide +kernel
theorem dL_law_489 : decode c_L_law 489 = .ok (.aload_n 0, 1) := by decide +kernel
theorem dL_law_490 : decode c_L_law 490 = .ok (.iload 4, 2) := by decide +kernel
theorem dL_law_492 : decode c_L_law 492 = .ok (.iconst 1, 1) := by decide +kernel
theorem dL_law_493 : decode c_L_law 493 = .ok (.iadd, 1) := by decide +kernel
theorem dL_law_494 : decode c_L_law 494 = .ok (.iaload, 1) := by decide +kernel
theorem dL_law_495 : decode c_L_law 495 = .ok (.aload_n 0, 1) := by decide +kernel
theorem dL_law_496 : decode c_L_law 496 = .ok (.iload 4, 2) := by decide +kernel
theorem dL_law_498 : decode c_L_law 498 = .ok (.iconst 2, 1) := by decide +kernel
theorem dL_law_499 : decode c_L_law 499 = .ok (.iadd, 1) := by decide +kernel
theorem dL_law_500 : decode c_L_law 500 = .ok (.iaload, 1) := by decide +kernel
theorem dL_law_501 : decode c_L_law 501 = .ok (.aload_n 3, 1) := by decide +kernel
theorem dL_law_502 : decode c_L_law 502 = .ok (.invokestatic 107, 3) := by decide +kernel
theorem dL_law_505 : decode c_L_law 505 = .ok (.istore 5, 2) := by decide +kernel
theorem dL_law_507 : decode c_L_law 507 = .ok (.aload_n 2, 1) := by decide +kernel
theorem dL_law_508 : decode c_L_law 508 = .ok (.aload_n 0, 1) := by decide +kernel
theorem dL_law_509 : decode c_L_law 509 = .ok (.iload 4, 2) := by decide +kernel
theorem dL_law_511 : decode c_L_law 511 = .ok (.iconst 1, 1) := by decide +kernel
theorem dL_law_512 : decode c_L_law 512 = .ok (.iadd, 1) := by decide +kernel
theorem dL_law_513 : decode c_L_law 513 = .ok (.iaload, 1) := by decide +kernel
theorem dL_law_514 : decode c_L_law 514 = .ok (.aload_n 0, 1) := by decide +kernel
theorem dL_law_515 : decode c_L_law 515 = .ok (.iload 4, 2) := by decide +kernel
theorem dL_law_517 : decode c_L_law 517 = .ok (.iconst 2, 1) := by decide +kernel
theorem dL_law_518 : decode c_L_law 518 = .ok (.iadd, 1) := by decide +kernel
theorem dL_law_519 : decode c_L_law 519 = .ok (.iaload, 1) := by decide +kernel
theorem dL_law_520 : decode c_L_law 520 = .ok (.invokevirtual 109, 3) := by decide +kernel
theorem dL_law_523 : decode c_L_law 523 = .ok (.istore 6, 2) := by decide +kernel
theorem dL_law_525 : decode c_L_law 525 = .ok (.aload_n 2, 1) := by decide +kernel
theorem dL_law_526 : decode c_L_law 526 = .ok (.invokevirtual 110, 3) := by decide +kernel
theorem dL_law_529 : decode c_L_law 529 = .ok (.iload 5, 2) := by decide +kernel
theorem dL_law_531 : decode c_L_law 531 = .ok (.if_icmp .eq 5, 3) := by decide +kernel
theorem dL_law_534 : decode c_L_law 534 = .ok (.iconst 0, 1) := by decide +kernel
theorem dL_law_535 : decode c_L_law 535 = .ok (.ireturn, 1) := by decide +kernel
theorem dL_law_536 : decode c_L_law 536 = .ok (.iload 5, 2) := by decide +kernel
theorem dL_law_538 : decode c_L_law 538 = .ok (.ifCond .ne 15, 3) := by decide +kernel
theorem dL_law_541 : decode c_L_law 541 = .ok (.aload_n 3, 1) := by decide +kernel
theorem dL_law_542 : decode c_L_law 542 = .ok (.iconst 0, 1) := by decide +kernel
theorem dL_law_543 : decode c_L_law 543 = .ok (.laload, 1) := by decide +kernel
theorem dL_law_544 : decode c_L_law 544 = .ok (.iload 6, 2) := by decide +kernel
theorem dL_law_546 : decode c_L_law 546 = .ok (.i2l, 1) := by decide +kernel
theorem dL_law_547 : decode c_L_law 547 = .ok (.lcmp, 1) := by decide +kernel
theorem dL_law_548 : decode c_L_law 548 = .ok (.ifCond .eq 5, 3) := by decide +kernel
theorem dL_law_551 : decode c_L_law 551 = .ok (.iconst 0, 1) := by decide +kernel
theorem dL_law_552 : decode c_L_law 552 = .ok (.ireturn, 1) := by decide +kernel
theorem dL_law_553 : decode c_L_law 553 = .ok (.goto 232, 3) := by decide +kernel
theorem dL_law_556 : decode c_L_law 556 = .ok (.aload_n 1, 1) := by decide +kernel
theorem dL_law_557 : decode c_L_law 557 = .ok (.aload_n 0, 1) := by decide +kernel
theorem dL_law_558 : decode c_L_law 558 = .ok (.iload 4, 2) := by decide +kernel
theorem dL_law_560 : decode c_L_law 560 = .ok (.iconst 1, 1) := by decide +kernel
theorem dL_law_561 : decode c_L_law 561 = .ok (.iadd, 1) := by decide +kernel
theorem dL_law_562 : decode c_L_law 562 = .ok (.iaload, 1) := by decide +kernel
theorem dL_law_563 : decode c_L_law 563 = .ok (.aload_n 3, 1) := by decide +kernel
theorem dL_law_564 : decode c_L_law 564 = .ok (.invokestatic 113, 3) := by decide +kernel
theorem dL_law_567 : decode c_L_law 567 = .ok (.istore 5, 2) := by decide +kernel
theorem dL_law_569 : decode c_L_law 569 = .ok (.aload_n 2, 1) := by decide +kernel
theorem dL_law_570 : decode c_L_law 570 = .ok (.aload_n 0, 1) := by decide +kernel
theorem dL_law_571 : decode c_L_law 571 = .ok (.iload 4, 2) := by decide +kernel
theorem dL_law_573 : decode c_L_law 573 = .ok (.iconst 1, 1) := by decide +kernel
theorem dL_law_574 : decode c_L_law 574 = .ok (.iadd, 1) := by decide +kernel
theorem dL_law_575 : decode c_L_law 575 = .ok (.iaload, 1) := by decide +kernel
theorem dL_law_576 : decode c_L_law 576 = .ok (.invokevirtual 115, 3) := by decide +kernel
theorem dL_law_579 : decode c_L_law 579 = .ok (.istore 6, 2) := by decide +kernel
theorem dL_law_581 : decode c_L_law 581 = .ok (.goto 204, 3) := by decide +kernel
theorem dL_law_584 : decode c_L_law 584 = .ok (.aload_n 1, 1) := by decide +kernel
theorem dL_law_585 : decode c_L_law 585 = .ok (.aload_n 0, 1) := by decide +kernel
theorem dL_law_586 : decode c_L_law 586 = .ok (.iload 4, 2) := by decide +kernel
theorem dL_law_588 : decode c_L_law 588 = .ok (.iconst 1, 1) := by decide +kernel
theorem dL_law_589 : decode c_L_law 589 = .ok (.iadd, 1) := by decide +kernel
theorem dL_law_590 : decode c_L_law 590 = .ok (.iaload, 1) := by decide +kernel
theorem dL_law_591 : decode c_L_law 591 = .ok (.aload_n 3, 1) := by decide +kernel
theorem dL_law_592 : decode c_L_law 592 = .ok (.invokestatic 116, 3) := by decide +kernel
theorem dL_law_595 : decode c_L_law 595 = .ok (.istore 5, 2) := by decide +kernel
theorem dL_law_597 : decode c_L_law 597 = .ok (.aload_n 2, 1) := by decide +kernel
theorem dL_law_598 : decode c_L_law 598 = .ok (.aload_n 0, 1) := by decide +kernel
theorem dL_law_599 : decode c_L_law 599 = .ok (.iload 4, 2) := by decide +kernel
theorem dL_law_601 : decode c_L_law 601 = .ok (.iconst 1, 1) := by decide +kernel
theorem dL_law_602 : decode c_L_law 602 = .ok (.iadd, 1) := by decide +kernel
theorem dL_law_603 : decode c_L_law 603 = .ok (.iaload, 1) := by decide +kernel
theorem dL_law_604 : decode c_L_law 604 = .ok (.invokevirtual 118, 3) := by decide +kernel
theorem dL_law_607 : decode c_L_law 607 = .ok (.istore 6, 2) := by decide +kernel
theorem dL_law_609 : decode c_L_law 609 = .ok (.goto 176, 3) := by decide +kernel
theorem dL_law_612 : decode c_L_law 612 = .ok (.aload_n 1, 1) := by decide +kernel
theorem dL_law_613 : decode c_L_law 613 = .ok (.aload_n 0, 1) := by decide +kernel
theorem dL_law_614 : decode c_L_law 614 = .ok (.iload 4, 2) := by decide +kernel
theorem dL_law_616 : decode c_L_law 616 = .ok (.iconst 1, 1) := by decide +kernel
theorem dL_law_617 : decode c_L_law 617 = .ok (.iadd, 1) := by decide +kernel
theorem dL_law_618 : decode c_L_law 618 = .ok (.iaload, 1) := by decide +kernel
theorem dL_law_619 : decode c_L_law 619 = .ok (.aload_n 0, 1) := by decide +kernel
theorem dL_law_620 : decode c_L_law 620 = .ok (.iload 4, 2) := by decide +kernel
theorem dL_law_622 : decode c_L_law 622 = .ok (.iconst 2, 1) := by decide +kernel
theorem dL_law_623 : decode c_L_law 623 = .ok (.iadd, 1) := by decide +kernel
theorem dL_law_624 : decode c_L_law 624 = .ok (.iaload, 1) := by decide +kernel
theorem dL_law_625 : decode c_L_law 625 = .ok (.aload_n 3, 1) := by decide +kernel
theorem dL_law_626 : decode c_L_law 626 = .ok (.invokestatic 119, 3) := by decide +kernel
theorem dL_law_629 : decode c_L_law 629 = .ok (.istore 5, 2) := by decide +kernel
theorem dL_law_631 : decode c_L_law 631 = .ok (.aload_n 2, 1) := by decide +kernel
theorem dL_law_632 : decode c_L_law 632 = .ok (.aload_n 0, 1) := by decide +kernel
theorem dL_law_633 : decode c_L_law 633 = .ok (.iload 4, 2) := by decide +kernel
theorem dL_law_635 : decode c_L_law 635 = .ok (.iconst 1, 1) := by decide +kernel
theorem dL_law_636 : decode c_L_law 636 = .ok (.iadd, 1) := by decide +kernel
theorem dL_law_637 : decode c_L_law 637 = .ok (.iaload, 1) := by decide +kernel
theorem dL_law_638 : decode c_L_law 638 = .ok (.aload_n 0, 1) := by decide +kernel
theorem dL_law_639 : decode c_L_law 639 = .ok (.iload 4, 2) := by decide +kernel
theorem dL_law_641 : decode c_L_law 641 = .ok (.iconst 2, 1) := by decide +kernel
theorem dL_law_642 : decode c_L_law 642 = .ok (.iadd, 1) := by decide +kernel
theorem dL_law_643 : decode c_L_law 643 = .ok (.iaload, 1) := by decide +kernel
theorem dL_law_644 : decode c_L_law 644 = .ok (.invokevirtual 121, 3) := by decide +kernel
theorem dL_law_647 : decode c_L_law 647 = .ok (.istore 6, 2) := by decide +kernel
theorem dL_law_649 : decode c_L_law 649 = .ok (.goto 136, 3) := by decide +kernel
theorem dL_law_652 : decode c_L_law 652 = .ok (.aload_n 1, 1) := by decide +kernel
theorem dL_law_653 : decode c_L_law 653 = .ok (.aload_n 0, 1) := by decide +kernel
theorem dL_law_654 : decode c_L_law 654 = .ok (.iload 4, 2) := by decide +kernel
theorem dL_law_656 : decode c_L_law 656 = .ok (.iconst 1, 1) := by decide +kernel
theorem dL_law_657 : decode c_L_law 657 = .ok (.iadd, 1) := by decide +kernel
theorem dL_law_658 : decode c_L_law 658 = .ok (.iaload, 1) := by decide +kernel
theorem dL_law_659 : decode c_L_law 659 = .ok (.aload_n 0, 1) := by decide +kernel
theorem dL_law_660 : decode c_L_law 660 = .ok (.iload 4, 2) := by decide +kernel
theorem dL_law_662 : decode c_L_law 662 = .ok (.iconst 2, 1) := by decide +kernel
theorem dL_law_663 : decode c_L_law 663 = .ok (.iadd, 1) := by decide +kernel
theorem dL_law_664 : decode c_L_law 664 = .ok (.iaload, 1) := by decide +kernel
theorem dL_law_665 : decode c_L_law 665 = .ok (.aload_n 3, 1) := by decide +kernel
theorem dL_law_666 : decode c_L_law 666 = .ok (.invokestatic 122, 3) := by decide +kernel
theorem dL_law_669 : decode c_L_law 669 = .ok (.istore 5, 2) := by decide +kernel
theorem dL_law_671 : decode c_L_law 671 = .ok (.aload_n 2, 1) := by decide +kernel
theorem dL_law_672 : decode c_L_law 672 = .ok (.aload_n 0, 1) := by decide +kernel
theorem dL_law_673 : decode c_L_law 673 = .ok (.iload 4, 2) := by decide +kernel
theorem dL_law_675 : decode c_L_law 675 = .ok (.iconst 1, 1) := by decide +kernel
theorem dL_law_676 : decode c_L_law 676 = .ok (.iadd, 1) := by decide +kernel
theorem dL_law_677 : decode c_L_law 677 = .ok (.iaload, 1) := by decide +kernel
theorem dL_law_678 : decode c_L_law 678 = .ok (.aload_n 0, 1) := by decide +kernel
theorem dL_law_679 : decode c_L_law 679 = .ok (.iload 4, 2) := by decide +kernel
theorem dL_law_681 : decode c_L_law 681 = .ok (.iconst 2, 1) := by decide +kernel
theorem dL_law_682 : decode c_L_law 682 = .ok (.iadd, 1) := by decide +kernel
theorem dL_law_683 : decode c_L_law 683 = .ok (.iaload, 1) := by decide +kernel
theorem dL_law_684 : decode c_L_law 684 = .ok (.invokevirtual 124, 3) := by decide +kernel
theorem dL_law_687 : decode c_L_law 687 = .ok (.istore 6, 2) := by decide +kernel
theorem dL_law_689 : decode c_L_law 689 = .ok (.goto 96, 3) := by decide +kernel
theorem dL_law_692 : decode c_L_law 692 = .ok (.aload_n 1, 1) := by decide +kernel
theorem dL_law_693 : decode c_L_law 693 = .ok (.aload_n 0, 1) := by decide +kernel
theorem dL_law_694 : decode c_L_law 694 = .ok (.iload 4, 2) := by decide +kernel
theorem dL_law_696 : decode c_L_law 696 = .ok (.iconst 1, 1) := by decide +kernel
theorem dL_law_697 : decode c_L_law 697 = .ok (.iadd, 1) := by decide +kernel
theorem dL_law_698 : decode c_L_law 698 = .ok (.iaload, 1) := by decide +kernel
theorem dL_law_699 : decode c_L_law 699 = .ok (.aload_n 0, 1) := by decide +kernel
theorem dL_law_700 : decode c_L_law 700 = .ok (.iload 4, 2) := by decide +kernel
theorem dL_law_702 : decode c_L_law 702 = .ok (.iconst 2, 1) := by decide +kernel
theorem dL_law_703 : decode c_L_law 703 = .ok (.iadd, 1) := by decide +kernel
theorem dL_law_704 : decode c_L_law 704 = .ok (.iaload, 1) := by decide +kernel
theorem dL_law_705 : decode c_L_law 705 = .ok (.aload_n 3, 1) := by decide +kernel
theorem dL_law_706 : decode c_L_law 706 = .ok (.invokestatic 125, 3) := by decide +kernel
theorem dL_law_709 : decode c_L_law 709 = .ok (.istore 5, 2) := by decide +kernel
theorem dL_law_711 : decode c_L_law 711 = .ok (.aload_n 2, 1) := by decide +kernel
theorem dL_law_712 : decode c_L_law 712 = .ok (.aload_n 0, 1) := by decide +kernel
theorem dL_law_713 : decode c_L_law 713 = .ok (.iload 4, 2) := by decide +kernel
theorem dL_law_715 : decode c_L_law 715 = .ok (.iconst 1, 1) := by decide +kernel
theorem dL_law_716 : decode c_L_law 716 = .ok (.iadd, 1) := by decide +kernel
theorem dL_law_717 : decode c_L_law 717 = .ok (.iaload, 1) := by decide +kernel
theorem dL_law_718 : decode c_L_law 718 = .ok (.aload_n 0, 1) := by decide +kernel
theorem dL_law_719 : decode c_L_law 719 = .ok (.iload 4, 2) := by decide +kernel
theorem dL_law_721 : decode c_L_law 721 = .ok (.iconst 2, 1) := by decide +kernel
theorem dL_law_722 : decode c_L_law 722 = .ok (.iadd, 1) := by decide +kernel
theorem dL_law_723 : decode c_L_law 723 = .ok (.iaload, 1) := by decide +kernel
theorem dL_law_724 : decode c_L_law 724 = .ok (.invokevirtual 127, 3) := by decide +kernel
theorem dL_law_727 : decode c_L_law 727 = .ok (.istore 6, 2) := by decide +kernel
theorem dL_law_729 : decode c_L_law 729 = .ok (.goto 56, 3) := by decide +kernel
theorem dL_law_732 : decode c_L_law 732 = .ok (.aload_n 1, 1) := by decide +kernel
theorem dL_law_733 : decode c_L_law 733 = .ok (.aload_n 0, 1) := by decide +kernel
theorem dL_law_734 : decode c_L_law 734 = .ok (.iload 4, 2) := by decide +kernel
theorem dL_law_736 : decode c_L_law 736 = .ok (.iconst 1, 1) := by decide +kernel
theorem dL_law_737 : decode c_L_law 737 = .ok (.iadd, 1) := by decide +kernel
theorem dL_law_738 : decode c_L_law 738 = .ok (.iaload, 1) := by decide +kernel
theorem dL_law_739 : decode c_L_law 739 = .ok (.aload_n 3, 1) := by decide +kernel
theorem dL_law_740 : decode c_L_law 740 = .ok (.invokestatic 128, 3) := by decide +kernel
theorem dL_law_743 : decode c_L_law 743 = .ok (.istore 5, 2) := by decide +kernel
theorem dL_law_745 : decode c_L_law 745 = .ok (.aload_n 2, 1) := by decide +kernel
theorem dL_law_746 : decode c_L_law 746 = .ok (.aload_n 0, 1) := by decide +kernel
theorem dL_law_747 : decode c_L_law 747 = .ok (.iload 4, 2) := by decide +kernel
theorem dL_law_749 : decode c_L_law 749 = .ok (.iconst 1, 1) := by decide +kernel
theorem dL_law_750 : decode c_L_law 750 = .ok (.iadd, 1) := by decide +kernel
theorem dL_law_751 : decode c_L_law 751 = .ok (.iaload, 1) := by decide +kernel
theorem dL_law_752 : decode c_L_law 752 = .ok (.invokevirtual 130, 3) := by decide +kernel
theorem dL_law_755 : decode c_L_law 755 = .ok (.istore 6, 2) := by decide +kernel
theorem dL_law_757 : decode c_L_law 757 = .ok (.goto 28, 3) := by decide +kernel
theorem dL_law_760 : decode c_L_law 760 = .ok (.aload_n 1, 1) := by decide +kernel
theorem dL_law_761 : decode c_L_law 761 = .ok (.aload_n 0, 1) := by decide +kernel
theorem dL_law_762 : decode c_L_law 762 = .ok (.iload 4, 2) := by decide +kernel
theorem dL_law_764 : decode c_L_law 764 = .ok (.iconst 1, 1) := by decide +kernel
theorem dL_law_765 : decode c_L_law 765 = .ok (.iadd, 1) := by decide +kernel
theorem dL_law_766 : decode c_L_law 766 = .ok (.iaload, 1) := by decide +kernel
theorem dL_law_767 : decode c_L_law 767 = .ok (.invokevirtual 131, 3) := by decide +kernel
theorem dL_law_770 : decode c_L_law 770 = .ok (.pop, 1) := by decide +kernel
theorem dL_law_771 : decode c_L_law 771 = .ok (.aload_n 2, 1) := by decide +kernel
theorem dL_law_772 : decode c_L_law 772 = .ok (.aload_n 0, 1) := by decide +kernel
theorem dL_law_773 : decode c_L_law 773 = .ok (.iload 4, 2) := by decide +kernel
theorem dL_law_775 : decode c_L_law 775 = .ok (.iconst 1, 1) := by decide +kernel
theorem dL_law_776 : decode c_L_law 776 = .ok (.iadd, 1) := by decide +kernel
theorem dL_law_777 : decode c_L_law 777 = .ok (.iaload, 1) := by decide +kernel
theorem dL_law_778 : decode c_L_law 778 = .ok (.invokevirtual 134, 3) := by decide +kernel
theorem dL_law_781 : decode c_L_law 781 = .ok (.pop, 1) := by decide +kernel
theorem dL_law_782 : decode c_L_law 782 = .ok (.goto 3, 3) := by decide +kernel
theorem dL_law_785 : decode c_L_law 785 = .ok (.iinc 4 6, 3) := by decide +kernel
theorem dL_law_788 : decode c_L_law 788 = .ok (.goto (-765), 3) := by decide +kernel
theorem dL_law_791 : decode c_L_law 791 = .ok (.iconst 1, 1) := by decide +kernel
theorem dL_law_792 : decode c_L_law 792 = .ok (.ireturn, 1) := by decide +kernel
