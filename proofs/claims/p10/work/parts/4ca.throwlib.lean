set_option linter.all false
/-! methods that always throw at these arguments: nothing that was there is written; the caller catches -/
def xtQ (ex : String) (mc ms : Nat) : Array Value → State → Outcome → State → Prop := fun _ st o t =>
  ∃ (q : Addr) (ce : Cell), o = .threw q ∧ t.heap[q]? = some ce ∧ ce.vm = .none ∧ st.vm.findClass ex = some ce.cls ∧ st.WarmedH t.vm ∧ st.sameButNew ({ t with vm := st.vm } : State) [] mc ms
def xtMet (l : Launch) (y : MethodName) (wy : List Cond) (rm : Room) (Pc : Array Value → State → Prop) (ex : String) (mc ms : Nat) : Prop := MetFree l y (headSpec wy rm) Pc (fun _ _ _ _ _ => True) (xtQ ex mc ms)
def xtMQ (below : List Frame) (ex : String) (a : Array Value) (s : State) (mc ms : Nat) : State → Prop := fun t => ∃ o, t.status = .running ∧ Ended t below o ∧ xtQ ex mc ms a s o t
section RowsX
variable {p : Program} {l : Launch} {e : Env} {R : Room} {s : State} {m : MethodId} {args : Array Value} {below : List Frame} {meth : Method} {c : Code} {H : Heap} {locs : List Loc} {cells slots : Nat} {Q : State → Prop}
variable {cc : ByteArray} {pc : Nat} {ls : Array Slot} {rest st0 : List Value} {D : va_G} {cl : List vw_C} {A : Nat → Prop} {a : Nat} {tys : List (ClassId × FieldType)} {ws : va_W} {H0 : Heap}
theorem xt_entry {E : (Nat → Prop) → State → Heap → Prop} {y : MethodName} {wy wy' : List Cond} {rm : Room} {av : List Value} {sz : Nat} {wc : va_W} {ex : String} {mc ms : Nat} {maxL : Nat} {ret : Option FieldType}
    (hy : plainName y.cls = true) (hw : wy = Cond.code y cc maxL ret :: wy') (hn : (lg_sl av).length ≤ maxL)
    (body : ∀ (p : Program) (e : Env) (s : State) (m : MethodId) (args : Array Value) (below : List Frame) (meth : Method) (c : Code) (ls : Array Slot), CallFix p m c cc maxL s args wy y.cls → meth.sig.returnType = ret → meth.locks = false → (∀ x ∈ c.exceptionTable.toList, False) → s.heap.size = sz → va_P D cl wc s.heap → va_D (va_A wc sz) wc → E (va_A wc sz) s s.heap → (∀ q : Nat, s.heap.size ≤ q → va_A wc sz q) → lv_has ls maxL (lv_args 0 av) →
      W p l e rm s m args below meth c s.heap [] 0 0 (xtMQ below ex args s mc ms) (F0 m 0 ls [])) : xtMet l y wy rm (va_Pc av (pr E D cl sz wc)) ex mc ms := by
  refine MetFree.of_bodyS (code := cc) (maxLocals := maxL) (ret := ret) hy ?_ ?_
  · intro args s m h hn
    obtain ⟨meth, c, h1, h2, h3, h4, h5, h6, -, -⟩ := Cond.code_spec hn (atoms_spec (ws := wy) h _ (by rw [hw]; exact List.mem_cons_self))
    exact ⟨meth, c, h1, h2, h3, h4, h5, h6⟩
  · intro p e s m args below meth c s₁ B hml hv _
    obtain ⟨rfl, hsz, hP, hD0, hE⟩ := hv
    have hl := lv_entry av hn
    have hh0 : s₁.heap = s.heap := by rw [B.state]; rfl
    have htab : ∀ x ∈ c.exceptionTable.toList, False := by
      obtain ⟨meth9, c9, h1, h2, -, -, -, -, h7, -⟩ := Cond.code_spec B.named (atoms_spec (ws := wy) B.pre _ (by rw [hw]; exact List.mem_cons_self))
      cases Option.some.inj (h1.symm.trans B.method)
      cases Option.some.inj (h2.symm.trans (Stand.of_body B).code)
      intro x hx
      rw [Array.isEmpty_iff.mp h7] at hx
      cases hx
    have K := body p e s m _ below meth c _ ⟨B.exec, B.bytes, hml, findClass_of_methodNamed B.named, atoms_spec (ws := wy) B.pre⟩ B.returns B.notSynchronized htab hsz hP hD0.self hE (fun q h => Or.inr (by rw [← hsz]; exact h)) hl
    rw [← lg_entry_eq] at K
    obtain ⟨t, a1, o, b1, b2, b3⟩ := K s₁ hh0 (Stand.of_body B)
    exact ⟨t, o, a1, b1, b2, b3⟩
/-- cls(String) whose constructor hands on by its own entry ix, then athrow: it leaves the method; nothing old is written (no traces kept). The library has it for ix = 7 alone. -/
theorem xt_ctor {V : State} (X : Stand p l e R s m args below meth c V [] cells slots) (hexec : p.tables.exec = Jvm.exec) (htr : e.platform.stackTraces = false) {own cls : String} {names : List String} {ic ix : Nat} {rx : ByteArray}
    (x0 : decode rx 0 = .ok (.aload_n 0, 1)) (x1 : decode rx 1 = .ok (.aload_n 1, 1)) (x2 : decode rx 2 = .ok (.invokespecial ix, 3)) (x5 : decode rx 5 = .ok (.return_, 1))
    (hown : s.vm.findClass own = some m.cls) (hcls : Bundle.fit cls = true) (hnames : ∀ n ∈ names, Bundle.fit n = true) (h : ∀ w ∈ Bundle.ownAtomsX own ic cls ix rx names, w.before args s = true)
    {q : Addr} {cX : ClassId} {kX : Class} (hfX : s.vm.findClass cls = some cX) (hkX : s.vm.classes[cX]? = some kX) (hcell : V.heap[q]? = some (freshCell cX kX)) (hnew : s.heap.size ≤ q) {msg : Value} (hmsg : msg.isRef = true)
    {g : JFrame} (hg : g.method = m) (hsize : g.locals.size = c.maxLocals) (hlocked : g.locked = none) (hentered : g.entered = []) (hstack : g.stack = msg :: .ref q :: .ref q :: rest)
    (hd6 : decode c.code g.pc = .ok (.invokespecial ic, 3)) (hd9 : decode c.code (g.pc + 3) = .ok (.athrow, 1)) (hout : ∀ x ∈ c.exceptionTable.toList, covers x (g.pc + 3) = false)
    (hRf : names.length + 3 < R.frames) (hRl : 2 * g.monitorRoom + ((Value.ref q :: rest).map fun v => v.category).sum + (13 * (names.length + 1) + 42) ≤ R.locals) (hlocks : meth.locks = false) :
    ∃ U : State, Steps p.tables e below (V.setTop g) U ∧ U.status = .running ∧ Ended U below (.threw q) ∧ s.WarmedH U.vm ∧ s.sameButNew ({ U with vm := s.vm } : State) [] cells slots ∧ ∃ ce, U.heap[q]? = some ce ∧ ce.cls = cX ∧ ce.vm = .none := by
  have howns : e.platform.frameOwnsMonitors = true := by rw [X.admits.platform]
  have hfin : e.platform.finalization = false := by rw [X.admits.platform]
  have hpl : e.platform.magicAccessors = ({} : Platform).magicAccessors := by rw [X.admits.platform]
  obtain ⟨T, Z0, L, -, Y⟩ := ThrowableC.of_atoms (args := args) howns hfin hpl (fun x hx => h x (by simp [Bundle.ownAtomsX, hx]))
  obtain ⟨Z, M, LZ, LM, hnZ⟩ := Init0T.ofS_atoms (args := args) hpl L Y (fun x hx => h x (by simp [Bundle.ownAtomsX, hx]))
  obtain ⟨P1, Ps, hlen, L1, hL, hP1m, hlink1, hlink⟩ := Bundle.chainSX (args := args) hpl hnZ x0 x1 x2 x5 names cls hcls hnames (fun x hx => h x (by simp [Bundle.ownAtomsX, hx]))
  have hfound : s.vm.findClass cls = some P1.m.cls := findClass_of_methodNamed hP1m
  cases Option.some.inj (hfX.symm.trans hfound)
  obtain ⟨c1, kX', hc1, hk, hord, -, -, hn6⟩ := Cond.instantiable_spec (show (Cond.instantiable cls 6).holds args s none s [] = true from h _ (by simp [Bundle.ownAtomsX]))
  cases Option.some.inj (hc1.symm.trans hfound)
  cases Option.some.inj (hkX.symm.trans hk)
  have sel : ∀ {y : MethodName} {mk : MethodId}, s.methodNamed? y = some mk → y.cls ≠ "java/lang/invoke/MethodHandle" ∧ y.cls ≠ "java/lang/invoke/VarHandle" → (Cond.selects cls y y).before args s = true → selectMethod e.platform s.vm P1.m.cls mk = .method mk := by
    intro y mk hn hy hw
    obtain ⟨c2, r2, m2, q1, q2, q3, q4, -⟩ := Cond.selects_spec hw
    cases Option.some.inj (q1.symm.trans hfound)
    cases Option.some.inj (q2.symm.trans (State.methodFound?_of_named hn hy))
    cases Option.some.inj (q3.symm.trans hn)
    rw [Launch.admits_selectMethod X.admits]
    exact q4
  have hsel0 := sel Y.fill0 (by decide) (h _ (by simp [Bundle.ownAtomsX]))
  have hselF := sel Y.fill (by decide) (h _ (by simp [Bundle.ownAtomsX]))
  obtain ⟨cellS0, hcS0, hiss⟩ := Y.statics
  obtain ⟨u0, hu0⟩ := Cond.staticRefV Y.unassigned L.unassignedStatic L.statics hcS0 hiss (show (Cond.isRef (.static Bundle.tN "UNASSIGNED_STACK" Bundle.steD)).holds args s none s [] = true from h _ (by simp [Bundle.ownAtomsX]))
  obtain ⟨sen, hsen⟩ := Cond.staticRefV Y.sentinel L.sentinelStatic L.statics hcS0 hiss (show (Cond.isRef (.static Bundle.tN "SUPPRESSED_SENTINEL" Bundle.listD)).holds args s none s [] = true from h _ (by simp [Bundle.ownAtomsX]))
  obtain ⟨ci198, i198, fB, hk198, hg198, ha198, hsB, -, hnB, htB, hffB⟩ := Cond.ownField (t := .object "java/lang/Object") Y.found L.cls (by decide +kernel) (show (Cond.fieldLink Bundle.tN 198 Bundle.tN "backtrace" "Ljava/lang/Object;").holds args s none s [] = true from h _ (by simp [Bundle.ownAtomsX])) (show (Cond.lays Bundle.tN Bundle.tN "backtrace" "Ljava/lang/Object;").holds args s none s [] = true from h _ (by simp [Bundle.ownAtomsX])) e.platform hpl
  obtain ⟨cellS, hcS', heS, -, hkeep⟩ := X.same.2.2.2.2.2 T.aS cellS0 hcS0
  have hcellS : V.heap[T.aS]? = some cellS := hcS'
  have hknownS : cellS.vm ≠ .unknown := by
    rw [heS]
    intro hu
    rw [show cellS0.vm = .unknown from hu] at hiss
    cases hiss
  have hneS : T.aS ≠ q := Nat.ne_of_lt (Nat.lt_of_lt_of_le (Array.getElem?_eq_some_iff.mp hcS0).1 hnew)
  obtain ⟨iM, hffM⟩ := Y.msg
  have lay : ∀ f d, (Cond.lays cls Bundle.tN f d) ∈ Bundle.ownAtomsX own ic cls ix rx names → (Cond.lays cls Bundle.tN f d).holds args s none s [] = true := fun f d hm => h _ hm
  obtain ⟨tyC, dC, hdC, hdnC⟩ := Cond.laysAt hfound hk Y.cause (lay _ _ (by simp [Bundle.ownAtomsX]))
  obtain ⟨tyS, dS, hdS, hdnS⟩ := Cond.laysAt hfound hk Y.stack (lay _ _ (by simp [Bundle.ownAtomsX]))
  obtain ⟨tyP, dP, hdP, hdnP⟩ := Cond.laysAt hfound hk Y.supp (lay _ _ (by simp [Bundle.ownAtomsX]))
  obtain ⟨tyM, dM, hdM, hdnM⟩ := Cond.laysAt hfound hk hffM (lay _ _ (by simp [Bundle.ownAtomsX]))
  obtain ⟨tyB, dB, hdB, hdnB⟩ := Cond.laysAt hfound hk hffB (lay _ _ (by simp [Bundle.ownAtomsX]))
  have bC := Cond.laysApart hdB hdC hdnB hdnC (by rw [hnB, Y.causeName]; decide)
  have bS := Cond.laysApart hdB hdS hdnB hdnS (by rw [hnB, Y.stackName]; decide)
  have bP := Cond.laysApart hdB hdP hdnB hdnP (by rw [hnB, Y.suppName]; decide)
  have hskip : SkipFacts T e.platform s (fun u => u) u0 ((preparedCellV T.toThrowableT (freshCell P1.m.cls kX) q u0 sen).withEntry V.cur) :=
    ⟨{ ci198 := ci198, i198 := i198, fBack := fB }, ⟨hk198, hg198, ha198, hsB⟩, by
      have hd9 := fresh_default (c := P1.m.cls) tyB
      rw [htB] at hd9
      simpa [preparedCellV, Cell.setSlot, Cell.withEntry, Array.getElem?_setIfInBounds, bC, bS, bP, bC.symm, bS.symm, bP.symm, defaultValue] using hd9, fun _ _ => rfl⟩
  obtain ⟨tm, methC, cdC, kC, vm₁, hnC, -, -, -, -, -, -, -, hW₁, st1⟩ := Steps.initColdS (tb := p.tables) (e := e) (below := below) (s := s) (U := V) X.here hexec X.warmed hpl hown (t := Bundle.initS cls) rfl rfl (Bundle.fit_spec hcls).2
    (h (.methodLink own ic (Bundle.initS cls)) (by simp [Bundle.ownAtomsX])) (h (.instanceMethod (Bundle.initS cls)) (by cases names <;> simp [Bundle.ownAtomsX, Bundle.chainSAtomsX, Bundle.passSAtoms])) (bytes := rx) (maxL := 2) (h (.code (Bundle.initS cls) rx 2 none) (by cases names <;> simp [Bundle.ownAtomsX, Bundle.chainSAtomsX, Bundle.passSAtoms]))
    (f := g) hg (a := q) (msg := msg) (rest := .ref q :: rest) hstack hd6
  cases Option.some.inj (hnC.symm.trans hP1m)
  have X₁ := X.noted hW₁
  obtain ⟨vm₂, X₂, st2⟩ := X₁.ctorMessageOffV hexec (g := { g with stack := .ref q :: rest }) hg hsize T L Z LZ M LM (P1 :: Ps)
    (fun P hP => by rcases List.mem_cons.mp hP with rfl | hP; exact L1; exact hL P hP) ⟨hlink1, hlink⟩ (u0 := u0) (sen := sen) (self := q) hmsg (cell := freshCell P1.m.cls kX) (cellS := cellS)
    hcell (fun _ => by simp) (by simp) rfl rfl hsel0 hselF hcellS hneS hknownS (by rw [hkeep _ (fun hm => nomatch hm)]; exact hu0) (by rw [hkeep _ (fun hm => nomatch hm)]; exact hsen)
    (Takes.of_laid hk hord tyC (by rw [Y.causeType]; rfl)) (Takes.of_laid hk hord tyS (by rw [Y.stackType]; exact fits_refV_array _ u0)) (Takes.of_laid hk hord tyP (by rw [Y.suppType]; exact fits_refV_object _ sen))
    (Takes.of_laid hk hord tyM (by rw [Y.msgType]; exact fits_refV_object _ ⟨msg, hmsg⟩)) Y.objLocals hskip htr [] hd6
    (by simp only [List.length_cons, hlen]; omega) (by simp only [List.length_cons, hlen]; exact hRl)
  obtain ⟨hwalk, hrun, hended, hWU, hsame⟩ := X₂.athrowLeaves hexec (g := { g with stack := .ref q :: rest, pc := g.pc + 3 }) hg hlocked hentered hout (a := q) (rest := rest) rfl hd9 hlocks
  have hlt : q < ((V.setVm vm₁).setVm vm₂).heap.size := (Array.getElem?_eq_some_iff.mp hcell).1
  have hU := heapAt_setCell_self (s := (V.setVm vm₁).setVm vm₂) (plainBareV T.toThrowableT (freshCell P1.m.cls kX) q u0 sen msg) hlt
  refine ⟨_, st1 _ (fun acts => ?_), hrun, hended, hWU, hsame.weaken (fun y hy hlt' => ?_) (Nat.le_refl _) (Nat.le_refl _), _, hU, rfl, rfl⟩
  · rw [doInvoke_state]
    exact st2 _ hwalk
  · exfalso
    have hb9 : y.base = q := by
      simp only [List.nil_append, List.mem_cons, List.not_mem_nil, or_false] at hy
      rcases hy with rfl | rfl | rfl | rfl | rfl <;> rfl
    rw [hb9] at hlt'
    exact Nat.not_lt.mpr hnew hlt'
/-- throw new cls("text"), before anything was written -/
theorem xt_throw (hexec : p.tables.exec = Jvm.exec) (hb : c.code = cc) (htr : l.stackTraces = false) {own cls text : String} {names : List String} {ik is ic sa mc ms ix : Nat} {rx : ByteArray}
    (x0 : decode rx 0 = .ok (.aload_n 0, 1)) (x1 : decode rx 1 = .ok (.aload_n 1, 1)) (x2 : decode rx 2 = .ok (.invokespecial ix, 3)) (x5 : decode rx 5 = .ok (.return_, 1))
    (hown : s.vm.findClass own = some m.cls) (hcls : Bundle.fit cls = true) (hnames : ∀ n ∈ names, Bundle.fit n = true)
    (hk : (Cond.classLink own ik cls).before args s = true) (hini : (Cond.initialized cls).before args s = true) (hstr : vk_R own is text sa s) (hat : ∀ w ∈ Bundle.ownAtomsX own ic cls ix rx names, w.before args s = true)
    (hz : s.heap.size ≤ H.size) (hsize : ls.size = c.maxLocals)
    (d0 : decode cc pc = .ok (.new ik, 3)) (d3 : decode cc (pc + 3) = .ok (.dup, 1)) (d4 : decode cc (pc + 4) = .ok (.ldc is, 2)) (d6 : decode cc (pc + 6) = .ok (.invokespecial ic, 3)) (d9 : decode cc (pc + 9) = .ok (.athrow, 1))
    (htab : ∀ x ∈ c.exceptionTable.toList, False)
    (hRframes : names.length + 3 < R.frames) (hRlocals : (rest.map fun v => v.category).sum + (13 * (names.length + 1) + 43) ≤ R.locals) (hRcells : cells + 1 ≤ R.cells) (hRslots : slots + 6 ≤ R.slots) (hlocks : meth.locks = false) (hc : cells + 1 ≤ mc) (hs : slots + 6 ≤ ms) :
    W p l e R s m args below meth c H [] cells slots (xtMQ below cls args s mc ms) (F0 m pc ls rest) := by
  intro T hT X
  subst hT
  have htr9 : e.platform.stackTraces = false := (show e.platform.stackTraces = l.stackTraces by rw [X.admits.platform]).trans htr
  have hins : (Cond.instantiable cls 6).before args s = true := hat _ (by simp [Bundle.ownAtomsX])
  obtain ⟨vm₁, cX, kX, hfX, hkX, -, -, X₁, st1⟩ := X.newCold hexec (own := own) (C := cls) (index := ik) (n := 6) hown hk hins hini (g := F0 m pc ls rest) rfl (by rw [hb]; exact d0) hRcells hRslots
  generalize hT1 : (T.setVm vm₁).pushCell { cls := cX, slots := kX.instanceTypes.map defaultValue, vm := .none } = T1 at X₁ st1
  have hcellA : T1.heap[T.heap.size]? = some (freshCell cX kX) := by rw [← hT1]; exact State.heap_pushCell_size _ _
  have d3' : decode c.code (pc + 3) = .ok (.dup, 1) := by rw [hb]; exact d3
  have d4' : decode c.code (pc + 4) = .ok (.ldc is, 2) := by rw [hb]; exact d4
  have hcat : (Value.ref T.heap.size).category = 1 := rfl
  obtain ⟨U, st2, hrun, hend, hW, hsm, ce, hce, hO, hO2⟩ := xt_ctor X₁ hexec htr9 (own := own) (cls := cls) (names := names) (ic := ic) x0 x1 x2 x5 hown hcls hnames hat hfX hkX hcellA hz (msg := .ref sa) rfl
    (g := { method := m, pc := pc + 6, locals := ls, stack := .ref sa :: .ref T.heap.size :: .ref T.heap.size :: rest, locked := none }) rfl hsize rfl rfl (rest := rest) rfl
    (by rw [hb]; exact d6) (by rw [hb]; exact d9) (fun x hx => absurd (htab x hx) id) hRframes (by simp only [List.map_cons, List.sum_cons, hcat, JFrame.monitorRoom]; omega) hlocks
  refine ⟨U, st1 _ ?_, .threw T.heap.size, hrun, hend, T.heap.size, ce, rfl, hce, hO2, hO ▸ hfX, hW, hsm.mono hc hs⟩
  show Steps p.tables e below (T1.setTop { method := m, pc := pc + 3, locals := ls, stack := .ref T.heap.size :: rest, locked := none }) _
  jvm_step X₁.here [X₁.here.top, hexec, d3', Value.category]
  exact X₁.ldcString hexec (own := own) (text := text) (index := is) (a := sa) hown hstr.1 hstr.2
    (g := { method := m, pc := pc + 4, locals := ls, stack := .ref T.heap.size :: .ref T.heap.size :: rest, locked := none }) rfl d4' _ st2
/-- a call of such a method, caught by the row x of the caller's table -/
theorem xt_call {E : (Nat → Prop) → State → Heap → Prop} {y : MethodName} {bytes : ByteArray} {maxL nL mc ms n index : Nat} {ret : Option FieldType} {wy : List Cond} {rm : Room} {Pc : Array Value → State → Prop} {Ts : List Cond} {own C ex name : String} {b : Nat} {As : List Value}
    (F : CallFix p m c cc nL s args Ts own) (hM : xtMet l y wy rm Pc ex mc ms) (cw : CallW R s args own C index y bytes maxL ret wy rm mc ms n) (hp : PreV s H C b Pc As)
    (hn : As.length = n) (hsize : ls.size = nL) (hstack : st0 = As.reverse ++ .ref b :: rest) (hW : (rest.map fun v => v.category).sum ≤ 8) (hdg : decode cc pc = .ok (.invokevirtual index, 3)) (hf : cells + mc ≤ R.cells ∧ slots + ms ≤ R.slots)
    (pre : List ExceptionTableEntry) (x : ExceptionTableEntry) (suf : List ExceptionTableEntry) (hsplit : c.exceptionTable.toList = pre ++ x :: suf) (hpass : ∀ z ∈ pre, z.catchType ≠ 0 ∧ ∃ nm : String, (Cond.classLink own z.catchType nm).before args s = true ∧ ∃ c1 c2 : ClassId, s.vm.findClass ex = some c1 ∧ s.vm.findClass nm = some c2 ∧ s.vm.assignable c1 c2 = false) (hx : covers x pc = true) (h0 : x.catchType ≠ 0) (hlink : (Cond.classLink own x.catchType name).before args s = true) (hcast : (Cond.castable ex name).before args s = true)
    (kk : ∀ (q : Nat) (H1 : Heap), H.size ≤ H1.size → (∀ z : Nat, z < H.size → H1[z]? = H[z]?) → W p l e R s m args below meth c H1 locs (cells + mc) (slots + ms) Q (F0 m x.handlerPc ls [.ref q])) : W p l e R s m args below meth c H locs cells slots Q (F0 m pc ls st0) := by
  subst hstack
  obtain ⟨⟨hrc, hrs, hfr9, hlo, hws, hcw, hcode, hini, hy, hlen, hl⟩, hinst, hsel⟩ := cw
  obtain ⟨hexec, hb, hml, hown, -⟩ := F
  obtain ⟨hblind, ⟨cellB, hcB, hoB, hclB⟩, hPc⟩ := hp
  intro T hT X
  subst hT
  obtain ⟨mk, methM, hnamed, hmethM, hstM, habM⟩ := Cond.instanceMethod_spec hinst
  obtain ⟨methM', cM, hmethM', -, -, -, -, -, -, hsigM⟩ := Cond.code_spec hnamed hcode
  cases hmethM.symm.trans hmethM'
  obtain ⟨c2, r2, m2, q1, q2, q3, q4, kP, hkP, hkPi⟩ := Cond.selects_spec hsel
  cases hclB.symm.trans q1
  cases (State.methodFound?_of_named hnamed hy).symm.trans q2
  cases hnamed.symm.trans q3
  have hselP : selectMethod e.platform s.vm cellB.cls mk = .method mk := by rw [Launch.admits_selectMethod X.admits]; exact q4
  obtain ⟨vm₁, X₁, hstep₁⟩ := X.invokevirtual hexec hown hl hnamed hmethM hstM hkP hkPi hy (a := b) (cell := cellB) hcB
    (fun z h => by rw [h] at hoB; cases hoB) hselP hmethM habM hkP hkPi (g := F0 m pc ls (As.reverse ++ .ref b :: rest)) rfl (argsL := As) (rest := rest) (hn.trans (hlen _ hsigM)) rfl (by rw [hb]; exact hdg)
  generalize hU : T.setVm vm₁ = U at X₁ hstep₁
  have hUh : U.heap = T.heap := by rw [← hU]; rfl
  have hUw : s.WarmedH U.vm := X₁.warmed
  have g9 : (F0 m pc ls rest).method = m := rfl
  have hdg' : decode c.code (F0 m pc ls rest).pc = .ok (.invokevirtual index, 3) := by rw [hb]; exact hdg
  have hnU : U.methodNamed? y = some mk := X₁.named hnamed
  have h1 : (headSpec wy rm).pre.before (Value.ref b :: As).toArray U = true := atoms_intro fun w hw => hws w hw _ _ hUw
  have h2 : (Cond.code y bytes maxL ret).before (Value.ref b :: As).toArray U = true := hws _ hcw _ _ hUw
  have h3 : (Cond.initialized y.cls).before (Value.ref b :: As).toArray U = true := word_at hUw (Or.inl (by first | rfl | simp [Cond.onTables, Cond.keeps, Cond.steady])) hini
  have h4 : cells + (headSpec wy rm).room.cells ≤ R.cells := by rw [show (headSpec wy rm).room.cells = mc from hrc]; exact hf.1
  have h5 : slots + (headSpec wy rm).room.slots ≤ R.slots := by rw [show (headSpec wy rm).room.slots = ms from hrs]; exact hf.2
  have hPcU : Pc (Value.ref b :: As).toArray (U.calling (F0 m pc ls rest) mk (Value.ref b :: As).toArray) := hblind _ _ _ _ (hPc U hUh hUw)
  obtain ⟨methY, cY, hmY, hcY, -, hlY, -, -, -, -⟩ := Cond.code_spec hnU h2
  obtain ⟨kY, hkY, -⟩ := className_of_methodNamed hnU
  have hinitY : kY.init = .initialized := Cond.initialized_spec (findClass_of_methodNamed hnU) hkY h3
  have hAt : At U (F0 m pc ls rest).method c below := X₁.here
  have hlo9 : 8 + (maxL + 11) + (headSpec wy rm).room.locals ≤ R.locals := hlo
  have hW9 : 2 * (F0 m pc ls rest).monitorRoom + ((F0 m pc ls rest).stack.map fun v => v.category).sum ≤ 8 := by
    show 2 * (F0 m pc ls rest).monitorRoom + (rest.map fun v => v.category).sum ≤ 8
    simp only [JFrame.monitorRoom]
    simpa using hW
  have happ : (headSpec wy rm).appliesLoose y e.platform (U.calling (F0 m pc ls rest) mk (Value.ref b :: As).toArray) = true :=
    Spec.appliesLoose_calling (g := F0 m pc ls rest) hAt hdg' hnU hkY hinitY
      (X₁.room_calling (g := F0 m pc ls rest) (R' := (headSpec wy rm).room) (hsize.trans hml.symm) hmY hcY hfr9 (by rw [hlY]; omega) h4 h5) h1
  obtain ⟨mid, hmid⟩ := hAt.above
  have hfr : (U.setTop (F0 m pc ls rest)).frames = (.java (F0 m pc ls rest) :: mid) ++ below := by rw [State.frames_setTop' (F0 m pc ls rest) hAt.top, hmid]; rfl
  obtain ⟨o, s₂, hsteps, -, hend, hq⟩ := Steps.callFree hM p X₁.admits X₁.cas X₁.clock (acts := []) hfr happ hPcU trivial
  rw [State.frames_setTop' (F0 m pc ls rest) hAt.top] at hend
  obtain ⟨g₀, hg0⟩ := Option.isSome_iff_exists.mp hAt.top
  obtain ⟨r, hr⟩ := State.topJava?_eq_some.mp hg0
  have hr' : (({ U with heap := s₂.heap, slotsUsed := s₂.slotsUsed } : State).setVm s₂.vm).frames = .java g₀ :: r := hr
  have hq' : xtQ ex mc ms (Value.ref b :: As).toArray (U.calling (F0 m pc ls rest) mk (Value.ref b :: As).toArray) o s₂ := hq
  obtain ⟨q, ce, rfl, hce, hcv, hcl, hW₂, hsm⟩ := hq'
  obtain ⟨e2, z2, z3, z4, z5, z6⟩ := id hsm
  have e3 : s₂ = ({ (U.calling (F0 m pc ls rest) mk (Value.ref b :: As).toArray).setFrames s₂.frames with heap := s₂.heap, slotsUsed := s₂.slotsUsed } : State).setVm s₂.vm := by
    have h : s₂ = ({ s₂ with vm := (U.calling (F0 m pc ls rest) mk (Value.ref b :: As).toArray).vm } : State).setVm s₂.vm := rfl
    rw [e2] at h
    exact h
  have hf₂ : s₂.frames = .throwing q :: .java (F0 m pc ls rest) :: U.frames.tail := hend
  have hW' : U.WarmedH s₂.vm := hW₂
  have hs₂ : s₂ = ((({ U with heap := s₂.heap, slotsUsed := s₂.slotsUsed } : State).setVm s₂.vm).setTop (F0 m pc ls rest)).pushFrame (.throwing q) := by
    refine e3.trans ?_
    rw [hf₂, State.calling_eq hAt.top, State.setFrames_setFrames, State.pushFrame, State.frames_setTop _ hr', State.setTop_of_frames _ hr', State.setFrames_setFrames, hr]
    rfl
  have hsame : U.sameButNew ({ U with heap := s₂.heap, slotsUsed := s₂.slotsUsed } : State) [] mc ms := by
    refine ⟨?_, z2, z3, z4, z5, z6⟩
    obtain ⟨t, ht, -⟩ := State.frames_cons hr
    show ({ U with heap := s₂.heap, slotsUsed := s₂.slotsUsed } : State) = { U.setFrames U.frames with heap := s₂.heap, slotsUsed := s₂.slotsUsed }
    rw [State.setFrames_self ht]
  have X₂ : Stand p l e R s m args below meth c (({ U with heap := s₂.heap, slotsUsed := s₂.slotsUsed } : State).setVm s₂.vm) (locs ++ []) (cells + mc) (slots + ms) :=
    ⟨X₁.admits, X₁.cas, X₁.clock, X₁.frames, X₁.room, X₁.hears, X₁.method, X₁.code, (X₁.here.setHeapUsed s₂.heap s₂.slotsUsed).setVm hW'.alike, X₁.tail, State.WarmedH.trans X₁.warmed hW', X₁.limits, X₁.bytes, X₁.same.trans (hsame.setVm s.vm)⟩
  rw [List.append_nil] at X₂
  have hpl : e.platform.magicAccessors = ({} : Platform).magicAccessors := by rw [X.admits.platform]
  have hcls : s.vm.findClass ex = some ce.cls := by
    have h : U.vm.findClass ex = some ce.cls := hcl
    rw [hUw.alike.findClass] at h
    exact h
  obtain ⟨c3, c4, hc3, hc4, hasg⟩ := Cond.castable_spec hcast
  cases Option.some.inj (hc3.symm.trans hcls)
  obtain ⟨c5, hc5, hcl5⟩ := Cond.classLink_spec hown hlink e.platform hpl
  cases Option.some.inj (hc4.symm.trans hc5)
  obtain ⟨vm', X₃, st3⟩ := X₂.thenCaughtThrough q (g := F0 m pc ls rest) rfl (Steps.refl _) hce (by rw [hcv]; rfl) (by obtain ⟨k9, h9, -⟩ := Vm.findClass_spec hcls; exact ⟨k9, h9⟩) pre x suf hsplit
    (fun z hz => by
      obtain ⟨hz0, nm, hl1, c6, c7, hc6, hc7, hno⟩ := hpass z hz
      obtain ⟨c8, hc8, hcl8⟩ := Cond.classLink_spec hown hl1 e.platform hpl
      cases Option.some.inj (hc6.symm.trans hcls)
      cases Option.some.inj (hc7.symm.trans hc8)
      exact Or.inr ⟨hz0, _, hcl8, hno⟩) hx (Or.inr ⟨h0, c4, hcl5, hasg⟩)
  have hsz : T.heap.size ≤ s₂.heap.size := by
    have h : (U.calling (F0 m pc ls rest) mk (Value.ref b :: As).toArray).heap.size ≤ s₂.heap.size := z2
    rw [← hUh]
    exact h
  have hold : ∀ z : Nat, z < T.heap.size → s₂.heap[z]? = T.heap[z]? := fun z hz => by
    have hlt : z < U.heap.size := by rw [hUh]; exact hz
    obtain ⟨c9, g1, g2, g3, g4⟩ := z6 z _ (Array.getElem?_eq_getElem hlt)
    have hs9 : c9.slots = (U.heap[z]).slots := Array.ext_getElem? fun i => g4 i (fun hm => nomatch hm)
    have h9 : c9 = U.heap[z] := by
      rw [hs9] at g2
      exact g2
    have g5 : s₂.heap[z]? = some c9 := g1
    rw [g5, h9, ← Array.getElem?_eq_getElem hlt, hUh]
  obtain ⟨t, a1, b1⟩ := kk q s₂.heap hsz hold ((({ U with heap := s₂.heap, slotsUsed := s₂.slotsUsed } : State).setVm s₂.vm).setVm vm') rfl X₃
  refine ⟨t, ?_, b1⟩
  refine hstep₁ _ fun acts => ?_
  rw [doInvoke_state]
  refine hsteps.trans ?_
  rw [hs₂]
  exact st3.trans a1
end RowsX
set_option maxRecDepth 100000 in
theorem kw_14 : (Jvm.Cond.initialized "java/lang/Throwable") ∈ WG := wgr_1 14 (by rfl) (by rfl)
set_option maxRecDepth 100000 in
theorem kw_421 : (Jvm.Cond.instantiable "java/lang/IllegalStateException" (6 : Nat)) ∈ WG := wgr_2 181 (by rfl) (by rfl)
set_option maxRecDepth 100000 in
theorem kw_429 : (Jvm.Cond.selects "java/lang/IllegalStateException" ({ cls := "java/lang/Throwable", name := "fillInStackTrace", desc := "(I)Ljava/lang/Throwable;" } : Jvm.MethodName) ({ cls := "java/lang/Throwable", name := "fillInStackTrace", desc := "(I)Ljava/lang/Throwable;" } : Jvm.MethodName)) ∈ WG := wgr_2 189 (by rfl) (by rfl)
set_option maxRecDepth 100000 in
theorem kw_430 : (Jvm.Cond.selects "java/lang/IllegalStateException" ({ cls := "java/lang/Throwable", name := "fillInStackTrace", desc := "()Ljava/lang/Throwable;" } : Jvm.MethodName) ({ cls := "java/lang/Throwable", name := "fillInStackTrace", desc := "()Ljava/lang/Throwable;" } : Jvm.MethodName)) ∈ WG := wgr_2 190 (by rfl) (by rfl)
set_option maxRecDepth 100000 in
theorem kw_431 : (Jvm.Cond.lays "java/lang/IllegalStateException" "java/lang/Throwable" "cause" "Ljava/lang/Throwable;") ∈ WG := wgr_2 191 (by rfl) (by rfl)
set_option maxRecDepth 100000 in
theorem kw_432 : (Jvm.Cond.lays "java/lang/Throwable" "java/lang/Throwable" "cause" "Ljava/lang/Throwable;") ∈ WG := wgr_2 192 (by rfl) (by rfl)
set_option maxRecDepth 100000 in
theorem kw_433 : (Jvm.Cond.lays "java/lang/IllegalStateException" "java/lang/Throwable" "stackTrace" "[Ljava/lang/StackTraceElement;") ∈ WG := wgr_2 193 (by rfl) (by rfl)
set_option maxRecDepth 100000 in
theorem kw_434 : (Jvm.Cond.lays "java/lang/Throwable" "java/lang/Throwable" "stackTrace" "[Ljava/lang/StackTraceElement;") ∈ WG := wgr_2 194 (by rfl) (by rfl)
set_option maxRecDepth 100000 in
theorem kw_435 : (Jvm.Cond.lays "java/lang/IllegalStateException" "java/lang/Throwable" "suppressedExceptions" "Ljava/util/List;") ∈ WG := wgr_2 195 (by rfl) (by rfl)
set_option maxRecDepth 100000 in
theorem kw_436 : (Jvm.Cond.lays "java/lang/Throwable" "java/lang/Throwable" "suppressedExceptions" "Ljava/util/List;") ∈ WG := wgr_2 196 (by rfl) (by rfl)
set_option maxRecDepth 100000 in
theorem kw_437 : (Jvm.Cond.lays "java/lang/IllegalStateException" "java/lang/Throwable" "detailMessage" "Ljava/lang/String;") ∈ WG := wgr_2 197 (by rfl) (by rfl)
set_option maxRecDepth 100000 in
theorem kw_438 : (Jvm.Cond.lays "java/lang/Throwable" "java/lang/Throwable" "detailMessage" "Ljava/lang/String;") ∈ WG := wgr_2 198 (by rfl) (by rfl)
set_option maxRecDepth 100000 in
theorem kw_439 : (Jvm.Cond.lays "java/lang/IllegalStateException" "java/lang/Throwable" "backtrace" "Ljava/lang/Object;") ∈ WG := wgr_2 199 (by rfl) (by rfl)
set_option maxRecDepth 100000 in
theorem kw_440 : (Jvm.Cond.lays "java/lang/Throwable" "java/lang/Throwable" "backtrace" "Ljava/lang/Object;") ∈ WG := wgr_2 200 (by rfl) (by rfl)
set_option maxRecDepth 100000 in
theorem kw_441 : (Jvm.Cond.fieldLink "java/lang/Throwable" (198 : Nat) "java/lang/Throwable" "backtrace" "Ljava/lang/Object;") ∈ WG := wgr_2 201 (by rfl) (by rfl)
set_option maxRecDepth 100000 in
theorem kw_442 : (Jvm.Cond.superclass "java/lang/Throwable" "java/lang/Object") ∈ WG := wgr_2 202 (by rfl) (by rfl)
set_option maxRecDepth 100000 in
theorem kw_443 : (Jvm.Cond.instanceMethod ({ cls := "java/lang/Throwable", name := "<init>", desc := "()V" } : Jvm.MethodName)) ∈ WG := wgr_2 203 (by rfl) (by rfl)
set_option maxRecDepth 100000 in
theorem kw_444 : (Jvm.Cond.code ({ cls := "java/lang/Throwable", name := "<init>", desc := "()V" } : Jvm.MethodName) prog_31_method_1_code (1 : Nat) (Option.none : Option Jvm.ClassFile.FieldType)) ∈ WG := wgr_2 204 (by rfl) (by rfl)
set_option maxRecDepth 100000 in
theorem kw_445 : (Jvm.Cond.methodLink "java/lang/Throwable" (1 : Nat) ({ cls := "java/lang/Object", name := "<init>", desc := "()V" } : Jvm.MethodName)) ∈ WG := wgr_2 205 (by rfl) (by rfl)
set_option maxRecDepth 100000 in
theorem kw_446 : (Jvm.Cond.fieldLink "java/lang/Throwable" (13 : Nat) "java/lang/Throwable" "UNASSIGNED_STACK" "[Ljava/lang/StackTraceElement;") ∈ WG := wgr_2 206 (by rfl) (by rfl)
set_option maxRecDepth 100000 in
theorem kw_448 : (Jvm.Cond.fieldLink "java/lang/Throwable" (20 : Nat) "java/lang/Throwable" "SUPPRESSED_SENTINEL" "Ljava/util/List;") ∈ WG := wgr_2 208 (by rfl) (by rfl)
set_option maxRecDepth 100000 in
theorem kw_450 : (Jvm.Cond.methodLink "java/lang/Throwable" (27 : Nat) ({ cls := "java/lang/Throwable", name := "fillInStackTrace", desc := "()Ljava/lang/Throwable;" } : Jvm.MethodName)) ∈ WG := wgr_2 210 (by rfl) (by rfl)
set_option maxRecDepth 100000 in
theorem kw_451 : (Jvm.Cond.instanceMethod ({ cls := "java/lang/Throwable", name := "fillInStackTrace", desc := "()Ljava/lang/Throwable;" } : Jvm.MethodName)) ∈ WG := wgr_2 211 (by rfl) (by rfl)
set_option maxRecDepth 100000 in
theorem kw_453 : (Jvm.Cond.selects "java/lang/IllegalArgumentException" ({ cls := "java/lang/Throwable", name := "fillInStackTrace", desc := "()Ljava/lang/Throwable;" } : Jvm.MethodName) ({ cls := "java/lang/Throwable", name := "fillInStackTrace", desc := "()Ljava/lang/Throwable;" } : Jvm.MethodName)) ∈ WG := wgr_2 213 (by rfl) (by rfl)
set_option maxRecDepth 100000 in
theorem kw_454 : (Jvm.Cond.selects "java/lang/IndexOutOfBoundsException" ({ cls := "java/lang/Throwable", name := "fillInStackTrace", desc := "()Ljava/lang/Throwable;" } : Jvm.MethodName) ({ cls := "java/lang/Throwable", name := "fillInStackTrace", desc := "()Ljava/lang/Throwable;" } : Jvm.MethodName)) ∈ WG := wgr_2 214 (by rfl) (by rfl)
set_option maxRecDepth 100000 in
theorem kw_455 : (Jvm.Cond.selects "java/lang/UnsupportedOperationException" ({ cls := "java/lang/Throwable", name := "fillInStackTrace", desc := "()Ljava/lang/Throwable;" } : Jvm.MethodName) ({ cls := "java/lang/Throwable", name := "fillInStackTrace", desc := "()Ljava/lang/Throwable;" } : Jvm.MethodName)) ∈ WG := wgr_2 215 (by rfl) (by rfl)
set_option maxRecDepth 100000 in
theorem kw_456 : (Jvm.Cond.selects "java/util/NoSuchElementException" ({ cls := "java/lang/Throwable", name := "fillInStackTrace", desc := "()Ljava/lang/Throwable;" } : Jvm.MethodName) ({ cls := "java/lang/Throwable", name := "fillInStackTrace", desc := "()Ljava/lang/Throwable;" } : Jvm.MethodName)) ∈ WG := wgr_2 216 (by rfl) (by rfl)
set_option maxRecDepth 100000 in
theorem kw_457 : (Jvm.Cond.codeSync ({ cls := "java/lang/Throwable", name := "fillInStackTrace", desc := "()Ljava/lang/Throwable;" } : Jvm.MethodName) prog_31_method_18_code (1 : Nat) (Option.some (Jvm.ClassFile.FieldType.object "java/lang/Throwable"))) ∈ WG := wgr_2 217 (by rfl) (by rfl)
set_option maxRecDepth 100000 in
theorem kw_458 : (Jvm.Cond.methodLink "java/lang/Throwable" (202 : Nat) ({ cls := "java/lang/Throwable", name := "fillInStackTrace", desc := "(I)Ljava/lang/Throwable;" } : Jvm.MethodName)) ∈ WG := wgr_2 218 (by rfl) (by rfl)
set_option maxRecDepth 100000 in
theorem kw_460 : (Jvm.Cond.instanceMethod ({ cls := "java/lang/Throwable", name := "fillInStackTrace", desc := "(I)Ljava/lang/Throwable;" } : Jvm.MethodName)) ∈ WG := wgr_2 220 (by rfl) (by rfl)
set_option maxRecDepth 100000 in
theorem kw_462 : (Jvm.Cond.native ({ cls := "java/lang/Throwable", name := "fillInStackTrace", desc := "(I)Ljava/lang/Throwable;" } : Jvm.MethodName)) ∈ WG := wgr_2 222 (by rfl) (by rfl)
set_option maxRecDepth 100000 in
theorem kw_465 : (Jvm.Cond.instanceMethod ({ cls := "java/lang/IllegalStateException", name := "<init>", desc := "(Ljava/lang/String;)V" } : Jvm.MethodName)) ∈ WG := wgr_2 225 (by rfl) (by rfl)
set_option maxRecDepth 100000 in
theorem kw_466 : (Jvm.Cond.code ({ cls := "java/lang/IllegalStateException", name := "<init>", desc := "(Ljava/lang/String;)V" } : Jvm.MethodName) prog_21_method_2_code (2 : Nat) (Option.none : Option Jvm.ClassFile.FieldType)) ∈ WG := wgr_2 226 (by rfl) (by rfl)
set_option maxRecDepth 100000 in
theorem kw_467 : (Jvm.Cond.methodLink "java/lang/IllegalStateException" (7 : Nat) ({ cls := "java/lang/RuntimeException", name := "<init>", desc := "(Ljava/lang/String;)V" } : Jvm.MethodName)) ∈ WG := wgr_2 227 (by rfl) (by rfl)
set_option maxRecDepth 100000 in
theorem kw_468 : (Jvm.Cond.instanceMethod ({ cls := "java/lang/RuntimeException", name := "<init>", desc := "(Ljava/lang/String;)V" } : Jvm.MethodName)) ∈ WG := wgr_2 228 (by rfl) (by rfl)
set_option maxRecDepth 100000 in
theorem kw_469 : (Jvm.Cond.code ({ cls := "java/lang/RuntimeException", name := "<init>", desc := "(Ljava/lang/String;)V" } : Jvm.MethodName) prog_25_method_2_code (2 : Nat) (Option.none : Option Jvm.ClassFile.FieldType)) ∈ WG := wgr_2 229 (by rfl) (by rfl)
set_option maxRecDepth 100000 in
theorem kw_470 : (Jvm.Cond.methodLink "java/lang/RuntimeException" (7 : Nat) ({ cls := "java/lang/Exception", name := "<init>", desc := "(Ljava/lang/String;)V" } : Jvm.MethodName)) ∈ WG := wgr_2 230 (by rfl) (by rfl)
set_option maxRecDepth 100000 in
theorem kw_471 : (Jvm.Cond.instanceMethod ({ cls := "java/lang/Exception", name := "<init>", desc := "(Ljava/lang/String;)V" } : Jvm.MethodName)) ∈ WG := wgr_2 231 (by rfl) (by rfl)
set_option maxRecDepth 100000 in
theorem kw_472 : (Jvm.Cond.code ({ cls := "java/lang/Exception", name := "<init>", desc := "(Ljava/lang/String;)V" } : Jvm.MethodName) prog_19_method_2_code (2 : Nat) (Option.none : Option Jvm.ClassFile.FieldType)) ∈ WG := wgr_2 232 (by rfl) (by rfl)
set_option maxRecDepth 100000 in
theorem kw_473 : (Jvm.Cond.methodLink "java/lang/Exception" (7 : Nat) ({ cls := "java/lang/Throwable", name := "<init>", desc := "(Ljava/lang/String;)V" } : Jvm.MethodName)) ∈ WG := wgr_2 233 (by rfl) (by rfl)
set_option maxRecDepth 100000 in
theorem kw_474 : (Jvm.Cond.instanceMethod ({ cls := "java/lang/Throwable", name := "<init>", desc := "(Ljava/lang/String;)V" } : Jvm.MethodName)) ∈ WG := wgr_2 234 (by rfl) (by rfl)
set_option maxRecDepth 100000 in
theorem kw_475 : (Jvm.Cond.code ({ cls := "java/lang/Throwable", name := "<init>", desc := "(Ljava/lang/String;)V" } : Jvm.MethodName) prog_31_method_2_code (2 : Nat) (Option.none : Option Jvm.ClassFile.FieldType)) ∈ WG := wgr_2 235 (by rfl) (by rfl)
set_option maxRecDepth 100000 in
theorem kw_477 : (Jvm.Cond.fieldLink "java/lang/Throwable" (31 : Nat) "java/lang/Throwable" "detailMessage" "Ljava/lang/String;") ∈ WG := wgr_2 237 (by rfl) (by rfl)
set_option maxRecDepth 100000 in
theorem kw_478 : (Jvm.Cond.fieldLink "java/lang/Throwable" (7 : Nat) "java/lang/Throwable" "cause" "Ljava/lang/Throwable;") ∈ WG := wgr_2 238 (by rfl) (by rfl)
set_option maxRecDepth 100000 in
theorem kw_479 : (Jvm.Cond.fieldLink "java/lang/Throwable" (17 : Nat) "java/lang/Throwable" "stackTrace" "[Ljava/lang/StackTraceElement;") ∈ WG := wgr_2 239 (by rfl) (by rfl)
set_option maxRecDepth 100000 in
theorem kw_480 : (Jvm.Cond.fieldLink "java/lang/Throwable" (24 : Nat) "java/lang/Throwable" "suppressedExceptions" "Ljava/util/List;") ∈ WG := wgr_3 0 (by rfl) (by rfl)
set_option maxRecDepth 100000 in
theorem kw_502 : (Jvm.Cond.instantiable "java/lang/IllegalArgumentException" (6 : Nat)) ∈ WG := wgr_3 22 (by rfl) (by rfl)
set_option maxRecDepth 100000 in
theorem kw_504 : (Jvm.Cond.selects "java/lang/IllegalArgumentException" ({ cls := "java/lang/Throwable", name := "fillInStackTrace", desc := "(I)Ljava/lang/Throwable;" } : Jvm.MethodName) ({ cls := "java/lang/Throwable", name := "fillInStackTrace", desc := "(I)Ljava/lang/Throwable;" } : Jvm.MethodName)) ∈ WG := wgr_3 24 (by rfl) (by rfl)
set_option maxRecDepth 100000 in
theorem kw_505 : (Jvm.Cond.lays "java/lang/IllegalArgumentException" "java/lang/Throwable" "cause" "Ljava/lang/Throwable;") ∈ WG := wgr_3 25 (by rfl) (by rfl)
set_option maxRecDepth 100000 in
theorem kw_506 : (Jvm.Cond.lays "java/lang/IllegalArgumentException" "java/lang/Throwable" "stackTrace" "[Ljava/lang/StackTraceElement;") ∈ WG := wgr_3 26 (by rfl) (by rfl)
set_option maxRecDepth 100000 in
theorem kw_507 : (Jvm.Cond.lays "java/lang/IllegalArgumentException" "java/lang/Throwable" "suppressedExceptions" "Ljava/util/List;") ∈ WG := wgr_3 27 (by rfl) (by rfl)
set_option maxRecDepth 100000 in
theorem kw_508 : (Jvm.Cond.lays "java/lang/IllegalArgumentException" "java/lang/Throwable" "detailMessage" "Ljava/lang/String;") ∈ WG := wgr_3 28 (by rfl) (by rfl)
set_option maxRecDepth 100000 in
theorem kw_509 : (Jvm.Cond.lays "java/lang/IllegalArgumentException" "java/lang/Throwable" "backtrace" "Ljava/lang/Object;") ∈ WG := wgr_3 29 (by rfl) (by rfl)
set_option maxRecDepth 100000 in
theorem kw_512 : (Jvm.Cond.instanceMethod ({ cls := "java/lang/IllegalArgumentException", name := "<init>", desc := "(Ljava/lang/String;)V" } : Jvm.MethodName)) ∈ WG := wgr_3 32 (by rfl) (by rfl)
set_option maxRecDepth 100000 in
theorem kw_513 : (Jvm.Cond.code ({ cls := "java/lang/IllegalArgumentException", name := "<init>", desc := "(Ljava/lang/String;)V" } : Jvm.MethodName) prog_20_method_2_code (2 : Nat) (Option.none : Option Jvm.ClassFile.FieldType)) ∈ WG := wgr_3 33 (by rfl) (by rfl)
set_option maxRecDepth 100000 in
theorem kw_514 : (Jvm.Cond.methodLink "java/lang/IllegalArgumentException" (7 : Nat) ({ cls := "java/lang/RuntimeException", name := "<init>", desc := "(Ljava/lang/String;)V" } : Jvm.MethodName)) ∈ WG := wgr_3 34 (by rfl) (by rfl)
set_option maxRecDepth 100000 in
theorem kw_536 : (Jvm.Cond.instantiable "java/lang/IndexOutOfBoundsException" (6 : Nat)) ∈ WG := wgr_3 56 (by rfl) (by rfl)
set_option maxRecDepth 100000 in
theorem kw_538 : (Jvm.Cond.selects "java/lang/IndexOutOfBoundsException" ({ cls := "java/lang/Throwable", name := "fillInStackTrace", desc := "(I)Ljava/lang/Throwable;" } : Jvm.MethodName) ({ cls := "java/lang/Throwable", name := "fillInStackTrace", desc := "(I)Ljava/lang/Throwable;" } : Jvm.MethodName)) ∈ WG := wgr_3 58 (by rfl) (by rfl)
set_option maxRecDepth 100000 in
theorem kw_539 : (Jvm.Cond.lays "java/lang/IndexOutOfBoundsException" "java/lang/Throwable" "cause" "Ljava/lang/Throwable;") ∈ WG := wgr_3 59 (by rfl) (by rfl)
set_option maxRecDepth 100000 in
theorem kw_540 : (Jvm.Cond.lays "java/lang/IndexOutOfBoundsException" "java/lang/Throwable" "stackTrace" "[Ljava/lang/StackTraceElement;") ∈ WG := wgr_3 60 (by rfl) (by rfl)
set_option maxRecDepth 100000 in
theorem kw_541 : (Jvm.Cond.lays "java/lang/IndexOutOfBoundsException" "java/lang/Throwable" "suppressedExceptions" "Ljava/util/List;") ∈ WG := wgr_3 61 (by rfl) (by rfl)
set_option maxRecDepth 100000 in
theorem kw_542 : (Jvm.Cond.lays "java/lang/IndexOutOfBoundsException" "java/lang/Throwable" "detailMessage" "Ljava/lang/String;") ∈ WG := wgr_3 62 (by rfl) (by rfl)
set_option maxRecDepth 100000 in
theorem kw_543 : (Jvm.Cond.lays "java/lang/IndexOutOfBoundsException" "java/lang/Throwable" "backtrace" "Ljava/lang/Object;") ∈ WG := wgr_3 63 (by rfl) (by rfl)
set_option maxRecDepth 100000 in
theorem kw_546 : (Jvm.Cond.instanceMethod ({ cls := "java/lang/IndexOutOfBoundsException", name := "<init>", desc := "(Ljava/lang/String;)V" } : Jvm.MethodName)) ∈ WG := wgr_3 66 (by rfl) (by rfl)
set_option maxRecDepth 100000 in
theorem kw_547 : (Jvm.Cond.code ({ cls := "java/lang/IndexOutOfBoundsException", name := "<init>", desc := "(Ljava/lang/String;)V" } : Jvm.MethodName) prog_22_method_2_code (2 : Nat) (Option.none : Option Jvm.ClassFile.FieldType)) ∈ WG := wgr_3 67 (by rfl) (by rfl)
set_option maxRecDepth 100000 in
theorem kw_548 : (Jvm.Cond.methodLink "java/lang/IndexOutOfBoundsException" (7 : Nat) ({ cls := "java/lang/RuntimeException", name := "<init>", desc := "(Ljava/lang/String;)V" } : Jvm.MethodName)) ∈ WG := wgr_3 68 (by rfl) (by rfl)
set_option maxRecDepth 100000 in
theorem kw_790 : (Jvm.Cond.instantiable "java/lang/UnsupportedOperationException" (6 : Nat)) ∈ WG := wgr_4 70 (by rfl) (by rfl)
set_option maxRecDepth 100000 in
theorem kw_792 : (Jvm.Cond.selects "java/lang/UnsupportedOperationException" ({ cls := "java/lang/Throwable", name := "fillInStackTrace", desc := "(I)Ljava/lang/Throwable;" } : Jvm.MethodName) ({ cls := "java/lang/Throwable", name := "fillInStackTrace", desc := "(I)Ljava/lang/Throwable;" } : Jvm.MethodName)) ∈ WG := wgr_4 72 (by rfl) (by rfl)
set_option maxRecDepth 100000 in
theorem kw_793 : (Jvm.Cond.lays "java/lang/UnsupportedOperationException" "java/lang/Throwable" "cause" "Ljava/lang/Throwable;") ∈ WG := wgr_4 73 (by rfl) (by rfl)
set_option maxRecDepth 100000 in
theorem kw_794 : (Jvm.Cond.lays "java/lang/UnsupportedOperationException" "java/lang/Throwable" "stackTrace" "[Ljava/lang/StackTraceElement;") ∈ WG := wgr_4 74 (by rfl) (by rfl)
set_option maxRecDepth 100000 in
theorem kw_795 : (Jvm.Cond.lays "java/lang/UnsupportedOperationException" "java/lang/Throwable" "suppressedExceptions" "Ljava/util/List;") ∈ WG := wgr_4 75 (by rfl) (by rfl)
set_option maxRecDepth 100000 in
theorem kw_796 : (Jvm.Cond.lays "java/lang/UnsupportedOperationException" "java/lang/Throwable" "detailMessage" "Ljava/lang/String;") ∈ WG := wgr_4 76 (by rfl) (by rfl)
set_option maxRecDepth 100000 in
theorem kw_797 : (Jvm.Cond.lays "java/lang/UnsupportedOperationException" "java/lang/Throwable" "backtrace" "Ljava/lang/Object;") ∈ WG := wgr_4 77 (by rfl) (by rfl)
set_option maxRecDepth 100000 in
theorem kw_800 : (Jvm.Cond.instanceMethod ({ cls := "java/lang/UnsupportedOperationException", name := "<init>", desc := "(Ljava/lang/String;)V" } : Jvm.MethodName)) ∈ WG := wgr_4 80 (by rfl) (by rfl)
set_option maxRecDepth 100000 in
theorem kw_801 : (Jvm.Cond.code ({ cls := "java/lang/UnsupportedOperationException", name := "<init>", desc := "(Ljava/lang/String;)V" } : Jvm.MethodName) prog_32_method_2_code (2 : Nat) (Option.none : Option Jvm.ClassFile.FieldType)) ∈ WG := wgr_4 81 (by rfl) (by rfl)
set_option maxRecDepth 100000 in
theorem kw_802 : (Jvm.Cond.methodLink "java/lang/UnsupportedOperationException" (7 : Nat) ({ cls := "java/lang/RuntimeException", name := "<init>", desc := "(Ljava/lang/String;)V" } : Jvm.MethodName)) ∈ WG := wgr_4 82 (by rfl) (by rfl)
set_option maxRecDepth 100000 in
theorem kw_1065 : (Jvm.Cond.instantiable "java/util/NoSuchElementException" (6 : Nat)) ∈ WG := wgr_5 105 (by rfl) (by rfl)
set_option maxRecDepth 100000 in
theorem kw_1067 : (Jvm.Cond.selects "java/util/NoSuchElementException" ({ cls := "java/lang/Throwable", name := "fillInStackTrace", desc := "(I)Ljava/lang/Throwable;" } : Jvm.MethodName) ({ cls := "java/lang/Throwable", name := "fillInStackTrace", desc := "(I)Ljava/lang/Throwable;" } : Jvm.MethodName)) ∈ WG := wgr_5 107 (by rfl) (by rfl)
set_option maxRecDepth 100000 in
theorem kw_1068 : (Jvm.Cond.lays "java/util/NoSuchElementException" "java/lang/Throwable" "cause" "Ljava/lang/Throwable;") ∈ WG := wgr_5 108 (by rfl) (by rfl)
set_option maxRecDepth 100000 in
theorem kw_1069 : (Jvm.Cond.lays "java/util/NoSuchElementException" "java/lang/Throwable" "stackTrace" "[Ljava/lang/StackTraceElement;") ∈ WG := wgr_5 109 (by rfl) (by rfl)
set_option maxRecDepth 100000 in
theorem kw_1070 : (Jvm.Cond.lays "java/util/NoSuchElementException" "java/lang/Throwable" "suppressedExceptions" "Ljava/util/List;") ∈ WG := wgr_5 110 (by rfl) (by rfl)
set_option maxRecDepth 100000 in
theorem kw_1071 : (Jvm.Cond.lays "java/util/NoSuchElementException" "java/lang/Throwable" "detailMessage" "Ljava/lang/String;") ∈ WG := wgr_5 111 (by rfl) (by rfl)
set_option maxRecDepth 100000 in
theorem kw_1072 : (Jvm.Cond.lays "java/util/NoSuchElementException" "java/lang/Throwable" "backtrace" "Ljava/lang/Object;") ∈ WG := wgr_5 112 (by rfl) (by rfl)
set_option maxRecDepth 100000 in
theorem kw_1075 : (Jvm.Cond.instanceMethod ({ cls := "java/util/NoSuchElementException", name := "<init>", desc := "(Ljava/lang/String;)V" } : Jvm.MethodName)) ∈ WG := wgr_5 115 (by rfl) (by rfl)
set_option maxRecDepth 100000 in
theorem kw_1076 : (Jvm.Cond.code ({ cls := "java/util/NoSuchElementException", name := "<init>", desc := "(Ljava/lang/String;)V" } : Jvm.MethodName) prog_34_method_4_code (2 : Nat) (Option.none : Option Jvm.ClassFile.FieldType)) ∈ WG := wgr_5 116 (by rfl) (by rfl)
set_option maxRecDepth 100000 in
theorem kw_1077 : (Jvm.Cond.methodLink "java/util/NoSuchElementException" (13 : Nat) ({ cls := "java/lang/RuntimeException", name := "<init>", desc := "(Ljava/lang/String;)V" } : Jvm.MethodName)) ∈ WG := wgr_5 117 (by rfl) (by rfl)
def strs : List (String × Nat × String) := [("LatticeKeys", 71, "no room on the tape"), ("LatticeKeys", 81, "the tape is not so long"), ("LatticeKeys", 92, "no such byte on the tape"), ("LatticeKeys", 103, "no such set, or a seed of another length"), ("LatticeKeys", 105, "no room for more keys"), ("LatticeKeys", 131, "no such set or part, or another length"), ("LatticeKeys", 139, "the check of the key fails"), ("LatticeKeys", 158, "no such keys or part"), ("LatticeKeys", 161, "no such byte in the part"), ("LatticeKeys", 166, "no such keys"), ("LatticeKeys", 177, "nothing of that number is told"), ("LatticeKeys", 182, "no such keys of ML-KEM"), ("LatticeKeys", 184, "the tape is not 32 bytes long"), ("LatticeKeys", 192, "no such keys of ML-KEM with a secret part"), ("LatticeKeys", 194, "the tape is not as long as a ciphertext"), ("LatticeKeys", 203, "no such keys of ML-DSA with a secret part"), ("LatticeKeys", 209, "a context of another length, or a short tape"), ("LatticeKeys", 215, "no signature was found in time"), ("LatticeKeys", 220, "no such keys of ML-DSA"), ("LatticeKeys", 226, "no such hash or length"), ("LatticeKeys", 241, "no such byte in the result")]
def zq (n d : String) (A : Nat → Prop) (U : State) (H : Heap) : Prop := ∃ (c : ClassId) (k : Class) (i : Nat) (f : Field) (a : Nat) (cell : Cell) (o : Option Nat), U.vm.findClass Bundle.tN = some c ∧ U.fieldFound? Bundle.tN n d = some (c, k, i, f) ∧ f.isStatic = true ∧ k.statics = some a ∧ H[a]? = some cell ∧ cell.vm.isStatics = true ∧ cell.cls = c ∧ f.slot < cell.slots.size ∧ k.staticTypes[f.slot]? = some f.type ∧ cell.slots[f.slot]? = some (va_rf o) ∧ ¬ A a
theorem zq_moved {n d : String} {A : Nat → Prop} {u U : State} {H : Heap} (hv : u.vm.Alike U.vm) (h : zq n d A u H) : zq n d A U H := by
  obtain ⟨c, k, i, f, a, cell, o, h1, h2, h3, h4, h5, h6, h7, h8, h9, h10⟩ := h
  obtain ⟨k', hi', he⟩ := State.fieldFound?_setVm hv h2
  exact ⟨c, k', i, f, a, cell, o, by rw [hv.findClass]; exact h1, hi', h3, by rw [he]; exact h4, h5, h6, h7, h8, by rw [he]; exact h9, h10⟩
theorem zq_kept {n d : String} {A : Nat → Prop} {U : State} {H H1 : Heap} (h : zq n d A U H) (hq : ∀ q : Nat, q < H.size → ¬ A q → H1[q]? = H[q]?) : zq n d A U H1 := by
  obtain ⟨c, k, i, f, a, cell, o, h1, h2, h3, h4, h5, h6, h7, h8, h9, h10, h11⟩ := h
  exact ⟨c, k, i, f, a, cell, o, h1, h2, h3, h4, by rw [hq a (Array.getElem?_eq_some_iff.mp h5).1 h11]; exact h5, h6, h7, h8, h9, h10, h11⟩
theorem zq_narrow {n d : String} {A B : Nat → Prop} {U : State} {H : Heap} (h : zq n d A U H) (hAB : ∀ q, B q → A q) : zq n d B U H := by
  obtain ⟨c, k, i, f, a, cell, o, h1, h2, h3, h4, h5, h6, h7, h8, h9, h10, h11⟩ := h
  exact ⟨c, k, i, f, a, cell, o, h1, h2, h3, h4, h5, h6, h7, h8, h9, h10, fun z => h11 (hAB a z)⟩
theorem zq_lays {n d : String} {A : Nat → Prop} {s : State} {args : Array Value} (h : zq n d A s s.heap) : (Cond.laysStatic Bundle.tN n d).before args s = true := by
  obtain ⟨c, k, i, f, a, cell, o, h1, h2, h3, h4, h5, h6, h7, h8, h9, -⟩ := h
  exact Cond.laysStatic_of h1 h2 h3 h4 h5 h6 h7 h8 h9
theorem zq_ref {n d : String} {A : Nat → Prop} {s : State} {args : Array Value} (h : zq n d A s s.heap) : (Cond.isRef (.static Bundle.tN n d)).before args s = true := by
  obtain ⟨c, k, i, f, a, cell, o, h1, h2, h3, h4, h5, h6, h7, h8, h9, h10, -⟩ := h
  have he : (Term.static Bundle.tN n d).eval args s none [] s = some (va_rf o) := Term.static_eval h2 h3 h4 h5 h6 h10
  simp only [Cond.before, Cond.holds, Cond.value, he]
  cases o <;> simp [va_rf]
abbrev iS (X : String) : MethodName := ⟨X, "<init>", "(Ljava/lang/String;)V"⟩
def exl : List String := ["java/lang/IllegalArgumentException", "java/lang/IndexOutOfBoundsException", "java/util/NoSuchElementException", "java/lang/IllegalStateException", "java/lang/UnsupportedOperationException"]
def ncs : List (String × String) := [("java/lang/IllegalStateException", "java/lang/IllegalArgumentException"), ("java/lang/UnsupportedOperationException", "java/lang/IllegalArgumentException"), ("java/lang/IllegalStateException", "java/lang/UnsupportedOperationException"), ("java/lang/IndexOutOfBoundsException", "java/util/NoSuchElementException"), ("java/lang/IllegalArgumentException", "java/util/NoSuchElementException"), ("java/lang/IllegalStateException", "java/util/NoSuchElementException")]
def thr (g : Gd) (A : Nat → Prop) (U : State) (H : Heap) : Prop := va_Nw (.declares (iS "java/lang/RuntimeException")) U ∧ va_Nw (.declares (iS "java/lang/Exception")) U ∧ va_Nw (.declares (iS "java/lang/Throwable")) U ∧ (∀ X ∈ exl, va_Nw (.castable X X) U) ∧ (∀ (k : Nat) (q : String × Nat × String), strs[k]? = some q → vk_R q.1 q.2.1 q.2.2 (g.2.2 (100 + k)) U) ∧ zq "UNASSIGNED_STACK" Bundle.steD A U H ∧ zq "SUPPRESSED_SENTINEL" Bundle.listD A U H ∧ (∀ q ∈ ncs, va_Nc q.1 q.2 U)
def ex (g : Gd) (A : Nat → Prop) (U : State) (H : Heap) : Prop := en g A U H ∧ thr g A U H
theorem ex_ok (g : Gd) : EnvOk (ex g) :=
  ⟨fun A u U H hW h => ⟨(en_ok g).1 A u U H hW h.1, va_Nw.warmD hW h.2.1, va_Nw.warmD hW h.2.2.1, va_Nw.warmD hW h.2.2.2.1, fun X hX => va_Nw.warmC hW (h.2.2.2.2.1 X hX), fun k q hq => vk_R.warm hW (h.2.2.2.2.2.1 k q hq), zq_moved hW.alike h.2.2.2.2.2.2.1, zq_moved hW.alike h.2.2.2.2.2.2.2.1, fun q hq => va_Nc.moved hW.alike (h.2.2.2.2.2.2.2.2 q hq)⟩,
   fun A U H H1 h hq => ⟨(en_ok g).2.1 A U H H1 h.1 hq, h.2.1, h.2.2.1, h.2.2.2.1, h.2.2.2.2.1, h.2.2.2.2.2.1, zq_kept h.2.2.2.2.2.2.1 hq, zq_kept h.2.2.2.2.2.2.2.1 hq, h.2.2.2.2.2.2.2.2⟩,
   fun A B U H h hAB => ⟨(en_ok g).2.2 A B U H h.1 hAB, h.2.1, h.2.2.1, h.2.2.2.1, h.2.2.2.2.1, h.2.2.2.2.2.1, zq_narrow h.2.2.2.2.2.2.1 hAB, zq_narrow h.2.2.2.2.2.2.2.1 hAB, h.2.2.2.2.2.2.2.2⟩⟩
theorem fa_c {P : Cond → Prop} {w : Cond} {k : List Cond} (h : P w) (t : ∀ x ∈ k, P x) : ∀ x ∈ w :: k, P x := fun x hx => (List.mem_cons.mp hx).elim (fun e => by rw [e]; exact h) (t x)
theorem fa_n {P : Cond → Prop} : ∀ x ∈ ([] : List Cond), P x := fun _ h => nomatch h
def ctr_IAE : ByteArray := ⟨#[0x2a, 0x2b, 0xb7, 0x00, 0x07, 0xb1]⟩
theorem ctr_IAE_0 : decode ctr_IAE 0 = .ok (.aload_n 0, 1) := by decide +kernel
theorem ctr_IAE_1 : decode ctr_IAE 1 = .ok (.aload_n 1, 1) := by decide +kernel
theorem ctr_IAE_2 : decode ctr_IAE 2 = .ok (.invokespecial 7, 3) := by decide +kernel
theorem ctr_IAE_5 : decode ctr_IAE 5 = .ok (.return_, 1) := by decide +kernel
set_option maxRecDepth 100000 in
theorem hat_IAE {g : Gd} {A : Nat → Prop} {args : Array Value} {s : State} {cx : Cond} (hts : ∀ w ∈ cx :: WG, w.before args s = true) (hz : thr g A s s.heap) : ∀ w ∈ Bundle.ownAtomsX "LatticeKeys" 83 "java/lang/IllegalArgumentException" 7 ctr_IAE ["java/lang/RuntimeException", "java/lang/Exception"], w.before args s = true := fa_c (hts _ (wg_t kw_14)) (fa_c (hts _ (wg_t kw_442)) (fa_c (hts _ (wg_t kw_451)) (fa_c (hts _ (wg_t kw_457)) (fa_c (hts _ (wg_t kw_460)) (fa_c (hts _ (wg_t kw_462)) (fa_c (hts _ (wg_t kw_443)) (fa_c (hts _ (wg_t kw_444)) (fa_c (hts _ (wg_t kw_41)) (fa_c (hts _ (wg_t kobj)) (fa_c (hts _ (wg_t kw_445)) (fa_c (hts _ (wg_t kw_450)) (fa_c (hts _ (wg_t kw_458)) (fa_c (hts _ (wg_t kw_478)) (fa_c (hts _ (wg_t kw_432)) (fa_c (hts _ (wg_t kw_479)) (fa_c (hts _ (wg_t kw_434)) (fa_c (hts _ (wg_t kw_480)) (fa_c (hts _ (wg_t kw_436)) (fa_c (hts _ (wg_t kw_446)) (fa_c (zq_lays hz.2.2.2.2.2.1) (fa_c (hts _ (wg_t kw_448)) (fa_c (zq_lays hz.2.2.2.2.2.2.1) (fa_c (hts _ (wg_t kw_438)) (fa_c (hts _ (wg_t kw_474)) (fa_c (hts _ (wg_t kw_475)) (fa_c (hts _ (wg_t kw_477)) (fa_c (hts _ (wg_t kw_438)) (fa_c (hts _ (wg_t kw_512)) (fa_c (hts _ (wg_t kw_513)) (fa_c (hts _ (wg_t kw_514)) (fa_c (hts _ (wg_t kw_468)) (fa_c (va_Nw.use rfl hz.1) (fa_c (hts _ (wg_t kw_468)) (fa_c (hts _ (wg_t kw_469)) (fa_c (hts _ (wg_t kw_470)) (fa_c (hts _ (wg_t kw_471)) (fa_c (va_Nw.use rfl hz.2.1) (fa_c (hts _ (wg_t kw_471)) (fa_c (hts _ (wg_t kw_472)) (fa_c (hts _ (wg_t kw_473)) (fa_c (hts _ (wg_t kw_474)) (fa_c (va_Nw.use rfl hz.2.2.1) (fa_c (hts _ (wg_t kw_511)) (fa_c (hts _ (wg_t kw_502)) (fa_c (va_Nw.use rfl (hz.2.2.2.1 "java/lang/IllegalArgumentException" (by decide))) (fa_c (hts _ (wg_t kw_504)) (fa_c (hts _ (wg_t kw_453)) (fa_c (hts _ (wg_t kw_505)) (fa_c (hts _ (wg_t kw_506)) (fa_c (hts _ (wg_t kw_507)) (fa_c (hts _ (wg_t kw_508)) (fa_c (zq_ref hz.2.2.2.2.2.1) (fa_c (zq_ref hz.2.2.2.2.2.2.1) (fa_c (hts _ (wg_t kw_441)) (fa_c (hts _ (wg_t kw_440)) (fa_c (hts _ (wg_t kw_509)) (fa_n)))))))))))))))))))))))))))))))))))))))))))))))))))))))))
def ctr_IOB : ByteArray := ⟨#[0x2a, 0x2b, 0xb7, 0x00, 0x07, 0xb1]⟩
theorem ctr_IOB_0 : decode ctr_IOB 0 = .ok (.aload_n 0, 1) := by decide +kernel
theorem ctr_IOB_1 : decode ctr_IOB 1 = .ok (.aload_n 1, 1) := by decide +kernel
theorem ctr_IOB_2 : decode ctr_IOB 2 = .ok (.invokespecial 7, 3) := by decide +kernel
theorem ctr_IOB_5 : decode ctr_IOB 5 = .ok (.return_, 1) := by decide +kernel
set_option maxRecDepth 100000 in
theorem hat_IOB {g : Gd} {A : Nat → Prop} {args : Array Value} {s : State} {cx : Cond} (hts : ∀ w ∈ cx :: WG, w.before args s = true) (hz : thr g A s s.heap) : ∀ w ∈ Bundle.ownAtomsX "LatticeKeys" 94 "java/lang/IndexOutOfBoundsException" 7 ctr_IOB ["java/lang/RuntimeException", "java/lang/Exception"], w.before args s = true := fa_c (hts _ (wg_t kw_14)) (fa_c (hts _ (wg_t kw_442)) (fa_c (hts _ (wg_t kw_451)) (fa_c (hts _ (wg_t kw_457)) (fa_c (hts _ (wg_t kw_460)) (fa_c (hts _ (wg_t kw_462)) (fa_c (hts _ (wg_t kw_443)) (fa_c (hts _ (wg_t kw_444)) (fa_c (hts _ (wg_t kw_41)) (fa_c (hts _ (wg_t kobj)) (fa_c (hts _ (wg_t kw_445)) (fa_c (hts _ (wg_t kw_450)) (fa_c (hts _ (wg_t kw_458)) (fa_c (hts _ (wg_t kw_478)) (fa_c (hts _ (wg_t kw_432)) (fa_c (hts _ (wg_t kw_479)) (fa_c (hts _ (wg_t kw_434)) (fa_c (hts _ (wg_t kw_480)) (fa_c (hts _ (wg_t kw_436)) (fa_c (hts _ (wg_t kw_446)) (fa_c (zq_lays hz.2.2.2.2.2.1) (fa_c (hts _ (wg_t kw_448)) (fa_c (zq_lays hz.2.2.2.2.2.2.1) (fa_c (hts _ (wg_t kw_438)) (fa_c (hts _ (wg_t kw_474)) (fa_c (hts _ (wg_t kw_475)) (fa_c (hts _ (wg_t kw_477)) (fa_c (hts _ (wg_t kw_438)) (fa_c (hts _ (wg_t kw_546)) (fa_c (hts _ (wg_t kw_547)) (fa_c (hts _ (wg_t kw_548)) (fa_c (hts _ (wg_t kw_468)) (fa_c (va_Nw.use rfl hz.1) (fa_c (hts _ (wg_t kw_468)) (fa_c (hts _ (wg_t kw_469)) (fa_c (hts _ (wg_t kw_470)) (fa_c (hts _ (wg_t kw_471)) (fa_c (va_Nw.use rfl hz.2.1) (fa_c (hts _ (wg_t kw_471)) (fa_c (hts _ (wg_t kw_472)) (fa_c (hts _ (wg_t kw_473)) (fa_c (hts _ (wg_t kw_474)) (fa_c (va_Nw.use rfl hz.2.2.1) (fa_c (hts _ (wg_t kw_545)) (fa_c (hts _ (wg_t kw_536)) (fa_c (va_Nw.use rfl (hz.2.2.2.1 "java/lang/IndexOutOfBoundsException" (by decide))) (fa_c (hts _ (wg_t kw_538)) (fa_c (hts _ (wg_t kw_454)) (fa_c (hts _ (wg_t kw_539)) (fa_c (hts _ (wg_t kw_540)) (fa_c (hts _ (wg_t kw_541)) (fa_c (hts _ (wg_t kw_542)) (fa_c (zq_ref hz.2.2.2.2.2.1) (fa_c (zq_ref hz.2.2.2.2.2.2.1) (fa_c (hts _ (wg_t kw_441)) (fa_c (hts _ (wg_t kw_440)) (fa_c (hts _ (wg_t kw_543)) (fa_n)))))))))))))))))))))))))))))))))))))))))))))))))))))))))
def ctr_NSE : ByteArray := ⟨#[0x2a, 0x2b, 0xb7, 0x00, 0x0d, 0xb1]⟩
theorem ctr_NSE_0 : decode ctr_NSE 0 = .ok (.aload_n 0, 1) := by decide +kernel
theorem ctr_NSE_1 : decode ctr_NSE 1 = .ok (.aload_n 1, 1) := by decide +kernel
theorem ctr_NSE_2 : decode ctr_NSE 2 = .ok (.invokespecial 13, 3) := by decide +kernel
theorem ctr_NSE_5 : decode ctr_NSE 5 = .ok (.return_, 1) := by decide +kernel
set_option maxRecDepth 100000 in
theorem hat_NSE {g : Gd} {A : Nat → Prop} {args : Array Value} {s : State} {cx : Cond} (hts : ∀ w ∈ cx :: WG, w.before args s = true) (hz : thr g A s s.heap) : ∀ w ∈ Bundle.ownAtomsX "LatticeKeys" 160 "java/util/NoSuchElementException" 13 ctr_NSE ["java/lang/RuntimeException", "java/lang/Exception"], w.before args s = true := fa_c (hts _ (wg_t kw_14)) (fa_c (hts _ (wg_t kw_442)) (fa_c (hts _ (wg_t kw_451)) (fa_c (hts _ (wg_t kw_457)) (fa_c (hts _ (wg_t kw_460)) (fa_c (hts _ (wg_t kw_462)) (fa_c (hts _ (wg_t kw_443)) (fa_c (hts _ (wg_t kw_444)) (fa_c (hts _ (wg_t kw_41)) (fa_c (hts _ (wg_t kobj)) (fa_c (hts _ (wg_t kw_445)) (fa_c (hts _ (wg_t kw_450)) (fa_c (hts _ (wg_t kw_458)) (fa_c (hts _ (wg_t kw_478)) (fa_c (hts _ (wg_t kw_432)) (fa_c (hts _ (wg_t kw_479)) (fa_c (hts _ (wg_t kw_434)) (fa_c (hts _ (wg_t kw_480)) (fa_c (hts _ (wg_t kw_436)) (fa_c (hts _ (wg_t kw_446)) (fa_c (zq_lays hz.2.2.2.2.2.1) (fa_c (hts _ (wg_t kw_448)) (fa_c (zq_lays hz.2.2.2.2.2.2.1) (fa_c (hts _ (wg_t kw_438)) (fa_c (hts _ (wg_t kw_474)) (fa_c (hts _ (wg_t kw_475)) (fa_c (hts _ (wg_t kw_477)) (fa_c (hts _ (wg_t kw_438)) (fa_c (hts _ (wg_t kw_1075)) (fa_c (hts _ (wg_t kw_1076)) (fa_c (hts _ (wg_t kw_1077)) (fa_c (hts _ (wg_t kw_468)) (fa_c (va_Nw.use rfl hz.1) (fa_c (hts _ (wg_t kw_468)) (fa_c (hts _ (wg_t kw_469)) (fa_c (hts _ (wg_t kw_470)) (fa_c (hts _ (wg_t kw_471)) (fa_c (va_Nw.use rfl hz.2.1) (fa_c (hts _ (wg_t kw_471)) (fa_c (hts _ (wg_t kw_472)) (fa_c (hts _ (wg_t kw_473)) (fa_c (hts _ (wg_t kw_474)) (fa_c (va_Nw.use rfl hz.2.2.1) (fa_c (hts _ (wg_t kw_1074)) (fa_c (hts _ (wg_t kw_1065)) (fa_c (va_Nw.use rfl (hz.2.2.2.1 "java/util/NoSuchElementException" (by decide))) (fa_c (hts _ (wg_t kw_1067)) (fa_c (hts _ (wg_t kw_456)) (fa_c (hts _ (wg_t kw_1068)) (fa_c (hts _ (wg_t kw_1069)) (fa_c (hts _ (wg_t kw_1070)) (fa_c (hts _ (wg_t kw_1071)) (fa_c (zq_ref hz.2.2.2.2.2.1) (fa_c (zq_ref hz.2.2.2.2.2.2.1) (fa_c (hts _ (wg_t kw_441)) (fa_c (hts _ (wg_t kw_440)) (fa_c (hts _ (wg_t kw_1072)) (fa_n)))))))))))))))))))))))))))))))))))))))))))))))))))))))))
def ctr_ISE : ByteArray := ⟨#[0x2a, 0x2b, 0xb7, 0x00, 0x07, 0xb1]⟩
theorem ctr_ISE_0 : decode ctr_ISE 0 = .ok (.aload_n 0, 1) := by decide +kernel
theorem ctr_ISE_1 : decode ctr_ISE 1 = .ok (.aload_n 1, 1) := by decide +kernel
theorem ctr_ISE_2 : decode ctr_ISE 2 = .ok (.invokespecial 7, 3) := by decide +kernel
theorem ctr_ISE_5 : decode ctr_ISE 5 = .ok (.return_, 1) := by decide +kernel
set_option maxRecDepth 100000 in
theorem hat_ISE {g : Gd} {A : Nat → Prop} {args : Array Value} {s : State} {cx : Cond} (hts : ∀ w ∈ cx :: WG, w.before args s = true) (hz : thr g A s s.heap) : ∀ w ∈ Bundle.ownAtomsX "LatticeKeys" 73 "java/lang/IllegalStateException" 7 ctr_ISE ["java/lang/RuntimeException", "java/lang/Exception"], w.before args s = true := fa_c (hts _ (wg_t kw_14)) (fa_c (hts _ (wg_t kw_442)) (fa_c (hts _ (wg_t kw_451)) (fa_c (hts _ (wg_t kw_457)) (fa_c (hts _ (wg_t kw_460)) (fa_c (hts _ (wg_t kw_462)) (fa_c (hts _ (wg_t kw_443)) (fa_c (hts _ (wg_t kw_444)) (fa_c (hts _ (wg_t kw_41)) (fa_c (hts _ (wg_t kobj)) (fa_c (hts _ (wg_t kw_445)) (fa_c (hts _ (wg_t kw_450)) (fa_c (hts _ (wg_t kw_458)) (fa_c (hts _ (wg_t kw_478)) (fa_c (hts _ (wg_t kw_432)) (fa_c (hts _ (wg_t kw_479)) (fa_c (hts _ (wg_t kw_434)) (fa_c (hts _ (wg_t kw_480)) (fa_c (hts _ (wg_t kw_436)) (fa_c (hts _ (wg_t kw_446)) (fa_c (zq_lays hz.2.2.2.2.2.1) (fa_c (hts _ (wg_t kw_448)) (fa_c (zq_lays hz.2.2.2.2.2.2.1) (fa_c (hts _ (wg_t kw_438)) (fa_c (hts _ (wg_t kw_474)) (fa_c (hts _ (wg_t kw_475)) (fa_c (hts _ (wg_t kw_477)) (fa_c (hts _ (wg_t kw_438)) (fa_c (hts _ (wg_t kw_465)) (fa_c (hts _ (wg_t kw_466)) (fa_c (hts _ (wg_t kw_467)) (fa_c (hts _ (wg_t kw_468)) (fa_c (va_Nw.use rfl hz.1) (fa_c (hts _ (wg_t kw_468)) (fa_c (hts _ (wg_t kw_469)) (fa_c (hts _ (wg_t kw_470)) (fa_c (hts _ (wg_t kw_471)) (fa_c (va_Nw.use rfl hz.2.1) (fa_c (hts _ (wg_t kw_471)) (fa_c (hts _ (wg_t kw_472)) (fa_c (hts _ (wg_t kw_473)) (fa_c (hts _ (wg_t kw_474)) (fa_c (va_Nw.use rfl hz.2.2.1) (fa_c (hts _ (wg_t kw_464)) (fa_c (hts _ (wg_t kw_421)) (fa_c (va_Nw.use rfl (hz.2.2.2.1 "java/lang/IllegalStateException" (by decide))) (fa_c (hts _ (wg_t kw_429)) (fa_c (hts _ (wg_t kw_430)) (fa_c (hts _ (wg_t kw_431)) (fa_c (hts _ (wg_t kw_433)) (fa_c (hts _ (wg_t kw_435)) (fa_c (hts _ (wg_t kw_437)) (fa_c (zq_ref hz.2.2.2.2.2.1) (fa_c (zq_ref hz.2.2.2.2.2.2.1) (fa_c (hts _ (wg_t kw_441)) (fa_c (hts _ (wg_t kw_440)) (fa_c (hts _ (wg_t kw_439)) (fa_n)))))))))))))))))))))))))))))))))))))))))))))))))))))))))
def ctr_UOE : ByteArray := ⟨#[0x2a, 0x2b, 0xb7, 0x00, 0x07, 0xb1]⟩
theorem ctr_UOE_0 : decode ctr_UOE 0 = .ok (.aload_n 0, 1) := by decide +kernel
theorem ctr_UOE_1 : decode ctr_UOE 1 = .ok (.aload_n 1, 1) := by decide +kernel
theorem ctr_UOE_2 : decode ctr_UOE 2 = .ok (.invokespecial 7, 3) := by decide +kernel
theorem ctr_UOE_5 : decode ctr_UOE 5 = .ok (.return_, 1) := by decide +kernel
set_option maxRecDepth 100000 in
theorem hat_UOE {g : Gd} {A : Nat → Prop} {args : Array Value} {s : State} {cx : Cond} (hts : ∀ w ∈ cx :: WG, w.before args s = true) (hz : thr g A s s.heap) : ∀ w ∈ Bundle.ownAtomsX "LatticeKeys" 141 "java/lang/UnsupportedOperationException" 7 ctr_UOE ["java/lang/RuntimeException", "java/lang/Exception"], w.before args s = true := fa_c (hts _ (wg_t kw_14)) (fa_c (hts _ (wg_t kw_442)) (fa_c (hts _ (wg_t kw_451)) (fa_c (hts _ (wg_t kw_457)) (fa_c (hts _ (wg_t kw_460)) (fa_c (hts _ (wg_t kw_462)) (fa_c (hts _ (wg_t kw_443)) (fa_c (hts _ (wg_t kw_444)) (fa_c (hts _ (wg_t kw_41)) (fa_c (hts _ (wg_t kobj)) (fa_c (hts _ (wg_t kw_445)) (fa_c (hts _ (wg_t kw_450)) (fa_c (hts _ (wg_t kw_458)) (fa_c (hts _ (wg_t kw_478)) (fa_c (hts _ (wg_t kw_432)) (fa_c (hts _ (wg_t kw_479)) (fa_c (hts _ (wg_t kw_434)) (fa_c (hts _ (wg_t kw_480)) (fa_c (hts _ (wg_t kw_436)) (fa_c (hts _ (wg_t kw_446)) (fa_c (zq_lays hz.2.2.2.2.2.1) (fa_c (hts _ (wg_t kw_448)) (fa_c (zq_lays hz.2.2.2.2.2.2.1) (fa_c (hts _ (wg_t kw_438)) (fa_c (hts _ (wg_t kw_474)) (fa_c (hts _ (wg_t kw_475)) (fa_c (hts _ (wg_t kw_477)) (fa_c (hts _ (wg_t kw_438)) (fa_c (hts _ (wg_t kw_800)) (fa_c (hts _ (wg_t kw_801)) (fa_c (hts _ (wg_t kw_802)) (fa_c (hts _ (wg_t kw_468)) (fa_c (va_Nw.use rfl hz.1) (fa_c (hts _ (wg_t kw_468)) (fa_c (hts _ (wg_t kw_469)) (fa_c (hts _ (wg_t kw_470)) (fa_c (hts _ (wg_t kw_471)) (fa_c (va_Nw.use rfl hz.2.1) (fa_c (hts _ (wg_t kw_471)) (fa_c (hts _ (wg_t kw_472)) (fa_c (hts _ (wg_t kw_473)) (fa_c (hts _ (wg_t kw_474)) (fa_c (va_Nw.use rfl hz.2.2.1) (fa_c (hts _ (wg_t kw_799)) (fa_c (hts _ (wg_t kw_790)) (fa_c (va_Nw.use rfl (hz.2.2.2.1 "java/lang/UnsupportedOperationException" (by decide))) (fa_c (hts _ (wg_t kw_792)) (fa_c (hts _ (wg_t kw_455)) (fa_c (hts _ (wg_t kw_793)) (fa_c (hts _ (wg_t kw_794)) (fa_c (hts _ (wg_t kw_795)) (fa_c (hts _ (wg_t kw_796)) (fa_c (zq_ref hz.2.2.2.2.2.1) (fa_c (zq_ref hz.2.2.2.2.2.2.1) (fa_c (hts _ (wg_t kw_441)) (fa_c (hts _ (wg_t kw_440)) (fa_c (hts _ (wg_t kw_797)) (fa_n)))))))))))))))))))))))))))))))))))))))))))))))))))))))))
