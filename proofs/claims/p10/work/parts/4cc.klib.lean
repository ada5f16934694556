set_option linter.all false
/-! typings that grow; references that come back; what the class's object needs -/
def ext (T T1 : Ty) : Prop := ∀ (a : Nat) (k : Knd), T a = some k → T1 a = some k
theorem ext_rf {T : Ty} : ext T T := fun _ _ h => h
theorem ext_tr {T T1 T2 : Ty} (h : ext T T1) (h1 : ext T1 T2) : ext T T2 := fun a k q => h1 a k (h a k q)
def nk (T : Ty) (k : Knd) : Prop := ∀ a, T a ≠ some k
theorem ext_U {T : Ty} {q : Nat} {k : Knd} (h : T q = none) : ext T (tyU T q k) := fun a k' ha => by
  rw [tyU_ne (fun e => by rw [e, h] at ha; cases ha)]
  exact ha
theorem kfit_ext {g : Gd} {T T1 : Ty} (h : ext T T1) {k : Knd} {e : va_E} (hk : kfit g T k e) : kfit g T1 k e := kfit_tr (fun r k' _ q => h r k' q) hk
theorem okx_none {g : Gd} {T : Ty} {pl X : va_W} {A : Nat → Prop} {q : Nat} {e : va_E} (hO : okx g T [] pl) (hD : va_D A ((X ++ pl) ++ [(q, e)])) : T q = none := by
  match h : T q with
  | none => rfl
  | some k =>
    exfalso
    obtain ⟨i, e1, h1, -⟩ := hO q k h (fun z => nomatch z)
    have hi : i < pl.length := (List.getElem?_eq_some_iff.mp h1).1
    have a1 : ((X ++ pl) ++ [(q, e)])[X.length + i]? = some (q, e1) := by
      rw [List.getElem?_append_left (by rw [List.length_append]; omega)]
      exact pl_at h1
    have a2 : ((X ++ pl) ++ [(q, e)])[(X ++ pl).length]? = some (q, e) := by
      rw [List.getElem?_append_right (Nat.le_refl _), Nat.sub_self]
      rfl
    have := hD.1 _ _ _ _ a1 a2 rfl
    rw [List.length_append] at this
    omega
theorem absorb0 {g : Gd} {T : Ty} {pl : va_W} {q : Nat} {e : va_E} {k : Knd} (hO : okx g T [] pl) (hU : uni T) (hq : T q = none) (hg : grp k = 0 ∨ nk T k) (he : ∀ T1, ext T T1 → T1 q = some k → kfit g T1 k e) :
    ∃ T1 : Ty, ext T T1 ∧ uni T1 ∧ T1 q = some k ∧ okx g T1 [] (pl ++ [(q, e)]) ∧ ∀ k', k' ≠ k → nk T k' → nk T1 k' := by
  have hx : ext T (tyU T q k) := ext_U hq
  refine ⟨tyU T q k, hx, ?_, tyU_at, ?_, ?_⟩
  · intro a b k' hk' ha hb
    by_cases h1 : a = q
    · by_cases h2 : b = q
      · rw [h1, h2]
      · exfalso
        subst h1
        rw [tyU_at] at ha
        rw [tyU_ne h2] at hb
        cases ha
        rcases hg with hg | hg
        · exact hk' hg
        · exact hg b hb
    · by_cases h2 : b = q
      · exfalso
        subst h2
        rw [tyU_at] at hb
        rw [tyU_ne h1] at ha
        cases hb
        rcases hg with hg | hg
        · exact hk' hg
        · exact hg a ha
      · rw [tyU_ne h1] at ha
        rw [tyU_ne h2] at hb
        exact hU a b k' hk' ha hb
  · intro a k' ha _
    by_cases h1 : a = q
    · subst h1
      rw [tyU_at] at ha
      cases ha
      exact ⟨pl.length, e, by rw [List.getElem?_append_right (Nat.le_refl _), Nat.sub_self]; rfl, he _ hx tyU_at⟩
    · rw [tyU_ne h1] at ha
      obtain ⟨i, e1, h2, h3⟩ := hO a k' ha (fun z => nomatch z)
      exact ⟨i, e1, by rw [List.getElem?_append_left (List.getElem?_eq_some_iff.mp h2).1]; exact h2, kfit_ext hx h3⟩
  · intro k' hne hn a ha
    by_cases h1 : a = q
    · subst h1
      rw [tyU_at] at ha
      cases ha
      exact hne rfl
    · rw [tyU_ne h1] at ha
      exact hn a ha
/-- the newest cell goes into the pool -/
theorem absorb {g : Gd} {T : Ty} {pl X : va_W} {H : Heap} {A : Nat → Prop} {q : Nat} {e : va_E} (k : Knd) (hP : va_P g.1 vcl ((X ++ pl) ++ [(q, e)]) H) (hD : va_D A ((X ++ pl) ++ [(q, e)])) (hO : okx g T [] pl) (hU : uni T) (hg : grp k = 0 ∨ nk T k) (he : ∀ T1, ext T T1 → T1 q = some k → kfit g T1 k e) :
    ∃ (T1 : Ty) (pl1 : va_W), ext T T1 ∧ uni T1 ∧ T1 q = some k ∧ okx g T1 [] pl1 ∧ va_P g.1 vcl (X ++ pl1) H ∧ va_D A (X ++ pl1) ∧ ∀ k', k' ≠ k → nk T k' → nk T1 k' := by
  obtain ⟨T1, h1, h2, h3, h4, h5⟩ := absorb0 hO hU (okx_none hO hD) hg he
  refine ⟨T1, pl ++ [(q, e)], h1, h2, h3, h4, ?_, ?_, h5⟩
  · rw [← List.append_assoc]; exact hP
  · rw [← List.append_assoc]; exact hD
/-- an explicit cell, the last one, goes into the pool -/
theorem mv_last {X pl : va_W} {c : Nat × va_E} {D : va_G} {cl : List vw_C} {H : Heap} {A : Nat → Prop} (hP : va_P D cl ((X ++ [c]) ++ pl) H) (hD : va_D A ((X ++ [c]) ++ pl)) : va_P D cl ((X ++ pl) ++ [c]) H ∧ va_D A ((X ++ pl) ++ [c]) := by
  have key : ∀ (j : Nat) (q : Nat × va_E), ((X ++ pl) ++ [c])[j]? = some q → ((X ++ [c]) ++ pl)[if j < X.length then j else if j < X.length + pl.length then j + 1 else X.length]? = some q := by
    intro j q hj
    by_cases c1 : j < X.length
    · rw [if_pos c1, List.getElem?_append_left (by rw [List.length_append]; omega), List.getElem?_append_left c1]
      rw [List.getElem?_append_left (by rw [List.length_append]; omega), List.getElem?_append_left c1] at hj
      exact hj
    · rw [if_neg c1]
      by_cases c2 : j < X.length + pl.length
      · rw [if_pos c2, List.getElem?_append_right (by rw [List.length_append]; simp; omega), List.length_append]
        rw [List.getElem?_append_left (by rw [List.length_append]; omega), List.getElem?_append_right (by omega)] at hj
        rw [show j + 1 - (X.length + [c].length) = j - X.length by simp only [List.length_cons, List.length_nil]; omega]
        exact hj
      · rw [if_neg c2, List.getElem?_append_left (by rw [List.length_append]; simp), List.getElem?_append_right (Nat.le_refl _), Nat.sub_self]
        have hl := (List.getElem?_eq_some_iff.mp hj).1
        simp only [List.length_append, List.length_cons, List.length_nil] at hl
        rw [List.getElem?_append_right (by rw [List.length_append]; omega), List.length_append, show j - (X.length + pl.length) = 0 by omega] at hj
        exact hj
  refine ⟨hP.by _ key, hD.by _ key (fun j j' hj hj' hh => ?_)⟩
  simp only [List.length_append, List.length_cons, List.length_nil] at hj hj'
  repeat' (split at hh)
  all_goals omega
theorem mv_first {X pl : va_W} {c : Nat × va_E} {D : va_G} {cl : List vw_C} {H : Heap} {A : Nat → Prop} (hP : va_P D cl ((X ++ pl) ++ [c]) H) (hD : va_D A ((X ++ pl) ++ [c])) : va_P D cl ((X ++ [c]) ++ pl) H ∧ va_D A ((X ++ [c]) ++ pl) := by
  have key : ∀ (j : Nat) (q : Nat × va_E), ((X ++ [c]) ++ pl)[j]? = some q → ((X ++ pl) ++ [c])[if j < X.length then j else if j = X.length then X.length + pl.length else j - 1]? = some q := by
    intro j q hj
    by_cases c1 : j < X.length
    · rw [if_pos c1, List.getElem?_append_left (by rw [List.length_append]; omega), List.getElem?_append_left c1]
      rw [List.getElem?_append_left (by rw [List.length_append]; omega), List.getElem?_append_left c1] at hj
      exact hj
    · rw [if_neg c1]
      by_cases c2 : j = X.length
      · rw [if_pos c2, List.getElem?_append_right (by rw [List.length_append]; omega), List.length_append, Nat.sub_self]
        rw [List.getElem?_append_left (by rw [List.length_append, c2]; simp), List.getElem?_append_right (by omega), c2, Nat.sub_self] at hj
        exact hj
      · rw [if_neg c2]
        have hl := (List.getElem?_eq_some_iff.mp hj).1
        simp only [List.length_append, List.length_cons, List.length_nil] at hl
        rw [List.getElem?_append_right (by rw [List.length_append]; simp only [List.length_cons, List.length_nil]; omega), List.length_append] at hj
        simp only [List.length_cons, List.length_nil] at hj
        rw [List.getElem?_append_left (by rw [List.length_append]; omega), List.getElem?_append_right (by omega), show j - 1 - X.length = j - (X.length + (0 + 1)) by omega]
        exact hj
  refine ⟨hP.by _ key, hD.by _ key (fun j j' hj hj' hh => ?_)⟩
  simp only [List.length_append, List.length_cons, List.length_nil] at hj hj'
  repeat' (split at hh)
  all_goals omega
theorem i32_gt5 {v : Int32} (h : nI 6 ≤ v) : nI 5 < v := Int32.lt_of_lt_of_le (show nI 5 < nI 6 by decide) h
theorem nI_min {a b : Nat} (ha : a < 2 ^ 31) (hb : b < 2 ^ 31) : (if nI b < nI a then nI b else nI a) = nI (min a b) := by
  by_cases h : b < a
  · rw [if_pos (nI_lt h ha), Nat.min_eq_right (by omega)]
  · rw [if_neg (nI_nlt (by omega) hb), Nat.min_eq_left (by omega)]
/-- the statics of Throwable are none of ours -/
theorem thr_st {g : Gd} {A : Nat → Prop} {s : State} (h : thr g A s s.heap) : ∀ (cT : ClassId) (kT : Class) (aS : Addr), s.vm.findClass Bundle.tN = some cT → s.vm.classes[cT]? = some kT → kT.statics = some aS → ¬ A aS := by
  intro cT kT aS h1 h2 h3
  obtain ⟨c, k, i, f, a, cell, o, q1, q2, q3, q4, q5, q6, q7, q8, q9, q10, q11⟩ := h.2.2.2.2.2.1
  cases Option.some.inj (h1.symm.trans q1)
  have hk : s.vm.classes[cT]? = some k := (State.fieldFound?_spec q2).1
  cases Option.some.inj (h2.symm.trans hk)
  cases Option.some.inj (h3.symm.trans q4)
  exact q11
section RowsK
variable {p : Program} {l : Launch} {e : Env} {R : Room} {s : State} {m : MethodId} {args : Array Value} {below : List Frame} {meth : Method} {c : Code} {H : Heap} {locs : List Loc} {cells slots : Nat} {Q : State → Prop}
variable {cc : ByteArray} {pc : Nat} {ls : Array Slot} {rest st0 : List Value} {D : va_G} {cl : List vw_C} {A : Nat → Prop} {a : Nat} {X pl : va_W} {H0 : Heap} {tys : List (ClassId × FieldType)}
theorem mp_qret {S : Type} {post : Option Nat → S → Prop} {w1 : S → va_W} {mc ms : Nat} {v : Option Nat} {rt : FieldType} (hexec : p.tables.exec = Jvm.exec) (hb : c.code = cc) (hr : meth.sig.returnType = some rt) (hrt : (∃ n, rt = .object n) ∨ ∃ t, rt = .array t) (hlocks : meth.locks = false) (hP : va_P D cl (X ++ pl) H) (hD : va_D A (X ++ pl)) (hS : va_S A s.heap H locs) (u : S) (hu : post v u) (is : List Nat) {cx : va_W} (hw : is.map (fun i => X[i]?) = cx.map some) (hn : va_nd is = true) (hq : w1 u = cx ++ pl) (hc : cells ≤ mc) (hs : slots ≤ ms) (hdg : decode cc pc = .ok (.areturn, 1)) :
    W p l e R s m args below meth c H locs cells slots (MQ below (va_Qq post (po D cl A w1) A) args s mc ms A) (F0 m pc ls [va_rf v]) :=
  W.widen hc hs (W.aret hexec hb hr hrt (by cases v with | none => exact Or.inl rfl | some r => exact Or.inr ⟨r, rfl⟩) (fun t ht _ => ⟨⟨v, u, rfl, hu, by rw [ht, hq]; exact hP.part is hw, by rw [hq]; exact hD.part is hn hw⟩, hS.F ht⟩) hS.2.2 hdg hlocks)
theorem mi_min (x y : Nat) (hx : x < 2 ^ 31) (hy : y < 2 ^ 31) : (if nI y < nI x then nI y else nI x) = nI (min x y) := nI_min hx hy
variable {g : Gd} {T : Ty} {xs : List Nat}
theorem ty_ast6 (hexec : p.tables.exec = Jvm.exec) (hb : c.code = cc) (hK : va_K g.1 vcl (tyA g.2.1) s) (hO : okx g T xs pl) {n sx : Nat} (ka : T a = some (6, n)) (hx : a ∉ xs) {v kd : Nat} (hkd : kd = 16 ∨ kd = 17) (hsx : sx < 6) (kv : T v = some (kd, sx)) (hxv : v ∉ xs) (hP : va_P g.1 vcl (X ++ pl) H) (hD : va_D A (X ++ pl)) (hS : va_S A H0 H locs) {i : Nat} (hi : i < 8) (hdg : decode cc pc = .ok (.aastore, 1))
    (kk : ∀ (pl : va_W) (H1 : Heap) (locs1 : List Loc), okx g T xs pl → va_P g.1 vcl (X ++ pl) H1 → va_D A (X ++ pl) → va_S A H0 H1 locs1 → W p l e R s m args below meth c H1 locs1 cells slots Q (F0 m (pc + 1) ls rest)) : W p l e R s m args below meth c H locs cells slots Q (F0 m pc ls (.ref v :: .int (nI i) :: .ref a :: rest)) := by
  obtain ⟨i0, e0, h1, f, rfl, h2⟩ := hO a _ ka hx
  obtain ⟨j0, e1, h3, h4⟩ := hO v _ kv hxv
  have ho : ∃ fs : List Value, e1 = .inr (13, fs) := by
    rcases hkd with rfl | rfl
    · obtain ⟨fs, h5, -⟩ := h4; exact ⟨fs, h5⟩
    · obtain ⟨fs, h5, -⟩ := h4; exact ⟨fs, h5⟩
  obtain ⟨fs, rfl⟩ := ho
  refine va_astq hexec hb hK hP hD hS (X.length + i0) 5 (X.length + j0) 13 (pl_at h1) rfl (pl_at h3) rfl (vp_in_nI hi (by decide)) hdg (fun H1 locs1 h6 h7 h8 => ?_)
  rw [pl_set] at h6 h7
  refine kk _ H1 locs1 (okx_set hO ka h1 ⟨_, rfl, fun j hj r hr => ?_⟩) h6 h7 h8
  by_cases q : j = (nI i).toNatClampNeg
  · rw [q] at hr
    have hv : some v = some r := by simpa [va_up] using hr
    cases hv
    refine ⟨sx, hsx, ?_⟩
    rcases hkd with rfl | rfl
    · exact Or.inr kv
    · exact Or.inl kv
  · refine h2 j hj r ?_
    simpa [va_up, q] using hr
end RowsK
/-! calls that answer or throw, in worlds with a pool -/
def xtP {S : Type} (post : S → Prop) (B : S → State → Prop) (A : Nat → Prop) : State → State → Prop := fun st t => (∃ u : S, post u ∧ B u t) ∧ va_F A st t
theorem et_S {A A1 : Nat → Prop} {H0 H H1 : Heap} {locs L : List Loc} (hS : va_S A H0 H locs) (hF : ∀ q, A1 q → A q) (hz : H.size ≤ H1.size) (hk : ∀ q : Nat, q < H.size → ¬ A1 q → H1[q]? = H[q]?) (hL : ∀ q ∈ L, A1 q.base) : va_S A H0 H1 (locs ++ L) :=
  ⟨Nat.le_trans hS.1 hz, fun q h1 h2 => (hk q (Nat.lt_of_lt_of_le h1 hS.1) (fun z => h2 (hF q z))).trans (hS.2.1 q h1 h2), fun q hq => by
    rcases List.mem_append.mp hq with h | h
    · exact hS.2.2 q h
    · exact hF _ (hL q h)⟩
section RowsE2
variable {p : Program} {l : Launch} {e : Env} {R : Room} {s : State} {m : MethodId} {args : Array Value} {below : List Frame} {meth : Method} {c : Code} {H : Heap} {locs : List Loc} {cells slots : Nat} {Q : State → Prop}
variable {cc : ByteArray} {pc : Nat} {ls : Array Slot} {rest st0 : List Value} {D : va_G} {cl : List vw_C} {A : Nat → Prop} {X pl : va_W}
theorem et_i {y : MethodName} {bytes : ByteArray} {maxL nL mc ms n index : Nat} {ret : Option FieldType} {wy : List Cond} {rm : Room} {Pc : Array Value → State → Prop} {exs : List String} {Ts : List Cond} {own C : String} {b : Nat} {As : List Value}
    {S : Type} {post : Int32 → S → Prop} {xpost : S → Prop} {rx px : S → va_W} {cx wr : va_W} (hP : va_P D cl (X ++ pl) H) (hD : va_D A (X ++ pl)) (hS : va_S A s.heap H locs) (hA : ∀ q, s.heap.size ≤ q → A q) (isC isR : List Nat) (hC : isC.map (fun i => X[i]?) = cx.map some) (hR : isR.map (fun i => X[i]?) = wr.map some) (hn : va_nd isR = true) (hdis : ∀ i ∈ isR, i ∉ isC)
    (F : CallFix p m c cc nL s args Ts own) (hM : etMet l y wy rm Pc exs (va_Qi post (po D cl (va_A (cx ++ pl) H.size) (fun u => rx u ++ px u)) (va_A (cx ++ pl) H.size)) (xtP xpost (po D cl (va_A (cx ++ pl) H.size) (fun u => rx u ++ px u)) (va_A (cx ++ pl) H.size)) mc ms (va_A (cx ++ pl) H.size)) (cw : CallW R s args own C index y bytes maxL ret wy rm mc ms n) (hp : PreV s H C b Pc As)
    (hn' : As.length = n) (hsize : ls.size = nL) (hstack : st0 = As.reverse ++ .ref b :: rest) (hW : (rest.map fun v => v.category).sum ≤ 8) (hdg : decode cc pc = .ok (.invokevirtual index, 3)) (hf : cells + mc ≤ R.cells ∧ slots + ms ≤ R.slots)
    (kk : ∀ (r : Int32) (u : S) (H1 : Heap) (locs1 : List Loc), post r u → va_P D cl ((wr ++ rx u) ++ px u) H1 → va_D A ((wr ++ rx u) ++ px u) → va_S A s.heap H1 locs1 → W p l e R s m args below meth c H1 locs1 (cells + mc) (slots + ms) Q (F0 m (pc + 3) ls (.int r :: rest)))
    (kx : ∀ ex ∈ exs, ∃ (pre : List ExceptionTableEntry) (x : ExceptionTableEntry) (suf : List ExceptionTableEntry) (name : String), c.exceptionTable.toList = pre ++ x :: suf ∧ (∀ z ∈ pre, z.catchType ≠ 0 ∧ ∃ nm : String, (Cond.classLink own z.catchType nm).before args s = true ∧ va_Nc ex nm s) ∧ covers x pc = true ∧ x.catchType ≠ 0 ∧ (Cond.classLink own x.catchType name).before args s = true ∧ (Cond.castable ex name).before args s = true ∧
      ∀ (q : Nat) (u : S) (H1 : Heap) (locs1 : List Loc), xpost u → va_P D cl ((wr ++ rx u) ++ px u) H1 → va_D A ((wr ++ rx u) ++ px u) → va_S A s.heap H1 locs1 → W p l e R s m args below meth c H1 locs1 (cells + mc) (slots + ms) Q (F0 m x.handlerPc ls [.ref q])) : W p l e R s m args below meth c H locs cells slots Q (F0 m pc ls st0) := by
  have hF : ∀ q, va_A (cx ++ pl) H.size q → A q := va_freeP hD hS hA isC hC
  refine et_call F hM cw hp hn' hsize hstack hW hdg hf (fun v st₀ t L h0 hw hL hQ => ?_) (fun ex hex => ?_)
  · obtain ⟨⟨r, u, hv, hp9, hP1, hD1⟩, hz, hk⟩ := hQ
    cases hv
    rw [h0] at hz hk
    obtain ⟨hP2, hD2⟩ := va_joinP hP hD isC isR hC hR hn hdis hk hF hP1 hD1
    exact kk r u t.heap (locs ++ L) hp9 hP2 hD2 (et_S hS hF hz hk hL)
  · obtain ⟨pre, x, suf, name, h1, h2, h3, h4, h5, h6, h7⟩ := kx ex hex
    refine ⟨pre, x, suf, name, h1, h2, h3, h4, h5, h6, fun q st₀ t L h0 hw hL hQ => ?_⟩
    obtain ⟨⟨u, hp9, hP1, hD1⟩, hz, hk⟩ := hQ
    rw [h0] at hz hk
    obtain ⟨hP2, hD2⟩ := va_joinP hP hD isC isR hC hR hn hdis hk hF hP1 hD1
    exact h7 q u t.heap (locs ++ L) hp9 hP2 hD2 (et_S hS hF hz hk hL)
end RowsE2
abbrev tabF (h : ExceptionTableEntry) : Nat × Nat × Nat × Nat := (h.startPc, h.endPc, h.handlerPc, h.catchType)
/-- the k-th row of an exception table -/
theorem lc_at {ll : List ExceptionTableEntry} {hh : List (Nat × Nat × Nat × Nat)} (e : ll.map tabF = hh) (k : Nat) {r : Nat × Nat × Nat × Nat} (hk : hh[k]? = some r) : ∃ (pre : List ExceptionTableEntry) (x : ExceptionTableEntry) (suf : List ExceptionTableEntry), ll = pre ++ x :: suf ∧ (∀ z ∈ pre, z.catchType ∈ (hh.take k).map (fun q => q.2.2.2)) ∧ tabF x = r := by
  subst e
  rw [List.getElem?_map] at hk
  cases hx : ll[k]? with
  | none => rw [hx] at hk; cases hk
  | some x =>
    rw [hx] at hk
    have hl := (List.getElem?_eq_some_iff.mp hx).1
    refine ⟨ll.take k, x, ll.drop (k + 1), ?_, fun z hz => ?_, Option.some.inj hk⟩
    · have h1 : ll.drop k = x :: ll.drop (k + 1) := by
        rw [List.drop_eq_getElem_cons hl]
        rw [(List.getElem?_eq_some_iff.mp hx).2]
      rw [← h1, List.take_append_drop]
    · rw [← List.map_take, List.map_map]
      exact List.mem_map.mpr ⟨z, hz, rfl⟩
theorem out0 {f : Nat → Int64} {x y : Int64} (h : x = y) : vp_updL f (nI 0).toNatClampNeg x 0 = y := by
  unfold vp_updL
  rw [if_pos (show (0 : Nat) = (nI 0).toNatClampNeg by decide)]
  exact h
