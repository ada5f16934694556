set_option linter.all false
/-! contracts and calls in worlds with a pool -/
theorem ko1 {T : Ty} {e : va_E} {ci : Nat} {cs : List (Nat × Nat × Nat)} (h : ∃ fs : List Value, e = .inr (ci, fs) ∧ fall T cs fs) : ∃ fs : List Value, e = .inr (ci, fs) := by
  obtain ⟨fs, h, -⟩ := h
  exact ⟨fs, h⟩
theorem ko10 {g : Gd} {T : Ty} {p : Nat} (e : va_E) (h : kfit g T (10, p) e) : ∃ fs : List Value, e = .inr (3, fs) := by
  obtain ⟨ln, rt, ps, x, h, -⟩ := h
  exact ⟨_, h⟩
theorem ko20 {g : Gd} {T : Ty} {p : Nat} (e : va_E) (h : kfit g T (20, p) e) : ∃ fs : List Value, e = .inr (9, fs) := by
  obtain ⟨a0, a1, a2, a3, a4, rt, ps, x, h, -⟩ := h
  exact ⟨_, h⟩
/-- a consequence of a contract -/
theorem met_conseq {l : Launch} {y : MethodName} {wy : List Cond} {rm : Room} {P : Array Value → State → Prop} {Qc : Array Value → State → Outcome → State → Prop} {mc ms : Nat} {free : Addr → Prop}
    (h : ∀ (a : Array Value) (s : State), P a s → ∃ (P0 : Array Value → State → Prop) (Q0 : Array Value → State → Outcome → State → Prop) (f0 : Addr → Prop), Met l y wy rm P0 Q0 mc ms f0 ∧ P0 a s ∧ (∀ o t, Q0 a s o t → Qc a s o t) ∧ ∀ q, f0 q → free q) : Met l y wy rm P Qc mc ms free := by
  intro p e hl hc hk s m args below h1 h2 h3 h4
  obtain ⟨P0, Q0, f0, hM, hp, hq, hf⟩ := h args s h3
  obtain ⟨n, o, a1, a2, a3, a4, L, a5, a6⟩ := hM p e hl hc hk s m args below h1 h2 hp trivial
  exact ⟨n, o, a1, a2, a3, hq _ _ a4, L, a5, fun q hq => hf _ (a6 q hq)⟩
section RowsU
variable {p : Program} {l : Launch} {e : Env} {R : Room} {s : State} {m : MethodId} {args : Array Value} {below : List Frame} {meth : Method} {c : Code} {H : Heap} {locs : List Loc} {cells slots : Nat} {Q : State → Prop}
variable {cc : ByteArray} {pc : Nat} {ls : Array Slot} {rest st0 : List Value} {D : va_G} {cl : List vw_C} {A : Nat → Prop} {X pl : va_W} {H0 : Heap} {tys : List (ClassId × FieldType)}
theorem pp_at {E : (Nat → Prop) → State → Heap → Prop} (hEo : EnvOk E) {av : List Value} {cx : va_W} (hP : va_P D cl (X ++ pl) H) (hD : va_D A (X ++ pl)) (hS : va_S A s.heap H locs) (hA : ∀ q, s.heap.size ≤ q → A q) (hE : E A s s.heap) (isC : List Nat) (hC : isC.map (fun i => X[i]?) = cx.map some) (hn : va_nd isC = true) : ∀ U : State, U.heap = H → s.WarmedH U.vm → va_Pc av (pr E D cl H.size (cx ++ pl)) av.toArray U := by
  intro U hU hW
  subst hU
  exact ⟨rfl, rfl, hP.part isC hC, (hD.part isC hn hC).weaken (fun _ _ _ _ => trivial), hEo.1 _ _ _ _ hW (hEo.2.2 _ _ _ _ (hEo.2.1 _ _ _ _ hE hS.2.1) (va_freeP hD hS hA isC hC))⟩
theorem pp_S {E : (Nat → Prop) → State → Heap → Prop} (hEo : EnvOk E) {av : List Value} {cx : va_W} (hP : va_P D cl (X ++ pl) H) (hD : va_D A (X ++ pl)) (hS : va_S A s.heap H locs) (hA : ∀ q, s.heap.size ≤ q → A q) (hE : E A s s.heap) (isC : List Nat) (hC : isC.map (fun i => X[i]?) = cx.map some) (hn : va_nd isC = true) : PreS s H (va_Pc av (pr E D cl H.size (cx ++ pl))) av :=
  ⟨pr_blind hEo, pp_at hEo hP hD hS hA hE isC hC hn⟩
theorem pp_V {E : (Nat → Prop) → State → Heap → Prop} (hEo : EnvOk E) {As : List Value} {b q0 ci : Nat} {r : vw_C} {fs : List Value} {cx : va_W} (hK : va_K D cl tys s) (hP : va_P D cl (X ++ pl) H) (hD : va_D A (X ++ pl)) (hS : va_S A s.heap H locs) (hA : ∀ q, s.heap.size ≤ q → A q) (hE : E A s s.heap) (isC : List Nat) (hC : isC.map (fun i => X[i]?) = cx.map some) (hn : va_nd isC = true) (he : (X ++ pl)[q0]? = some (b, .inr (ci, fs))) (hc : cl[ci]? = some r) : PreV s H r.1 b (va_Pc (.ref b :: As) (pr E D cl H.size (cx ++ pl))) As :=
  ⟨pr_blind hEo, va_recv hK hP hc he, pp_at hEo hP hD hS hA hE isC hC hn⟩
/-- the class by its name: the elaborator needn't find the row (a second and more for each call) -/
theorem pp_W {E : (Nat → Prop) → State → Heap → Prop} (C : String) (hEo : EnvOk E) {As : List Value} {b q0 ci : Nat} {fs : List Value} {cx : va_W} (hK : va_K D cl tys s) (hP : va_P D cl (X ++ pl) H) (hD : va_D A (X ++ pl)) (hS : va_S A s.heap H locs) (hA : ∀ q, s.heap.size ≤ q → A q) (hE : E A s s.heap) (isC : List Nat) (hC : isC.map (fun i => X[i]?) = cx.map some) (hn : va_nd isC = true) (he : (X ++ pl)[q0]? = some (b, .inr (ci, fs))) (hc : cl[ci]?.map (fun r => r.1) = some C) : PreV s H C b (va_Pc (.ref b :: As) (pr E D cl H.size (cx ++ pl))) As := by
  obtain ⟨r, h1, h2⟩ := Option.map_eq_some_iff.mp hc
  subst h2
  exact pp_V hEo hK hP hD hS hA hE isC hC hn he h1
/-- the receiver has a kind -/
theorem pp_VT {E : (Nat → Prop) → State → Heap → Prop} (hEo : EnvOk E) {g : Gd} {T : Ty} {xs : List Nat} {As : List Value} {b ci : Nat} {kd : Knd} {r : vw_C} {cx : va_W} (hK : va_K g.1 vcl tys s) (hO : okx g T xs pl) (ka : T b = some kd) (hx : b ∉ xs) (hk : ∀ e, kfit g T kd e → ∃ fs : List Value, e = .inr (ci, fs)) (hP : va_P g.1 vcl (X ++ pl) H) (hD : va_D A (X ++ pl)) (hS : va_S A s.heap H locs) (hA : ∀ q, s.heap.size ≤ q → A q) (hE : E A s s.heap) (isC : List Nat) (hC : isC.map (fun i => X[i]?) = cx.map some) (hn : va_nd isC = true) (hc : vcl[ci]? = some r) : PreV s H r.1 b (va_Pc (.ref b :: As) (pr E g.1 vcl H.size (cx ++ pl))) As := by
  obtain ⟨i, e, h1, h2⟩ := hO b kd ka hx
  obtain ⟨fs, rfl⟩ := hk e h2
  exact ⟨pr_blind hEo, va_recv hK hP hc (pl_at h1), pp_at hEo hP hD hS hA hE isC hC hn⟩
theorem va_AinP {cx pl : va_W} {n q : Nat} (h : va_A cx n q) : va_A (cx ++ pl) n q := by
  rcases h with ⟨k, e, h⟩ | h
  · exact Or.inl ⟨k, e, by rw [List.getElem?_append_left (List.getElem?_eq_some_iff.mp h).1]; exact h⟩
  · exact Or.inr h
theorem mp_v {S : Type} {post : S → Prop} {rx px : S → va_W} {cx wr : va_W} {mc ms : Nat} {av : Array Value} (hP : va_P D cl (X ++ pl) H) (hD : va_D A (X ++ pl)) (hS : va_S A s.heap H locs) (hA : ∀ q, s.heap.size ≤ q → A q) (isC isR : List Nat) (hC : isC.map (fun i => X[i]?) = cx.map some) (hR : isR.map (fun i => X[i]?) = wr.map some) (hn : va_nd isR = true) (hdis : ∀ i ∈ isR, i ∉ isC)
    (hr : va_Run p l e R s m args below meth c H locs cells slots mc ms (F0 m pc ls st0) rest (va_Qv post (po D cl (va_A (cx ++ pl) H.size) (fun u => rx u ++ px u)) (va_A (cx ++ pl) H.size) av) (va_A (cx ++ pl) H.size))
    (kk : ∀ (u : S) (H1 : Heap) (locs1 : List Loc), post u → va_P D cl ((wr ++ rx u) ++ px u) H1 → va_D A ((wr ++ rx u) ++ px u) → va_S A s.heap H1 locs1 → W p l e R s m args below meth c H1 locs1 (cells + mc) (slots + ms) Q (F0 m (pc + 3) ls rest)) : W p l e R s m args below meth c H locs cells slots Q (F0 m pc ls st0) := by
  have hF : ∀ q, va_A (cx ++ pl) H.size q → A q := va_freeP hD hS hA isC hC
  refine va_callv hr hS (fun q _ h => hF q h) hF (fun u t H1 locs1 ht hvm hp hB hz hk hS1 => ?_)
  obtain ⟨hP1, hD1⟩ := hB
  rw [ht] at hP1
  obtain ⟨hP2, hD2⟩ := va_joinP hP hD isC isR hC hR hn hdis hk hF hP1 hD1
  exact kk u H1 locs1 hp hP2 hD2 hS1
theorem mq_v {S : Type} {post : S → Prop} {w1 : S → va_W} {cx wr : va_W} {mc ms : Nat} {av : Array Value} (hP : va_P D cl (X ++ pl) H) (hD : va_D A (X ++ pl)) (hS : va_S A s.heap H locs) (hA : ∀ q, s.heap.size ≤ q → A q) (isC isR : List Nat) (hC : isC.map (fun i => X[i]?) = cx.map some) (hR : isR.map (fun i => X[i]?) = wr.map some) (hn : va_nd isR = true) (hdis : ∀ i ∈ isR, i ∉ isC)
    (hr : va_Run p l e R s m args below meth c H locs cells slots mc ms (F0 m pc ls st0) rest (va_Qv post (po D cl (va_A cx H.size) w1) (va_A cx H.size) av) (va_A cx H.size))
    (kk : ∀ (u : S) (H1 : Heap) (locs1 : List Loc), post u → va_P D cl ((wr ++ w1 u) ++ pl) H1 → va_D A ((wr ++ w1 u) ++ pl) → va_S A s.heap H1 locs1 → W p l e R s m args below meth c H1 locs1 (cells + mc) (slots + ms) Q (F0 m (pc + 3) ls rest)) : W p l e R s m args below meth c H locs cells slots Q (F0 m pc ls st0) := by
  have hF : ∀ q, va_A cx H.size q → A q := fun q h => va_freeP (pl := pl) hD hS hA isC hC q (va_AinP h)
  refine va_callv hr hS (fun q _ h => hF q h) hF (fun u t H1 locs1 ht hvm hp hB hz hk hS1 => ?_)
  obtain ⟨hP1, hD1⟩ := hB
  rw [ht] at hP1
  obtain ⟨hP2, hD2⟩ := va_joinQ hP hD isC isR hC hR hn hdis hk hF hP1 hD1
  exact kk u H1 locs1 hp hP2 hD2 hS1
theorem mp_i {S : Type} {post : Int32 → S → Prop} {rx px : S → va_W} {cx wr : va_W} {mc ms : Nat} {av : Array Value} (hP : va_P D cl (X ++ pl) H) (hD : va_D A (X ++ pl)) (hS : va_S A s.heap H locs) (hA : ∀ q, s.heap.size ≤ q → A q) (isC isR : List Nat) (hC : isC.map (fun i => X[i]?) = cx.map some) (hR : isR.map (fun i => X[i]?) = wr.map some) (hn : va_nd isR = true) (hdis : ∀ i ∈ isR, i ∉ isC)
    (hr : va_Run p l e R s m args below meth c H locs cells slots mc ms (F0 m pc ls st0) rest (va_Qi post (po D cl (va_A (cx ++ pl) H.size) (fun u => rx u ++ px u)) (va_A (cx ++ pl) H.size) av) (va_A (cx ++ pl) H.size))
    (kk : ∀ (r : Int32) (u : S) (H1 : Heap) (locs1 : List Loc), post r u → va_P D cl ((wr ++ rx u) ++ px u) H1 → va_D A ((wr ++ rx u) ++ px u) → va_S A s.heap H1 locs1 → W p l e R s m args below meth c H1 locs1 (cells + mc) (slots + ms) Q (F0 m (pc + 3) ls (.int r :: rest))) : W p l e R s m args below meth c H locs cells slots Q (F0 m pc ls st0) := by
  have hF : ∀ q, va_A (cx ++ pl) H.size q → A q := va_freeP hD hS hA isC hC
  refine va_calli hr hS (fun q _ h => hF q h) hF (fun r u t H1 locs1 ht hvm hp hB hz hk hS1 => ?_)
  obtain ⟨hP1, hD1⟩ := hB
  rw [ht] at hP1
  obtain ⟨hP2, hD2⟩ := va_joinP hP hD isC isR hC hR hn hdis hk hF hP1 hD1
  exact kk r u H1 locs1 hp hP2 hD2 hS1
theorem mq_i {S : Type} {post : Int32 → S → Prop} {w1 : S → va_W} {cx wr : va_W} {mc ms : Nat} {av : Array Value} (hP : va_P D cl (X ++ pl) H) (hD : va_D A (X ++ pl)) (hS : va_S A s.heap H locs) (hA : ∀ q, s.heap.size ≤ q → A q) (isC isR : List Nat) (hC : isC.map (fun i => X[i]?) = cx.map some) (hR : isR.map (fun i => X[i]?) = wr.map some) (hn : va_nd isR = true) (hdis : ∀ i ∈ isR, i ∉ isC)
    (hr : va_Run p l e R s m args below meth c H locs cells slots mc ms (F0 m pc ls st0) rest (va_Qi post (po D cl (va_A cx H.size) w1) (va_A cx H.size) av) (va_A cx H.size))
    (kk : ∀ (r : Int32) (u : S) (H1 : Heap) (locs1 : List Loc), post r u → va_P D cl ((wr ++ w1 u) ++ pl) H1 → va_D A ((wr ++ w1 u) ++ pl) → va_S A s.heap H1 locs1 → W p l e R s m args below meth c H1 locs1 (cells + mc) (slots + ms) Q (F0 m (pc + 3) ls (.int r :: rest))) : W p l e R s m args below meth c H locs cells slots Q (F0 m pc ls st0) := by
  have hF : ∀ q, va_A cx H.size q → A q := fun q h => va_freeP (pl := pl) hD hS hA isC hC q (va_AinP h)
  refine va_calli hr hS (fun q _ h => hF q h) hF (fun r u t H1 locs1 ht hvm hp hB hz hk hS1 => ?_)
  obtain ⟨hP1, hD1⟩ := hB
  rw [ht] at hP1
  obtain ⟨hP2, hD2⟩ := va_joinQ hP hD isC isR hC hR hn hdis hk hF hP1 hD1
  exact kk r u H1 locs1 hp hP2 hD2 hS1
theorem mp_l {S : Type} {post : Int64 → S → Prop} {rx px : S → va_W} {cx wr : va_W} {mc ms : Nat} {av : Array Value} (hP : va_P D cl (X ++ pl) H) (hD : va_D A (X ++ pl)) (hS : va_S A s.heap H locs) (hA : ∀ q, s.heap.size ≤ q → A q) (isC isR : List Nat) (hC : isC.map (fun i => X[i]?) = cx.map some) (hR : isR.map (fun i => X[i]?) = wr.map some) (hn : va_nd isR = true) (hdis : ∀ i ∈ isR, i ∉ isC)
    (hr : va_Run p l e R s m args below meth c H locs cells slots mc ms (F0 m pc ls st0) rest (va_Ql post (po D cl (va_A (cx ++ pl) H.size) (fun u => rx u ++ px u)) (va_A (cx ++ pl) H.size) av) (va_A (cx ++ pl) H.size))
    (kk : ∀ (r : Int64) (u : S) (H1 : Heap) (locs1 : List Loc), post r u → va_P D cl ((wr ++ rx u) ++ px u) H1 → va_D A ((wr ++ rx u) ++ px u) → va_S A s.heap H1 locs1 → W p l e R s m args below meth c H1 locs1 (cells + mc) (slots + ms) Q (F0 m (pc + 3) ls (.long r :: rest))) : W p l e R s m args below meth c H locs cells slots Q (F0 m pc ls st0) := by
  have hF : ∀ q, va_A (cx ++ pl) H.size q → A q := va_freeP hD hS hA isC hC
  refine va_calll hr hS (fun q _ h => hF q h) hF (fun r u t H1 locs1 ht hvm hp hB hz hk hS1 => ?_)
  obtain ⟨hP1, hD1⟩ := hB
  rw [ht] at hP1
  obtain ⟨hP2, hD2⟩ := va_joinP hP hD isC isR hC hR hn hdis hk hF hP1 hD1
  exact kk r u H1 locs1 hp hP2 hD2 hS1
theorem mq_l {S : Type} {post : Int64 → S → Prop} {w1 : S → va_W} {cx wr : va_W} {mc ms : Nat} {av : Array Value} (hP : va_P D cl (X ++ pl) H) (hD : va_D A (X ++ pl)) (hS : va_S A s.heap H locs) (hA : ∀ q, s.heap.size ≤ q → A q) (isC isR : List Nat) (hC : isC.map (fun i => X[i]?) = cx.map some) (hR : isR.map (fun i => X[i]?) = wr.map some) (hn : va_nd isR = true) (hdis : ∀ i ∈ isR, i ∉ isC)
    (hr : va_Run p l e R s m args below meth c H locs cells slots mc ms (F0 m pc ls st0) rest (va_Ql post (po D cl (va_A cx H.size) w1) (va_A cx H.size) av) (va_A cx H.size))
    (kk : ∀ (r : Int64) (u : S) (H1 : Heap) (locs1 : List Loc), post r u → va_P D cl ((wr ++ w1 u) ++ pl) H1 → va_D A ((wr ++ w1 u) ++ pl) → va_S A s.heap H1 locs1 → W p l e R s m args below meth c H1 locs1 (cells + mc) (slots + ms) Q (F0 m (pc + 3) ls (.long r :: rest))) : W p l e R s m args below meth c H locs cells slots Q (F0 m pc ls st0) := by
  have hF : ∀ q, va_A cx H.size q → A q := fun q h => va_freeP (pl := pl) hD hS hA isC hC q (va_AinP h)
  refine va_calll hr hS (fun q _ h => hF q h) hF (fun r u t H1 locs1 ht hvm hp hB hz hk hS1 => ?_)
  obtain ⟨hP1, hD1⟩ := hB
  rw [ht] at hP1
  obtain ⟨hP2, hD2⟩ := va_joinQ hP hD isC isR hC hR hn hdis hk hF hP1 hD1
  exact kk r u H1 locs1 hp hP2 hD2 hS1
theorem mp_q {S : Type} {post : Option Nat → S → Prop} {rx px : S → va_W} {cx wr : va_W} {mc ms : Nat} {av : Array Value} (hP : va_P D cl (X ++ pl) H) (hD : va_D A (X ++ pl)) (hS : va_S A s.heap H locs) (hA : ∀ q, s.heap.size ≤ q → A q) (isC isR : List Nat) (hC : isC.map (fun i => X[i]?) = cx.map some) (hR : isR.map (fun i => X[i]?) = wr.map some) (hn : va_nd isR = true) (hdis : ∀ i ∈ isR, i ∉ isC)
    (hr : va_Run p l e R s m args below meth c H locs cells slots mc ms (F0 m pc ls st0) rest (va_Qq post (po D cl (va_A (cx ++ pl) H.size) (fun u => rx u ++ px u)) (va_A (cx ++ pl) H.size) av) (va_A (cx ++ pl) H.size))
    (kk : ∀ (r : Option Nat) (u : S) (H1 : Heap) (locs1 : List Loc), post r u → va_P D cl ((wr ++ rx u) ++ px u) H1 → va_D A ((wr ++ rx u) ++ px u) → va_S A s.heap H1 locs1 → W p l e R s m args below meth c H1 locs1 (cells + mc) (slots + ms) Q (F0 m (pc + 3) ls (va_rf r :: rest))) : W p l e R s m args below meth c H locs cells slots Q (F0 m pc ls st0) := by
  have hF : ∀ q, va_A (cx ++ pl) H.size q → A q := va_freeP hD hS hA isC hC
  refine va_callq hr hS (fun q _ h => hF q h) hF (fun r u t H1 locs1 ht hvm hp hB hz hk hS1 => ?_)
  obtain ⟨hP1, hD1⟩ := hB
  rw [ht] at hP1
  obtain ⟨hP2, hD2⟩ := va_joinP hP hD isC isR hC hR hn hdis hk hF hP1 hD1
  exact kk r u H1 locs1 hp hP2 hD2 hS1
theorem mq_q {S : Type} {post : Option Nat → S → Prop} {w1 : S → va_W} {cx wr : va_W} {mc ms : Nat} {av : Array Value} (hP : va_P D cl (X ++ pl) H) (hD : va_D A (X ++ pl)) (hS : va_S A s.heap H locs) (hA : ∀ q, s.heap.size ≤ q → A q) (isC isR : List Nat) (hC : isC.map (fun i => X[i]?) = cx.map some) (hR : isR.map (fun i => X[i]?) = wr.map some) (hn : va_nd isR = true) (hdis : ∀ i ∈ isR, i ∉ isC)
    (hr : va_Run p l e R s m args below meth c H locs cells slots mc ms (F0 m pc ls st0) rest (va_Qq post (po D cl (va_A cx H.size) w1) (va_A cx H.size) av) (va_A cx H.size))
    (kk : ∀ (r : Option Nat) (u : S) (H1 : Heap) (locs1 : List Loc), post r u → va_P D cl ((wr ++ w1 u) ++ pl) H1 → va_D A ((wr ++ w1 u) ++ pl) → va_S A s.heap H1 locs1 → W p l e R s m args below meth c H1 locs1 (cells + mc) (slots + ms) Q (F0 m (pc + 3) ls (va_rf r :: rest))) : W p l e R s m args below meth c H locs cells slots Q (F0 m pc ls st0) := by
  have hF : ∀ q, va_A cx H.size q → A q := fun q h => va_freeP (pl := pl) hD hS hA isC hC q (va_AinP h)
  refine va_callq hr hS (fun q _ h => hF q h) hF (fun r u t H1 locs1 ht hvm hp hB hz hk hS1 => ?_)
  obtain ⟨hP1, hD1⟩ := hB
  rw [ht] at hP1
  obtain ⟨hP2, hD2⟩ := va_joinQ hP hD isC isR hC hR hn hdis hk hF hP1 hD1
  exact kk r u H1 locs1 hp hP2 hD2 hS1
theorem mp_vret {S : Type} {post : S → Prop} {w1 : S → va_W} {mc ms : Nat} (hexec : p.tables.exec = Jvm.exec) (hb : c.code = cc) (hr : meth.sig.returnType = none) (hlocks : meth.locks = false) (hP : va_P D cl (X ++ pl) H) (hD : va_D A (X ++ pl)) (hS : va_S A s.heap H locs) (u : S) (hu : post u) (is : List Nat) {cx : va_W} (hw : is.map (fun i => X[i]?) = cx.map some) (hn : va_nd is = true) (hq : w1 u = cx ++ pl) (hc : cells ≤ mc) (hs : slots ≤ ms) (hdg : decode cc pc = .ok (.return_, 1)) :
    W p l e R s m args below meth c H locs cells slots (MQ below (va_Qv post (po D cl A w1) A) args s mc ms A) (F0 m pc ls []) :=
  W.widen hc hs (W.vret hexec hb hr (fun t ht _ => ⟨⟨u, rfl, hu, by rw [ht, hq]; exact hP.part is hw, by rw [hq]; exact hD.part is hn hw⟩, hS.F ht⟩) hS.2.2 hdg hlocks)
theorem mp_iret {S : Type} {post : Int32 → S → Prop} {w1 : S → va_W} {mc ms : Nat} {v : Int32} (hexec : p.tables.exec = Jvm.exec) (hb : c.code = cc) (hr : meth.sig.returnType = some .int) (hlocks : meth.locks = false) (hP : va_P D cl (X ++ pl) H) (hD : va_D A (X ++ pl)) (hS : va_S A s.heap H locs) (u : S) (hu : post v u) (is : List Nat) {cx : va_W} (hw : is.map (fun i => X[i]?) = cx.map some) (hn : va_nd is = true) (hq : w1 u = cx ++ pl) (hc : cells ≤ mc) (hs : slots ≤ ms) (hdg : decode cc pc = .ok (.ireturn, 1)) :
    W p l e R s m args below meth c H locs cells slots (MQ below (va_Qi post (po D cl A w1) A) args s mc ms A) (F0 m pc ls [.int v]) :=
  W.widen hc hs (W.iret hexec hb hr (fun t ht _ => ⟨⟨v, u, rfl, hu, by rw [ht, hq]; exact hP.part is hw, by rw [hq]; exact hD.part is hn hw⟩, hS.F ht⟩) hS.2.2 hdg hlocks)
theorem mp_zret {S : Type} {post : Int32 → S → Prop} {w1 : S → va_W} {mc ms : Nat} {v : Int32} (hexec : p.tables.exec = Jvm.exec) (hb : c.code = cc) (hr : meth.sig.returnType = some .boolean) (hlocks : meth.locks = false) (hv : narrow .boolean (.int v) = .int v) (hP : va_P D cl (X ++ pl) H) (hD : va_D A (X ++ pl)) (hS : va_S A s.heap H locs) (u : S) (hu : post v u) (is : List Nat) {cx : va_W} (hw : is.map (fun i => X[i]?) = cx.map some) (hn : va_nd is = true) (hq : w1 u = cx ++ pl) (hc : cells ≤ mc) (hs : slots ≤ ms) (hdg : decode cc pc = .ok (.ireturn, 1)) :
    W p l e R s m args below meth c H locs cells slots (MQ below (va_Qi post (po D cl A w1) A) args s mc ms A) (F0 m pc ls [.int v]) :=
  W.widen hc hs (W.zret hexec hb hr hv (fun t ht _ => ⟨⟨v, u, rfl, hu, by rw [ht, hq]; exact hP.part is hw, by rw [hq]; exact hD.part is hn hw⟩, hS.F ht⟩) hS.2.2 hdg hlocks)
theorem mp_lret {S : Type} {post : Int64 → S → Prop} {w1 : S → va_W} {mc ms : Nat} {v : Int64} (hexec : p.tables.exec = Jvm.exec) (hb : c.code = cc) (hr : meth.sig.returnType = some .long) (hlocks : meth.locks = false) (hP : va_P D cl (X ++ pl) H) (hD : va_D A (X ++ pl)) (hS : va_S A s.heap H locs) (u : S) (hu : post v u) (is : List Nat) {cx : va_W} (hw : is.map (fun i => X[i]?) = cx.map some) (hn : va_nd is = true) (hq : w1 u = cx ++ pl) (hc : cells ≤ mc) (hs : slots ≤ ms) (hdg : decode cc pc = .ok (.lreturn, 1)) :
    W p l e R s m args below meth c H locs cells slots (MQ below (va_Ql post (po D cl A w1) A) args s mc ms A) (F0 m pc ls [.long v]) :=
  W.widen hc hs (W.lret hexec hb hr (fun t ht _ => ⟨⟨v, u, rfl, hu, by rw [ht, hq]; exact hP.part is hw, by rw [hq]; exact hD.part is hn hw⟩, hS.F ht⟩) hS.2.2 hdg hlocks)
end RowsU
/-! a cell is taken out of the pool, and put back -/
theorem open1 {g : Gd} {T : Ty} {xs : List Nat} {X pl : va_W} {H : Heap} {A : Nat → Prop} {a : Nat} {k : Knd} (hP : va_P g.1 vcl (X ++ pl) H) (hD : va_D A (X ++ pl)) (hO : okx g T xs pl) (ka : T a = some k) (hx : a ∉ xs) :
    ∃ (e : va_E) (pl1 : va_W), va_P g.1 vcl ((X ++ [(a, e)]) ++ pl1) H ∧ va_D A ((X ++ [(a, e)]) ++ pl1) ∧ kfit g T k e ∧ okx g T (a :: xs) pl1 := by
  obtain ⟨i, e, h1, h2⟩ := hO a k ka hx
  have hil : i < pl.length := (List.getElem?_eq_some_iff.mp h1).1
  have key : ∀ (j : Nat) (q : Nat × va_E), ((X ++ [(a, e)]) ++ pl.eraseIdx i)[j]? = some q → (X ++ pl)[if j < X.length then j else if j = X.length then X.length + i else if j - X.length - 1 < i then j - 1 else j]? = some q := by
    intro j q hj
    by_cases c1 : j < X.length
    · rw [if_pos c1, List.getElem?_append_left c1]
      rw [List.getElem?_append_left (by rw [List.length_append]; omega), List.getElem?_append_left c1] at hj
      exact hj
    · rw [if_neg c1]
      by_cases c2 : j = X.length
      · rw [if_pos c2]
        rw [List.getElem?_append_left (by rw [List.length_append, c2]; simp), List.getElem?_append_right (by omega), c2, Nat.sub_self] at hj
        rw [pl_at h1]
        simpa using hj
      · rw [if_neg c2]
        rw [List.getElem?_append_right (by rw [List.length_append]; simp; omega), List.length_append, List.getElem?_eraseIdx] at hj
        simp only [List.length_cons, List.length_nil] at hj
        by_cases c3 : j - X.length - 1 < i
        · rw [if_pos c3, List.getElem?_append_right (by omega)]
          rw [if_pos (by omega)] at hj
          rw [show j - 1 - X.length = j - (X.length + (0 + 1)) by omega]
          exact hj
        · rw [if_neg c3, List.getElem?_append_right (by omega)]
          rw [if_neg (by omega)] at hj
          rw [show j - X.length = j - (X.length + (0 + 1)) + 1 by omega]
          exact hj
  refine ⟨e, pl.eraseIdx i, hP.by _ key, hD.by _ key (fun j j' hj hj' hh => ?_), h2, ?_⟩
  · rw [List.length_append, List.length_append, List.length_eraseIdx_of_lt hil] at hj hj'
    simp only [List.length_cons, List.length_nil] at hj hj'
    repeat' (split at hh)
    all_goals omega
  · intro b kb hb hxb
    obtain ⟨j, e1, h3, h4⟩ := hO b kb hb (fun q => hxb (List.mem_cons_of_mem _ q))
    have hij : j ≠ i := fun q => by
      subst q
      exact hxb (by rw [show b = a from congrArg Prod.fst (Option.some.inj (h3.symm.trans h1))]; exact List.mem_cons_self)
    by_cases c : j < i
    · exact ⟨j, e1, by rw [List.getElem?_eraseIdx, if_pos c]; exact h3, h4⟩
    · exact ⟨j - 1, e1, by rw [List.getElem?_eraseIdx, if_neg (by omega), show j - 1 + 1 = j by omega]; exact h3, h4⟩
theorem close1 {g : Gd} {T : Ty} {xs : List Nat} {pl : va_W} {a : Nat} {k : Knd} {e : va_E} (hO : okx g T (a :: xs) pl) (ka : T a = some k) (he : kfit g T k e) : okx g T xs ((a, e) :: pl) := by
  intro b kb hb hx
  by_cases q : b = a
  · subst q
    have hk : kb = k := Option.some.inj (hb.symm.trans ka)
    subst hk
    exact ⟨0, e, rfl, he⟩
  · obtain ⟨j, e1, h1, h2⟩ := hO b kb hb (fun h => by
      rcases List.mem_cons.mp h with h | h
      · exact q h
      · exact hx h)
    exact ⟨j + 1, e1, by simpa using h1, h2⟩
theorem knd_ne {T : Ty} {a b : Nat} {k k' : Knd} (h1 : T a = some k) (h2 : T b = some k') (h : k ≠ k') : a ≠ b := fun q => h (by rw [q] at h1; exact Option.some.inj (h1.symm.trans h2))
section RowsV
variable {p : Program} {l : Launch} {e : Env} {R : Room} {s : State} {m : MethodId} {args : Array Value} {below : List Frame} {meth : Method} {c : Code} {H : Heap} {locs : List Loc} {cells slots : Nat} {Q : State → Prop}
variable {cc : ByteArray} {pc : Nat} {ls : Array Slot} {rest st0 : List Value} {g : Gd} {A : Nat → Prop} {a a0 : Nat} {X pl : va_W} {H0 : Heap} {T : Ty} {xs : List Nat}
theorem ty_copyi (hexec : p.tables.exec = Jvm.exec) (hb : c.code = cc) (hml : c.maxLocals = ls.size) {own : String} {index : Nat} (hown : s.vm.findClass own = some m.cls) (hlink : (Cond.methodLink own index arraycopyName).before args s = true) (hnat : (Cond.native arraycopyName).before args s = true) (hstat : (Cond.static arraycopyName).before args s = true) (hini : (Cond.initialized "java/lang/System").before args s = true)
    (hK : va_K g.1 vcl (tyA g.2.1) s) (hO : okx g T xs pl) {n0 n1 : Nat} (ka0 : T a0 = some (0, n0)) (hx0 : a0 ∉ xs) (ka : T a = some (0, n1)) (hx : a ∉ xs) (hP : va_P g.1 vcl (X ++ pl) H) (hD : va_D A (X ++ pl)) (hS : va_S A H0 H locs) {sp dp n : Nat} (h4 : sp + n ≤ n0) (h5 : dp + n ≤ n1) (hbd : n0 < 2 ^ 31 ∧ n1 < 2 ^ 31) (hframes : 1 ≤ R.frames) (hlocals : (rest.map fun v => v.category).sum + (nativeFrameWords "java/lang/System" "arraycopy" 5 + 11) ≤ R.locals) (hdg : decode cc pc = .ok (.invokestatic index, 3))
    (kk : ∀ (pl : va_W) (H1 : Heap) (locs1 : List Loc), okx g T xs pl → va_P g.1 vcl (X ++ pl) H1 → va_D A (X ++ pl) → va_S A H0 H1 locs1 → W p l e R s m args below meth c H1 locs1 cells slots Q (F0 m (pc + 3) ls rest)) : W p l e R s m args below meth c H locs cells slots Q (F0 m pc ls (.int (nI n) :: .int (nI dp) :: .ref a :: .int (nI sp) :: .ref a0 :: rest)) := by
  obtain ⟨j0, e0, h1, f0, rfl⟩ := hO a0 _ ka0 hx0
  obtain ⟨j1, e1, h2, f1, rfl⟩ := hO a _ ka hx
  have c1 : (nI sp).toNatClampNeg = sp := nI_clamp (by omega)
  have c2 : (nI dp).toNatClampNeg = dp := nI_clamp (by omega)
  have c3 : (nI n).toNatClampNeg = n := nI_clamp (by omega)
  refine va_copyi (ty := .int) hexec hb hml hown hlink hnat hstat hini hK hP hD hS (X.length + j0) (X.length + j1) 0 0 (pl_at h1) (pl_at h2) rfl rfl rfl (nI_pos (by omega)) (nI_pos (by omega)) (nI_pos (by omega)) (by rw [c1, c3]; exact h4) (by rw [c2, c3]; exact h5) (fun i _ => rfl) hframes hlocals hdg (fun H1 locs1 h6 h7 h8 => ?_)
  rw [pl_set] at h6 h7
  exact kk _ H1 locs1 (okx_set hO ka h2 ⟨_, rfl⟩) h6 h7 h8
theorem ty_copyb11 (hexec : p.tables.exec = Jvm.exec) (hb : c.code = cc) (hml : c.maxLocals = ls.size) {own : String} {index : Nat} (hown : s.vm.findClass own = some m.cls) (hlink : (Cond.methodLink own index arraycopyName).before args s = true) (hnat : (Cond.native arraycopyName).before args s = true) (hstat : (Cond.static arraycopyName).before args s = true) (hini : (Cond.initialized "java/lang/System").before args s = true)
    (hK : va_K g.1 vcl (tyA g.2.1) s) (hO : okx g T xs pl) {n0 n1 : Nat} (ka0 : T a0 = some (1, n0)) (hx0 : a0 ∉ xs) (ka : T a = some (1, n1)) (hx : a ∉ xs) (hP : va_P g.1 vcl (X ++ pl) H) (hD : va_D A (X ++ pl)) (hS : va_S A H0 H locs) {sp dp n : Nat} (h4 : sp + n ≤ n0) (h5 : dp + n ≤ n1) (hbd : n0 < 2 ^ 31 ∧ n1 < 2 ^ 31) (hframes : 1 ≤ R.frames) (hlocals : (rest.map fun v => v.category).sum + (nativeFrameWords "java/lang/System" "arraycopy" 5 + 11) ≤ R.locals) (hdg : decode cc pc = .ok (.invokestatic index, 3))
    (kk : ∀ (pl : va_W) (H1 : Heap) (locs1 : List Loc), okx g T xs pl → va_P g.1 vcl (X ++ pl) H1 → va_D A (X ++ pl) → va_S A H0 H1 locs1 → W p l e R s m args below meth c H1 locs1 cells slots Q (F0 m (pc + 3) ls rest)) : W p l e R s m args below meth c H locs cells slots Q (F0 m pc ls (.int (nI n) :: .int (nI dp) :: .ref a :: .int (nI sp) :: .ref a0 :: rest)) := by
  obtain ⟨j0, e0, h1, f0, rfl, hb0⟩ := hO a0 _ ka0 hx0
  obtain ⟨j1, e1, h2, f1, rfl, hb1⟩ := hO a _ ka hx
  have c1 : (nI sp).toNatClampNeg = sp := nI_clamp (by omega)
  have c2 : (nI dp).toNatClampNeg = dp := nI_clamp (by omega)
  have c3 : (nI n).toNatClampNeg = n := nI_clamp (by omega)
  refine va_copyi (ty := .byte) hexec hb hml hown hlink hnat hstat hini hK hP hD hS (X.length + j0) (X.length + j1) 1 1 (pl_at h1) (pl_at h2) rfl rfl rfl (nI_pos (by omega)) (nI_pos (by omega)) (nI_pos (by omega)) (by rw [c1, c3]; exact h4) (by rw [c2, c3]; exact h5) (fun i _ => hb0 _) hframes hlocals hdg (fun H1 locs1 h6 h7 h8 => ?_)
  rw [pl_set] at h6 h7
  exact kk _ H1 locs1 (okx_set hO ka h2 ⟨_, rfl, byt_cpy hb0 hb1 _ _ _⟩) h6 h7 h8
theorem ty_copyb18 (hexec : p.tables.exec = Jvm.exec) (hb : c.code = cc) (hml : c.maxLocals = ls.size) {own : String} {index : Nat} (hown : s.vm.findClass own = some m.cls) (hlink : (Cond.methodLink own index arraycopyName).before args s = true) (hnat : (Cond.native arraycopyName).before args s = true) (hstat : (Cond.static arraycopyName).before args s = true) (hini : (Cond.initialized "java/lang/System").before args s = true)
    (hK : va_K g.1 vcl (tyA g.2.1) s) (hO : okx g T xs pl) {n0 n1 : Nat} (ka0 : T a0 = some (1, n0)) (hx0 : a0 ∉ xs) (ka : T a = some (8, n1)) (hx : a ∉ xs) (hP : va_P g.1 vcl (X ++ pl) H) (hD : va_D A (X ++ pl)) (hS : va_S A H0 H locs) {sp dp n : Nat} (h4 : sp + n ≤ n0) (h5 : dp + n ≤ n1) (hbd : n0 < 2 ^ 31 ∧ n1 < 2 ^ 31) (hframes : 1 ≤ R.frames) (hlocals : (rest.map fun v => v.category).sum + (nativeFrameWords "java/lang/System" "arraycopy" 5 + 11) ≤ R.locals) (hdg : decode cc pc = .ok (.invokestatic index, 3))
    (kk : ∀ (pl : va_W) (H1 : Heap) (locs1 : List Loc), okx g T xs pl → va_P g.1 vcl (X ++ pl) H1 → va_D A (X ++ pl) → va_S A H0 H1 locs1 → W p l e R s m args below meth c H1 locs1 cells slots Q (F0 m (pc + 3) ls rest)) : W p l e R s m args below meth c H locs cells slots Q (F0 m pc ls (.int (nI n) :: .int (nI dp) :: .ref a :: .int (nI sp) :: .ref a0 :: rest)) := by
  obtain ⟨j0, e0, h1, f0, rfl, hb0⟩ := hO a0 _ ka0 hx0
  obtain ⟨j1, e1, h2, f1, rfl, hb1⟩ := hO a _ ka hx
  have c1 : (nI sp).toNatClampNeg = sp := nI_clamp (by omega)
  have c2 : (nI dp).toNatClampNeg = dp := nI_clamp (by omega)
  have c3 : (nI n).toNatClampNeg = n := nI_clamp (by omega)
  refine va_copyi (ty := .byte) hexec hb hml hown hlink hnat hstat hini hK hP hD hS (X.length + j0) (X.length + j1) 1 1 (pl_at h1) (pl_at h2) rfl rfl rfl (nI_pos (by omega)) (nI_pos (by omega)) (nI_pos (by omega)) (by rw [c1, c3]; exact h4) (by rw [c2, c3]; exact h5) (fun i _ => hb0 _) hframes hlocals hdg (fun H1 locs1 h6 h7 h8 => ?_)
  rw [pl_set] at h6 h7
  exact kk _ H1 locs1 (okx_set hO ka h2 ⟨_, rfl, byt_cpy hb0 hb1 _ _ _⟩) h6 h7 h8
theorem ty_copyb81 (hexec : p.tables.exec = Jvm.exec) (hb : c.code = cc) (hml : c.maxLocals = ls.size) {own : String} {index : Nat} (hown : s.vm.findClass own = some m.cls) (hlink : (Cond.methodLink own index arraycopyName).before args s = true) (hnat : (Cond.native arraycopyName).before args s = true) (hstat : (Cond.static arraycopyName).before args s = true) (hini : (Cond.initialized "java/lang/System").before args s = true)
    (hK : va_K g.1 vcl (tyA g.2.1) s) (hO : okx g T xs pl) {n0 n1 : Nat} (ka0 : T a0 = some (8, n0)) (hx0 : a0 ∉ xs) (ka : T a = some (1, n1)) (hx : a ∉ xs) (hP : va_P g.1 vcl (X ++ pl) H) (hD : va_D A (X ++ pl)) (hS : va_S A H0 H locs) {sp dp n : Nat} (h4 : sp + n ≤ n0) (h5 : dp + n ≤ n1) (hbd : n0 < 2 ^ 31 ∧ n1 < 2 ^ 31) (hframes : 1 ≤ R.frames) (hlocals : (rest.map fun v => v.category).sum + (nativeFrameWords "java/lang/System" "arraycopy" 5 + 11) ≤ R.locals) (hdg : decode cc pc = .ok (.invokestatic index, 3))
    (kk : ∀ (pl : va_W) (H1 : Heap) (locs1 : List Loc), okx g T xs pl → va_P g.1 vcl (X ++ pl) H1 → va_D A (X ++ pl) → va_S A H0 H1 locs1 → W p l e R s m args below meth c H1 locs1 cells slots Q (F0 m (pc + 3) ls rest)) : W p l e R s m args below meth c H locs cells slots Q (F0 m pc ls (.int (nI n) :: .int (nI dp) :: .ref a :: .int (nI sp) :: .ref a0 :: rest)) := by
  obtain ⟨j0, e0, h1, f0, rfl, hb0⟩ := hO a0 _ ka0 hx0
  obtain ⟨j1, e1, h2, f1, rfl, hb1⟩ := hO a _ ka hx
  have c1 : (nI sp).toNatClampNeg = sp := nI_clamp (by omega)
  have c2 : (nI dp).toNatClampNeg = dp := nI_clamp (by omega)
  have c3 : (nI n).toNatClampNeg = n := nI_clamp (by omega)
  refine va_copyi (ty := .byte) hexec hb hml hown hlink hnat hstat hini hK hP hD hS (X.length + j0) (X.length + j1) 1 1 (pl_at h1) (pl_at h2) rfl rfl rfl (nI_pos (by omega)) (nI_pos (by omega)) (nI_pos (by omega)) (by rw [c1, c3]; exact h4) (by rw [c2, c3]; exact h5) (fun i _ => hb0 _) hframes hlocals hdg (fun H1 locs1 h6 h7 h8 => ?_)
  rw [pl_set] at h6 h7
  exact kk _ H1 locs1 (okx_set hO ka h2 ⟨_, rfl, byt_cpy hb0 hb1 _ _ _⟩) h6 h7 h8
theorem ty_copyx (hexec : p.tables.exec = Jvm.exec) (hb : c.code = cc) (hml : c.maxLocals = ls.size) {own : String} {index : Nat} (hown : s.vm.findClass own = some m.cls) (hlink : (Cond.methodLink own index arraycopyName).before args s = true) (hnat : (Cond.native arraycopyName).before args s = true) (hstat : (Cond.static arraycopyName).before args s = true) (hini : (Cond.initialized "java/lang/System").before args s = true)
    (hK : va_K g.1 vcl (tyA g.2.1) s) (hO : okx g T xs pl) {n0 n1 : Nat} (ka0 : T a0 = some (1, n0)) (hx0 : a0 ∉ xs) (hP : va_P g.1 vcl (X ++ pl) H) (hD : va_D A (X ++ pl)) (hS : va_S A H0 H locs) {q1 : Nat} {g1 : Nat → Int32} (ha1 : (X ++ pl)[q1]? = some (a, .inl (g.2.1 1, n1, .inl g1))) {sp dp n : Nat} (h4 : sp + n ≤ n0) (h5 : dp + n ≤ n1) (hbd : n0 < 2 ^ 31 ∧ n1 < 2 ^ 31) (hb1 : byt g1) (hframes : 1 ≤ R.frames) (hlocals : (rest.map fun v => v.category).sum + (nativeFrameWords "java/lang/System" "arraycopy" 5 + 11) ≤ R.locals) (hdg : decode cc pc = .ok (.invokestatic index, 3))
    (kk : ∀ (f1 : Nat → Int32) (H1 : Heap) (locs1 : List Loc), byt f1 → va_P g.1 vcl ((X ++ pl).set q1 (a, .inl (g.2.1 1, n1, .inl f1))) H1 → va_D A ((X ++ pl).set q1 (a, .inl (g.2.1 1, n1, .inl f1))) → va_S A H0 H1 locs1 → W p l e R s m args below meth c H1 locs1 cells slots Q (F0 m (pc + 3) ls rest)) : W p l e R s m args below meth c H locs cells slots Q (F0 m pc ls (.int (nI n) :: .int (nI dp) :: .ref a :: .int (nI sp) :: .ref a0 :: rest)) := by
  obtain ⟨j0, e0, h1, f0, rfl, hb0⟩ := hO a0 _ ka0 hx0
  have c1 : (nI sp).toNatClampNeg = sp := nI_clamp (by omega)
  have c2 : (nI dp).toNatClampNeg = dp := nI_clamp (by omega)
  have c3 : (nI n).toNatClampNeg = n := nI_clamp (by omega)
  exact va_copyi (ty := .byte) hexec hb hml hown hlink hnat hstat hini hK hP hD hS (X.length + j0) q1 1 1 (pl_at h1) ha1 rfl rfl rfl (nI_pos (by omega)) (nI_pos (by omega)) (nI_pos (by omega)) (by rw [c1, c3]; exact h4) (by rw [c2, c3]; exact h5) (fun i _ => hb0 _) hframes hlocals hdg (fun H1 locs1 h6 h7 h8 => kk _ H1 locs1 (byt_cpy hb0 hb1 _ _ _) h6 h7 h8)
end RowsV
section RowsW
variable {p : Program} {l : Launch} {e : Env} {R : Room} {s : State} {m : MethodId} {args : Array Value} {below : List Frame} {meth : Method} {c : Code} {H : Heap} {locs : List Loc} {cells slots : Nat} {Q : State → Prop}
variable {cc : ByteArray} {pc : Nat} {ls : Array Slot} {rest : List Value}
theorem mi_iincN (hexec : p.tables.exec = Jvm.exec) (hb : c.code = cc) {i nL k x d y : Nat} {n : Int} {lv lv' : List (Nat × Value)} (hdg : decode cc pc = .ok (.iinc i n, 3)) (h : lv_has ls nL lv) (hk : lv[k]? = some (i, .int (nI x))) (hv : Int32.ofInt n + nI d = 0) (hy : x = y + d) (hn : i < nL) (hl : (i, Value.int (nI y)) :: lv.filter (fun q => !(q.1 == i) && !(q.1 + 1 == i && q.2.category == 2)) = lv')
    (kk : ∀ ls' : Array Slot, lv_has ls' nL lv' → W p l e R s m args below meth c H locs cells slots Q (F0 m (pc + 3) ls' rest)) : W p l e R s m args below meth c H locs cells slots Q (F0 m pc ls rest) := lv_iinc hexec hb hdg h hk (by rw [hy, ← nI_add, Int32.add_assoc, Int32.add_comm (nI d), hv, Int32.add_zero]) hn hl kk
theorem mi_iincW (hexec : p.tables.exec = Jvm.exec) (hb : c.code = cc) {i nL k x d y : Nat} {n : Int} {lv lv' : List (Nat × Value)} (hdg : decode cc pc = .ok (.iinc i n, 6)) (h : lv_has ls nL lv) (hk : lv[k]? = some (i, .int (nI x))) (hv : Int32.ofInt n = nI d) (hy : x + d = y) (hn : i < nL) (hl : (i, Value.int (nI y)) :: lv.filter (fun q => !(q.1 == i) && !(q.1 + 1 == i && q.2.category == 2)) = lv')
    (kk : ∀ ls' : Array Slot, lv_has ls' nL lv' → W p l e R s m args below meth c H locs cells slots Q (F0 m (pc + 6) ls' rest)) : W p l e R s m args below meth c H locs cells slots Q (F0 m pc ls rest) := lv_iincW hexec hb hdg h hk (by rw [hv, nI_add, hy]) hn hl kk
theorem mi_iincR (hexec : p.tables.exec = Jvm.exec) (hb : c.code = cc) {i nL k : Nat} {x : Int32} {n : Int} {lv : List (Nat × Value)} {lv' : Int32 → List (Nat × Value)} (hdg : decode cc pc = .ok (.iinc i n, 6)) (h : lv_has ls nL lv) (hk : lv[k]? = some (i, .int x)) (hn : i < nL) (hl : ∀ z : Int32, (i, Value.int z) :: lv.filter (fun q => !(q.1 == i) && !(q.1 + 1 == i && q.2.category == 2)) = lv' z)
    (kk : ∀ (z : Int32) (ls' : Array Slot), lv_has ls' nL (lv' z) → W p l e R s m args below meth c H locs cells slots Q (F0 m (pc + 6) ls' rest)) : W p l e R s m args below meth c H locs cells slots Q (F0 m pc ls rest) := lv_iincW hexec hb hdg h hk rfl hn (hl _) (kk _)
theorem mi_iandE (hexec : p.tables.exec = Jvm.exec) (hb : c.code = cc) {x : Int32} {y : Nat} (k0 : Nat) (hdg : decode cc pc = .ok (.iand, 1)) (hm : (nI y).toBitVec.toNat = 2 ^ k0 - 1)
    (k : ∀ z : Nat, z < 2 ^ k0 → x &&& nI y = nI z → W p l e R s m args below meth c H locs cells slots Q (F0 m (pc + 1) ls (.int (nI z) :: rest))) : W p l e R s m args below meth c H locs cells slots Q (F0 m pc ls (.int (nI y) :: .int x :: rest)) := by
  obtain ⟨j, hj, ej⟩ := pk_andE x (m := nI y) k0 hm
  exact lv_iand hexec hb hdg (mi_as ej (k j hj ej))
end RowsW
/-- the ends of the hints' rows, as the class checks them -/
def hgood (mh rows : Nat) (f : Nat → Int32) : Prop := ∀ i, i < rows → ∃ z, z ≤ mh ∧ f (mh + i) &&& nI 255 = nI z
theorem hg_step {mh i z : Nat} {f : Nat → Int32} (h : hgood mh i f) (hz : z ≤ mh) (e : f (mh + i) &&& nI 255 = nI z) : hgood mh (i + 1) f := fun j hj => by
  by_cases q : j = i
  · subst q; exact ⟨z, hz, e⟩
  · exact h j (by omega)
theorem hg_le {mh rows i z : Nat} {f : Nat → Int32} (h : hgood mh rows f) (hi : i < rows) (hm : mh < 256) (hz : z < 256) (e : f (mh + i) &&& nI 255 = nI z) : z ≤ mh := by
  obtain ⟨y, hy, ey⟩ := h i hi
  have := (nI_eq (show z < 2 ^ 31 by omega) (show y < 2 ^ 31 by omega)).mp (e.symm.trans ey)
  omega
theorem nI_dn {n : Nat} : nI (n + 1) - 1 = nI n := by
  rw [nI_succ]
  exact Int32.add_sub_cancel _ _
theorem nI_dm {n : Nat} : nI n + Int32.ofInt (-1) = nI n - 1 := by
  rw [Int32.sub_eq_add_neg]
  rfl
theorem hg_at {mh i rows : Nat} {f : Nat → Int32} (h : hgood mh i f) (e : i = rows) : hgood mh rows f := by subst e; exact h
theorem nar_b {r : Int32} (h : r = nI 0 ∨ r = nI 1) : narrow .boolean (.int r) = .int r := by
  rcases h with rfl | rfl <;> rfl
