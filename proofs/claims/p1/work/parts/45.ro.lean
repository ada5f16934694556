/-! methods that write nothing: their callers' books stay as they were; answers that are null -/
section RowsR
variable {p : Program} {l : Launch} {e : Env} {R : Room} {s : State} {m : MethodId} {args : Array Value} {below : List Frame} {meth : Method} {c : Code} {H : Heap} {locs : List Loc} {cells slots : Nat} {Q : State → Prop}
variable {cc : ByteArray} {pc : Nat} {ls : Array Slot} {rest st0 : List Value} {D : va_G} {cl : List vw_C} {A : Nat → Prop} {a : Nat} {tys : List (ClassId × FieldType)} {ws : va_W} {H0 : Heap}
theorem mr_iret {S : Type} {post : Int32 → S → Prop} {w1 : S → va_W} {mc ms : Nat} {v : Int32} (hexec : p.tables.exec = Jvm.exec) (hb : c.code = cc) (hr : meth.sig.returnType = some .int) (hlocks : meth.locks = false) (hP : va_P D cl ws H) (hD : va_D A ws) (hS : va_S A s.heap H []) (u : S) (hu : post v u) (is : List Nat) (hw : is.map (fun i => ws[i]?) = (w1 u).map some) (hn : va_nd is = true) (hc : cells ≤ mc) (hs : slots ≤ ms) (hdg : decode cc pc = .ok (.ireturn, 1)) :
    W p l e R s m args below meth c H [] cells slots (MQ below (va_Qi post (po D cl A w1) A) args s mc ms (fun _ => False)) (F0 m pc ls [.int v]) :=
  W.widen hc hs (W.iret hexec hb hr (fun t ht _ => ⟨⟨v, u, rfl, hu, by rw [ht]; exact md_sub hP is hw, hD.sub is hn hw⟩, hS.F ht⟩) (fun q h => nomatch h) hdg hlocks)
theorem mr_zret {S : Type} {post : Int32 → S → Prop} {w1 : S → va_W} {mc ms : Nat} {v : Int32} (hexec : p.tables.exec = Jvm.exec) (hb : c.code = cc) (hr : meth.sig.returnType = some .boolean) (hlocks : meth.locks = false) (hv : narrow .boolean (.int v) = .int v) (hP : va_P D cl ws H) (hD : va_D A ws) (hS : va_S A s.heap H []) (u : S) (hu : post v u) (is : List Nat) (hw : is.map (fun i => ws[i]?) = (w1 u).map some) (hn : va_nd is = true) (hc : cells ≤ mc) (hs : slots ≤ ms) (hdg : decode cc pc = .ok (.ireturn, 1)) :
    W p l e R s m args below meth c H [] cells slots (MQ below (va_Qi post (po D cl A w1) A) args s mc ms (fun _ => False)) (F0 m pc ls [.int v]) :=
  W.widen hc hs (W.zret hexec hb hr hv (fun t ht _ => ⟨⟨v, u, rfl, hu, by rw [ht]; exact md_sub hP is hw, hD.sub is hn hw⟩, hS.F ht⟩) (fun q h => nomatch h) hdg hlocks)
theorem mr_nret {S : Type} {w1 : S → va_W} {mc ms : Nat} {rt : FieldType} (hexec : p.tables.exec = Jvm.exec) (hb : c.code = cc) (hr : meth.sig.returnType = some rt) (hrt : (∃ n, rt = .object n) ∨ ∃ t, rt = .array t) (hlocks : meth.locks = false) (hP : va_P D cl ws H) (hD : va_D A ws) (hS : va_S A s.heap H []) (u : S) (is : List Nat) (hw : is.map (fun i => ws[i]?) = (w1 u).map some) (hn : va_nd is = true) (hc : cells ≤ mc) (hs : slots ≤ ms) (hdg : decode cc pc = .ok (.areturn, 1)) :
    W p l e R s m args below meth c H [] cells slots (MQ below (va_Qq (fun r _ => r = none) (po D cl A w1) A) args s mc ms (fun _ => False)) (F0 m pc ls [.null]) :=
  W.widen hc hs (W.aret hexec hb hr hrt (Or.inl rfl) (fun t ht _ => ⟨⟨none, u, rfl, rfl, by rw [ht]; exact md_sub hP is hw, hD.sub is hn hw⟩, hS.F ht⟩) (fun q h => nomatch h) hdg hlocks)
theorem mr_frame {T' t st₀ : State} (h0 : st₀.heap = H) (e1 : T'.heap = t.heap) {wc : va_W} (hS : va_S A s.heap H locs) (hF : ∀ q, va_A wc H.size q → A q) (hk : va_F (va_A wc H.size) st₀ t) : (∀ q : Nat, q < H.size → ¬ va_A wc H.size q → T'.heap[q]? = H[q]?) ∧ va_S A s.heap T'.heap locs := by
  obtain ⟨hz, hk⟩ := hk
  rw [h0] at hz hk
  have hk9 : ∀ q : Nat, q < H.size → ¬ va_A wc H.size q → T'.heap[q]? = H[q]? := fun q h1 h2 => by rw [e1]; exact hk q h1 h2
  exact ⟨hk9, Nat.le_trans hS.1 (by rw [e1]; exact hz), fun q h1 h2 => (hk9 q (Nat.lt_of_lt_of_le h1 hS.1) (fun z => h2 (hF q z))).trans (hS.2.1 q h1 h2), hS.2.2⟩
theorem mr_i {S : Type} {post : Int32 → S → Prop} {w1 : S → va_W} {wc wr : va_W} {mc ms : Nat} {av : Array Value} (hP : va_P D cl ws H) (hD : va_D A ws) (hS : va_S A s.heap H locs) (hA : ∀ q, s.heap.size ≤ q → A q) (isC isR : List Nat) (hC : isC.map (fun i => ws[i]?) = wc.map some) (hR : isR.map (fun i => ws[i]?) = wr.map some) (hn : va_nd isR = true) (hdis : ∀ i ∈ isR, i ∉ isC)
    (hr : va_Run p l e R s m args below meth c H locs cells slots mc ms (F0 m pc ls st0) rest (va_Qi post (po D cl (va_A wc H.size) w1) (va_A wc H.size) av) (fun _ => False))
    (kk : ∀ (r : Int32) (u : S) (H1 : Heap), post r u → va_P D cl (wr ++ w1 u) H1 → va_D A (wr ++ w1 u) → va_S A s.heap H1 locs → W p l e R s m args below meth c H1 locs (cells + mc) (slots + ms) Q (F0 m (pc + 3) ls (.int r :: rest))) : W p l e R s m args below meth c H locs cells slots Q (F0 m pc ls st0) := by
  have hF := va_free hD hS hA isC hC
  intro T hT X
  obtain ⟨v, st₀, t, T', L, h0, X', hL, e1, e2, ⟨⟨r, u, hv, hp, hB⟩, hk⟩, st⟩ := hr T hT X
  cases hv
  have hL0 : L = [] := List.eq_nil_iff_forall_not_mem.mpr (fun q hq => hL q hq)
  subst hL0
  rw [List.append_nil] at X'
  obtain ⟨k1, k2⟩ := mr_frame (wc := wc) h0 e1 hS hF hk
  obtain ⟨hP1, hD1⟩ := hB
  rw [← e1] at hP1
  obtain ⟨hP2, hD2⟩ := va_join hP hD isC isR hC hR hn hdis k1 hF hP1 hD1
  obtain ⟨t2, a1, b1⟩ := kk r u T'.heap hp hP2 hD2 k2 T' rfl X'
  exact ⟨t2, st t2 a1, b1⟩
theorem mr_n {S : Type} {w1 : S → va_W} {wc wr : va_W} {mc ms : Nat} {av : Array Value} (hP : va_P D cl ws H) (hD : va_D A ws) (hS : va_S A s.heap H locs) (hA : ∀ q, s.heap.size ≤ q → A q) (isC isR : List Nat) (hC : isC.map (fun i => ws[i]?) = wc.map some) (hR : isR.map (fun i => ws[i]?) = wr.map some) (hn : va_nd isR = true) (hdis : ∀ i ∈ isR, i ∉ isC)
    (hr : va_Run p l e R s m args below meth c H locs cells slots mc ms (F0 m pc ls st0) rest (va_Qq (fun r (_ : S) => r = none) (po D cl (va_A wc H.size) w1) (va_A wc H.size) av) (fun _ => False))
    (kk : ∀ (u : S) (H1 : Heap), va_P D cl (wr ++ w1 u) H1 → va_D A (wr ++ w1 u) → va_S A s.heap H1 locs → W p l e R s m args below meth c H1 locs (cells + mc) (slots + ms) Q (F0 m (pc + 3) ls (.null :: rest))) : W p l e R s m args below meth c H locs cells slots Q (F0 m pc ls st0) := by
  have hF := va_free hD hS hA isC hC
  intro T hT X
  obtain ⟨v, st₀, t, T', L, h0, X', hL, e1, e2, ⟨⟨r, u, hv, hp, hB⟩, hk⟩, st⟩ := hr T hT X
  subst hp
  cases hv
  have hL0 : L = [] := List.eq_nil_iff_forall_not_mem.mpr (fun q hq => hL q hq)
  subst hL0
  rw [List.append_nil] at X'
  obtain ⟨k1, k2⟩ := mr_frame (wc := wc) h0 e1 hS hF hk
  obtain ⟨hP1, hD1⟩ := hB
  rw [← e1] at hP1
  obtain ⟨hP2, hD2⟩ := va_join hP hD isC isR hC hR hn hdis k1 hF hP1 hD1
  obtain ⟨t2, a1, b1⟩ := kk u T'.heap hP2 hD2 k2 T' rfl X'
  exact ⟨t2, st t2 a1, b1⟩
end RowsR
