/-! constructors: many cells at once; what a constructor leaves alone -/
def pass (T T1 : Ty) (ks : List Knd) : Prop := ∀ k, (grp k ≠ 0 ∧ k ∉ ks) → nk T k → nk T1 k
theorem pass_rf {T : Ty} {ks : List Knd} : pass T T ks := fun _ _ h => h
theorem pass_one {T T0 T1 : Ty} {k0 : Knd} {ks : List Knd} (h : pass T T0 ks) (h1 : ∀ k', k' ≠ k0 → nk T0 k' → nk T1 k') (hk : grp k0 = 0 ∨ k0 ∈ ks) : pass T T1 ks := fun k hk' hn => h1 k (fun e => by
  subst e
  rcases hk with hk | hk
  · exact hk'.1 hk
  · exact hk'.2 hk) (h k hk' hn)
theorem pass_many {T T0 T1 : Ty} {ks : List Knd} (h : pass T T0 ks) (h1 : ∀ k', grp k' ≠ 0 → nk T0 k' → nk T1 k') : pass T T1 ks := fun k hk' hn => h1 k hk'.1 (h k hk' hn)
theorem pass_tr {T T0 T1 : Ty} {ks ks1 : List Knd} (h : pass T T0 ks) (h1 : pass T0 T1 ks1) (hs : ∀ k ∈ ks1, k ∈ ks) : pass T T1 ks := fun k hk' hn => h1 k ⟨hk'.1, fun q => hk'.2 (hs k q)⟩ (h k hk' hn)
theorem nI_2n {z n : Nat} (h : z < n) : z < 2 * n := by omega
theorem outer_arr (c : ClassId) (N h : Nat) : Jvm.Free.Multi.outerC c N h N = arrV c N (fun j => .ref (h + 1 + j)) := by
  obtain ⟨h1, h2, h3⟩ := Jvm.Free.Multi.outerC_facts c N h N
  obtain ⟨h4, h5⟩ := Jvm.Free.Multi.outerC_plain c N h N
  have h6 : (Jvm.Free.Multi.outerC c N h N).slots = Array.ofFn (n := N) fun j => Value.ref (h + 1 + j.val) := by
    apply Array.ext_getElem?
    intro j
    by_cases hj : j < N
    · rw [Jvm.Free.Multi.outerC_slot c N h N j hj, if_pos hj, Array.getElem?_ofFn, dif_pos hj]
    · rw [Array.getElem?_eq_none (by rw [h3]; omega), Array.getElem?_eq_none (by simp; omega)]
  generalize Jvm.Free.Multi.outerC c N h N = C at *
  cases C
  simp only at h1 h2 h4 h5 h6
  subst h1; subst h2; subst h4; subst h5; subst h6
  rfl
theorem inner_arr (c : ClassId) (M : Nat) (v : Value) : Jvm.Free.Multi.innerC c M v = arrV c M (fun _ => v) := by
  unfold Jvm.Free.Multi.innerC arrV
  congr 1
  apply Array.ext_getElem?
  intro j
  by_cases hj : j < M
  · rw [Array.getElem?_ofFn, dif_pos hj, Array.getElem?_replicate, if_pos hj]
  · rw [Array.getElem?_eq_none (by simp; omega), Array.getElem?_eq_none (by simp; omega)]
/-- a cell, and N more behind it, go into the pool -/
theorem grow_many {g : Gd} {T : Ty} {pl X : va_W} {H H1 : Heap} {A : Nat → Prop} {N : Nat} {eO eI : va_E} {kO kI : Knd} (hP : va_P g.1 vcl (X ++ pl) H) (hD : va_D A (X ++ pl)) (hO : okx g T [] pl) (hU : uni T) (gO : grp kO = 0) (gI : grp kI = 0)
    (hI : ∀ T1, kfit g T1 kI eI) (hOu : ∀ T1 : Ty, (∀ j, j < N → T1 (H.size + 1 + j) = some kI) → kfit g T1 kO eO) (hk : ∀ x : Nat, x < H.size → H1[x]? = H[x]?) (a0 : va_at g.1 vcl (H.size, eO) H1) (a1 : ∀ j, j < N → va_at g.1 vcl (H.size + 1 + j, eI) H1) (hA : ∀ q, H.size ≤ q → A q) :
    ∃ (T1 : Ty) (pl1 : va_W), ext T T1 ∧ uni T1 ∧ T1 H.size = some kO ∧ okx g T1 [] pl1 ∧ va_P g.1 vcl (X ++ pl1) H1 ∧ va_D A (X ++ pl1) ∧ ∀ k', grp k' ≠ 0 → nk T k' → nk T1 k' := by
  have hlt : ∀ (k : Nat) (q : Nat × va_E), (X ++ pl)[k]? = some q → q.1 < H.size := fun k q hq => (hP k q hq).lt
  have hTlt : ∀ a k, T a = some k → a < H.size := fun a k ha => by
    obtain ⟨i, e, h1, -⟩ := hO a k ha (fun z => nomatch z)
    exact hlt _ _ (pl_at h1)
  let T1 : Ty := fun a => if a < H.size then T a else if a = H.size then some kO else if a ≤ H.size + N then some kI else none
  have t0 : T1 H.size = some kO := by show (if _ then _ else _) = _; rw [if_neg (Nat.lt_irrefl _), if_pos rfl]
  have tj : ∀ j, j < N → T1 (H.size + 1 + j) = some kI := fun j hj => by show (if _ then _ else _) = _; rw [if_neg (by omega), if_neg (by omega), if_pos (by omega)]
  have hx : ext T T1 := fun a k ha => by show (if _ then _ else _) = _; rw [if_pos (hTlt a k ha)]; exact ha
  have tb : ∀ a k, grp k ≠ 0 → T1 a = some k → T a = some k := fun a k hk' ha => by
    have ha' : (if a < H.size then T a else if a = H.size then some kO else if a ≤ H.size + N then some kI else none) = some k := ha
    by_cases c1 : a < H.size
    · rw [if_pos c1] at ha'; exact ha'
    · rw [if_neg c1] at ha'
      exfalso
      by_cases c2 : a = H.size
      · rw [if_pos c2] at ha'; cases ha'; exact hk' gO
      · rw [if_neg c2] at ha'
        by_cases c3 : a ≤ H.size + N
        · rw [if_pos c3] at ha'; cases ha'; exact hk' gI
        · rw [if_neg c3] at ha'; cases ha'
  let nw : va_W := (List.range (N + 1)).map (fun j => (H.size + j, if j = 0 then eO else eI))
  have nl : nw.length = N + 1 := by simp [nw]
  have ng : ∀ j, j < N + 1 → nw[j]? = some (H.size + j, if j = 0 then eO else eI) := fun j hj => by
    show ((List.range (N + 1)).map _)[j]? = _
    rw [List.getElem?_map, List.getElem?_range hj]
    rfl
  have hall : ∀ (k : Nat) (q : Nat × va_E), (X ++ (pl ++ nw))[k]? = some q → (X ++ pl)[k]? = some q ∨ ∃ j, j < N + 1 ∧ k = (X ++ pl).length + j ∧ q = (H.size + j, if j = 0 then eO else eI) := fun k q hq => by
    rw [← List.append_assoc] at hq
    by_cases c1 : k < (X ++ pl).length
    · rw [List.getElem?_append_left c1] at hq; exact Or.inl hq
    · rw [List.getElem?_append_right (by omega)] at hq
      have hl := (List.getElem?_eq_some_iff.mp hq).1
      rw [nl] at hl
      rw [ng _ hl] at hq
      exact Or.inr ⟨k - (X ++ pl).length, hl, by omega, (Option.some.inj hq).symm⟩
  refine ⟨T1, pl ++ nw, hx, ?_, t0, ?_, ?_, ?_, ?_⟩
  · intro a b k hk' ha hb
    exact hU a b k hk' (tb a k hk' ha) (tb b k hk' hb)
  · intro a k ha _
    have ha' : (if a < H.size then T a else if a = H.size then some kO else if a ≤ H.size + N then some kI else none) = some k := ha
    by_cases c1 : a < H.size
    · rw [if_pos c1] at ha'
      obtain ⟨i, e, h1, h2⟩ := hO a k ha' (fun z => nomatch z)
      exact ⟨i, e, by rw [List.getElem?_append_left (List.getElem?_eq_some_iff.mp h1).1]; exact h1, kfit_ext hx h2⟩
    · rw [if_neg c1] at ha'
      by_cases c2 : a = H.size
      · rw [if_pos c2] at ha'; cases ha'; subst c2
        refine ⟨pl.length, eO, ?_, hOu T1 tj⟩
        rw [List.getElem?_append_right (Nat.le_refl _), Nat.sub_self, ng 0 (by omega)]
        rfl
      · rw [if_neg c2] at ha'
        by_cases c3 : a ≤ H.size + N
        · rw [if_pos c3] at ha'; cases ha'
          refine ⟨pl.length + (a - H.size), eI, ?_, hI T1⟩
          rw [List.getElem?_append_right (by omega), show pl.length + (a - H.size) - pl.length = a - H.size by omega, ng _ (by omega), if_neg (by omega), show H.size + (a - H.size) = a by omega]
        · rw [if_neg c3] at ha'; cases ha'
  · intro k q hq
    rcases hall k q hq with h | ⟨j, hj, -, rfl⟩
    · exact (hP k q h).kept (hk q.1 (hlt k q h))
    · by_cases c1 : j = 0
      · rw [if_pos c1, c1, Nat.add_zero]; exact a0
      · rw [if_neg c1, show H.size + j = H.size + 1 + (j - 1) by omega]; exact a1 (j - 1) (by omega)
  · constructor
    · intro i j p q hi hj he
      rcases hall i p hi with h1 | ⟨i', hi', ei, rfl⟩
      · rcases hall j q hj with h2 | ⟨j', hj', ej, rfl⟩
        · exact hD.1 i j p q h1 h2 he
        · have := hlt i p h1
          simp only at he
          omega
      · rcases hall j q hj with h2 | ⟨j', hj', ej, rfl⟩
        · have := hlt j q h2
          simp only at he
          omega
        · simp only at he
          omega
    · intro k q hq
      rcases hall k q hq with h | ⟨j, hj, -, rfl⟩
      · exact hD.2 k q h
      · exact hA _ (Nat.le_add_right _ _)
  · intro k' hg hn a ha
    exact hn a (tb a k' hg ha)
section RowsM
variable {p : Program} {l : Launch} {e : Env} {R : Room} {s : State} {m : MethodId} {args : Array Value} {below : List Frame} {meth : Method} {c : Code} {H : Heap} {locs : List Loc} {cells slots : Nat} {Q : State → Prop}
variable {cc : ByteArray} {pc : Nat} {ls : Array Slot} {rest st0 : List Value} {g : Gd} {A : Nat → Prop} {X pl : va_W} {H0 : Heap} {T : Ty}
theorem ty_iast9 (hexec : p.tables.exec = Jvm.exec) (hb : c.code = cc) {a : Nat} {xs : List Nat} (hK : va_K g.1 vcl (tyA g.2.1) s) (hO : okx g T xs pl) {n : Nat} (ka : T a = some (9, n)) (hx : a ∉ xs) (hP : va_P g.1 vcl (X ++ pl) H) (hD : va_D A (X ++ pl)) (hS : va_S A H0 H locs) {i x : Nat} (hi : i < n) (hn : n < 2 ^ 31) (hxb : x < 2 * n) (hdg : decode cc pc = .ok (.iastore, 1))
    (kk : ∀ (pl : va_W) (H1 : Heap) (locs1 : List Loc), okx g T xs pl → va_P g.1 vcl (X ++ pl) H1 → va_D A (X ++ pl) → va_S A H0 H1 locs1 → W p l e R s m args below meth c H1 locs1 cells slots Q (F0 m (pc + 1) ls rest)) : W p l e R s m args below meth c H locs cells slots Q (F0 m pc ls (.int (nI x) :: .int (nI i) :: .ref a :: rest)) := by
  obtain ⟨i0, e0, h1, f, rfl, h2⟩ := hO a _ ka hx
  refine va_iast hexec hb hK hP hD hS (X.length + i0) 0 (pl_at h1) rfl (vp_in_nI hi hn) hdg (fun H1 locs1 h3 h4 h5 => ?_)
  rw [pl_set] at h3 h4
  refine kk _ H1 locs1 (okx_set hO ka h1 ⟨_, rfl, fun j hj => ?_⟩) h3 h4 h5
  show ∃ z, z < 2 * n ∧ upd f _ _ j = nI z
  by_cases q : j = (nI i).toNatClampNeg
  · exact ⟨x, hxb, by simp [upd, q]⟩
  · obtain ⟨z, h6, h7⟩ := h2 j hj
    exact ⟨z, h6, by simp [upd, q, h7]⟩
theorem ty_mna (hexec : p.tables.exec = Jvm.exec) (hb : c.code = cc) {own : String} {index : Nat} {ty : FieldType} (hown : s.vm.findClass own = some m.cls) (hclink : (Cond.classLink own index ("[" ++ (FieldType.array ty).toString)).before args s = true) (hover : (Cond.arrayOver (.array ty)).before args s = true) (harr : (Cond.arrayClass ty).before args s = true)
    (hP : va_P g.1 vcl (X ++ pl) H) (hD : va_D A (X ++ pl)) (hS : va_S A H0 H locs) (hA : ∀ q, H0.size ≤ q → A q) (hO : okx g T [] pl) (hU : uni T) (kO kI : Knd) {N' K' : Nat} (gO : grp kO = 0) (gI : grp kI = 0) (hN' : N' < 2 ^ 31) (hK' : K' < 2 ^ 31)
    (a0 : vp_A) (ha : ∀ cA : ClassId, vp_cell cA a0 = arrV cA K' (fun _ => defaultValue ty)) (hI : ∀ (T1 : Ty) (comp : ClassId), s.vm.findClass (FieldType.array ty).toString = some comp → kfit g T1 kI (.inl (comp, a0)))
    (hOu : ∀ (T1 : Ty) (cA : ClassId) (h : Nat), s.vm.findClass ("[" ++ (FieldType.array ty).toString) = some cA → (∀ j, j < N' → T1 (h + 1 + j) = some kI) → kfit g T1 kO (.inl (cA, N', .inr (.inr (.inr (.inr (fun j => some (h + 1 + j))))))))
    (hb1 : N' * 4 ≤ 536870912) (hb2 : K' * componentBytes ty ≤ 536870912) (hb3 : K' ≤ 536870912) (hdf : fits ty (defaultValue ty) = true) (hdd : (defaultValue ty).isDefault = true) (hcells : cells + (1 + N') ≤ R.cells) (hslots : slots + (N' + N' * K') ≤ R.slots) (hdg : decode cc pc = .ok (.multianewarray index 2, 4))
    (kk : ∀ (q : Nat) (T1 : Ty) (pl1 : va_W) (H1 : Heap), ext T T1 → uni T1 → T1 q = some kO → okx g T1 [] pl1 → va_P g.1 vcl (X ++ pl1) H1 → va_D A (X ++ pl1) → va_S A H0 H1 locs → (∀ k', grp k' ≠ 0 → nk T k' → nk T1 k') → W p l e R s m args below meth c H1 locs (cells + 1 + N') (slots + N' + N' * K') Q (F0 m (pc + 4) ls (.ref q :: rest))) : W p l e R s m args below meth c H locs cells slots Q (F0 m pc ls (.int (nI K') :: .int (nI N') :: rest)) := by
  have cN : (nI N').toNatClampNeg = N' := nI_clamp hN'
  have cK : (nI K').toNatClampNeg = K' := nI_clamp hK'
  intro U hT X0
  obtain ⟨vm1, cA, comp, -, hfA, hfC, -, -, X1, st⟩ := X0.multianewarray2F hexec hown hclink hover harr (g := F0 m pc ls (.int (nI K') :: .int (nI N') :: rest)) rfl (by rw [hb]; exact hdg) rfl (nI_pos hN') (nI_pos hK') (by rw [cN]; exact hb1) (by rw [cK]; exact hb2) (by rw [cK]; exact hb3) hdf hdd (by rw [cN]; exact hcells) (by rw [cN, cK]; exact hslots)
  rw [cN, cK] at X1 st
  have hTh : (U.setVm vm1).heap = H := hT
  have ff := Jvm.Free.Multi.fill_facts (U.setVm vm1) cA comp N' K' (defaultValue ty) N'
  have fi := Jvm.Free.Multi.fill_inner (U.setVm vm1) cA comp N' K' (defaultValue ty) N'
  have fo : ∀ x : Nat, x < H.size → (Jvm.Free.Multi.fill (U.setVm vm1) cA comp N' K' (defaultValue ty) N').heap[x]? = H[x]? := fun x hx => by
    have h := Jvm.Free.Multi.fill_old (U.setVm vm1) cA comp N' K' (defaultValue ty) (a := x) (by rw [hTh]; exact hx) N'
    rw [hTh] at h
    exact h
  rw [hTh] at ff fi
  generalize Jvm.Free.Multi.fill (U.setVm vm1) cA comp N' K' (defaultValue ty) N' = F at X1 st ff fi fo
  obtain ⟨T1, pl1, r1, r2, r3, r4, r5, r6, r7⟩ := grow_many (N := N') (eO := .inl (cA, N', .inr (.inr (.inr (.inr (fun j => some (H.size + 1 + j))))))) (eI := .inl (comp, a0)) (H1 := F.heap) hP hD hO hU gO gI
    (fun T1 => hI T1 comp hfC) (fun T1 h1 => hOu T1 cA H.size hfA h1) fo
    (by show F.heap[H.size]? = some (vp_cell cA _); rw [ff.2.1, outer_arr]; rfl)
    (fun j hj => by show F.heap[H.size + 1 + j]? = some (vp_cell comp _); rw [fi j hj, inner_arr, ha]) (fun q hq => hA q (Nat.le_trans hS.1 hq))
  have hUs : U.heap.size = H.size := by rw [← hT]
  obtain ⟨t, a1, b1⟩ := kk H.size T1 pl1 F.heap r1 r2 r3 r4 r5 r6 ⟨Nat.le_trans hS.1 (by rw [ff.1]; omega), fun x h1 h2 => (fo x (Nat.lt_of_lt_of_le h1 hS.1)).trans (hS.2.1 x h1 h2), hS.2.2⟩ r7 F rfl X1
  refine ⟨t, st t ?_, b1⟩
  rw [hUs]
  exact a1
theorem ty_mnai (hexec : p.tables.exec = Jvm.exec) (hb : c.code = cc) {own : String} {index : Nat} (hown : s.vm.findClass own = some m.cls) (hclink : (Cond.classLink own index "[[I").before args s = true) (hover : (Cond.arrayOver (.array .int)).before args s = true) (harr : (Cond.arrayClass .int).before args s = true) (hK : va_K g.1 vcl (tyA g.2.1) s)
    (hP : va_P g.1 vcl (X ++ pl) H) (hD : va_D A (X ++ pl)) (hS : va_S A H0 H locs) (hA : ∀ q, H0.size ≤ q → A q) (hO : okx g T [] pl) (hU : uni T) {N' : Nat} (hN' : N' < 65536) (hcells : cells + (1 + N') ≤ R.cells) (hslots : slots + (N' + N' * 256) ≤ R.slots) (hdg : decode cc pc = .ok (.multianewarray index 2, 4))
    (kk : ∀ (q : Nat) (T1 : Ty) (pl1 : va_W) (H1 : Heap), ext T T1 → uni T1 → T1 q = some (3, N') → okx g T1 [] pl1 → va_P g.1 vcl (X ++ pl1) H1 → va_D A (X ++ pl1) → va_S A H0 H1 locs → (∀ k', grp k' ≠ 0 → nk T k' → nk T1 k') → W p l e R s m args below meth c H1 locs (cells + 1 + N') (slots + N' + N' * 256) Q (F0 m (pc + 4) ls (.ref q :: rest))) : W p l e R s m args below meth c H locs cells slots Q (F0 m pc ls (.int (nI 256) :: .int (nI N') :: rest)) := by
  refine ty_mna (ty := .int) hexec hb hown hclink hover harr hP hD hS hA hO hU (3, N') (0, 256) rfl rfl (by omega) (by decide) (256, .inl (fun _ => 0)) (fun _ => rfl) (fun T1 comp hc => ?_) (fun T1 cA h hc hj => ?_) (by omega) (by decide) (by decide) rfl rfl hcells hslots hdg kk
  · have h1 : s.vm.findClass "[I" = some (g.2.1 0) := (hK.2 0 _ rfl).2
    cases Option.some.inj (h1.symm.trans hc)
    exact ⟨_, rfl⟩
  · have h1 : s.vm.findClass "[[I" = some (g.2.1 6) := (hK.2 6 _ rfl).2
    cases Option.some.inj (h1.symm.trans hc)
    exact ⟨_, rfl, fun j hj' => ⟨_, rfl, hj j hj'⟩⟩
theorem ty_mnab (hexec : p.tables.exec = Jvm.exec) (hb : c.code = cc) {own : String} {index : Nat} (hown : s.vm.findClass own = some m.cls) (hclink : (Cond.classLink own index "[[B").before args s = true) (hover : (Cond.arrayOver (.array .byte)).before args s = true) (harr : (Cond.arrayClass .byte).before args s = true) (hK : va_K g.1 vcl (tyA g.2.1) s)
    (hP : va_P g.1 vcl (X ++ pl) H) (hD : va_D A (X ++ pl)) (hS : va_S A H0 H locs) (hA : ∀ q, H0.size ≤ q → A q) (hO : okx g T [] pl) (hU : uni T) {K' : Nat} (hK' : K' < 65536) (hcells : cells + (1 + 8) ≤ R.cells) (hslots : slots + (8 + 8 * K') ≤ R.slots) (hdg : decode cc pc = .ok (.multianewarray index 2, 4))
    (kk : ∀ (q : Nat) (T1 : Ty) (pl1 : va_W) (H1 : Heap), ext T T1 → uni T1 → T1 q = some (4, K') → okx g T1 [] pl1 → va_P g.1 vcl (X ++ pl1) H1 → va_D A (X ++ pl1) → va_S A H0 H1 locs → (∀ k', grp k' ≠ 0 → nk T k' → nk T1 k') → W p l e R s m args below meth c H1 locs (cells + 1 + 8) (slots + 8 + 8 * K') Q (F0 m (pc + 4) ls (.ref q :: rest))) : W p l e R s m args below meth c H locs cells slots Q (F0 m pc ls (.int (nI K') :: .int (nI 8) :: rest)) := by
  refine ty_mna (ty := .byte) hexec hb hown hclink hover harr hP hD hS hA hO hU (4, K') (1, K') rfl rfl (by decide) (by omega) (K', .inl (fun _ => 0)) (fun _ => rfl) (fun T1 comp hc => ?_) (fun T1 cA h hc hj => ?_) (by decide) (by show K' * 1 ≤ _; omega) (by omega) rfl rfl hcells hslots hdg kk
  · have h1 : s.vm.findClass "[B" = some (g.2.1 1) := (hK.2 1 _ rfl).2
    cases Option.some.inj (h1.symm.trans hc)
    exact ⟨_, rfl, byt_0⟩
  · have h1 : s.vm.findClass "[[B" = some (g.2.1 7) := (hK.2 7 _ rfl).2
    cases Option.some.inj (h1.symm.trans hc)
    exact ⟨_, rfl, fun j hj' => ⟨_, rfl, hj j hj'⟩⟩
end RowsM
