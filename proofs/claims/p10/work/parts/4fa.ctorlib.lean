set_option linter.all false
/-! the constructors by contents: every new cell gets its name; the store that they leave is all zero -/
/-- the class's sponges -/
def spn (k : Nat) : Bool := decide (k = 12) || decide (k = 14) || decide (k = 16) || decide (k = 18)
def Z0 : Sto := (fun k j => if spn k = true then (if j = 1 then nI 136 else if j = 2 then nI 6 else 0) else 0, fun _ _ => 0)
theorem spn_not {k : Nat} (h : (nsp k).1 ≠ 5) : spn k = false := by
  cases e : spn k with
  | false => rfl
  | true =>
    exfalso
    simp only [spn, Bool.or_eq_true, decide_eq_true_eq] at e
    rcases e with ((e | e) | e) | e
    · subst e; exact h rfl
    · subst e; exact h rfl
    · subst e; exact h rfl
    · subst e; exact h rfl
theorem Z0_at {k j : Nat} (h : (nsp k).1 ≠ 5) : Z0.1 k j = 0 := by
  show (if spn k = true then _ else (0 : Int32)) = 0
  rw [spn_not h]
  rfl
def inL (k : Nat) (L : List (Nat × Nat)) : Bool := L.any (fun r => decide (r.1 ≤ k) && decide (k < r.2))
theorem inL_cons {k a b : Nat} {L : List (Nat × Nat)} : inL k ((a, b) :: L) = ((decide (a ≤ k) && decide (k < b)) || inL k L) := rfl
theorem inL_one {k k0 : Nat} {L : List (Nat × Nat)} : inL k ((k0, k0 + 1) :: L) = true ↔ k = k0 ∨ inL k L = true := by
  rw [inL_cons, Bool.or_eq_true, Bool.and_eq_true, decide_eq_true_eq, decide_eq_true_eq]
  constructor
  · rintro (h | h)
    · exact Or.inl (by omega)
    · exact Or.inr h
  · rintro (h | h)
    · exact Or.inl (by omega)
    · exact Or.inr h
theorem inL_rng {k a b : Nat} {L : List (Nat × Nat)} : inL k ((a, b) :: L) = true ↔ (a ≤ k ∧ k < b) ∨ inL k L = true := by
  rw [inL_cons, Bool.or_eq_true, Bool.and_eq_true, decide_eq_true_eq, decide_eq_true_eq]
/-- the names that are there are those of L -/
def nmL (T : TyN) (L : List (Nat × Nat)) : Prop := (∀ a k : Nat, T a = some k → inL k L = true) ∧ ∀ k : Nat, inL k L = true → ∃ a : Nat, T a = some k
theorem nmL_fr {T : TyN} {L : List (Nat × Nat)} {k : Nat} (h : nmL T L) (hk : inL k L = false) : frT T k := fun a ha => by
  have := h.1 a k ha
  rw [hk] at this
  cases this
theorem nmL_full {T : TyN} {L : List (Nat × Nat)} (h : nmL T L) (hL : (List.range 379).all (fun k => inL k L) = true) : FULL T := fun k hk => h.2 k (List.all_eq_true.mp hL k (List.mem_range.mpr hk))
theorem nmL_low {T : TyN} {L : List (Nat × Nat)} (h : nmL T L) (hL : L.all (fun r => decide (r.2 ≤ 379)) = true) : lowT T 379 := fun a k ha => by
  obtain ⟨r, hr, h2⟩ := List.any_eq_true.mp (h.1 a k ha)
  have h3 := of_decide_eq_true (List.all_eq_true.mp hL r hr)
  rw [Bool.and_eq_true, decide_eq_true_eq, decide_eq_true_eq] at h2
  omega
/-- the newest cell goes into the pool, others stand beside it -/
theorem absorbX {g : Gd} {T : TyN} {pl X : va_W} {H : Heap} {A : Nat → Prop} {q : Nat} {e : va_E} {L : List (Nat × Nat)} (k : Nat) (hP : va_P g.1 vcl ((X ++ pl) ++ [(q, e)]) H) (hD : va_D A ((X ++ pl) ++ [(q, e)])) (hO : okn g T Z0 pl) (hU : inj T) (hL : nmL T L) (hk : inL k L = false) (he : ∀ T1, extN T T1 → T1 q = some k → nfit g T1 Z0 k e) :
    ∃ (T1 : TyN) (pl1 : va_W), extN T T1 ∧ inj T1 ∧ T1 q = some k ∧ okn g T1 Z0 pl1 ∧ va_P g.1 vcl (X ++ pl1) H ∧ va_D A (X ++ pl1) ∧ nmL T1 ((k, k + 1) :: L) := by
  have hf := nmL_fr hL hk
  have hq : T q = none := okn_none hO hD
  have hx : extN T (tnU T q k) := fun a k' ha => by
    rw [tnU_ne (fun e9 => by rw [e9, hq] at ha; cases ha)]
    exact ha
  refine ⟨tnU T q k, pl ++ [(q, e)], hx, ?_, tnU_at, ?_, ?_, ?_, ?_, ?_⟩
  · intro a b k' ha hb
    by_cases h1 : a = q
    · by_cases h2 : b = q
      · rw [h1, h2]
      · exfalso
        subst h1
        rw [tnU_at] at ha
        rw [tnU_ne h2] at hb
        cases ha
        exact hf b hb
    · by_cases h2 : b = q
      · exfalso
        subst h2
        rw [tnU_at] at hb
        rw [tnU_ne h1] at ha
        cases hb
        exact hf a ha
      · rw [tnU_ne h1] at ha
        rw [tnU_ne h2] at hb
        exact hU a b k' ha hb
  · intro a k' ha
    by_cases h1 : a = q
    · subst h1
      rw [tnU_at] at ha
      cases ha
      exact ⟨pl.length, e, by rw [List.getElem?_append_right (Nat.le_refl _), Nat.sub_self]; rfl, he _ hx tnU_at⟩
    · rw [tnU_ne h1] at ha
      obtain ⟨i, e1, h2, h3⟩ := hO a k' ha
      exact ⟨i, e1, by rw [List.getElem?_append_left (List.getElem?_eq_some_iff.mp h2).1]; exact h2, nfit_ext hx h3⟩
  · rw [← List.append_assoc]; exact hP
  · rw [← List.append_assoc]; exact hD
  · intro a k' ha
    rw [inL_one]
    by_cases h1 : a = q
    · subst h1
      rw [tnU_at] at ha
      cases ha
      exact Or.inl rfl
    · rw [tnU_ne h1] at ha
      exact Or.inr (hL.1 a k' ha)
  · intro k' hk'
    rcases inL_one.mp hk' with h1 | h1
    · exact ⟨q, by rw [h1]; exact tnU_at⟩
    · obtain ⟨a, ha⟩ := hL.2 k' h1
      exact ⟨a, hx a k' ha⟩
/-- new arrays -/
theorem fit0 {g : Gd} {T : TyN} {k n : Nat} (hk : nsp k = (0, n, [])) : nfit g T Z0 k (.inl (g.2.1 0, n, .inl (fun _ => 0))) := nfit_mk hk ⟨_, rfl, fun _ _ => (Z0_at (by rw [hk]; show (0 : Nat) ≠ 5; decide)).symm⟩
theorem fit1 {g : Gd} {T : TyN} {k n : Nat} (hk : nsp k = (1, n, [])) : nfit g T Z0 k (.inl (g.2.1 1, n, .inl (fun _ => 0))) := nfit_mk hk ⟨_, rfl, fun _ _ => (Z0_at (by rw [hk]; show (1 : Nat) ≠ 5; decide)).symm, byt_0⟩
theorem fit2 {g : Gd} {T : TyN} {k n : Nat} (hk : nsp k = (2, n, [])) : nfit g T Z0 k (.inl (g.2.1 2, n, .inr (.inl (fun _ => 0)))) := nfit_mk hk ⟨_, rfl, fun _ _ => rfl⟩
theorem fit8 {g : Gd} {T : TyN} {k n b : Nat} (hk : nsp k = (8, n, [(0, b)])) : nfit g T Z0 k (.inl (g.2.1 5, n, .inr (.inr (.inr (.inr (fun _ => none)))))) := nfit_mk hk ⟨_, rfl, fun _ _ => Or.inl ⟨(Z0_at (by rw [hk]; show (8 : Nat) ≠ 5; decide)), rfl⟩⟩
theorem fit10 {g : Gd} {T : TyN} {k n : Nat} {f : Nat → Int64} (hk : nsp k = (10, n, [])) : nfit g T Z0 k (.inl (g.2.1 2, n, .inr (.inl f))) := nfit_mk hk ⟨_, rfl⟩
theorem fit11 {g : Gd} {T : TyN} {k n d : Nat} {f : Nat → Int32} (hk : nsp k = (11, n, [(0, d)])) (hf : ∀ j, j < n → f j = ctI d j) : nfit g T Z0 k (.inl (g.2.1 0, n, .inl f)) := nfit_mk hk ⟨_, rfl, hf⟩
theorem fit12 {g : Gd} {T : TyN} {k n d : Nat} {f : Nat → Int64} (hk : nsp k = (12, n, [(0, d)])) (hf : ∀ j, j < n → f j = ctL d j) : nfit g T Z0 k (.inl (g.2.1 2, n, .inr (.inl f))) := nfit_mk hk ⟨_, rfl, hf⟩
/-- a new object: its fields one by one -/
def nfds (T : TyN) (fi : Nat → Int32) (fl : Nat → Int64) (j : Nat) : List (Nat × Nat) → List Value → Prop
  | [], [] => True
  | c :: cs, v :: vs => nfd T fi fl j c v ∧ nfds T fi fl (j + 1) cs vs
  | _, _ => False
theorem nfds_at {T : TyN} {fi : Nat → Int32} {fl : Nat → Int64} : ∀ (cs : List (Nat × Nat)) (vs : List Value) (j0 : Nat), nfds T fi fl j0 cs vs → vs.length = cs.length ∧ ∀ (j : Nat) (c : Nat × Nat), cs[j]? = some c → ∃ v, vs[j]? = some v ∧ nfd T fi fl (j0 + j) c v
  | [], [], _, _ => ⟨rfl, fun j c h => by simp at h⟩
  | c :: cs, v :: vs, j0, h => by
    obtain ⟨h1, h2⟩ := h
    obtain ⟨h3, h4⟩ := nfds_at cs vs (j0 + 1) h2
    refine ⟨by simp [h3], fun j c1 hj => ?_⟩
    match j, hj with
    | 0, hj => have e : c = c1 := Option.some.inj hj; subst e; exact ⟨v, rfl, h1⟩
    | j + 1, hj =>
      obtain ⟨v1, e1, e2⟩ := h4 j c1 hj
      exact ⟨v1, e1, by rw [show j0 + (j + 1) = j0 + 1 + j by omega]; exact e2⟩
  | [], _ :: _, _, h => h.elim
  | _ :: _, [], _, h => h.elim
theorem fit5 {g : Gd} {T : TyN} {k ci : Nat} {fl : List (Nat × Nat)} {vs : List Value} (hk : nsp k = (5, ci, fl)) (h : nfds T (Z0.1 k) (Z0.2 k) 0 fl vs) : nfit g T Z0 k (.inr (ci, vs)) := by
  obtain ⟨h1, h2⟩ := nfds_at fl vs 0 h
  refine nfit_mk hk ⟨vs, rfl, h1, fun j c hc => ?_⟩
  obtain ⟨v, e1, e2⟩ := h2 j c hc
  rw [Nat.zero_add] at e2
  exact ⟨v, e1, e2⟩
/-- a row of sets -/
theorem fit67 {g : Gd} {T : TyN} {k n b t : Nat} {f : Nat → Option Nat} (hk : nsp k = (t, n, [(0, b)])) (h : (t = 6 ∧ ∀ j, j < n → ∃ r, f j = some r ∧ T r = some (b + j)) ∨ (t = 7 ∧ ∀ j, j < n → ∃ r, f j = some r ∧ T r = some (b + j))) : nfit g T Z0 k (.inl (g.2.1 (if t = 6 then 3 else 4), n, .inr (.inr (.inr (.inr f))))) := by
  rcases h with ⟨rfl, h⟩ | ⟨rfl, h⟩
  · exact nfit_mk hk ⟨f, rfl, h⟩
  · exact nfit_mk hk ⟨f, rfl, h⟩
theorem outer_arr (c : ClassId) (N h : Nat) : Jvm.Free.Multi.outerC c N h N = arrV c N (fun j => .ref (h + 1 + j)) := by
  obtain ⟨h1, h2, h3⟩ := Jvm.Free.Multi.outerC_facts c N h N
  obtain ⟨h4, h5⟩ := Jvm.Free.Multi.outerC_plain c N h N
  have h6 : (Jvm.Free.Multi.outerC c N h N).slots = Array.ofFn (n := N) fun j => Value.ref (h + 1 + j.val) := by
    apply Array.ext_getElem?
    intro j
    by_cases hj : j < N
    · rw [Jvm.Free.Multi.outerC_slot c N h N j hj, if_pos hj, Array.getElem?_ofFn, dif_pos hj]
    · rw [Array.getElem?_eq_none (by rw [h3]; omega), Array.getElem?_eq_none (by simp; omega)]
  generalize Jvm.Free.Multi.outerC c N h N = C at *
  cases C
  simp only at h1 h2 h4 h5 h6
  subst h1; subst h2; subst h4; subst h5; subst h6
  rfl
theorem inner_arr (c : ClassId) (M : Nat) (v : Value) : Jvm.Free.Multi.innerC c M v = arrV c M (fun _ => v) := by
  unfold Jvm.Free.Multi.innerC arrV
  congr 1
  apply Array.ext_getElem?
  intro j
  by_cases hj : j < M
  · rw [Array.getElem?_ofFn, dif_pos hj, Array.getElem?_replicate, if_pos hj]
  · rw [Array.getElem?_eq_none (by simp; omega), Array.getElem?_eq_none (by simp; omega)]
/-- a cell, and N more behind it, go into the pool, under k0 and the N names behind it -/
theorem grow_manyN {g : Gd} {T : TyN} {pl X : va_W} {H H1 : Heap} {A : Nat → Prop} {N k0 : Nat} {Ls : List (Nat × Nat)} {eO eI : va_E} (hP : va_P g.1 vcl (X ++ pl) H) (hD : va_D A (X ++ pl)) (hO : okn g T Z0 pl) (hU : inj T) (hL : nmL T Ls) (hk0 : ∀ j, j ≤ N → inL (k0 + j) Ls = false)
    (hI : ∀ (T1 : TyN) (j : Nat), j < N → nfit g T1 Z0 (k0 + 1 + j) eI) (hOu : ∀ T1 : TyN, (∀ j, j < N → T1 (H.size + 1 + j) = some (k0 + 1 + j)) → nfit g T1 Z0 k0 eO) (hk : ∀ x : Nat, x < H.size → H1[x]? = H[x]?) (a0 : va_at g.1 vcl (H.size, eO) H1) (a1 : ∀ j, j < N → va_at g.1 vcl (H.size + 1 + j, eI) H1) (hA : ∀ q, H.size ≤ q → A q) :
    ∃ (T1 : TyN) (pl1 : va_W), extN T T1 ∧ inj T1 ∧ T1 H.size = some k0 ∧ okn g T1 Z0 pl1 ∧ va_P g.1 vcl (X ++ pl1) H1 ∧ va_D A (X ++ pl1) ∧ nmL T1 ((k0, k0 + N + 1) :: Ls) := by
  have hlt : ∀ (k : Nat) (q : Nat × va_E), (X ++ pl)[k]? = some q → q.1 < H.size := fun k q hq => (hP k q hq).lt
  have hTlt : ∀ a k, T a = some k → a < H.size := fun a k ha => by
    obtain ⟨i, e, h1, -⟩ := hO a k ha
    exact hlt _ _ (pl_at h1)
  have hTk : ∀ a k, T a = some k → ¬ (k0 ≤ k ∧ k ≤ k0 + N) := fun a k ha q => by
    have h1 := hL.1 a k ha
    have h2 := hk0 (k - k0) (by omega)
    rw [show k0 + (k - k0) = k by omega, h1] at h2
    cases h2
  let T1 : TyN := fun a => if a < H.size then T a else if a ≤ H.size + N then some (k0 + (a - H.size)) else none
  have tj : ∀ j, j ≤ N → T1 (H.size + j) = some (k0 + j) := fun j hj => by show (if _ then _ else _) = _; rw [if_neg (by omega), if_pos (by omega), show H.size + j - H.size = j by omega]
  have hx : extN T T1 := fun a k ha => by show (if _ then _ else _) = _; rw [if_pos (hTlt a k ha)]; exact ha
  have tb : ∀ a k, T1 a = some k → (T a = some k ∧ a < H.size) ∨ (H.size ≤ a ∧ a ≤ H.size + N ∧ k = k0 + (a - H.size)) := fun a k ha => by
    have ha' : (if a < H.size then T a else if a ≤ H.size + N then some (k0 + (a - H.size)) else none) = some k := ha
    by_cases c1 : a < H.size
    · rw [if_pos c1] at ha'; exact Or.inl ⟨ha', c1⟩
    · rw [if_neg c1] at ha'
      by_cases c3 : a ≤ H.size + N
      · rw [if_pos c3] at ha'; exact Or.inr ⟨by omega, c3, (Option.some.inj ha').symm⟩
      · rw [if_neg c3] at ha'; cases ha'
  let nw : va_W := (List.range (N + 1)).map (fun j => (H.size + j, if j = 0 then eO else eI))
  have nl : nw.length = N + 1 := by simp [nw]
  have ng : ∀ j, j < N + 1 → nw[j]? = some (H.size + j, if j = 0 then eO else eI) := fun j hj => by
    show ((List.range (N + 1)).map _)[j]? = _
    rw [List.getElem?_map, List.getElem?_range hj]
    rfl
  have hall : ∀ (k : Nat) (q : Nat × va_E), (X ++ (pl ++ nw))[k]? = some q → (X ++ pl)[k]? = some q ∨ ∃ j, j < N + 1 ∧ k = (X ++ pl).length + j ∧ q = (H.size + j, if j = 0 then eO else eI) := fun k q hq => by
    rw [← List.append_assoc] at hq
    by_cases c1 : k < (X ++ pl).length
    · rw [List.getElem?_append_left c1] at hq; exact Or.inl hq
    · rw [List.getElem?_append_right (by omega)] at hq
      have hl := (List.getElem?_eq_some_iff.mp hq).1
      rw [nl] at hl
      rw [ng _ hl] at hq
      exact Or.inr ⟨k - (X ++ pl).length, hl, by omega, (Option.some.inj hq).symm⟩
  refine ⟨T1, pl ++ nw, hx, ?_, (by have := tj 0 (by omega); rw [Nat.add_zero, Nat.add_zero] at this; exact this), ?_, ?_, ?_, ?_, ?_⟩
  · intro a b k ha hb
    rcases tb a k ha with ⟨h1, h1'⟩ | ⟨h1, h2, h3⟩
    · rcases tb b k hb with ⟨h4, h4'⟩ | ⟨h4, h5, h6⟩
      · exact hU a b k h1 h4
      · exact absurd ⟨by omega, by omega⟩ (hTk a k h1)
    · rcases tb b k hb with ⟨h4, h4'⟩ | ⟨h4, h5, h6⟩
      · exact absurd ⟨by omega, by omega⟩ (hTk b k h4)
      · omega
  · intro a k ha
    rcases tb a k ha with ⟨h1, h1'⟩ | ⟨h1, h2, h3⟩
    · obtain ⟨i, e, h4, h5⟩ := hO a k h1
      exact ⟨i, e, by rw [List.getElem?_append_left (List.getElem?_eq_some_iff.mp h4).1]; exact h4, nfit_ext hx h5⟩
    · subst h3
      refine ⟨pl.length + (a - H.size), if a - H.size = 0 then eO else eI, ?_, ?_⟩
      · rw [List.getElem?_append_right (by omega), show pl.length + (a - H.size) - pl.length = a - H.size by omega, ng _ (by omega), show H.size + (a - H.size) = a by omega]
      · by_cases c1 : a - H.size = 0
        · rw [if_pos c1, c1, Nat.add_zero]
          exact hOu T1 (fun j hj => by have := tj (1 + j) (by omega); rw [← Nat.add_assoc, ← Nat.add_assoc] at this; exact this)
        · rw [if_neg c1, show k0 + (a - H.size) = k0 + 1 + (a - H.size - 1) by omega]
          exact hI T1 _ (by omega)
  · intro k q hq
    rcases hall k q hq with h | ⟨j, hj, -, rfl⟩
    · exact (hP k q h).kept (hk q.1 (hlt k q h))
    · by_cases c1 : j = 0
      · rw [if_pos c1, c1, Nat.add_zero]; exact a0
      · rw [if_neg c1, show H.size + j = H.size + 1 + (j - 1) by omega]; exact a1 (j - 1) (by omega)
  · constructor
    · intro i j p q hi hj he
      rcases hall i p hi with h1 | ⟨i', hi', ei, rfl⟩
      · rcases hall j q hj with h2 | ⟨j', hj', ej, rfl⟩
        · exact hD.1 i j p q h1 h2 he
        · have := hlt i p h1
          simp only at he
          omega
      · rcases hall j q hj with h2 | ⟨j', hj', ej, rfl⟩
        · have := hlt j q h2
          simp only at he
          omega
        · simp only at he
          omega
    · intro k q hq
      rcases hall k q hq with h | ⟨j, hj, -, rfl⟩
      · exact hD.2 k q h
      · exact hA _ (Nat.le_add_right _ _)
  · intro a k ha
    rw [inL_rng]
    rcases tb a k ha with ⟨h1, h1'⟩ | ⟨h1, h2, h3⟩
    · exact Or.inr (hL.1 a k h1)
    · exact Or.inl (by omega)
  · intro k hk'
    rcases inL_rng.mp hk' with ⟨h1, h2⟩ | h1
    · exact ⟨H.size + (k - k0), by rw [tj (k - k0) (by omega), show k0 + (k - k0) = k by omega]⟩
    · obtain ⟨a, ha⟩ := hL.2 k h1
      exact ⟨a, hx a k ha⟩
section RowsMN
variable {p : Program} {l : Launch} {e : Env} {R : Room} {s : State} {m : MethodId} {args : Array Value} {below : List Frame} {meth : Method} {c : Code} {H : Heap} {locs : List Loc} {cells slots : Nat} {Q : State → Prop}
variable {cc : ByteArray} {pc : Nat} {ls : Array Slot} {rest st0 : List Value} {g : Gd} {A : Nat → Prop} {X pl : va_W} {H0 : Heap} {T : TyN} {Ls : List (Nat × Nat)}
theorem nm_mna (hexec : p.tables.exec = Jvm.exec) (hb : c.code = cc) {own : String} {index : Nat} {ty : FieldType} (hown : s.vm.findClass own = some m.cls) (hclink : (Cond.classLink own index ("[" ++ (FieldType.array ty).toString)).before args s = true) (hover : (Cond.arrayOver (.array ty)).before args s = true) (harr : (Cond.arrayClass ty).before args s = true)
    (hP : va_P g.1 vcl (X ++ pl) H) (hD : va_D A (X ++ pl)) (hS : va_S A H0 H locs) (hA : ∀ q, H0.size ≤ q → A q) (hO : okn g T Z0 pl) (hU : inj T) (hL : nmL T Ls) (k0 : Nat) {N' K' : Nat} (hk0 : ∀ j, j ≤ N' → inL (k0 + j) Ls = false) (hN' : N' < 2 ^ 31) (hK' : K' < 2 ^ 31)
    (a0 : vp_A) (ha : ∀ cA : ClassId, vp_cell cA a0 = arrV cA K' (fun _ => defaultValue ty)) (hI : ∀ (T1 : TyN) (comp : ClassId), s.vm.findClass (FieldType.array ty).toString = some comp → ∀ j, j < N' → nfit g T1 Z0 (k0 + 1 + j) (.inl (comp, a0)))
    (hOu : ∀ (T1 : TyN) (cA : ClassId) (h : Nat), s.vm.findClass ("[" ++ (FieldType.array ty).toString) = some cA → (∀ j, j < N' → T1 (h + 1 + j) = some (k0 + 1 + j)) → nfit g T1 Z0 k0 (.inl (cA, N', .inr (.inr (.inr (.inr (fun j => some (h + 1 + j))))))))
    (hb1 : N' * 4 ≤ 536870912) (hb2 : K' * componentBytes ty ≤ 536870912) (hb3 : K' ≤ 536870912) (hdf : fits ty (defaultValue ty) = true) (hdd : (defaultValue ty).isDefault = true) (hcells : cells + (1 + N') ≤ R.cells) (hslots : slots + (N' + N' * K') ≤ R.slots) (hdg : decode cc pc = .ok (.multianewarray index 2, 4))
    (kk : ∀ (q : Nat) (T1 : TyN) (pl1 : va_W) (H1 : Heap), extN T T1 → inj T1 → T1 q = some k0 → okn g T1 Z0 pl1 → va_P g.1 vcl (X ++ pl1) H1 → va_D A (X ++ pl1) → va_S A H0 H1 locs → nmL T1 ((k0, k0 + N' + 1) :: Ls) → W p l e R s m args below meth c H1 locs (cells + 1 + N') (slots + N' + N' * K') Q (F0 m (pc + 4) ls (.ref q :: rest))) : W p l e R s m args below meth c H locs cells slots Q (F0 m pc ls (.int (nI K') :: .int (nI N') :: rest)) := by
  have cN : (nI N').toNatClampNeg = N' := nI_clamp hN'
  have cK : (nI K').toNatClampNeg = K' := nI_clamp hK'
  intro U hT X0
  obtain ⟨vm1, cA, comp, -, hfA, hfC, -, -, X1, st⟩ := X0.multianewarray2F hexec hown hclink hover harr (g := F0 m pc ls (.int (nI K') :: .int (nI N') :: rest)) rfl (by rw [hb]; exact hdg) rfl (nI_pos hN') (nI_pos hK') (by rw [cN]; exact hb1) (by rw [cK]; exact hb2) (by rw [cK]; exact hb3) hdf hdd (by rw [cN]; exact hcells) (by rw [cN, cK]; exact hslots)
  rw [cN, cK] at X1 st
  have hTh : (U.setVm vm1).heap = H := hT
  have ff := Jvm.Free.Multi.fill_facts (U.setVm vm1) cA comp N' K' (defaultValue ty) N'
  have fi := Jvm.Free.Multi.fill_inner (U.setVm vm1) cA comp N' K' (defaultValue ty) N'
  have fo : ∀ x : Nat, x < H.size → (Jvm.Free.Multi.fill (U.setVm vm1) cA comp N' K' (defaultValue ty) N').heap[x]? = H[x]? := fun x hx => by
    have h := Jvm.Free.Multi.fill_old (U.setVm vm1) cA comp N' K' (defaultValue ty) (a := x) (by rw [hTh]; exact hx) N'
    rw [hTh] at h
    exact h
  rw [hTh] at ff fi
  generalize Jvm.Free.Multi.fill (U.setVm vm1) cA comp N' K' (defaultValue ty) N' = F at X1 st ff fi fo
  obtain ⟨T1, pl1, r1, r2, r3, r4, r5, r6, r7⟩ := grow_manyN (N := N') (k0 := k0) (eO := .inl (cA, N', .inr (.inr (.inr (.inr (fun j => some (H.size + 1 + j))))))) (eI := .inl (comp, a0)) (H1 := F.heap) hP hD hO hU hL hk0
    (fun T1 j hj => hI T1 comp hfC j hj) (fun T1 h1 => hOu T1 cA H.size hfA h1) fo
    (by show F.heap[H.size]? = some (vp_cell cA _); rw [ff.2.1, outer_arr]; rfl)
    (fun j hj => by show F.heap[H.size + 1 + j]? = some (vp_cell comp _); rw [fi j hj, inner_arr, ha]) (fun q hq => hA q (Nat.le_trans hS.1 hq))
  have hUs : U.heap.size = H.size := by rw [← hT]
  obtain ⟨t, a1, b1⟩ := kk H.size T1 pl1 F.heap r1 r2 r3 r4 r5 r6 ⟨Nat.le_trans hS.1 (by rw [ff.1]; omega), fun x h1 h2 => (fo x (Nat.lt_of_lt_of_le h1 hS.1)).trans (hS.2.1 x h1 h2), hS.2.2⟩ r7 F rfl X1
  refine ⟨t, st t ?_, b1⟩
  rw [hUs]
  exact a1
theorem nm_mnai (hexec : p.tables.exec = Jvm.exec) (hb : c.code = cc) {own : String} {index : Nat} (hown : s.vm.findClass own = some m.cls) (hclink : (Cond.classLink own index "[[I").before args s = true) (hover : (Cond.arrayOver (.array .int)).before args s = true) (harr : (Cond.arrayClass .int).before args s = true) (hK : va_K g.1 vcl (tyA g.2.1) s)
    (hP : va_P g.1 vcl (X ++ pl) H) (hD : va_D A (X ++ pl)) (hS : va_S A H0 H locs) (hA : ∀ q, H0.size ≤ q → A q) (hO : okn g T Z0 pl) (hU : inj T) (hL : nmL T Ls) (k0 : Nat) {N' : Nat} (hk0 : (List.range (N' + 1)).all (fun j => !(inL (k0 + j) Ls)) = true) (hn0 : nsp k0 = (3, N', [(0, k0 + 1)])) (hn1 : (List.range N').all (fun i => decide (nsp (k0 + 1 + i) = (0, 256, []))) = true) (hN' : N' < 65536) (hcells : cells + (1 + N') ≤ R.cells) (hslots : slots + (N' + N' * 256) ≤ R.slots) (hdg : decode cc pc = .ok (.multianewarray index 2, 4))
    (kk : ∀ (q : Nat) (T1 : TyN) (pl1 : va_W) (H1 : Heap), extN T T1 → inj T1 → T1 q = some k0 → okn g T1 Z0 pl1 → va_P g.1 vcl (X ++ pl1) H1 → va_D A (X ++ pl1) → va_S A H0 H1 locs → nmL T1 ((k0, k0 + N' + 1) :: Ls) → W p l e R s m args below meth c H1 locs (cells + 1 + N') (slots + N' + N' * 256) Q (F0 m (pc + 4) ls (.ref q :: rest))) : W p l e R s m args below meth c H locs cells slots Q (F0 m pc ls (.int (nI 256) :: .int (nI N') :: rest)) := by
  have hk1 : ∀ j, j ≤ N' → inL (k0 + j) Ls = false := fun j hj => by
    have h9 := List.all_eq_true.mp hk0 j (List.mem_range.mpr (by omega))
    simpa using h9
  refine nm_mna (ty := .int) hexec hb hown hclink hover harr hP hD hS hA hO hU hL k0 hk1 (by omega) (by decide) (256, .inl (fun _ => 0)) (fun _ => rfl) (fun T1 comp hc j hj => ?_) (fun T1 cA h hc hj => ?_) (by omega) (by decide) (by decide) rfl rfl hcells hslots hdg kk
  · have h1 : s.vm.findClass "[I" = some (g.2.1 0) := (hK.2 0 _ rfl).2
    cases Option.some.inj (h1.symm.trans hc)
    exact fit0 (rows_ok _ _ hn1 j hj)
  · have h1 : s.vm.findClass "[[I" = some (g.2.1 6) := (hK.2 6 _ rfl).2
    cases Option.some.inj (h1.symm.trans hc)
    exact nfit_mk hn0 ⟨_, rfl, fun j hj' => ⟨_, rfl, hj j hj'⟩⟩
theorem nm_mnab (hexec : p.tables.exec = Jvm.exec) (hb : c.code = cc) {own : String} {index : Nat} (hown : s.vm.findClass own = some m.cls) (hclink : (Cond.classLink own index "[[B").before args s = true) (hover : (Cond.arrayOver (.array .byte)).before args s = true) (harr : (Cond.arrayClass .byte).before args s = true) (hK : va_K g.1 vcl (tyA g.2.1) s)
    (hP : va_P g.1 vcl (X ++ pl) H) (hD : va_D A (X ++ pl)) (hS : va_S A H0 H locs) (hA : ∀ q, H0.size ≤ q → A q) (hO : okn g T Z0 pl) (hU : inj T) (hL : nmL T Ls) (k0 : Nat) {K' : Nat} (hk0 : (List.range 9).all (fun j => !(inL (k0 + j) Ls)) = true) (hn0 : nsp k0 = (4, 8, [(0, k0 + 1)])) (hn1 : (List.range 8).all (fun i => decide (nsp (k0 + 1 + i) = (1, K', []))) = true) (hK' : K' < 65536) (hcells : cells + (1 + 8) ≤ R.cells) (hslots : slots + (8 + 8 * K') ≤ R.slots) (hdg : decode cc pc = .ok (.multianewarray index 2, 4))
    (kk : ∀ (q : Nat) (T1 : TyN) (pl1 : va_W) (H1 : Heap), extN T T1 → inj T1 → T1 q = some k0 → okn g T1 Z0 pl1 → va_P g.1 vcl (X ++ pl1) H1 → va_D A (X ++ pl1) → va_S A H0 H1 locs → nmL T1 ((k0, k0 + 8 + 1) :: Ls) → W p l e R s m args below meth c H1 locs (cells + 1 + 8) (slots + 8 + 8 * K') Q (F0 m (pc + 4) ls (.ref q :: rest))) : W p l e R s m args below meth c H locs cells slots Q (F0 m pc ls (.int (nI K') :: .int (nI 8) :: rest)) := by
  have hk1 : ∀ j, j ≤ 8 → inL (k0 + j) Ls = false := fun j hj => by
    have h9 := List.all_eq_true.mp hk0 j (List.mem_range.mpr (by omega))
    simpa using h9
  refine nm_mna (ty := .byte) hexec hb hown hclink hover harr hP hD hS hA hO hU hL k0 hk1 (by decide) (by omega) (K', .inl (fun _ => 0)) (fun _ => rfl) (fun T1 comp hc j hj => ?_) (fun T1 cA h hc hj => ?_) (by decide) (by show K' * 1 ≤ _; omega) (by omega) rfl rfl hcells hslots hdg kk
  · have h1 : s.vm.findClass "[B" = some (g.2.1 1) := (hK.2 1 _ rfl).2
    cases Option.some.inj (h1.symm.trans hc)
    exact fit1 (rows_okb _ _ _ hn1 j hj)
  · have h1 : s.vm.findClass "[[B" = some (g.2.1 7) := (hK.2 7 _ rfl).2
    cases Option.some.inj (h1.symm.trans hc)
    exact nfit_mk hn0 ⟨_, rfl, fun j hj' => ⟨_, rfl, hj j hj'⟩⟩
end RowsMN
