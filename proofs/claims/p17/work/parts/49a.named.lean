/-! the named store: every cell has a name, its contents stand in a store by that name; a method is a function on stores -/
abbrev Sto : Type := (Nat → Nat → Int32) × (Nat → Nat → Int64)
abbrev NS : Type := Nat × Nat × List (Nat × Nat)
def uA (s : Nat → Nat → Int32) (k : Nat) (f : Nat → Int32) : Nat → Nat → Int32 := fun k' => if k' = k then f else s k'
def uL (s : Nat → Nat → Int64) (k : Nat) (f : Nat → Int64) : Nat → Nat → Int64 := fun k' => if k' = k then f else s k'
def sI (s : Sto) (k i : Nat) (x : Int32) : Sto := (uA s.1 k (upd (s.1 k) i x), s.2)
def sB (s : Sto) (k i : Nat) (x : Int32) : Sto := sI s k i (vp_nar .byte x)
def sL (s : Sto) (k i : Nat) (x : Int64) : Sto := (s.1, uL s.2 k (vp_updL (s.2 k) i x))
def sC (s : Sto) (k0 k1 sp dp n : Nat) : Sto := (uA s.1 k1 (va_cpy (s.1 k0) (s.1 k1) sp dp n), s.2)
/-- a value gets a name -/
def bnd {α β : Type} (x : α) (f : α → β) : β := f x
theorem bnd_step {α β : Type} {R : β} {x : α} {f : α → β} {z : α} (hR : R = bnd x f) (hz : z = x) : R = f z := by
  subst hz
  exact hR
abbrev TyN : Type := Nat → Option Nat
def NSL : List NS := [(5, 0, [(3, 1), (0, 0), (3, 2), (0, 0), (3, 3), (0, 0), (3, 4), (3, 8), (3, 12), (3, 24), (3, 39)]), (1, 16384, []), (1, 8192, []), (8, 8, []), (6, 3, [(0, 5)]), (5, 1, [(1, 2), (1, 3), (1, 10), (1, 4), (1, 800), (1, 1632), (1, 768), (1, 768), (1, 1568), (1, 1600)]), (5, 1, [(1, 3), (1, 2), (1, 10), (1, 4), (1, 1184), (1, 2400), (1, 1088), (1, 1152), (1, 2336), (1, 2368)]), (5, 1, [(1, 4), (1, 2), (1, 11), (1, 5), (1, 1568), (1, 3168), (1, 1568), (1, 1536), (1, 3104), (1, 3136)]), (7, 3, [(0, 9)]), (5, 2, [(1, 4), (1, 4), (1, 2), (1, 3), (1, 39), (1, 32), (1, 18), (1, 131072), (1, 44), (1, 6), (1, 95232), (1, 80), (1, 78), (1, 1312), (1, 2560), (1, 2336), (1, 2420)]), (5, 2, [(1, 6), (1, 5), (1, 4), (1, 4), (1, 49), (1, 48), (1, 20), (1, 524288), (1, 16), (1, 4), (1, 261888), (1, 55), (1, 196), (1, 1952), (1, 4032), (1, 3248), (1, 3309)]), (5, 2, [(1, 8), (1, 7), (1, 2), (1, 3), (1, 60), (1, 64), (1, 20), (1, 524288), (1, 16), (1, 4), (1, 261888), (1, 75), (1, 120), (1, 2592), (1, 4896), (1, 4544), (1, 4627)]), (5, 3, [(3, 13), (0, 0), (0, 0), (0, 0)]), (2, 25, []), (5, 3, [(3, 15), (0, 0), (0, 0), (0, 0)]), (2, 25, []), (5, 3, [(3, 17), (0, 0), (0, 0), (0, 0)]), (2, 25, []), (5, 3, [(3, 19), (0, 0), (0, 0), (0, 0)]), (2, 25, []), (5, 4, [(1, 3329), (1, 7), (1, 3303), (3, 21)]), (0, 128, []), (5, 4, [(1, 8380417), (1, 8), (1, 8347681), (3, 23)]), (0, 256, []), (5, 5, [(3, 14), (3, 20), (3, 25), (3, 30), (3, 31), (3, 32), (3, 33), (3, 34), (3, 35), (3, 36)]), (3, 4, [(0, 26)]), (0, 256, []), (0, 256, []), (0, 256, []), (0, 256, []), (0, 256, []), (0, 256, []), (1, 32, []), (1, 32, []), (1, 64, []), (1, 192, []), (1, 1568, []), (5, 7, [(3, 18), (3, 38)]), (1, 640, []), (5, 6, [(3, 16), (3, 22), (3, 37), (3, 40), (3, 97), (3, 105), (3, 114), (3, 123), (3, 131), (3, 140), (3, 141), (3, 142), (3, 143), (3, 144), (3, 145), (3, 146), (3, 147)]), (3, 56, [(0, 41)]), (0, 256, []), (0, 256, []), (0, 256, []), (0, 256, []), (0, 256, []), (0, 256, []), (0, 256, []), (0, 256, []), (0, 256, []), (0, 256, []), (0, 256, []), (0, 256, []), (0, 256, []), (0, 256, []), (0, 256, []), (0, 256, []), (0, 256, []), (0, 256, []), (0, 256, []), (0, 256, []), (0, 256, []), (0, 256, []), (0, 256, []), (0, 256, []), (0, 256, []), (0, 256, []), (0, 256, []), (0, 256, []), (0, 256, []), (0, 256, []), (0, 256, []), (0, 256, []), (0, 256, []), (0, 256, []), (0, 256, []), (0, 256, []), (0, 256, []), (0, 256, []), (0, 256, []), (0, 256, []), (0, 256, []), (0, 256, []), (0, 256, []), (0, 256, []), (0, 256, []), (0, 256, []), (0, 256, []), (0, 256, []), (0, 256, []), (0, 256, []), (0, 256, []), (0, 256, []), (0, 256, []), (0, 256, []), (0, 256, []), (0, 256, []), (3, 7, [(0, 98)]), (0, 256, []), (0, 256, []), (0, 256, []), (0, 256, []), (0, 256, []), (0, 256, []), (0, 256, []), (3, 8, [(0, 106)]), (0, 256, []), (0, 256, []), (0, 256, []), (0, 256, []), (0, 256, []), (0, 256, []), (0, 256, []), (0, 256, []), (3, 8, [(0, 115)]), (0, 256, []), (0, 256, []), (0, 256, []), (0, 256, []), (0, 256, []), (0, 256, []), (0, 256, []), (0, 256, []), (3, 7, [(0, 124)]), (0, 256, []), (0, 256, []), (0, 256, []), (0, 256, []), (0, 256, []), (0, 256, []), (0, 256, []), (3, 8, [(0, 132)]), (0, 256, []), (0, 256, []), (0, 256, []), (0, 256, []), (0, 256, []), (0, 256, []), (0, 256, []), (0, 256, []), (0, 256, []), (0, 256, []), (1, 128, []), (1, 64, []), (1, 64, []), (1, 64, []), (1, 84, []), (1, 192, []), (5, 8, [(0, 0), (0, 0), (0, 0), (0, 0), (3, 149), (3, 150), (3, 151), (3, 152), (3, 161), (3, 170), (3, 171), (3, 172), (3, 184), (3, 225)]), (1, 16384, []), (1, 8192, []), (1, 8192, []), (4, 8, [(0, 153)]), (1, 2592, []), (1, 2592, []), (1, 2592, []), (1, 2592, []), (1, 2592, []), (1, 2592, []), (1, 2592, []), (1, 2592, []), (4, 8, [(0, 162)]), (1, 4896, []), (1, 4896, []), (1, 4896, []), (1, 4896, []), (1, 4896, []), (1, 4896, []), (1, 4896, []), (1, 4896, []), (0, 8, []), (0, 8, []), (5, 9, [(3, 173), (3, 174), (3, 175), (3, 176), (3, 177), (0, 0), (0, 0), (0, 0)]), (2, 25, []), (2, 25, []), (2, 5, []), (2, 24, []), (0, 25, []), (5, 10, [(1, 3329), (1, 128), (3, 179), (3, 180), (2, 0)]), (2, 256, []), (0, 128, []), (5, 10, [(1, 8380417), (1, 256), (3, 182), (3, 183), (2, 0)]), (2, 512, []), (0, 256, []), (5, 11, [(3, 172), (3, 178), (3, 185), (3, 202), (3, 207), (3, 212), (3, 217), (3, 218), (3, 219), (3, 220), (3, 221), (3, 222), (3, 223), (3, 224)]), (3, 16, [(0, 186)]), (0, 256, []), (0, 256, []), (0, 256, []), (0, 256, []), (0, 256, []), (0, 256, []), (0, 256, []), (0, 256, []), (0, 256, []), (0, 256, []), (0, 256, []), (0, 256, []), (0, 256, []), (0, 256, []), (0, 256, []), (0, 256, []), (3, 4, [(0, 203)]), (0, 256, []), (0, 256, []), (0, 256, []), (0, 256, []), (3, 4, [(0, 208)]), (0, 256, []), (0, 256, []), (0, 256, []), (0, 256, []), (3, 4, [(0, 213)]), (0, 256, []), (0, 256, []), (0, 256, []), (0, 256, []), (0, 256, []), (0, 256, []), (0, 256, []), (1, 64, []), (1, 192, []), (1, 32, []), (1, 32, []), (1, 1568, []), (5, 12, [(3, 172), (3, 181), (3, 226), (3, 291), (3, 299), (3, 308), (3, 317), (3, 326), (3, 334), (3, 342), (3, 350), (3, 359), (3, 368), (3, 369), (3, 370), (3, 371), (3, 372), (3, 373), (3, 374), (3, 375), (3, 376), (3, 377), (3, 378), (0, 0), (0, 0), (0, 0), (0, 0), (0, 0), (0, 0), (0, 0), (0, 0)]), (3, 64, [(0, 227)]), (0, 256, []), (0, 256, []), (0, 256, []), (0, 256, []), (0, 256, []), (0, 256, []), (0, 256, []), (0, 256, []), (0, 256, []), (0, 256, []), (0, 256, []), (0, 256, []), (0, 256, []), (0, 256, []), (0, 256, []), (0, 256, []), (0, 256, []), (0, 256, []), (0, 256, []), (0, 256, []), (0, 256, []), (0, 256, []), (0, 256, []), (0, 256, []), (0, 256, []), (0, 256, []), (0, 256, []), (0, 256, []), (0, 256, []), (0, 256, []), (0, 256, []), (0, 256, []), (0, 256, []), (0, 256, []), (0, 256, []), (0, 256, []), (0, 256, []), (0, 256, []), (0, 256, []), (0, 256, []), (0, 256, []), (0, 256, []), (0, 256, []), (0, 256, []), (0, 256, []), (0, 256, []), (0, 256, []), (0, 256, []), (0, 256, []), (0, 256, []), (0, 256, []), (0, 256, []), (0, 256, []), (0, 256, []), (0, 256, []), (0, 256, []), (0, 256, []), (0, 256, []), (0, 256, []), (0, 256, []), (0, 256, []), (0, 256, []), (0, 256, []), (0, 256, []), (3, 7, [(0, 292)]), (0, 256, []), (0, 256, []), (0, 256, []), (0, 256, []), (0, 256, []), (0, 256, []), (0, 256, []), (3, 8, [(0, 300)]), (0, 256, []), (0, 256, []), (0, 256, []), (0, 256, []), (0, 256, []), (0, 256, []), (0, 256, []), (0, 256, []), (3, 8, [(0, 309)]), (0, 256, []), (0, 256, []), (0, 256, []), (0, 256, []), (0, 256, []), (0, 256, []), (0, 256, []), (0, 256, []), (3, 8, [(0, 318)]), (0, 256, []), (0, 256, []), (0, 256, []), (0, 256, []), (0, 256, []), (0, 256, []), (0, 256, []), (0, 256, []), (3, 7, [(0, 327)]), (0, 256, []), (0, 256, []), (0, 256, []), (0, 256, []), (0, 256, []), (0, 256, []), (0, 256, []), (3, 7, [(0, 335)]), (0, 256, []), (0, 256, []), (0, 256, []), (0, 256, []), (0, 256, []), (0, 256, []), (0, 256, []), (3, 7, [(0, 343)]), (0, 256, []), (0, 256, []), (0, 256, []), (0, 256, []), (0, 256, []), (0, 256, []), (0, 256, []), (3, 8, [(0, 351)]), (0, 256, []), (0, 256, []), (0, 256, []), (0, 256, []), (0, 256, []), (0, 256, []), (0, 256, []), (0, 256, []), (3, 8, [(0, 360)]), (0, 256, []), (0, 256, []), (0, 256, []), (0, 256, []), (0, 256, []), (0, 256, []), (0, 256, []), (0, 256, []), (0, 256, []), (0, 256, []), (0, 256, []), (2, 256, []), (1, 128, []), (1, 64, []), (1, 64, []), (1, 640, []), (1, 64, []), (1, 64, []), (1, 64, [])]
def nsp (k : Nat) : NS := NSL.getD k (9, 0, [])
/-- a field by its code: 0 an int of the store, 1 the number p, 2 a long of the store, 3 the cell of that name -/
def nfd (T : TyN) (fi : Nat → Int32) (fl : Nat → Int64) (j : Nat) (c : Nat × Nat) (v : Value) : Prop := match c.1 with
  | 0 => v = .int (fi j)
  | 1 => v = .int (nI c.2)
  | 2 => v = .long (fl j)
  | _ => ∃ r : Nat, v = .ref r ∧ T r = some c.2
def nfitS (g : Gd) (T : TyN) (fi : Nat → Int32) (fl : Nat → Int64) (q : NS) (e : va_E) : Prop := match q.1 with
  | 0 => ∃ f : Nat → Int32, e = .inl (g.2.1 0, q.2.1, .inl f) ∧ ∀ j, j < q.2.1 → f j = fi j
  | 1 => ∃ f : Nat → Int32, e = .inl (g.2.1 1, q.2.1, .inl f) ∧ (∀ j, j < q.2.1 → f j = fi j) ∧ byt f
  | 2 => ∃ f : Nat → Int64, e = .inl (g.2.1 2, q.2.1, .inr (.inl f)) ∧ ∀ j, j < q.2.1 → f j = fl j
  | 3 => ∃ f : Nat → Option Nat, e = .inl (g.2.1 6, q.2.1, .inr (.inr (.inr (.inr f)))) ∧ ∀ j, j < q.2.1 → ∃ r, f j = some r ∧ T r = some ((q.2.2.getD 0 (0, 0)).2 + j)
  | 4 => ∃ f : Nat → Option Nat, e = .inl (g.2.1 7, q.2.1, .inr (.inr (.inr (.inr f)))) ∧ ∀ j, j < q.2.1 → ∃ r, f j = some r ∧ T r = some ((q.2.2.getD 0 (0, 0)).2 + j)
  | 5 => ∃ fs : List Value, e = .inr (q.2.1, fs) ∧ fs.length = q.2.2.length ∧ ∀ (j : Nat) (c : Nat × Nat), q.2.2[j]? = some c → ∃ v, fs[j]? = some v ∧ nfd T fi fl j c v
  | 6 => ∃ f : Nat → Option Nat, e = .inl (g.2.1 3, q.2.1, .inr (.inr (.inr (.inr f)))) ∧ ∀ j, j < q.2.1 → ∃ r, f j = some r ∧ T r = some ((q.2.2.getD 0 (0, 0)).2 + j)
  | 7 => ∃ f : Nat → Option Nat, e = .inl (g.2.1 4, q.2.1, .inr (.inr (.inr (.inr f)))) ∧ ∀ j, j < q.2.1 → ∃ r, f j = some r ∧ T r = some ((q.2.2.getD 0 (0, 0)).2 + j)
  | _ => True
def nfit (g : Gd) (T : TyN) (s : Sto) (k : Nat) (e : va_E) : Prop := nfitS g T (s.1 k) (s.2 k) (nsp k) e
def okn (g : Gd) (T : TyN) (s : Sto) (pl : va_W) : Prop := ∀ (a k : Nat), T a = some k → ∃ (i : Nat) (e : va_E), pl[i]? = some (a, e) ∧ nfit g T s k e
def inj (T : TyN) : Prop := ∀ (a b k : Nat), T a = some k → T b = some k → a = b
theorem nfit_of {g : Gd} {T : TyN} {s : Sto} {k : Nat} {e : va_E} {q : NS} (h : nfit g T s k e) (hk : nsp k = q) : nfitS g T (s.1 k) (s.2 k) q e := by
  rw [← hk]
  exact h
theorem nfit_mk {g : Gd} {T : TyN} {s : Sto} {k : Nat} {e : va_E} {q : NS} (hk : nsp k = q) (h : nfitS g T (s.1 k) (s.2 k) q e) : nfit g T s k e := by
  rw [← hk] at h
  exact h
theorem okn_set {g : Gd} {T : TyN} {s s' : Sto} {pl : va_W} (hO : okn g T s pl) (hU : inj T) {a k i : Nat} {e e' : va_E} (ka : T a = some k) (hi : pl[i]? = some (a, e)) (he : nfit g T s' k e') (h1 : ∀ k', k' ≠ k → s'.1 k' = s.1 k') (h2 : ∀ k', k' ≠ k → s'.2 k' = s.2 k') : okn g T s' (pl.set i (a, e')) := by
  intro b kb hb
  have hl := (List.getElem?_eq_some_iff.mp hi).1
  by_cases hba : b = a
  · subst hba
    have hk : kb = k := Option.some.inj (hb.symm.trans ka)
    subst hk
    exact ⟨i, e', List.getElem?_set_self hl, he⟩
  · have hne : kb ≠ k := fun q => hba (hU b a k (by rw [← q]; exact hb) ka)
    obtain ⟨j, e1, h3, h4⟩ := hO b kb hb
    refine ⟨j, e1, ?_, ?_⟩
    · rw [List.getElem?_set_ne]
      · exact h3
      · intro hij
        subst hij
        exact hba (congrArg Prod.fst (Option.some.inj (h3.symm.trans hi)))
    · unfold nfit
      rw [h1 kb hne, h2 kb hne]
      exact h4
theorem rows_ok (b n : Nat) (h : (List.range n).all (fun i => decide (nsp (b + i) = (0, 256, []))) = true) (i : Nat) (hi : i < n) : nsp (b + i) = (0, 256, []) :=
  of_decide_eq_true (List.all_eq_true.mp h i (List.mem_range.mpr hi))
theorem uA_ne {s : Nat → Nat → Int32} {k k' : Nat} {f : Nat → Int32} (h : k' ≠ k) : uA s k f k' = s k' := if_neg h
theorem uA_eq {s : Nat → Nat → Int32} {k : Nat} {f : Nat → Int32} : uA s k f k = f := if_pos rfl
theorem uL_ne {s : Nat → Nat → Int64} {k k' : Nat} {f : Nat → Int64} (h : k' ≠ k) : uL s k f k' = s k' := if_neg h
theorem uL_eq {s : Nat → Nat → Int64} {k : Nat} {f : Nat → Int64} : uL s k f k = f := if_pos rfl
theorem up_cg {f g : Nat → Int32} {n i : Nat} {x : Int32} (h : ∀ j, j < n → f j = g j) : ∀ j, j < n → upd f i x j = upd g i x j := fun j hj => by
  by_cases q : j = i
  · simp [upd, q]
  · simp only [upd, q, if_false]; exact h j hj
theorem upL_cg {f g : Nat → Int64} {n i : Nat} {x : Int64} (h : ∀ j, j < n → f j = g j) : ∀ j, j < n → vp_updL f i x j = vp_updL g i x j := fun j hj => by
  by_cases q : j = i
  · simp [vp_updL, q]
  · simp only [vp_updL, q, if_false]; exact h j hj
theorem and_cl (x : Int32) {y : Nat} (k0 : Nat) (hm : (nI y).toBitVec.toNat = 2 ^ k0 - 1) (h31 : k0 ≤ 31) : x &&& nI y = nI (x &&& nI y).toNatClampNeg ∧ (x &&& nI y).toNatClampNeg < 2 ^ k0 := by
  obtain ⟨j, hj, ej⟩ := pk_andE x (m := nI y) k0 hm
  have h2 : 2 ^ k0 ≤ 2 ^ 31 := Nat.pow_le_pow_right (by decide) h31
  rw [ej, nI_clamp (by omega)]
  exact ⟨rfl, hj⟩
section RowsN
variable {p : Program} {l : Launch} {e : Env} {R : Room} {s : State} {m : MethodId} {args : Array Value} {below : List Frame} {meth : Method} {c : Code} {H : Heap} {locs : List Loc} {cells slots : Nat} {Q : State → Prop}
variable {cc : ByteArray} {pc : Nat} {ls : Array Slot} {rest st0 : List Value} {g : Gd} {A : Nat → Prop} {a a0 : Nat} {X pl : va_W} {H0 : Heap} {T : TyN} {σ : Sto}
theorem nw_iald (hexec : p.tables.exec = Jvm.exec) (hb : c.code = cc) (hK : va_K g.1 vcl (tyA g.2.1) s) (hO : okn g T σ pl) {k n : Nat} {fl : List (Nat × Nat)} (ka : T a = some k) (hk : nsp k = (0, n, fl)) (hP : va_P g.1 vcl (X ++ pl) H) {i : Nat} (hi : i < n) (hn : n < 2 ^ 31) (hdg : decode cc pc = .ok (.iaload, 1))
    (kk : W p l e R s m args below meth c H locs cells slots Q (F0 m (pc + 1) ls (.int (σ.1 k i) :: rest))) : W p l e R s m args below meth c H locs cells slots Q (F0 m pc ls (.int (nI i) :: .ref a :: rest)) := by
  obtain ⟨i0, e0, h1, h2⟩ := hO a k ka
  obtain ⟨f, rfl, hf⟩ := nfit_of h2 hk
  refine va_iald hexec hb hK hP (X.length + i0) 0 (pl_at h1) rfl (vp_in_nI hi hn) hdg ?_
  rw [nI_clamp (by omega), hf i hi]
  exact kk
theorem nw_bald (hexec : p.tables.exec = Jvm.exec) (hb : c.code = cc) (hK : va_K g.1 vcl (tyA g.2.1) s) (hO : okn g T σ pl) {k n : Nat} {fl : List (Nat × Nat)} (ka : T a = some k) (hk : nsp k = (1, n, fl)) (hP : va_P g.1 vcl (X ++ pl) H) {i : Nat} (hi : i < n) (hn : n < 2 ^ 31) (hdg : decode cc pc = .ok (.baload, 1))
    (kk : W p l e R s m args below meth c H locs cells slots Q (F0 m (pc + 1) ls (.int (σ.1 k i) :: rest))) : W p l e R s m args below meth c H locs cells slots Q (F0 m pc ls (.int (nI i) :: .ref a :: rest)) := by
  obtain ⟨i0, e0, h1, h2⟩ := hO a k ka
  obtain ⟨f, rfl, hf, -⟩ := nfit_of h2 hk
  refine va_bald hexec hb hK hP (X.length + i0) 1 (pl_at h1) rfl (vp_in_nI hi hn) hdg ?_
  rw [nI_clamp (by omega), hf i hi]
  exact kk
theorem nw_lald (hexec : p.tables.exec = Jvm.exec) (hb : c.code = cc) (hK : va_K g.1 vcl (tyA g.2.1) s) (hO : okn g T σ pl) {k n : Nat} {fl : List (Nat × Nat)} (ka : T a = some k) (hk : nsp k = (2, n, fl)) (hP : va_P g.1 vcl (X ++ pl) H) {i : Nat} (hi : i < n) (hn : n < 2 ^ 31) (hdg : decode cc pc = .ok (.laload, 1))
    (kk : W p l e R s m args below meth c H locs cells slots Q (F0 m (pc + 1) ls (.long (σ.2 k i) :: rest))) : W p l e R s m args below meth c H locs cells slots Q (F0 m pc ls (.int (nI i) :: .ref a :: rest)) := by
  obtain ⟨i0, e0, h1, h2⟩ := hO a k ka
  obtain ⟨f, rfl, hf⟩ := nfit_of h2 hk
  refine va_lald hexec hb hK hP (X.length + i0) 2 (pl_at h1) rfl (vp_in_nI hi hn) hdg ?_
  rw [nI_clamp (by omega), hf i hi]
  exact kk
theorem nw_iast (hexec : p.tables.exec = Jvm.exec) (hb : c.code = cc) (hK : va_K g.1 vcl (tyA g.2.1) s) (hO : okn g T σ pl) (hU : inj T) {k n : Nat} {fl : List (Nat × Nat)} (ka : T a = some k) (hk : nsp k = (0, n, fl)) (hP : va_P g.1 vcl (X ++ pl) H) (hD : va_D A (X ++ pl)) (hS : va_S A H0 H locs) {i : Nat} {x : Int32} (hi : i < n) (hn : n < 2 ^ 31) (hdg : decode cc pc = .ok (.iastore, 1))
    (kk : ∀ (σ1 : Sto) (pl : va_W) (H1 : Heap) (locs1 : List Loc), σ1 = sI σ k i x → okn g T σ1 pl → va_P g.1 vcl (X ++ pl) H1 → va_D A (X ++ pl) → va_S A H0 H1 locs1 → W p l e R s m args below meth c H1 locs1 cells slots Q (F0 m (pc + 1) ls rest)) : W p l e R s m args below meth c H locs cells slots Q (F0 m pc ls (.int x :: .int (nI i) :: .ref a :: rest)) := by
  obtain ⟨i0, e0, h1, h2⟩ := hO a k ka
  obtain ⟨f, rfl, hf⟩ := nfit_of h2 hk
  refine va_iast hexec hb hK hP hD hS (X.length + i0) 0 (pl_at h1) rfl (vp_in_nI hi hn) hdg (fun H1 locs1 h3 h4 h5 => ?_)
  rw [pl_set, nI_clamp (by omega)] at h3 h4
  refine kk _ _ H1 locs1 rfl (okn_set hO hU ka h1 (nfit_mk hk ⟨_, rfl, ?_⟩) (fun _ h => uA_ne h) (fun _ _ => rfl)) h3 h4 h5
  show ∀ j, j < n → _ = uA σ.1 k _ k j
  rw [uA_eq]
  exact up_cg hf
theorem nw_bast (hexec : p.tables.exec = Jvm.exec) (hb : c.code = cc) (hK : va_K g.1 vcl (tyA g.2.1) s) (hO : okn g T σ pl) (hU : inj T) {k n : Nat} {fl : List (Nat × Nat)} (ka : T a = some k) (hk : nsp k = (1, n, fl)) (hP : va_P g.1 vcl (X ++ pl) H) (hD : va_D A (X ++ pl)) (hS : va_S A H0 H locs) {i : Nat} {x : Int32} (hi : i < n) (hn : n < 2 ^ 31) (hdg : decode cc pc = .ok (.bastore, 1))
    (kk : ∀ (σ1 : Sto) (pl : va_W) (H1 : Heap) (locs1 : List Loc), σ1 = sB σ k i x → okn g T σ1 pl → va_P g.1 vcl (X ++ pl) H1 → va_D A (X ++ pl) → va_S A H0 H1 locs1 → W p l e R s m args below meth c H1 locs1 cells slots Q (F0 m (pc + 1) ls rest)) : W p l e R s m args below meth c H locs cells slots Q (F0 m pc ls (.int x :: .int (nI i) :: .ref a :: rest)) := by
  obtain ⟨i0, e0, h1, h2⟩ := hO a k ka
  obtain ⟨f, rfl, hf, hby⟩ := nfit_of h2 hk
  refine va_bast hexec hb hK hP hD hS (X.length + i0) 1 (pl_at h1) rfl (vp_in_nI hi hn) hdg (fun H1 locs1 h3 h4 h5 => ?_)
  rw [pl_set, nI_clamp (by omega)] at h3 h4
  refine kk _ _ H1 locs1 rfl (okn_set hO hU ka h1 (nfit_mk hk ⟨_, rfl, ?_, byt_upd hby _ _⟩) (fun _ h => uA_ne h) (fun _ _ => rfl)) h3 h4 h5
  show ∀ j, j < n → _ = uA σ.1 k _ k j
  rw [uA_eq]
  exact up_cg hf
theorem nw_last (hexec : p.tables.exec = Jvm.exec) (hb : c.code = cc) (hK : va_K g.1 vcl (tyA g.2.1) s) (hO : okn g T σ pl) (hU : inj T) {k n : Nat} {fl : List (Nat × Nat)} (ka : T a = some k) (hk : nsp k = (2, n, fl)) (hP : va_P g.1 vcl (X ++ pl) H) (hD : va_D A (X ++ pl)) (hS : va_S A H0 H locs) {i : Nat} {x : Int64} (hi : i < n) (hn : n < 2 ^ 31) (hdg : decode cc pc = .ok (.lastore, 1))
    (kk : ∀ (σ1 : Sto) (pl : va_W) (H1 : Heap) (locs1 : List Loc), σ1 = sL σ k i x → okn g T σ1 pl → va_P g.1 vcl (X ++ pl) H1 → va_D A (X ++ pl) → va_S A H0 H1 locs1 → W p l e R s m args below meth c H1 locs1 cells slots Q (F0 m (pc + 1) ls rest)) : W p l e R s m args below meth c H locs cells slots Q (F0 m pc ls (.long x :: .int (nI i) :: .ref a :: rest)) := by
  obtain ⟨i0, e0, h1, h2⟩ := hO a k ka
  obtain ⟨f, rfl, hf⟩ := nfit_of h2 hk
  refine va_last hexec hb hK hP hD hS (X.length + i0) 2 (pl_at h1) rfl (vp_in_nI hi hn) hdg (fun H1 locs1 h3 h4 h5 => ?_)
  rw [pl_set, nI_clamp (by omega)] at h3 h4
  refine kk _ _ H1 locs1 rfl (okn_set hO hU ka h1 (nfit_mk hk ⟨_, rfl, ?_⟩) (fun _ _ => rfl) (fun _ h => uL_ne h)) h3 h4 h5
  show ∀ j, j < n → _ = uL σ.2 k _ k j
  rw [uL_eq]
  exact upL_cg hf
theorem nw_aald3 (hexec : p.tables.exec = Jvm.exec) (hb : c.code = cc) (hK : va_K g.1 vcl (tyA g.2.1) s) (hO : okn g T σ pl) {k n b : Nat} (ka : T a = some k) (hk : nsp k = (3, n, [(0, b)])) (hP : va_P g.1 vcl (X ++ pl) H) {i : Nat} (hi : i < n) (hn : n < 2 ^ 31) (hdg : decode cc pc = .ok (.aaload, 1))
    (kk : ∀ r : Nat, T r = some (b + i) → W p l e R s m args below meth c H locs cells slots Q (F0 m (pc + 1) ls (.ref r :: rest))) : W p l e R s m args below meth c H locs cells slots Q (F0 m pc ls (.int (nI i) :: .ref a :: rest)) := by
  obtain ⟨i0, e0, h1, h2⟩ := hO a k ka
  obtain ⟨f, rfl, hf⟩ := nfit_of h2 hk
  obtain ⟨r, er, hr⟩ := hf i hi
  have hc : (nI i).toNatClampNeg = i := nI_clamp (by omega)
  exact W.aald (v := .ref r) (ty := .array .int) hexec hb (hP _ _ (pl_at h1)) ((hK.2 6 _ rfl).1 n (fun j => va_rf (f j))) rfl (fun q => by cases q) (by show ¬ (nI i < 0 ∨ (arrV _ _ _).slots.size ≤ _); rw [arrV_size]; exact vp_in_nI hi hn) (by show (arrV _ _ _).slots[_]? = _; rw [hc, arrV_read _ _ hi, er]; rfl) rfl rfl hdg (kk r hr)
theorem nw_alen0 (hexec : p.tables.exec = Jvm.exec) (hb : c.code = cc) (hK : va_K g.1 vcl (tyA g.2.1) s) (hO : okn g T σ pl) {k n : Nat} {fl : List (Nat × Nat)} (ka : T a = some k) (hk : nsp k = (0, n, fl)) (hP : va_P g.1 vcl (X ++ pl) H) (hdg : decode cc pc = .ok (.arraylength, 1))
    (kk : W p l e R s m args below meth c H locs cells slots Q (F0 m (pc + 1) ls (.int (nI n) :: rest))) : W p l e R s m args below meth c H locs cells slots Q (F0 m pc ls (.ref a :: rest)) := by
  obtain ⟨i0, e0, h1, h2⟩ := hO a k ka
  obtain ⟨f, rfl, hf⟩ := nfit_of h2 hk
  exact va_alen hexec hb hK hP (X.length + i0) 0 (pl_at h1) rfl rfl hdg kk
theorem nw_alen1 (hexec : p.tables.exec = Jvm.exec) (hb : c.code = cc) (hK : va_K g.1 vcl (tyA g.2.1) s) (hO : okn g T σ pl) {k n : Nat} {fl : List (Nat × Nat)} (ka : T a = some k) (hk : nsp k = (1, n, fl)) (hP : va_P g.1 vcl (X ++ pl) H) (hdg : decode cc pc = .ok (.arraylength, 1))
    (kk : W p l e R s m args below meth c H locs cells slots Q (F0 m (pc + 1) ls (.int (nI n) :: rest))) : W p l e R s m args below meth c H locs cells slots Q (F0 m pc ls (.ref a :: rest)) := by
  obtain ⟨i0, e0, h1, h2⟩ := hO a k ka
  obtain ⟨f, rfl, hf, -⟩ := nfit_of h2 hk
  exact va_alen hexec hb hK hP (X.length + i0) 1 (pl_at h1) rfl rfl hdg kk
theorem nw_alen2 (hexec : p.tables.exec = Jvm.exec) (hb : c.code = cc) (hK : va_K g.1 vcl (tyA g.2.1) s) (hO : okn g T σ pl) {k n : Nat} {fl : List (Nat × Nat)} (ka : T a = some k) (hk : nsp k = (2, n, fl)) (hP : va_P g.1 vcl (X ++ pl) H) (hdg : decode cc pc = .ok (.arraylength, 1))
    (kk : W p l e R s m args below meth c H locs cells slots Q (F0 m (pc + 1) ls (.int (nI n) :: rest))) : W p l e R s m args below meth c H locs cells slots Q (F0 m pc ls (.ref a :: rest)) := by
  obtain ⟨i0, e0, h1, h2⟩ := hO a k ka
  obtain ⟨f, rfl, hf⟩ := nfit_of h2 hk
  exact va_alen hexec hb hK hP (X.length + i0) 2 (pl_at h1) rfl rfl hdg kk
theorem nw_obj (hO : okn g T σ pl) {k ci : Nat} {fl : List (Nat × Nat)} (ka : T a = some k) (hk : nsp k = (5, ci, fl)) : ∃ (q0 : Nat) (fs : List Value), pl[q0]? = some (a, .inr (ci, fs)) ∧ fs.length = fl.length ∧ ∀ (j : Nat) (c : Nat × Nat), fl[j]? = some c → ∃ v, fs[j]? = some v ∧ nfd T (σ.1 k) (σ.2 k) j c v := by
  obtain ⟨i0, e0, h1, h2⟩ := hO a k ka
  obtain ⟨fs, rfl, hn, hf⟩ := nfit_of h2 hk
  exact ⟨i0, fs, h1, hn, hf⟩
theorem nw_get (hexec : p.tables.exec = Jvm.exec) (hb : c.code = cc) {own ref C : String} {TT : u_T} {N ci index : Nat} {Ts : List Cond} (hts : ∀ w ∈ Ts, w.before args s = true) (hin : ∀ w ∈ u_ws C TT N, w ∈ Ts) (hown : s.vm.findClass own = some m.cls) (hK : va_K g.1 vcl (tyA g.2.1) s) (hO : okn g T σ pl) {kn : Nat} {fl : List (Nat × Nat)} (ka : T a = some kn) (hk : nsp kn = (5, ci, fl)) (hP : va_P g.1 vcl (X ++ pl) H) (hc : vcl[ci]? = some (C, TT, N)) (k : Nat) (hkN : k < N) (hlink : (Cond.fieldLink own index ref (TT k).2.1 (TT k).2.2.1).before args s = true) (hsame : ∀ x, s.fieldFound? (TT k).1 (TT k).2.1 (TT k).2.2.1 = some x → s.fieldFound? ref (TT k).2.1 (TT k).2.2.1 = some x) {cd : Nat × Nat} (hv : fl[k]? = some cd) (hdg : decode cc pc = .ok (.getfield index, 3))
    (kk : ∀ v, nfd T (σ.1 kn) (σ.2 kn) k cd v → W p l e R s m args below meth c H locs cells slots Q (F0 m (pc + 3) ls (v :: rest))) : W p l e R s m args below meth c H locs cells slots Q (F0 m pc ls (.ref a :: rest)) := by
  obtain ⟨q0, fs, h1, -, h2⟩ := nw_obj hO ka hk
  obtain ⟨v, h3, h4⟩ := h2 k cd hv
  exact va_get hexec hb hts hin hown hK hP (X.length + q0) (pl_at h1) hc k hkN hlink hsame h3 hdg (kk v h4)
theorem nw_put (hexec : p.tables.exec = Jvm.exec) (hb : c.code = cc) {own ref C : String} {TT : u_T} {N ci index : Nat} {Ts : List Cond} (hts : ∀ w ∈ Ts, w.before args s = true) (hin : ∀ w ∈ u_ws C TT N, w ∈ Ts) (ty0 : Nat → FieldType) (hty : ∀ k, k < N → parseFieldDescriptor (TT k).2.2.1 = some (ty0 k)) (hnm : ∀ a, a < N → ∀ b, b < N → a ≠ b → (TT a).2.1 ≠ (TT b).2.1) (hown : s.vm.findClass own = some m.cls) (hK : va_K g.1 vcl (tyA g.2.1) s) (hO : okn g T σ pl) (hU : inj T) {kn : Nat} {fl : List (Nat × Nat)} (ka : T a = some kn) (hk : nsp kn = (5, ci, fl)) (hP : va_P g.1 vcl (X ++ pl) H) (hD : va_D A (X ++ pl)) (hS : va_S A H0 H locs) (hc : vcl[ci]? = some (C, TT, N)) (k : Nat) (hkN : k < N) (hlink : (Cond.fieldLink own index ref (TT k).2.1 (TT k).2.2.1).before args s = true) (hsame : ∀ x, s.fieldFound? (TT k).1 (TT k).2.1 (TT k).2.2.1 = some x → s.fieldFound? ref (TT k).2.1 (TT k).2.2.1 = some x) (hfin : (TT k).2.2.2 = false) {x : Int32} (hd : parseFieldDescriptor (TT k).2.2.1 = some .int) {p0 : Nat} (hv : fl[k]? = some (0, p0)) (hdg : decode cc pc = .ok (.putfield index, 3))
    (kk : ∀ (σ1 : Sto) (pl : va_W) (H1 : Heap) (locs1 : List Loc), σ1 = sI σ kn k x → okn g T σ1 pl → va_P g.1 vcl (X ++ pl) H1 → va_D A (X ++ pl) → va_S A H0 H1 locs1 → W p l e R s m args below meth c H1 locs1 cells slots Q (F0 m (pc + 3) ls rest)) : W p l e R s m args below meth c H locs cells slots Q (F0 m pc ls (.int x :: .ref a :: rest)) := by
  obtain ⟨q0, fs, h1, hn, h2⟩ := nw_obj hO ka hk
  have hlt : k < fs.length := by rw [hn]; exact (List.getElem?_eq_some_iff.mp hv).1
  refine va_put hexec hb hts hin ty0 hty hnm hown hK hP hD hS (X.length + q0) (pl_at h1) hc k hkN hlink hsame hfin hd rfl rfl hlt hdg (fun H1 locs1 h3 h4 h5 => ?_)
  rw [pl_set] at h3 h4
  refine kk _ _ H1 locs1 rfl (okn_set hO hU ka h1 (nfit_mk hk ⟨_, rfl, by rw [List.length_set]; exact hn, fun j cj hj => ?_⟩) (fun _ h => uA_ne h) (fun _ _ => rfl)) h3 h4 h5
  show ∃ v, _ ∧ nfd T (uA σ.1 kn _ kn) _ j cj v
  rw [uA_eq]
  by_cases q : j = k
  · subst q
    have e : cj = (0, p0) := Option.some.inj (hj.symm.trans hv)
    subst e
    refine ⟨.int x, List.getElem?_set_self hlt, ?_⟩
    show Value.int x = .int (upd (σ.1 kn) j x j)
    simp [upd]
  · obtain ⟨v, h6, h7⟩ := h2 j cj hj
    refine ⟨v, by rw [List.getElem?_set_ne (Ne.symm q)]; exact h6, ?_⟩
    obtain ⟨c1, c2⟩ := cj
    match c1, h7 with
    | 0, h7 =>
      show v = .int (upd (σ.1 kn) k x j)
      simp only [upd, q, if_false]
      exact h7
    | 1, h7 => exact h7
    | 2, h7 => exact h7
    | _ + 3, h7 => exact h7
theorem mi_iandT (hexec : p.tables.exec = Jvm.exec) (hb : c.code = cc) {x : Int32} {y : Nat} (k0 : Nat) (hdg : decode cc pc = .ok (.iand, 1)) (hm : (nI y).toBitVec.toNat = 2 ^ k0 - 1) (h31 : k0 ≤ 31)
    (k : ∀ z : Nat, z = (x &&& nI y).toNatClampNeg → z < 2 ^ k0 → W p l e R s m args below meth c H locs cells slots Q (F0 m (pc + 1) ls (.int (nI z) :: rest))) : W p l e R s m args below meth c H locs cells slots Q (F0 m pc ls (.int (nI y) :: .int x :: rest)) :=
  lv_iand hexec hb hdg (mi_as (and_cl x k0 hm h31).1 (k _ rfl (and_cl x k0 hm h31).2))
theorem nw_copyi (hexec : p.tables.exec = Jvm.exec) (hb : c.code = cc) (hml : c.maxLocals = ls.size) {own : String} {index : Nat} (hown : s.vm.findClass own = some m.cls) (hlink : (Cond.methodLink own index arraycopyName).before args s = true) (hnat : (Cond.native arraycopyName).before args s = true) (hstat : (Cond.static arraycopyName).before args s = true) (hini : (Cond.initialized "java/lang/System").before args s = true)
    (hK : va_K g.1 vcl (tyA g.2.1) s) (hO : okn g T σ pl) (hU : inj T) {k0 k1 n0 n1 : Nat} {fl0 fl1 : List (Nat × Nat)} (ka0 : T a0 = some k0) (hk0 : nsp k0 = (0, n0, fl0)) (ka : T a = some k1) (hk1 : nsp k1 = (0, n1, fl1)) (hP : va_P g.1 vcl (X ++ pl) H) (hD : va_D A (X ++ pl)) (hS : va_S A H0 H locs) {sp dp n : Nat} (h4 : sp + n ≤ n0) (h5 : dp + n ≤ n1) (hbd : n0 < 2 ^ 31 ∧ n1 < 2 ^ 31) (hframes : 1 ≤ R.frames) (hlocals : (rest.map fun v => v.category).sum + (nativeFrameWords "java/lang/System" "arraycopy" 5 + 11) ≤ R.locals) (hdg : decode cc pc = .ok (.invokestatic index, 3))
    (kk : ∀ (σ1 : Sto) (pl : va_W) (H1 : Heap) (locs1 : List Loc), σ1 = sC σ k0 k1 sp dp n → okn g T σ1 pl → va_P g.1 vcl (X ++ pl) H1 → va_D A (X ++ pl) → va_S A H0 H1 locs1 → W p l e R s m args below meth c H1 locs1 cells slots Q (F0 m (pc + 3) ls rest)) : W p l e R s m args below meth c H locs cells slots Q (F0 m pc ls (.int (nI n) :: .int (nI dp) :: .ref a :: .int (nI sp) :: .ref a0 :: rest)) := by
  obtain ⟨j0, e0, h1, h1'⟩ := hO a0 k0 ka0
  obtain ⟨f0, rfl, hf0⟩ := nfit_of h1' hk0
  obtain ⟨j1, e1, h2, h2'⟩ := hO a k1 ka
  obtain ⟨f1, rfl, hf1⟩ := nfit_of h2' hk1
  have c1 : (nI sp).toNatClampNeg = sp := nI_clamp (by omega)
  have c2 : (nI dp).toNatClampNeg = dp := nI_clamp (by omega)
  have c3 : (nI n).toNatClampNeg = n := nI_clamp (by omega)
  refine va_copyi (ty := .int) hexec hb hml hown hlink hnat hstat hini hK hP hD hS (X.length + j0) (X.length + j1) 0 0 (pl_at h1) (pl_at h2) rfl rfl rfl (nI_pos (by omega)) (nI_pos (by omega)) (nI_pos (by omega)) (by rw [c1, c3]; exact h4) (by rw [c2, c3]; exact h5) (fun i _ => rfl) hframes hlocals hdg (fun H1 locs1 h6 h7 h8 => ?_)
  rw [pl_set, c1, c2, c3] at h6 h7
  refine kk _ _ H1 locs1 rfl (okn_set hO hU ka h2 (nfit_mk hk1 ⟨_, rfl, ?_⟩) (fun _ h => uA_ne h) (fun _ _ => rfl)) h6 h7 h8
  show ∀ j, j < n1 → _ = uA σ.1 k1 _ k1 j
  rw [uA_eq]
  intro j hj
  unfold va_cpy
  split
  · exact hf0 _ (show _ < n0 by omega)
  · exact hf1 j hj
theorem nw_copyb (hexec : p.tables.exec = Jvm.exec) (hb : c.code = cc) (hml : c.maxLocals = ls.size) {own : String} {index : Nat} (hown : s.vm.findClass own = some m.cls) (hlink : (Cond.methodLink own index arraycopyName).before args s = true) (hnat : (Cond.native arraycopyName).before args s = true) (hstat : (Cond.static arraycopyName).before args s = true) (hini : (Cond.initialized "java/lang/System").before args s = true)
    (hK : va_K g.1 vcl (tyA g.2.1) s) (hO : okn g T σ pl) (hU : inj T) {k0 k1 n0 n1 : Nat} {fl0 fl1 : List (Nat × Nat)} (ka0 : T a0 = some k0) (hk0 : nsp k0 = (1, n0, fl0)) (ka : T a = some k1) (hk1 : nsp k1 = (1, n1, fl1)) (hP : va_P g.1 vcl (X ++ pl) H) (hD : va_D A (X ++ pl)) (hS : va_S A H0 H locs) {sp dp n : Nat} (h4 : sp + n ≤ n0) (h5 : dp + n ≤ n1) (hbd : n0 < 2 ^ 31 ∧ n1 < 2 ^ 31) (hframes : 1 ≤ R.frames) (hlocals : (rest.map fun v => v.category).sum + (nativeFrameWords "java/lang/System" "arraycopy" 5 + 11) ≤ R.locals) (hdg : decode cc pc = .ok (.invokestatic index, 3))
    (kk : ∀ (σ1 : Sto) (pl : va_W) (H1 : Heap) (locs1 : List Loc), σ1 = sC σ k0 k1 sp dp n → okn g T σ1 pl → va_P g.1 vcl (X ++ pl) H1 → va_D A (X ++ pl) → va_S A H0 H1 locs1 → W p l e R s m args below meth c H1 locs1 cells slots Q (F0 m (pc + 3) ls rest)) : W p l e R s m args below meth c H locs cells slots Q (F0 m pc ls (.int (nI n) :: .int (nI dp) :: .ref a :: .int (nI sp) :: .ref a0 :: rest)) := by
  obtain ⟨j0, e0, h1, h1'⟩ := hO a0 k0 ka0
  obtain ⟨f0, rfl, hf0, hb0⟩ := nfit_of h1' hk0
  obtain ⟨j1, e1, h2, h2'⟩ := hO a k1 ka
  obtain ⟨f1, rfl, hf1, hb1⟩ := nfit_of h2' hk1
  have c1 : (nI sp).toNatClampNeg = sp := nI_clamp (by omega)
  have c2 : (nI dp).toNatClampNeg = dp := nI_clamp (by omega)
  have c3 : (nI n).toNatClampNeg = n := nI_clamp (by omega)
  refine va_copyi (ty := .byte) hexec hb hml hown hlink hnat hstat hini hK hP hD hS (X.length + j0) (X.length + j1) 1 1 (pl_at h1) (pl_at h2) rfl rfl rfl (nI_pos (by omega)) (nI_pos (by omega)) (nI_pos (by omega)) (by rw [c1, c3]; exact h4) (by rw [c2, c3]; exact h5) (fun i _ => hb0 _) hframes hlocals hdg (fun H1 locs1 h6 h7 h8 => ?_)
  rw [pl_set, c1, c2, c3] at h6 h7
  refine kk _ _ H1 locs1 rfl (okn_set hO hU ka h2 (nfit_mk hk1 ⟨_, rfl, ?_, byt_cpy hb0 hb1 _ _ _⟩) (fun _ h => uA_ne h) (fun _ _ => rfl)) h6 h7 h8
  show ∀ j, j < n1 → _ = uA σ.1 k1 _ k1 j
  rw [uA_eq]
  intro j hj
  unfold va_cpy
  split
  · exact hf0 _ (show _ < n0 by omega)
  · exact hf1 j hj
theorem pn_V {E : (Nat → Prop) → State → Heap → Prop} (hEo : EnvOk E) {As : List Value} {b ci kn : Nat} {fl : List (Nat × Nat)} {r : vw_C} {cx : va_W} {tys : List (ClassId × FieldType)} (hK : va_K g.1 vcl tys s) (hO : okn g T σ pl) (ka : T b = some kn) (hk : nsp kn = (5, ci, fl)) (hP : va_P g.1 vcl (X ++ pl) H) (hD : va_D A (X ++ pl)) (hS : va_S A s.heap H locs) (hA : ∀ q, s.heap.size ≤ q → A q) (hE : E A s s.heap) (isC : List Nat) (hC : isC.map (fun i => X[i]?) = cx.map some) (hn : va_nd isC = true) (hc : vcl[ci]? = some r) : PreV s H r.1 b (va_Pc (.ref b :: As) (pr E g.1 vcl H.size (cx ++ pl))) As := by
  obtain ⟨q0, fs, h1, -, -⟩ := nw_obj hO ka hk
  exact ⟨pr_blind hEo, va_recv hK hP hc (pl_at h1), pp_at hEo hP hD hS hA hE isC hC hn⟩
end RowsN
