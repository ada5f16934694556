set_option linter.all false
/-! kinds: what stands at an address, whatever its contents; the pool holds all cells that have a kind -/
abbrev Knd : Type := Nat × Nat
abbrev Ty : Type := Nat → Option Knd
/-- a field's condition by a code: 0 any int, 1 the number p, 2 a number up to p, 3 a cell of the kind (i, p), 4 null or such a cell, 5 any long, 6 the cell p, 7 null -/
def fsp (T : Ty) (c : Nat × Nat × Nat) (v : Value) : Prop := match c.1 with
  | 0 => ∃ z : Int32, v = .int z
  | 1 => v = .int (nI c.2.2)
  | 2 => ∃ z : Nat, z ≤ c.2.2 ∧ v = .int (nI z)
  | 3 => ∃ r : Nat, v = .ref r ∧ T r = some c.2
  | 4 => ∃ o : Option Nat, v = va_rf o ∧ ∀ r, o = some r → T r = some c.2
  | 5 => ∃ z : Int64, v = .long z
  | 6 => v = .ref c.2.2
  | _ => v = .null
def fall (T : Ty) : List (Nat × Nat × Nat) → List Value → Prop
  | [], [] => True
  | c :: cs, v :: vs => fsp T c v ∧ fall T cs vs
  | _, _ => False
theorem fall_get {T : Ty} : ∀ {cs : List (Nat × Nat × Nat)} {fs : List Value}, fall T cs fs → ∀ {j : Nat} {c : Nat × Nat × Nat}, cs[j]? = some c → ∃ v, fs[j]? = some v ∧ fsp T c v
  | [], _, _, j, c, hj => by simp at hj
  | _ :: _, [], h, _, _, _ => h.elim
  | c0 :: cs, v :: vs, h, 0, c, hj => ⟨v, rfl, by simp at hj; rw [← hj]; exact h.1⟩
  | c0 :: cs, v :: vs, h, j + 1, c, hj => by
    obtain ⟨w, h1, h2⟩ := fall_get h.2 (j := j) (c := c) (by simpa using hj)
    exact ⟨w, by simpa using h1, h2⟩
/-- what a byte array holds -/
def byt (f : Nat → Int32) : Prop := ∀ j, fits .byte (.int (f j)) = true
theorem byt_nar (x : Int32) : fits .byte (.int (vp_nar .byte x)) = true := by
  rw [vp_nar_byte]
  have h1 := Int8.le_toInt x.toInt8
  have h2 := Int8.toInt_lt x.toInt8
  simp only [fits, Bool.and_eq_true, decide_eq_true_eq, Int32.le_iff_toInt_le, Int8.toInt_toInt32]
  constructor
  · show (-128 : Int) ≤ _
    omega
  · show _ ≤ (127 : Int)
    omega
theorem byt_upd {f : Nat → Int32} (h : byt f) (i : Nat) (x : Int32) : byt (upd f i (vp_nar .byte x)) := fun j => by
  by_cases q : j = i
  · simp only [upd, q, if_true]; exact byt_nar x
  · simp only [upd, q, if_false]; exact h j
theorem byt_cpy {f g : Nat → Int32} (hf : byt f) (hg : byt g) (a b n : Nat) : byt (va_cpy f g a b n) := fun j => by
  unfold va_cpy
  split
  · exact hf _
  · exact hg _
theorem byt_0 : byt (fun _ => 0) := fun _ => rfl
def kpub (s : Nat) : Nat := [800, 1184, 1568, 1312, 1952, 2592].getD s 0
def ksec (s : Nat) : Nat := [1632, 2400, 3168, 2560, 4032, 4896].getD s 0
/-- the objects: a class's place in vcl, and its fields' conditions -/
def kob (i p : Nat) : Nat × List (Nat × Nat × Nat) := match i with
  | 11 => (4, [(1, 0, 3329), (1, 0, 7), (0, 0, 0), (3, 0, 128)])
  | 12 => (4, [(1, 0, 8380417), (1, 0, 8), (0, 0, 0), (3, 0, 256)])
  | 13 => (5, [(3, 10, 1), (3, 11, 0), (3, 3, 4), (3, 0, 256), (3, 0, 256), (3, 1, 32), (3, 1, 32), (3, 1, 64), (3, 1, 192), (3, 1, 1568)])
  | 14 => (7, [(3, 10, 3), (3, 1, 640)])
  | 15 => (6, [(3, 10, 2), (3, 12, 0), (3, 14, 0), (3, 3, 56), (3, 3, 7), (3, 3, 8), (3, 3, 8), (3, 3, 7), (3, 3, 8), (3, 0, 256), (3, 0, 256), (3, 1, 128), (3, 1, 64), (3, 1, 64), (3, 1, 64), (3, 8, 84), (3, 1, 192)])
  | 21 => (10, [(1, 0, 3329), (1, 0, 128), (3, 2, 256), (3, 9, 128), (5, 0, 0)])
  | 22 => (10, [(1, 0, 8380417), (1, 0, 256), (3, 2, 512), (3, 9, 256), (5, 0, 0)])
  | 23 => (11, [(3, 20, 0), (3, 21, 0), (3, 3, 16), (3, 3, 4), (3, 3, 4), (3, 3, 4), (3, 0, 256), (3, 0, 256), (3, 0, 256), (3, 1, 64), (3, 1, 192), (3, 1, 32), (3, 1, 32), (3, 1, 1568)])
  | 40 => (1, [(1, 0, 2), (1, 0, 3), (1, 0, 10), (1, 0, 4), (1, 0, 800), (1, 0, 1632), (1, 0, 768), (1, 0, 768), (1, 0, 1568), (1, 0, 1600)])
  | 41 => (1, [(1, 0, 3), (1, 0, 2), (1, 0, 10), (1, 0, 4), (1, 0, 1184), (1, 0, 2400), (1, 0, 1088), (1, 0, 1152), (1, 0, 2336), (1, 0, 2368)])
  | 42 => (1, [(1, 0, 4), (1, 0, 2), (1, 0, 11), (1, 0, 5), (1, 0, 1568), (1, 0, 3168), (1, 0, 1568), (1, 0, 1536), (1, 0, 3104), (1, 0, 3136)])
  | 43 => (2, [(1, 0, 4), (1, 0, 4), (1, 0, 2), (1, 0, 3), (1, 0, 39), (1, 0, 32), (1, 0, 18), (1, 0, 131072), (1, 0, 44), (1, 0, 6), (1, 0, 95232), (1, 0, 80), (1, 0, 78), (1, 0, 1312), (1, 0, 2560), (1, 0, 2336), (1, 0, 2420)])
  | 44 => (2, [(1, 0, 6), (1, 0, 5), (1, 0, 4), (1, 0, 4), (1, 0, 49), (1, 0, 48), (1, 0, 20), (1, 0, 524288), (1, 0, 16), (1, 0, 4), (1, 0, 261888), (1, 0, 55), (1, 0, 196), (1, 0, 1952), (1, 0, 4032), (1, 0, 3248), (1, 0, 3309)])
  | 45 => (2, [(1, 0, 8), (1, 0, 7), (1, 0, 2), (1, 0, 3), (1, 0, 60), (1, 0, 64), (1, 0, 20), (1, 0, 524288), (1, 0, 16), (1, 0, 4), (1, 0, 261888), (1, 0, 75), (1, 0, 120), (1, 0, 2592), (1, 0, 4896), (1, 0, 4544), (1, 0, 4627)])
  | 46 => (12, [(3, 20, 0), (3, 22, 0), (3, 3, 64), (3, 3, 7), (3, 3, 8), (3, 3, 8), (3, 3, 8), (3, 3, 7), (3, 3, 7), (3, 3, 7), (3, 3, 8), (3, 3, 8), (3, 0, 256), (3, 0, 256), (3, 0, 256), (3, 2, 256), (3, 1, 128), (3, 1, 64), (3, 1, 64), (3, 1, 640), (3, 1, 64), (3, 1, 64), (3, 1, 64), (1, 0, 0), (1, 0, 4), (1, 0, 4), (1, 0, 2), (1, 0, 131072), (1, 0, 95232), (1, 0, 78), (1, 0, 32)])
  | 47 => (12, [(3, 20, 0), (3, 22, 0), (3, 3, 64), (3, 3, 7), (3, 3, 8), (3, 3, 8), (3, 3, 8), (3, 3, 7), (3, 3, 7), (3, 3, 7), (3, 3, 8), (3, 3, 8), (3, 0, 256), (3, 0, 256), (3, 0, 256), (3, 2, 256), (3, 1, 128), (3, 1, 64), (3, 1, 64), (3, 1, 640), (3, 1, 64), (3, 1, 64), (3, 1, 64), (1, 0, 1), (1, 0, 6), (1, 0, 5), (1, 0, 4), (1, 0, 524288), (1, 0, 261888), (1, 0, 196), (1, 0, 48)])
  | 48 => (12, [(3, 20, 0), (3, 22, 0), (3, 3, 64), (3, 3, 7), (3, 3, 8), (3, 3, 8), (3, 3, 8), (3, 3, 7), (3, 3, 7), (3, 3, 7), (3, 3, 8), (3, 3, 8), (3, 0, 256), (3, 0, 256), (3, 0, 256), (3, 2, 256), (3, 1, 128), (3, 1, 64), (3, 1, 64), (3, 1, 640), (3, 1, 64), (3, 1, 64), (3, 1, 64), (1, 0, 2), (1, 0, 8), (1, 0, 7), (1, 0, 2), (1, 0, 524288), (1, 0, 261888), (1, 0, 120), (1, 0, 64)])
  | 49 => (12, [(3, 20, 0), (3, 22, 0), (3, 3, 64), (3, 3, 7), (3, 3, 8), (3, 3, 8), (3, 3, 8), (3, 3, 7), (3, 3, 7), (3, 3, 7), (3, 3, 8), (3, 3, 8), (3, 0, 256), (3, 0, 256), (3, 0, 256), (3, 2, 256), (3, 1, 128), (3, 1, 64), (3, 1, 64), (3, 1, 640), (3, 1, 64), (3, 1, 64), (3, 1, 64), (0, 0, 0), (0, 0, 0), (0, 0, 0), (0, 0, 0), (0, 0, 0), (0, 0, 0), (0, 0, 0), (0, 0, 0)])
  | 16 => (13, [(1, 0, p), (3, 1, kpub p), (7, 0, 0)])
  | 17 => (13, [(1, 0, p), (3, 1, kpub p), (3, 1, ksec p)])
  | _ => (0, [])
def kfit (g : Gd) (T : Ty) (k : Knd) (e : va_E) : Prop := match k.1 with
  | 0 => ∃ f : Nat → Int32, e = .inl (g.2.1 0, k.2, .inl f)
  | 1 => ∃ f : Nat → Int32, e = .inl (g.2.1 1, k.2, .inl f) ∧ byt f
  | 2 => ∃ f : Nat → Int64, e = .inl (g.2.1 2, k.2, .inr (.inl f))
  | 3 => ∃ f : Nat → Option Nat, e = .inl (g.2.1 6, k.2, .inr (.inr (.inr (.inr f)))) ∧ ∀ j, j < k.2 → ∃ r, f j = some r ∧ T r = some (0, 256)
  | 4 => ∃ f : Nat → Option Nat, e = .inl (g.2.1 7, 8, .inr (.inr (.inr (.inr f)))) ∧ ∀ j, j < 8 → ∃ r, f j = some r ∧ T r = some (1, k.2)
  | 5 => ∃ f : Nat → Int32, e = .inl (g.2.1 0, 8, .inl f) ∧ ∀ j, j < 8 → ∃ z, z ≤ k.2 ∧ f j = nI z
  | 6 => ∃ f : Nat → Option Nat, e = .inl (g.2.1 5, 8, .inr (.inr (.inr (.inr f)))) ∧ ∀ j, j < 8 → ∀ r, f j = some r → ∃ s, s < 6 ∧ (T r = some (17, s) ∨ T r = some (16, s))
  | 8 => ∃ f : Nat → Int32, e = .inl (g.2.1 1, k.2, .inl f) ∧ byt f
  | 9 => ∃ f : Nat → Int32, e = .inl (g.2.1 0, k.2, .inl f) ∧ ∀ j, j < k.2 → ∃ z, z < 2 * k.2 ∧ f j = nI z
  | 10 => ∃ (ln rt ps : Nat) (x : Int32), e = .inr (3, [.ref ln, .int (nI rt), .int x, .int (nI ps)]) ∧ T ln = some (19, k.2) ∧ 0 < rt ∧ rt < 200 ∧ ps ≤ rt
  | 19 => ∃ f : Nat → Int64, e = .inl (g.2.1 2, 25, .inr (.inl f))
  | 20 => ∃ (a0 a1 a2 a3 a4 rt ps : Nat) (x : Int32), e = .inr (9, [.ref a0, .ref a1, .ref a2, .ref a3, .ref a4, .int (nI rt), .int (nI ps), .int x]) ∧ T a0 = some (30, 25) ∧ T a1 = some (31, 25) ∧ T a2 = some (32, 5) ∧ T a3 = some (33, 24) ∧ T a4 = some (34, 25) ∧ 0 ≤ rt ∧ rt < 200 ∧ ps ≤ rt
  | 30 => ∃ f : Nat → Int64, e = .inl (g.2.1 2, k.2, .inr (.inl f))
  | 31 => ∃ f : Nat → Int64, e = .inl (g.2.1 2, k.2, .inr (.inl f))
  | 32 => ∃ f : Nat → Int64, e = .inl (g.2.1 2, k.2, .inr (.inl f))
  | 33 => ∃ f : Nat → Int64, e = .inl (g.2.1 2, k.2, .inr (.inl f))
  | 34 => ∃ f : Nat → Int32, e = .inl (g.2.1 0, k.2, .inl f)
  | 50 => ∃ f : Nat → Option Nat, e = .inl (g.2.1 3, 3, .inr (.inr (.inr (.inr f)))) ∧ ∀ j, j < 3 → ∃ r, f j = some r ∧ T r = some (40 + j, 0)
  | 51 => ∃ f : Nat → Option Nat, e = .inl (g.2.1 4, 3, .inr (.inr (.inr (.inr f)))) ∧ ∀ j, j < 3 → ∃ r, f j = some r ∧ T r = some (43 + j, 0)
  | i => ∃ fs : List Value, e = .inr ((kob i k.2).1, fs) ∧ fall T (kob i k.2).2 fs
/-- cells that may be taken out of the pool for a while go in groups: a sponge and its rows, the hints; 0 never goes -/
def grp (k : Knd) : Nat := match k.1 with
  | 8 => 20
  | 10 => k.2 + 1
  | 19 => k.2 + 1
  | 20 => 9
  | 30 => 9
  | 31 => 9
  | 32 => 9
  | 33 => 9
  | 34 => 9
  | 49 => 11
  | _ => 0
def okx (g : Gd) (T : Ty) (xs : List Nat) (pl : va_W) : Prop := ∀ (a : Nat) (k : Knd), T a = some k → a ∉ xs → ∃ (i : Nat) (e : va_E), pl[i]? = some (a, e) ∧ kfit g T k e
/-- no cell of the group p is out -/
def clo (T : Ty) (xs : List Nat) (p : Nat) : Prop := ∀ (a : Nat) (k : Knd), T a = some k → a ∈ xs → grp k ≠ p
theorem nxg {T : Ty} {xs : List Nat} {p a : Nat} {k : Knd} (h : clo T xs p) (ka : T a = some k) (hg : grp k = p) : a ∉ xs := fun q => h a k ka q hg
theorem clo_nil {T : Ty} {p : Nat} : clo T [] p := fun _ _ _ h => nomatch h
theorem clo_cons {T : Ty} {xs : List Nat} {p b : Nat} {k : Knd} (h : clo T xs p) (kb : T b = some k) (hg : grp k ≠ p) : clo T (b :: xs) p := fun a k' ka hm => by
  rcases List.mem_cons.mp hm with q | q
  · subst q
    rw [Option.some.inj (ka.symm.trans kb)]
    exact hg
  · exact h a k' ka q
/-- cells of these groups are one of a kind -/
def uni (T : Ty) : Prop := ∀ (a b : Nat) (k : Knd), grp k ≠ 0 → T a = some k → T b = some k → a = b
theorem nmc {xs : List Nat} {a b : Nat} (h : a ≠ b) (hx : a ∉ xs) : a ∉ b :: xs := fun q => by
  rcases List.mem_cons.mp q with q | q
  · exact h q
  · exact hx q
theorem okx_set {g : Gd} {T : Ty} {xs : List Nat} {pl : va_W} (hO : okx g T xs pl) {a : Nat} {k : Knd} (ka : T a = some k) {i : Nat} {e e' : va_E} (hi : pl[i]? = some (a, e)) (he : kfit g T k e') : okx g T xs (pl.set i (a, e')) := by
  intro b kb hb hx
  have hl := (List.getElem?_eq_some_iff.mp hi).1
  by_cases hba : b = a
  · subst hba
    have hk : kb = k := Option.some.inj (hb.symm.trans ka)
    subst hk
    exact ⟨i, e', List.getElem?_set_self hl, he⟩
  · obtain ⟨j, e1, h1, h2⟩ := hO b kb hb hx
    refine ⟨j, e1, ?_, h2⟩
    rw [List.getElem?_set_ne]
    · exact h1
    · intro hij
      subst hij
      exact hba (congrArg Prod.fst (Option.some.inj (h1.symm.trans hi)))
theorem pl_at {X pl : va_W} {i : Nat} {q : Nat × va_E} (h : pl[i]? = some q) : (X ++ pl)[X.length + i]? = some q := by
  rw [List.getElem?_append_right (Nat.le_add_right _ _), Nat.add_sub_cancel_left]
  exact h
theorem pl_set {X pl : va_W} {i : Nat} {q : Nat × va_E} : (X ++ pl).set (X.length + i) q = X ++ pl.set i q := by
  rw [List.set_append_right _ _ (Nat.le_add_right _ _), Nat.add_sub_cancel_left]
theorem ty_obj {g : Gd} {T : Ty} {xs : List Nat} {pl X : va_W} {a : Nat} {k : Knd} {ci : Nat} {cs : List (Nat × Nat × Nat)} (hO : okx g T xs pl) (ka : T a = some k) (hx : a ∉ xs) (hk : ∀ e, kfit g T k e → ∃ fs : List Value, e = .inr (ci, fs) ∧ fall T cs fs) : ∃ (q0 : Nat) (fs : List Value), (X ++ pl)[q0]? = some (a, .inr (ci, fs)) ∧ fall T cs fs := by
  obtain ⟨i, e, h1, h2⟩ := hO a k ka hx
  obtain ⟨fs, rfl, h3⟩ := hk e h2
  exact ⟨X.length + i, fs, pl_at h1, h3⟩
section RowsT
variable {p : Program} {l : Launch} {e : Env} {R : Room} {s : State} {m : MethodId} {args : Array Value} {below : List Frame} {meth : Method} {c : Code} {H : Heap} {locs : List Loc} {cells slots : Nat} {Q : State → Prop}
variable {cc : ByteArray} {pc : Nat} {ls : Array Slot} {rest st0 : List Value} {g : Gd} {A : Nat → Prop} {a : Nat} {X pl : va_W} {H0 : Heap} {T : Ty} {xs : List Nat}
theorem ty_iald (hexec : p.tables.exec = Jvm.exec) (hb : c.code = cc) (hK : va_K g.1 vcl (tyA g.2.1) s) (hO : okx g T xs pl) {n : Nat} (ka : T a = some (0, n)) (hx : a ∉ xs) (hP : va_P g.1 vcl (X ++ pl) H) {i : Int32} (hin : vp_in i n) (hdg : decode cc pc = .ok (.iaload, 1))
    (kk : ∀ z : Int32, W p l e R s m args below meth c H locs cells slots Q (F0 m (pc + 1) ls (.int z :: rest))) : W p l e R s m args below meth c H locs cells slots Q (F0 m pc ls (.int i :: .ref a :: rest)) := by
  obtain ⟨i0, e0, h1, f, rfl⟩ := hO a _ ka hx
  exact va_iald hexec hb hK hP (X.length + i0) 0 (pl_at h1) rfl hin hdg (kk _)
theorem ty_iald9 (hexec : p.tables.exec = Jvm.exec) (hb : c.code = cc) (hK : va_K g.1 vcl (tyA g.2.1) s) (hO : okx g T xs pl) {n : Nat} (ka : T a = some (9, n)) (hx : a ∉ xs) (hP : va_P g.1 vcl (X ++ pl) H) {i : Nat} (hi : i < n) (hn : n < 2 ^ 31) (hdg : decode cc pc = .ok (.iaload, 1))
    (kk : ∀ z : Nat, z < 2 * n → W p l e R s m args below meth c H locs cells slots Q (F0 m (pc + 1) ls (.int (nI z) :: rest))) : W p l e R s m args below meth c H locs cells slots Q (F0 m pc ls (.int (nI i) :: .ref a :: rest)) := by
  obtain ⟨i0, e0, h1, f, rfl, h2⟩ := hO a _ ka hx
  obtain ⟨z, hz, ez⟩ := h2 i hi
  refine va_iald hexec hb hK hP (X.length + i0) 0 (pl_at h1) rfl (vp_in_nI hi hn) hdg ?_
  rw [nI_clamp (by omega), ez]
  exact kk z hz
theorem ty_iald5 (hexec : p.tables.exec = Jvm.exec) (hb : c.code = cc) (hK : va_K g.1 vcl (tyA g.2.1) s) (hO : okx g T xs pl) {b : Nat} (ka : T a = some (5, b)) (hx : a ∉ xs) (hP : va_P g.1 vcl (X ++ pl) H) {i : Nat} (hi : i < 8) (hdg : decode cc pc = .ok (.iaload, 1))
    (kk : ∀ z : Nat, z ≤ b → W p l e R s m args below meth c H locs cells slots Q (F0 m (pc + 1) ls (.int (nI z) :: rest))) : W p l e R s m args below meth c H locs cells slots Q (F0 m pc ls (.int (nI i) :: .ref a :: rest)) := by
  obtain ⟨i0, e0, h1, f, rfl, h2⟩ := hO a _ ka hx
  obtain ⟨z, hz, ez⟩ := h2 i hi
  refine va_iald hexec hb hK hP (X.length + i0) 0 (pl_at h1) rfl (vp_in_nI hi (by decide)) hdg ?_
  rw [nI_clamp (by omega), ez]
  exact kk z hz
theorem ty_bald (hexec : p.tables.exec = Jvm.exec) (hb : c.code = cc) (hK : va_K g.1 vcl (tyA g.2.1) s) (hO : okx g T xs pl) {n : Nat} (ka : T a = some (1, n)) (hx : a ∉ xs) (hP : va_P g.1 vcl (X ++ pl) H) {i : Int32} (hin : vp_in i n) (hdg : decode cc pc = .ok (.baload, 1))
    (kk : ∀ z : Int32, W p l e R s m args below meth c H locs cells slots Q (F0 m (pc + 1) ls (.int z :: rest))) : W p l e R s m args below meth c H locs cells slots Q (F0 m pc ls (.int i :: .ref a :: rest)) := by
  obtain ⟨i0, e0, h1, f, rfl, hby⟩ := hO a _ ka hx
  exact va_bald hexec hb hK hP (X.length + i0) 1 (pl_at h1) rfl hin hdg (kk _)
theorem ty_bald8 (hexec : p.tables.exec = Jvm.exec) (hb : c.code = cc) (hK : va_K g.1 vcl (tyA g.2.1) s) (hO : okx g T xs pl) {n : Nat} (ka : T a = some (8, n)) (hx : a ∉ xs) (hP : va_P g.1 vcl (X ++ pl) H) {i : Int32} (hin : vp_in i n) (hdg : decode cc pc = .ok (.baload, 1))
    (kk : ∀ z : Int32, W p l e R s m args below meth c H locs cells slots Q (F0 m (pc + 1) ls (.int z :: rest))) : W p l e R s m args below meth c H locs cells slots Q (F0 m pc ls (.int i :: .ref a :: rest)) := by
  obtain ⟨i0, e0, h1, f, rfl, hby⟩ := hO a _ ka hx
  exact va_bald hexec hb hK hP (X.length + i0) 1 (pl_at h1) rfl hin hdg (kk _)
theorem ty_lald (hexec : p.tables.exec = Jvm.exec) (hb : c.code = cc) (hK : va_K g.1 vcl (tyA g.2.1) s) (hO : okx g T xs pl) {n : Nat} (ka : T a = some (2, n)) (hx : a ∉ xs) (hP : va_P g.1 vcl (X ++ pl) H) {i : Int32} (hin : vp_in i n) (hdg : decode cc pc = .ok (.laload, 1))
    (kk : ∀ z : Int64, W p l e R s m args below meth c H locs cells slots Q (F0 m (pc + 1) ls (.long z :: rest))) : W p l e R s m args below meth c H locs cells slots Q (F0 m pc ls (.int i :: .ref a :: rest)) := by
  obtain ⟨i0, e0, h1, f, rfl⟩ := hO a _ ka hx
  exact va_lald hexec hb hK hP (X.length + i0) 2 (pl_at h1) rfl hin hdg (kk _)
theorem ty_aald3 (hexec : p.tables.exec = Jvm.exec) (hb : c.code = cc) (hK : va_K g.1 vcl (tyA g.2.1) s) (hO : okx g T xs pl) {n : Nat} (ka : T a = some (3, n)) (hx : a ∉ xs) (hP : va_P g.1 vcl (X ++ pl) H) {i : Nat} (hi : i < n) (hn : n < 2 ^ 31) (hdg : decode cc pc = .ok (.aaload, 1))
    (kk : ∀ r : Nat, T r = some (0, 256) → W p l e R s m args below meth c H locs cells slots Q (F0 m (pc + 1) ls (.ref r :: rest))) : W p l e R s m args below meth c H locs cells slots Q (F0 m pc ls (.int (nI i) :: .ref a :: rest)) := by
  obtain ⟨i0, e0, h1, f, rfl, h2⟩ := hO a _ ka hx
  obtain ⟨r, er, hr⟩ := h2 i hi
  have hc : (nI i).toNatClampNeg = i := nI_clamp (by omega)
  exact W.aald (v := .ref r) (ty := .array .int) hexec hb (hP _ _ (pl_at h1)) ((hK.2 6 _ rfl).1 n (fun j => va_rf (f j))) rfl (fun q => by cases q) (by show ¬ (nI i < 0 ∨ (arrV _ _ _).slots.size ≤ _); rw [arrV_size]; exact vp_in_nI hi hn) (by show (arrV _ _ _).slots[_]? = _; rw [hc, arrV_read _ _ hi, er]; rfl) rfl rfl hdg (kk r hr)
theorem ty_aald4 (hexec : p.tables.exec = Jvm.exec) (hb : c.code = cc) (hK : va_K g.1 vcl (tyA g.2.1) s) (hO : okx g T xs pl) {n : Nat} (ka : T a = some (4, n)) (hx : a ∉ xs) (hP : va_P g.1 vcl (X ++ pl) H) {i : Nat} (hi : i < 8) (hdg : decode cc pc = .ok (.aaload, 1))
    (kk : ∀ r : Nat, T r = some (1, n) → W p l e R s m args below meth c H locs cells slots Q (F0 m (pc + 1) ls (.ref r :: rest))) : W p l e R s m args below meth c H locs cells slots Q (F0 m pc ls (.int (nI i) :: .ref a :: rest)) := by
  obtain ⟨i0, e0, h1, f, rfl, h2⟩ := hO a _ ka hx
  obtain ⟨r, er, hr⟩ := h2 i hi
  have hc : (nI i).toNatClampNeg = i := nI_clamp (by omega)
  exact W.aald (v := .ref r) (ty := .array .byte) hexec hb (hP _ _ (pl_at h1)) ((hK.2 7 _ rfl).1 8 (fun j => va_rf (f j))) rfl (fun q => by cases q) (by show ¬ (nI i < 0 ∨ (arrV _ _ _).slots.size ≤ _); rw [arrV_size]; exact vp_in_nI (N := 8) hi (by decide)) (by show (arrV _ _ _).slots[_]? = _; rw [hc, arrV_read _ _ hi, er]; rfl) rfl rfl hdg (kk r hr)
theorem ty_aald6 (hexec : p.tables.exec = Jvm.exec) (hb : c.code = cc) (hK : va_K g.1 vcl (tyA g.2.1) s) (hO : okx g T xs pl) {n : Nat} (ka : T a = some (6, n)) (hx : a ∉ xs) (hP : va_P g.1 vcl (X ++ pl) H) {i : Nat} (hi : i < 8) (hdg : decode cc pc = .ok (.aaload, 1))
    (kk : ∀ o : Option Nat, (∀ r, o = some r → ∃ s, s < 6 ∧ (T r = some (17, s) ∨ T r = some (16, s))) → W p l e R s m args below meth c H locs cells slots Q (F0 m (pc + 1) ls (va_rf o :: rest))) : W p l e R s m args below meth c H locs cells slots Q (F0 m pc ls (.int (nI i) :: .ref a :: rest)) := by
  obtain ⟨i0, e0, h1, f, rfl, h2⟩ := hO a _ ka hx
  have hc : (nI i).toNatClampNeg = i := nI_clamp (by omega)
  refine va_aldq hexec hb hK hP (X.length + i0) 5 (pl_at h1) rfl (vp_in_nI hi (by decide)) hdg (kk _ ?_)
  rw [hc]
  exact h2 i hi
theorem ty_aald50 (hexec : p.tables.exec = Jvm.exec) (hb : c.code = cc) (hK : va_K g.1 vcl (tyA g.2.1) s) (hO : okx g T xs pl) (ka : T a = some (50, 0)) (hx : a ∉ xs) (hP : va_P g.1 vcl (X ++ pl) H) {i : Nat} (hi : i < 3) (hdg : decode cc pc = .ok (.aaload, 1))
    (kk : ∀ r : Nat, T r = some (40 + i, 0) → W p l e R s m args below meth c H locs cells slots Q (F0 m (pc + 1) ls (.ref r :: rest))) : W p l e R s m args below meth c H locs cells slots Q (F0 m pc ls (.int (nI i) :: .ref a :: rest)) := by
  obtain ⟨i0, e0, h1, f, rfl, h2⟩ := hO a _ ka hx
  obtain ⟨r, er, hr⟩ := h2 i hi
  have hc : (nI i).toNatClampNeg = i := nI_clamp (by omega)
  refine va_aldq hexec hb hK hP (X.length + i0) 3 (pl_at h1) rfl (vp_in_nI (N := 3) hi (by decide)) hdg ?_
  rw [hc, er]
  exact kk r hr
theorem ty_aald51 (hexec : p.tables.exec = Jvm.exec) (hb : c.code = cc) (hK : va_K g.1 vcl (tyA g.2.1) s) (hO : okx g T xs pl) (ka : T a = some (51, 0)) (hx : a ∉ xs) (hP : va_P g.1 vcl (X ++ pl) H) {i : Nat} (hi : i < 3) (hdg : decode cc pc = .ok (.aaload, 1))
    (kk : ∀ r : Nat, T r = some (43 + i, 0) → W p l e R s m args below meth c H locs cells slots Q (F0 m (pc + 1) ls (.ref r :: rest))) : W p l e R s m args below meth c H locs cells slots Q (F0 m pc ls (.int (nI i) :: .ref a :: rest)) := by
  obtain ⟨i0, e0, h1, f, rfl, h2⟩ := hO a _ ka hx
  obtain ⟨r, er, hr⟩ := h2 i hi
  have hc : (nI i).toNatClampNeg = i := nI_clamp (by omega)
  refine va_aldq hexec hb hK hP (X.length + i0) 4 (pl_at h1) rfl (vp_in_nI (N := 3) hi (by decide)) hdg ?_
  rw [hc, er]
  exact kk r hr
theorem ty_iast (hexec : p.tables.exec = Jvm.exec) (hb : c.code = cc) (hK : va_K g.1 vcl (tyA g.2.1) s) (hO : okx g T xs pl) {n : Nat} (ka : T a = some (0, n)) (hx : a ∉ xs) (hP : va_P g.1 vcl (X ++ pl) H) (hD : va_D A (X ++ pl)) (hS : va_S A H0 H locs) {i x : Int32} (hin : vp_in i n) (hdg : decode cc pc = .ok (.iastore, 1))
    (kk : ∀ (pl : va_W) (H1 : Heap) (locs1 : List Loc), okx g T xs pl → va_P g.1 vcl (X ++ pl) H1 → va_D A (X ++ pl) → va_S A H0 H1 locs1 → W p l e R s m args below meth c H1 locs1 cells slots Q (F0 m (pc + 1) ls rest)) : W p l e R s m args below meth c H locs cells slots Q (F0 m pc ls (.int x :: .int i :: .ref a :: rest)) := by
  obtain ⟨i0, e0, h1, f, rfl⟩ := hO a _ ka hx
  refine va_iast hexec hb hK hP hD hS (X.length + i0) 0 (pl_at h1) rfl hin hdg (fun H1 locs1 h3 h4 h5 => ?_)
  rw [pl_set] at h3 h4
  exact kk _ H1 locs1 (okx_set hO ka h1 ⟨_, rfl⟩) h3 h4 h5
theorem ty_iast5 (hexec : p.tables.exec = Jvm.exec) (hb : c.code = cc) (hK : va_K g.1 vcl (tyA g.2.1) s) (hO : okx g T xs pl) {b : Nat} (ka : T a = some (5, b)) (hx : a ∉ xs) (hP : va_P g.1 vcl (X ++ pl) H) (hD : va_D A (X ++ pl)) (hS : va_S A H0 H locs) {i x : Nat} (hi : i < 8) (hxb : x ≤ b) (hdg : decode cc pc = .ok (.iastore, 1))
    (kk : ∀ (pl : va_W) (H1 : Heap) (locs1 : List Loc), okx g T xs pl → va_P g.1 vcl (X ++ pl) H1 → va_D A (X ++ pl) → va_S A H0 H1 locs1 → W p l e R s m args below meth c H1 locs1 cells slots Q (F0 m (pc + 1) ls rest)) : W p l e R s m args below meth c H locs cells slots Q (F0 m pc ls (.int (nI x) :: .int (nI i) :: .ref a :: rest)) := by
  obtain ⟨i0, e0, h1, f, rfl, h2⟩ := hO a _ ka hx
  refine va_iast hexec hb hK hP hD hS (X.length + i0) 0 (pl_at h1) rfl (vp_in_nI hi (by decide)) hdg (fun H1 locs1 h3 h4 h5 => ?_)
  rw [pl_set] at h3 h4
  refine kk _ H1 locs1 (okx_set hO ka h1 ⟨_, rfl, fun j hj => ?_⟩) h3 h4 h5
  show ∃ z, z ≤ b ∧ upd f _ _ j = nI z
  by_cases q : j = (nI i).toNatClampNeg
  · exact ⟨x, hxb, by simp [upd, q]⟩
  · obtain ⟨z, h6, h7⟩ := h2 j hj
    exact ⟨z, h6, by simp [upd, q, h7]⟩
theorem ty_bast (hexec : p.tables.exec = Jvm.exec) (hb : c.code = cc) (hK : va_K g.1 vcl (tyA g.2.1) s) (hO : okx g T xs pl) {n : Nat} (ka : T a = some (1, n)) (hx : a ∉ xs) (hP : va_P g.1 vcl (X ++ pl) H) (hD : va_D A (X ++ pl)) (hS : va_S A H0 H locs) {i x : Int32} (hin : vp_in i n) (hdg : decode cc pc = .ok (.bastore, 1))
    (kk : ∀ (pl : va_W) (H1 : Heap) (locs1 : List Loc), okx g T xs pl → va_P g.1 vcl (X ++ pl) H1 → va_D A (X ++ pl) → va_S A H0 H1 locs1 → W p l e R s m args below meth c H1 locs1 cells slots Q (F0 m (pc + 1) ls rest)) : W p l e R s m args below meth c H locs cells slots Q (F0 m pc ls (.int x :: .int i :: .ref a :: rest)) := by
  obtain ⟨i0, e0, h1, f, rfl, hby⟩ := hO a _ ka hx
  refine va_bast hexec hb hK hP hD hS (X.length + i0) 1 (pl_at h1) rfl hin hdg (fun H1 locs1 h3 h4 h5 => ?_)
  rw [pl_set] at h3 h4
  exact kk _ H1 locs1 (okx_set hO ka h1 ⟨_, rfl, byt_upd hby _ _⟩) h3 h4 h5
theorem ty_bast8 (hexec : p.tables.exec = Jvm.exec) (hb : c.code = cc) (hK : va_K g.1 vcl (tyA g.2.1) s) (hO : okx g T xs pl) {n : Nat} (ka : T a = some (8, n)) (hx : a ∉ xs) (hP : va_P g.1 vcl (X ++ pl) H) (hD : va_D A (X ++ pl)) (hS : va_S A H0 H locs) {i x : Int32} (hin : vp_in i n) (hdg : decode cc pc = .ok (.bastore, 1))
    (kk : ∀ (pl : va_W) (H1 : Heap) (locs1 : List Loc), okx g T xs pl → va_P g.1 vcl (X ++ pl) H1 → va_D A (X ++ pl) → va_S A H0 H1 locs1 → W p l e R s m args below meth c H1 locs1 cells slots Q (F0 m (pc + 1) ls rest)) : W p l e R s m args below meth c H locs cells slots Q (F0 m pc ls (.int x :: .int i :: .ref a :: rest)) := by
  obtain ⟨i0, e0, h1, f, rfl, hby⟩ := hO a _ ka hx
  refine va_bast hexec hb hK hP hD hS (X.length + i0) 1 (pl_at h1) rfl hin hdg (fun H1 locs1 h3 h4 h5 => ?_)
  rw [pl_set] at h3 h4
  exact kk _ H1 locs1 (okx_set hO ka h1 ⟨_, rfl, byt_upd hby _ _⟩) h3 h4 h5
theorem ty_last (hexec : p.tables.exec = Jvm.exec) (hb : c.code = cc) (hK : va_K g.1 vcl (tyA g.2.1) s) (hO : okx g T xs pl) {n : Nat} (ka : T a = some (2, n)) (hx : a ∉ xs) (hP : va_P g.1 vcl (X ++ pl) H) (hD : va_D A (X ++ pl)) (hS : va_S A H0 H locs) {i : Int32} {x : Int64} (hin : vp_in i n) (hdg : decode cc pc = .ok (.lastore, 1))
    (kk : ∀ (pl : va_W) (H1 : Heap) (locs1 : List Loc), okx g T xs pl → va_P g.1 vcl (X ++ pl) H1 → va_D A (X ++ pl) → va_S A H0 H1 locs1 → W p l e R s m args below meth c H1 locs1 cells slots Q (F0 m (pc + 1) ls rest)) : W p l e R s m args below meth c H locs cells slots Q (F0 m pc ls (.long x :: .int i :: .ref a :: rest)) := by
  obtain ⟨i0, e0, h1, f, rfl⟩ := hO a _ ka hx
  refine va_last hexec hb hK hP hD hS (X.length + i0) 2 (pl_at h1) rfl hin hdg (fun H1 locs1 h3 h4 h5 => ?_)
  rw [pl_set] at h3 h4
  exact kk _ H1 locs1 (okx_set hO ka h1 ⟨_, rfl⟩) h3 h4 h5
theorem ty_alen1 (hexec : p.tables.exec = Jvm.exec) (hb : c.code = cc) (hK : va_K g.1 vcl (tyA g.2.1) s) (hO : okx g T xs pl) {n : Nat} (ka : T a = some (1, n)) (hx : a ∉ xs) (hP : va_P g.1 vcl (X ++ pl) H) (hdg : decode cc pc = .ok (.arraylength, 1))
    (kk : W p l e R s m args below meth c H locs cells slots Q (F0 m (pc + 1) ls (.int (nI n) :: rest))) : W p l e R s m args below meth c H locs cells slots Q (F0 m pc ls (.ref a :: rest)) := by
  obtain ⟨i0, e0, h1, f, rfl, hby⟩ := hO a _ ka hx
  exact va_alen hexec hb hK hP (X.length + i0) 1 (pl_at h1) rfl rfl hdg kk
theorem ty_alen0 (hexec : p.tables.exec = Jvm.exec) (hb : c.code = cc) (hK : va_K g.1 vcl (tyA g.2.1) s) (hO : okx g T xs pl) {n : Nat} (ka : T a = some (0, n)) (hx : a ∉ xs) (hP : va_P g.1 vcl (X ++ pl) H) (hdg : decode cc pc = .ok (.arraylength, 1))
    (kk : W p l e R s m args below meth c H locs cells slots Q (F0 m (pc + 1) ls (.int (nI n) :: rest))) : W p l e R s m args below meth c H locs cells slots Q (F0 m pc ls (.ref a :: rest)) := by
  obtain ⟨i0, e0, h1, f, rfl⟩ := hO a _ ka hx
  exact va_alen hexec hb hK hP (X.length + i0) 0 (pl_at h1) rfl rfl hdg kk
theorem ty_alen8 (hexec : p.tables.exec = Jvm.exec) (hb : c.code = cc) (hK : va_K g.1 vcl (tyA g.2.1) s) (hO : okx g T xs pl) {n : Nat} (ka : T a = some (8, n)) (hx : a ∉ xs) (hP : va_P g.1 vcl (X ++ pl) H) (hdg : decode cc pc = .ok (.arraylength, 1))
    (kk : W p l e R s m args below meth c H locs cells slots Q (F0 m (pc + 1) ls (.int (nI n) :: rest))) : W p l e R s m args below meth c H locs cells slots Q (F0 m pc ls (.ref a :: rest)) := by
  obtain ⟨i0, e0, h1, f, rfl, hby⟩ := hO a _ ka hx
  exact va_alen hexec hb hK hP (X.length + i0) 1 (pl_at h1) rfl rfl hdg kk
/-- a field of a cell that has a kind -/
theorem ty_get (hexec : p.tables.exec = Jvm.exec) (hb : c.code = cc) {own ref C : String} {TT : u_T} {N ci index : Nat} {Ts : List Cond} (hts : ∀ w ∈ Ts, w.before args s = true) (hin : ∀ w ∈ u_ws C TT N, w ∈ Ts) (hown : s.vm.findClass own = some m.cls) (hK : va_K g.1 vcl (tyA g.2.1) s) (hO : okx g T xs pl) {kd : Knd} (ka : T a = some kd) (hx : a ∉ xs) (hP : va_P g.1 vcl (X ++ pl) H) {cs : List (Nat × Nat × Nat)} (hk : ∀ e, kfit g T kd e → ∃ fs : List Value, e = .inr (ci, fs) ∧ fall T cs fs) (hc : vcl[ci]? = some (C, TT, N)) (k : Nat) (hkN : k < N) (hlink : (Cond.fieldLink own index ref (TT k).2.1 (TT k).2.2.1).before args s = true) (hsame : ∀ x, s.fieldFound? (TT k).1 (TT k).2.1 (TT k).2.2.1 = some x → s.fieldFound? ref (TT k).2.1 (TT k).2.2.1 = some x) {cd : Nat × Nat × Nat} (hv : cs[k]? = some cd) (hdg : decode cc pc = .ok (.getfield index, 3))
    (kk : ∀ v, fsp T cd v → W p l e R s m args below meth c H locs cells slots Q (F0 m (pc + 3) ls (v :: rest))) : W p l e R s m args below meth c H locs cells slots Q (F0 m pc ls (.ref a :: rest)) := by
  obtain ⟨q0, fs, h1, h2⟩ := ty_obj (X := X) hO ka hx hk
  obtain ⟨v, h3, h4⟩ := fall_get h2 hv
  exact va_get hexec hb hts hin hown hK hP q0 h1 hc k hkN hlink hsame h3 hdg (kk v h4)
end RowsT
