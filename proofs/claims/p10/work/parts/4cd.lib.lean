set_option linter.all false
/-- a pair that is looked for: none, or the one of kind c at z -/
def pfd (T : TyN) (n off : Nat) (L : List Nat) (v code : Int32) (o : Option Nat) : Prop := (code = nI 0 ∧ o = none) ∨ ∃ z c q : Nat, z < n ∧ v = nI z ∧ c ∈ L ∧ c < 12 ∧ code = nI (c + 1) ∧ o = some q ∧ T q = some (379 + 36 * z + (3 * c + off))
theorem pfd_none {T : TyN} {n off : Nat} {L : List Nat} {v code : Int32} {o : Option Nat} (h : pfd T n off L v code o) (e : code = nI 0) : o = none := by
  rcases h with ⟨-, h⟩ | ⟨z, c, q, -, -, -, h1, h2, -⟩
  · exact h
  · have := (nI_eq (by omega) (by omega)).mp (h2.symm.trans e)
    omega
theorem pfd_at {T : TyN} {n off : Nat} {L : List Nat} {v code : Int32} {o : Option Nat} {c : Nat} (h : pfd T n off L v code o) (hc : c < 12) (e : code = nI (c + 1)) : ∃ z q : Nat, z < n ∧ v = nI z ∧ o = some q ∧ T q = some (379 + 36 * z + (3 * c + off)) := by
  rcases h with ⟨h, -⟩ | ⟨z, c1, q, h1, h2, -, h3, h4, h5, h6⟩
  · have := (nI_eq (by omega) (by omega)).mp (h.symm.trans e)
    omega
  · have := (nI_eq (by omega) (by omega)).mp (h4.symm.trans e)
    obtain rfl : c1 = c := by omega
    exact ⟨z, q, h1, h2, h5, h6⟩
theorem pfd_mem {T : TyN} {n off : Nat} {L : List Nat} {v code : Int32} {o : Option Nat} (h : pfd T n off L v code o) (e : ¬ code = nI 0) : ∃ c ∈ L, code = nI (c + 1) := by
  rcases h with ⟨h, -⟩ | ⟨z, c, q, -, -, h3, -, h4, -⟩
  · exact absurd h e
  · exact ⟨c, h3, h4⟩
theorem npr_pfd {T : TyN} {n z : Nat} {v x : Int32} {o : Option Nat} (h : npr T 379 z x o) (hz : z < n) (hv : v = nI z) : pfd T n 0 [0, 1, 2, 3, 4, 5, 6, 7, 8, 9, 10, 11] v x o := by
  rcases h with h | ⟨c, q, h1, h2, h3, h4⟩
  · exact Or.inl h
  · refine Or.inr ⟨z, c, q, hz, hv, ?_, h1, h2, h3, h4⟩
    have h9 : c = 0 ∨ c = 1 ∨ c = 2 ∨ c = 3 ∨ c = 4 ∨ c = 5 ∨ c = 6 ∨ c = 7 ∨ c = 8 ∨ c = 9 ∨ c = 10 ∨ c = 11 := by omega
    rcases h9 with rfl | rfl | rfl | rfl | rfl | rfl | rfl | rfl | rfl | rfl | rfl | rfl <;> decide
set_option maxRecDepth 100000 in
theorem pr_o0 {z : Nat} (hz : z < 8) : nsp (379 + 36 * z + 0) = (5, 13, [(1, 0), (3, 379 + 36 * z + 1), (3, 379 + 36 * z + 2)]) := by
  have h9 : z = 0 ∨ z = 1 ∨ z = 2 ∨ z = 3 ∨ z = 4 ∨ z = 5 ∨ z = 6 ∨ z = 7 := by omega
  rcases h9 with rfl | rfl | rfl | rfl | rfl | rfl | rfl | rfl <;> rfl
set_option maxRecDepth 100000 in
theorem pr_p0 {z : Nat} (hz : z < 8) : nsp (379 + 36 * z + 1) = (1, 800, []) := by
  have h9 : z = 0 ∨ z = 1 ∨ z = 2 ∨ z = 3 ∨ z = 4 ∨ z = 5 ∨ z = 6 ∨ z = 7 := by omega
  rcases h9 with rfl | rfl | rfl | rfl | rfl | rfl | rfl | rfl <;> rfl
set_option maxRecDepth 100000 in
theorem pr_s0 {z : Nat} (hz : z < 8) : nsp (379 + 36 * z + 2) = (1, 1632, []) := by
  have h9 : z = 0 ∨ z = 1 ∨ z = 2 ∨ z = 3 ∨ z = 4 ∨ z = 5 ∨ z = 6 ∨ z = 7 := by omega
  rcases h9 with rfl | rfl | rfl | rfl | rfl | rfl | rfl | rfl <;> rfl
set_option maxRecDepth 100000 in
theorem pr_o1 {z : Nat} (hz : z < 8) : nsp (379 + 36 * z + 3) = (5, 13, [(1, 1), (3, 379 + 36 * z + 4), (3, 379 + 36 * z + 5)]) := by
  have h9 : z = 0 ∨ z = 1 ∨ z = 2 ∨ z = 3 ∨ z = 4 ∨ z = 5 ∨ z = 6 ∨ z = 7 := by omega
  rcases h9 with rfl | rfl | rfl | rfl | rfl | rfl | rfl | rfl <;> rfl
set_option maxRecDepth 100000 in
theorem pr_p1 {z : Nat} (hz : z < 8) : nsp (379 + 36 * z + 4) = (1, 1184, []) := by
  have h9 : z = 0 ∨ z = 1 ∨ z = 2 ∨ z = 3 ∨ z = 4 ∨ z = 5 ∨ z = 6 ∨ z = 7 := by omega
  rcases h9 with rfl | rfl | rfl | rfl | rfl | rfl | rfl | rfl <;> rfl
set_option maxRecDepth 100000 in
theorem pr_s1 {z : Nat} (hz : z < 8) : nsp (379 + 36 * z + 5) = (1, 2400, []) := by
  have h9 : z = 0 ∨ z = 1 ∨ z = 2 ∨ z = 3 ∨ z = 4 ∨ z = 5 ∨ z = 6 ∨ z = 7 := by omega
  rcases h9 with rfl | rfl | rfl | rfl | rfl | rfl | rfl | rfl <;> rfl
set_option maxRecDepth 100000 in
theorem pr_o2 {z : Nat} (hz : z < 8) : nsp (379 + 36 * z + 6) = (5, 13, [(1, 2), (3, 379 + 36 * z + 7), (3, 379 + 36 * z + 8)]) := by
  have h9 : z = 0 ∨ z = 1 ∨ z = 2 ∨ z = 3 ∨ z = 4 ∨ z = 5 ∨ z = 6 ∨ z = 7 := by omega
  rcases h9 with rfl | rfl | rfl | rfl | rfl | rfl | rfl | rfl <;> rfl
set_option maxRecDepth 100000 in
theorem pr_p2 {z : Nat} (hz : z < 8) : nsp (379 + 36 * z + 7) = (1, 1568, []) := by
  have h9 : z = 0 ∨ z = 1 ∨ z = 2 ∨ z = 3 ∨ z = 4 ∨ z = 5 ∨ z = 6 ∨ z = 7 := by omega
  rcases h9 with rfl | rfl | rfl | rfl | rfl | rfl | rfl | rfl <;> rfl
set_option maxRecDepth 100000 in
theorem pr_s2 {z : Nat} (hz : z < 8) : nsp (379 + 36 * z + 8) = (1, 3168, []) := by
  have h9 : z = 0 ∨ z = 1 ∨ z = 2 ∨ z = 3 ∨ z = 4 ∨ z = 5 ∨ z = 6 ∨ z = 7 := by omega
  rcases h9 with rfl | rfl | rfl | rfl | rfl | rfl | rfl | rfl <;> rfl
set_option maxRecDepth 100000 in
theorem pr_o3 {z : Nat} (hz : z < 8) : nsp (379 + 36 * z + 9) = (5, 13, [(1, 3), (3, 379 + 36 * z + 10), (3, 379 + 36 * z + 11)]) := by
  have h9 : z = 0 ∨ z = 1 ∨ z = 2 ∨ z = 3 ∨ z = 4 ∨ z = 5 ∨ z = 6 ∨ z = 7 := by omega
  rcases h9 with rfl | rfl | rfl | rfl | rfl | rfl | rfl | rfl <;> rfl
set_option maxRecDepth 100000 in
theorem pr_p3 {z : Nat} (hz : z < 8) : nsp (379 + 36 * z + 10) = (1, 1312, []) := by
  have h9 : z = 0 ∨ z = 1 ∨ z = 2 ∨ z = 3 ∨ z = 4 ∨ z = 5 ∨ z = 6 ∨ z = 7 := by omega
  rcases h9 with rfl | rfl | rfl | rfl | rfl | rfl | rfl | rfl <;> rfl
set_option maxRecDepth 100000 in
theorem pr_s3 {z : Nat} (hz : z < 8) : nsp (379 + 36 * z + 11) = (1, 2560, []) := by
  have h9 : z = 0 ∨ z = 1 ∨ z = 2 ∨ z = 3 ∨ z = 4 ∨ z = 5 ∨ z = 6 ∨ z = 7 := by omega
  rcases h9 with rfl | rfl | rfl | rfl | rfl | rfl | rfl | rfl <;> rfl
set_option maxRecDepth 100000 in
theorem pr_o4 {z : Nat} (hz : z < 8) : nsp (379 + 36 * z + 12) = (5, 13, [(1, 4), (3, 379 + 36 * z + 13), (3, 379 + 36 * z + 14)]) := by
  have h9 : z = 0 ∨ z = 1 ∨ z = 2 ∨ z = 3 ∨ z = 4 ∨ z = 5 ∨ z = 6 ∨ z = 7 := by omega
  rcases h9 with rfl | rfl | rfl | rfl | rfl | rfl | rfl | rfl <;> rfl
set_option maxRecDepth 100000 in
theorem pr_p4 {z : Nat} (hz : z < 8) : nsp (379 + 36 * z + 13) = (1, 1952, []) := by
  have h9 : z = 0 ∨ z = 1 ∨ z = 2 ∨ z = 3 ∨ z = 4 ∨ z = 5 ∨ z = 6 ∨ z = 7 := by omega
  rcases h9 with rfl | rfl | rfl | rfl | rfl | rfl | rfl | rfl <;> rfl
set_option maxRecDepth 100000 in
theorem pr_s4 {z : Nat} (hz : z < 8) : nsp (379 + 36 * z + 14) = (1, 4032, []) := by
  have h9 : z = 0 ∨ z = 1 ∨ z = 2 ∨ z = 3 ∨ z = 4 ∨ z = 5 ∨ z = 6 ∨ z = 7 := by omega
  rcases h9 with rfl | rfl | rfl | rfl | rfl | rfl | rfl | rfl <;> rfl
set_option maxRecDepth 100000 in
theorem pr_o5 {z : Nat} (hz : z < 8) : nsp (379 + 36 * z + 15) = (5, 13, [(1, 5), (3, 379 + 36 * z + 16), (3, 379 + 36 * z + 17)]) := by
  have h9 : z = 0 ∨ z = 1 ∨ z = 2 ∨ z = 3 ∨ z = 4 ∨ z = 5 ∨ z = 6 ∨ z = 7 := by omega
  rcases h9 with rfl | rfl | rfl | rfl | rfl | rfl | rfl | rfl <;> rfl
set_option maxRecDepth 100000 in
theorem pr_p5 {z : Nat} (hz : z < 8) : nsp (379 + 36 * z + 16) = (1, 2592, []) := by
  have h9 : z = 0 ∨ z = 1 ∨ z = 2 ∨ z = 3 ∨ z = 4 ∨ z = 5 ∨ z = 6 ∨ z = 7 := by omega
  rcases h9 with rfl | rfl | rfl | rfl | rfl | rfl | rfl | rfl <;> rfl
set_option maxRecDepth 100000 in
theorem pr_s5 {z : Nat} (hz : z < 8) : nsp (379 + 36 * z + 17) = (1, 4896, []) := by
  have h9 : z = 0 ∨ z = 1 ∨ z = 2 ∨ z = 3 ∨ z = 4 ∨ z = 5 ∨ z = 6 ∨ z = 7 := by omega
  rcases h9 with rfl | rfl | rfl | rfl | rfl | rfl | rfl | rfl <;> rfl
set_option maxRecDepth 100000 in
theorem pr_o6 {z : Nat} (hz : z < 8) : nsp (379 + 36 * z + 18) = (5, 13, [(1, 0), (3, 379 + 36 * z + 19), (5, 0)]) := by
  have h9 : z = 0 ∨ z = 1 ∨ z = 2 ∨ z = 3 ∨ z = 4 ∨ z = 5 ∨ z = 6 ∨ z = 7 := by omega
  rcases h9 with rfl | rfl | rfl | rfl | rfl | rfl | rfl | rfl <;> rfl
set_option maxRecDepth 100000 in
theorem pr_p6 {z : Nat} (hz : z < 8) : nsp (379 + 36 * z + 19) = (1, 800, []) := by
  have h9 : z = 0 ∨ z = 1 ∨ z = 2 ∨ z = 3 ∨ z = 4 ∨ z = 5 ∨ z = 6 ∨ z = 7 := by omega
  rcases h9 with rfl | rfl | rfl | rfl | rfl | rfl | rfl | rfl <;> rfl
set_option maxRecDepth 100000 in
theorem pr_o7 {z : Nat} (hz : z < 8) : nsp (379 + 36 * z + 21) = (5, 13, [(1, 1), (3, 379 + 36 * z + 22), (5, 0)]) := by
  have h9 : z = 0 ∨ z = 1 ∨ z = 2 ∨ z = 3 ∨ z = 4 ∨ z = 5 ∨ z = 6 ∨ z = 7 := by omega
  rcases h9 with rfl | rfl | rfl | rfl | rfl | rfl | rfl | rfl <;> rfl
set_option maxRecDepth 100000 in
theorem pr_p7 {z : Nat} (hz : z < 8) : nsp (379 + 36 * z + 22) = (1, 1184, []) := by
  have h9 : z = 0 ∨ z = 1 ∨ z = 2 ∨ z = 3 ∨ z = 4 ∨ z = 5 ∨ z = 6 ∨ z = 7 := by omega
  rcases h9 with rfl | rfl | rfl | rfl | rfl | rfl | rfl | rfl <;> rfl
set_option maxRecDepth 100000 in
theorem pr_o8 {z : Nat} (hz : z < 8) : nsp (379 + 36 * z + 24) = (5, 13, [(1, 2), (3, 379 + 36 * z + 25), (5, 0)]) := by
  have h9 : z = 0 ∨ z = 1 ∨ z = 2 ∨ z = 3 ∨ z = 4 ∨ z = 5 ∨ z = 6 ∨ z = 7 := by omega
  rcases h9 with rfl | rfl | rfl | rfl | rfl | rfl | rfl | rfl <;> rfl
set_option maxRecDepth 100000 in
theorem pr_p8 {z : Nat} (hz : z < 8) : nsp (379 + 36 * z + 25) = (1, 1568, []) := by
  have h9 : z = 0 ∨ z = 1 ∨ z = 2 ∨ z = 3 ∨ z = 4 ∨ z = 5 ∨ z = 6 ∨ z = 7 := by omega
  rcases h9 with rfl | rfl | rfl | rfl | rfl | rfl | rfl | rfl <;> rfl
set_option maxRecDepth 100000 in
theorem pr_o9 {z : Nat} (hz : z < 8) : nsp (379 + 36 * z + 27) = (5, 13, [(1, 3), (3, 379 + 36 * z + 28), (5, 0)]) := by
  have h9 : z = 0 ∨ z = 1 ∨ z = 2 ∨ z = 3 ∨ z = 4 ∨ z = 5 ∨ z = 6 ∨ z = 7 := by omega
  rcases h9 with rfl | rfl | rfl | rfl | rfl | rfl | rfl | rfl <;> rfl
set_option maxRecDepth 100000 in
theorem pr_p9 {z : Nat} (hz : z < 8) : nsp (379 + 36 * z + 28) = (1, 1312, []) := by
  have h9 : z = 0 ∨ z = 1 ∨ z = 2 ∨ z = 3 ∨ z = 4 ∨ z = 5 ∨ z = 6 ∨ z = 7 := by omega
  rcases h9 with rfl | rfl | rfl | rfl | rfl | rfl | rfl | rfl <;> rfl
set_option maxRecDepth 100000 in
theorem pr_o10 {z : Nat} (hz : z < 8) : nsp (379 + 36 * z + 30) = (5, 13, [(1, 4), (3, 379 + 36 * z + 31), (5, 0)]) := by
  have h9 : z = 0 ∨ z = 1 ∨ z = 2 ∨ z = 3 ∨ z = 4 ∨ z = 5 ∨ z = 6 ∨ z = 7 := by omega
  rcases h9 with rfl | rfl | rfl | rfl | rfl | rfl | rfl | rfl <;> rfl
set_option maxRecDepth 100000 in
theorem pr_p10 {z : Nat} (hz : z < 8) : nsp (379 + 36 * z + 31) = (1, 1952, []) := by
  have h9 : z = 0 ∨ z = 1 ∨ z = 2 ∨ z = 3 ∨ z = 4 ∨ z = 5 ∨ z = 6 ∨ z = 7 := by omega
  rcases h9 with rfl | rfl | rfl | rfl | rfl | rfl | rfl | rfl <;> rfl
set_option maxRecDepth 100000 in
theorem pr_o11 {z : Nat} (hz : z < 8) : nsp (379 + 36 * z + 33) = (5, 13, [(1, 5), (3, 379 + 36 * z + 34), (5, 0)]) := by
  have h9 : z = 0 ∨ z = 1 ∨ z = 2 ∨ z = 3 ∨ z = 4 ∨ z = 5 ∨ z = 6 ∨ z = 7 := by omega
  rcases h9 with rfl | rfl | rfl | rfl | rfl | rfl | rfl | rfl <;> rfl
set_option maxRecDepth 100000 in
theorem pr_p11 {z : Nat} (hz : z < 8) : nsp (379 + 36 * z + 34) = (1, 2592, []) := by
  have h9 : z = 0 ∨ z = 1 ∨ z = 2 ∨ z = 3 ∨ z = 4 ∨ z = 5 ∨ z = 6 ∨ z = 7 := by omega
  rcases h9 with rfl | rfl | rfl | rfl | rfl | rfl | rfl | rfl <;> rfl
/-- which exception a code is -/
def xls (L : List String) (c : Int32) : List String := match L[c.toNatClampNeg - 1]? with
  | some x => if c = nI (c.toNatClampNeg - 1 + 1) then [x] else []
  | none => []
theorem xls_at {L : List String} {x : String} {c : Int32} (k : Nat) (hc : c = nI (k + 1)) (hk : k < 100) (hx : L[k]? = some x) : x ∈ xls L c := by
  subst hc
  unfold xls
  rw [nI_clamp (by omega), Nat.add_sub_cancel, hx]
  dsimp only
  rw [if_pos rfl]
  exact List.mem_cons_self
theorem xls_inv {L : List String} {x : String} {c : Int32} (h : x ∈ xls L c) : ∃ k : Nat, c = nI (k + 1) ∧ L[k]? = some x := by
  unfold xls at h
  split at h
  · rename_i x9 e9
    split at h
    · rename_i h9
      have hx : x = x9 := by simpa using h
      exact ⟨_, h9, by rw [hx]; exact e9⟩
    · exact absurd h (by simp)
  · exact absurd h (by simp)
section RowsP
variable {p : Program} {l : Launch} {e : Env} {R : Room} {s : State} {m : MethodId} {args : Array Value} {below : List Frame} {meth : Method} {c : Code} {H : Heap} {locs : List Loc} {cells slots : Nat} {Q : State → Prop}
variable {cc : ByteArray} {pc : Nat} {ls : Array Slot} {rest st0 : List Value} {g : Gd} {A : Nat → Prop} {a a0 : Nat} {X pl : va_W} {H0 : Heap} {T : TyN} {σ : Sto}
theorem nw_aald8 (hexec : p.tables.exec = Jvm.exec) (hb : c.code = cc) (hK : va_K g.1 vcl (tyA g.2.1) s) (hO : okn g T σ pl) {k n b : Nat} (ka : T a = some k) (hk : nsp k = (8, n, [(0, b)])) (hP : va_P g.1 vcl (X ++ pl) H) {i : Nat} (hi : i < n) (hn : n < 2 ^ 31) (hdg : decode cc pc = .ok (.aaload, 1))
    (kk : ∀ o : Option Nat, npr T b i (σ.1 k i) o → W p l e R s m args below meth c H locs cells slots Q (F0 m (pc + 1) ls (va_rf o :: rest))) : W p l e R s m args below meth c H locs cells slots Q (F0 m pc ls (.int (nI i) :: .ref a :: rest)) := by
  obtain ⟨i0, e0, h1, h2⟩ := hO a k ka
  obtain ⟨f, rfl, hf⟩ := nfit_of h2 hk
  have hc : (nI i).toNatClampNeg = i := nI_clamp (by omega)
  refine va_aldq hexec hb hK hP (X.length + i0) 5 (pl_at h1) rfl (vp_in_nI hi hn) hdg (kk _ ?_)
  rw [hc]
  exact hf i hi
theorem nw_aald6 (hexec : p.tables.exec = Jvm.exec) (hb : c.code = cc) (hK : va_K g.1 vcl (tyA g.2.1) s) (hO : okn g T σ pl) {k n b : Nat} (ka : T a = some k) (hk : nsp k = (6, n, [(0, b)])) (hP : va_P g.1 vcl (X ++ pl) H) {i : Nat} (hi : i < n) (hn : n < 2 ^ 31) (hdg : decode cc pc = .ok (.aaload, 1))
    (kk : ∀ r : Nat, T r = some (b + i) → W p l e R s m args below meth c H locs cells slots Q (F0 m (pc + 1) ls (.ref r :: rest))) : W p l e R s m args below meth c H locs cells slots Q (F0 m pc ls (.int (nI i) :: .ref a :: rest)) := by
  obtain ⟨i0, e0, h1, h2⟩ := hO a k ka
  obtain ⟨f, rfl, hf⟩ := nfit_of h2 hk
  obtain ⟨r, er, hr⟩ := hf i hi
  have hc : (nI i).toNatClampNeg = i := nI_clamp (by omega)
  refine va_aldq hexec hb hK hP (X.length + i0) 3 (pl_at h1) rfl (vp_in_nI hi hn) hdg ?_
  rw [hc, er]
  exact kk r hr
theorem nw_aald7 (hexec : p.tables.exec = Jvm.exec) (hb : c.code = cc) (hK : va_K g.1 vcl (tyA g.2.1) s) (hO : okn g T σ pl) {k n b : Nat} (ka : T a = some k) (hk : nsp k = (7, n, [(0, b)])) (hP : va_P g.1 vcl (X ++ pl) H) {i : Nat} (hi : i < n) (hn : n < 2 ^ 31) (hdg : decode cc pc = .ok (.aaload, 1))
    (kk : ∀ r : Nat, T r = some (b + i) → W p l e R s m args below meth c H locs cells slots Q (F0 m (pc + 1) ls (.ref r :: rest))) : W p l e R s m args below meth c H locs cells slots Q (F0 m pc ls (.int (nI i) :: .ref a :: rest)) := by
  obtain ⟨i0, e0, h1, h2⟩ := hO a k ka
  obtain ⟨f, rfl, hf⟩ := nfit_of h2 hk
  obtain ⟨r, er, hr⟩ := hf i hi
  have hc : (nI i).toNatClampNeg = i := nI_clamp (by omega)
  refine va_aldq hexec hb hK hP (X.length + i0) 4 (pl_at h1) rfl (vp_in_nI hi hn) hdg ?_
  rw [hc, er]
  exact kk r hr
end RowsP
