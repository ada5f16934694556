/-! the reference's object: numbers in their ranges -/
def s5 (f : Nat → Int32) : Prop := ∀ j, j < 8 → ∃ z, z ≤ 5 ∧ f j = nI z
theorem s5_up {f : Nat → Int32} (h : s5 f) {k s : Nat} (hs : s ≤ 5) : s5 (upd f k (nI s)) := fun j hj => by
  by_cases q : j = k
  · exact ⟨s, hs, by simp [upd, q]⟩
  · obtain ⟨z, h1, h2⟩ := h j hj
    exact ⟨z, h1, by simp [upd, q, h2]⟩
theorem i32_nat {v : Int32} (h : ¬ v < 0) : ∃ z : Nat, z < 2 ^ 31 ∧ v = nI z := by
  have h0 : (0 : Int) ≤ v.toInt := by
    have := Int32.not_lt.mp h
    simpa using Int32.le_iff_toInt_le.mp this
  have h1 : v.toInt < 2 ^ 31 := Int32.toInt_lt v
  refine ⟨v.toInt.toNat, by omega, ?_⟩
  apply Int32.toInt_inj.mp
  rw [nI_toInt (by omega)]
  omega
theorem i32_lt {v : Int32} {n : Nat} (h : ¬ v < 0) (hn : n < 2 ^ 31) (h2 : ¬ nI n ≤ v) : ∃ z : Nat, z < n ∧ v = nI z := by
  obtain ⟨z, h1, rfl⟩ := i32_nat h
  exact ⟨z, Nat.not_le.mp (fun q => h2 (nI_le q (by omega))), rfl⟩
theorem i32_ltc {v : Int32} {n : Nat} (h : ¬ v < 0) (hn : n < 2 ^ 31) (h2 : v < nI n) : ∃ z : Nat, z < n ∧ v = nI z := i32_lt h hn (Int32.not_le.mpr h2)
theorem i32_le {v : Int32} {n : Nat} (h : ¬ v < 0) (hn : n < 2 ^ 31) (h2 : v ≤ nI n) : ∃ z : Nat, z ≤ n ∧ v = nI z := by
  obtain ⟨z, h1, rfl⟩ := i32_nat h
  refine ⟨z, Nat.not_lt.mp (fun q => ?_), rfl⟩
  exact absurd h2 (nI_ge q h1)
section RowsR
variable {p : Program} {l : Launch} {e : Env} {R : Room} {s : State} {m : MethodId} {args : Array Value} {below : List Frame} {meth : Method} {c : Code} {H : Heap} {locs : List Loc} {cells slots : Nat} {Q : State → Prop}
variable {cc : ByteArray} {pc : Nat} {ls : Array Slot} {rest : List Value} {D : va_G} {cl : List vw_C} {A : Nat → Prop} {a : Nat} {tys : List (ClassId × FieldType)} {ws : va_W} {H0 : Heap}
theorem mp_iast (hexec : p.tables.exec = Jvm.exec) (hb : c.code = cc) (hK : va_K D cl tys s) (hP : va_P D cl ws H) (hD : va_D A ws) (hS : va_S A H0 H locs) (q0 t0 : Nat) {cA : ClassId} {n : Nat} {f : Nat → Int32} (ha : ws[q0]? = some (a, .inl (cA, n, .inl f))) (ht : tys[t0]? = some (cA, .int)) {i : Nat} {x : Int32} (hi : i < n) (hn : n < 2 ^ 31) (hdg : decode cc pc = .ok (.iastore, 1))
    (kk : ∀ (H1 : Heap) (locs1 : List Loc), va_P D cl (ws.set q0 (a, .inl (cA, n, .inl (upd f i x)))) H1 → va_D A (ws.set q0 (a, .inl (cA, n, .inl (upd f i x)))) → va_S A H0 H1 locs1 → W p l e R s m args below meth c H1 locs1 cells slots Q (F0 m (pc + 1) ls rest)) : W p l e R s m args below meth c H locs cells slots Q (F0 m pc ls (.int x :: .int (nI i) :: .ref a :: rest)) := by
  refine va_iast hexec hb hK hP hD hS q0 t0 ha ht (vp_in_nI hi hn) hdg (fun H1 locs1 h1 h2 h3 => ?_)
  rw [nI_clamp (by omega)] at h1 h2
  exact kk H1 locs1 h1 h2 h3
end RowsR
theorem i32_lex {v : Int32} {n : Nat} (h : ¬ v < 0) (hn : n < 2 ^ 31) (h2 : ¬ nI n < v) : ∃ z : Nat, z ≤ n ∧ v = nI z := i32_le h hn (Int32.not_lt.mp h2)
theorem rng {v : Int32} (n : Nat) (hn : n < 2 ^ 31) : (∃ j, j ≤ n ∧ v = nI j) ∨ (v < 0 ∨ nI n < v) := by
  by_cases h : v < 0
  · exact Or.inr (Or.inl h)
  · by_cases h2 : nI n < v
    · exact Or.inr (Or.inr h2)
    · exact Or.inl (i32_lex h hn h2)
theorem eq0 {v : Int32} : v = nI 0 ∨ ¬ v = 0 := by
  by_cases h : v = 0
  · exact Or.inl h
  · exact Or.inr h
/-- what hash throws (1 or 0), and what it gives where it throws nothing -/
noncomputable def hval (w n : Int32) : Int32 × Int32 := by
  classical
  exact if w < 0 ∨ nI 3 < w ∨ n < 0 ∨ nI 8192 < n then (nI 1, nI 0) else (nI 0, if w = nI 0 then nI 32 else if w = nI 1 then nI 64 else n)
theorem hval_bad {w n : Int32} (h : w < 0 ∨ nI 3 < w ∨ n < 0 ∨ nI 8192 < n) : hval w n = (nI 1, nI 0) := by
  unfold hval
  rw [if_pos h]
theorem hval_ok {j z : Nat} (hj : j ≤ 3) (hz : z ≤ 8192) : hval (nI j) (nI z) = (nI 0, if nI j = nI 0 then nI 32 else if nI j = nI 1 then nI 64 else nI z) := by
  unfold hval
  rw [if_neg]
  intro h
  rcases h with h | h | h | h
  · exact nI_pos (by omega) h
  · exact nI_nlt hj (by decide) h
  · exact nI_pos (by omega) h
  · exact nI_nlt hz (by decide) h
theorem tout {v : Int32} {n : Nat} (hn : n < 2 ^ 31) (h : v < 0 ∨ nI n < v) : v.toInt < 0 ∨ (n : Int) < v.toInt := by
  rcases h with h | h
  · exact Or.inl (by simpa using Int32.lt_iff_toInt_lt.mp h)
  · have := Int32.lt_iff_toInt_lt.mp h
    rw [nI_toInt hn] at this
    exact Or.inr this
theorem hv0 {z : Nat} (hz : z ≤ 8192) : hval (nI 0) (nI z) = (nI 0, nI 32) := by rw [hval_ok (by decide) hz, if_pos rfl]
theorem hv1 {z : Nat} (hz : z ≤ 8192) : hval (nI 1) (nI z) = (nI 0, nI 64) := by rw [hval_ok (by decide) hz, if_neg (by decide), if_pos rfl]
theorem hv2 {z : Nat} (hz : z ≤ 8192) : hval (nI 2) (nI z) = (nI 0, nI z) := by rw [hval_ok (by decide) hz, if_neg (by decide), if_neg (by decide)]
theorem hv3 {z : Nat} (hz : z ≤ 8192) : hval (nI 3) (nI z) = (nI 0, nI z) := by rw [hval_ok (by decide) hz, if_neg (by decide), if_neg (by decide)]
