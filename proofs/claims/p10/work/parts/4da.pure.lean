set_option linter.all false
/-! both sides' pairs, and part -/
/-- a byte -/
def isb (x : Int32) : Prop := vp_nar .byte x = x
/-- pair i of both sides -/
def PAIR (s : Sto) (i : Nat) : Prop := ∃ c : Nat, c < 12 ∧ s.1 3 i = nI (c + 1) ∧ s.1 170 i = nI (c % 6) ∧ s.1 171 i = nI (if c < 6 then ksec c else 0) ∧ (∀ j, j < kpub (c % 6) → s.1 (379 + 36 * i + (3 * c + 1)) j = s.1 (153 + i) j) ∧ (c < 6 → ∀ j, j < ksec c → s.1 (379 + 36 * i + (3 * c + 2)) j = s.1 (162 + i) j) ∧ (c < 3 → ∀ j, j < kpub c → s.1 (153 + i) j = s.1 (162 + i) (384 * (c + 2) + j))
/-- what both sides hold alike between two calls: the tape, the result, the pairs -/
def SAME (tl al pn : Nat) (s : Sto) : Prop := (s.1 0 1 = nI tl ∧ s.1 148 1 = nI tl ∧ tl ≤ 16384) ∧ (s.1 0 3 = nI al ∧ s.1 148 2 = nI al ∧ al ≤ 8192) ∧ (s.1 0 5 = nI pn ∧ s.1 148 3 = nI pn ∧ pn ≤ 8) ∧ (∀ j, j < tl → s.1 1 j = s.1 149 j) ∧ (∀ j, j < al → s.1 2 j = s.1 150 j) ∧ ∀ i, i < pn → PAIR s i
/-- the reference's rows hold bytes -/
def NB (s : Sto) : Prop := (∀ j, j < 16384 → isb (s.1 149 j)) ∧ (∀ j, j < 8192 → isb (s.1 150 j)) ∧ ∀ i, i < 8 → (∀ j, j < 2592 → isb (s.1 (153 + i) j)) ∧ ∀ j, j < 4896 → isb (s.1 (162 + i) j)
/-- the names that the pairs lie under -/
def isP (k : Nat) : Prop := k = 3 ∨ k = 170 ∨ k = 171 ∨ (153 ≤ k ∧ k < 153 + 8) ∨ (162 ≤ k ∧ k < 162 + 8) ∨ 379 ≤ k
theorem PAIR_c {s t : Sto} {i : Nat} (hi : i < 8) (o : ∀ k, isP k → t.1 k = s.1 k) (h : PAIR s i) : PAIR t i := by
  obtain ⟨c, h1, h2, h3, h4, h5, h6⟩ := h
  have q1 := o (379 + 36 * i + (3 * c + 1)) (by unfold isP; omega)
  have q2 := o (379 + 36 * i + (3 * c + 2)) (by unfold isP; omega)
  have q3 := o (153 + i) (by unfold isP; omega)
  have q4 := o (162 + i) (by unfold isP; omega)
  refine ⟨c, h1, ?_, ?_, ?_, ?_, ?_⟩
  · rw [o 3 (by unfold isP; omega)]; exact h2
  · rw [o 170 (by unfold isP; omega)]; exact h3
  · rw [o 171 (by unfold isP; omega)]; exact h4
  · rw [q1, q3]; exact h5
  · rw [q2, q4, q3]; exact h6
theorem th_at {s : Sto} {k i : Nat} {x : Int32} : (sI s k i x).1 k i = x := by
  show uA s.1 k _ k i = x
  rw [uA_eq]
  simp [upd]
theorem th_ne {s : Sto} {k k' i : Nat} {x : Int32} (h : k' ≠ k) : (sI s k i x).1 k' = s.1 k' := uA_ne h
theorem th_off {s : Sto} {k i j : Nat} {x : Int32} (h : j ≠ i) : (sI s k i x).1 k j = s.1 k j := by
  show uA s.1 k _ k j = s.1 k j
  rw [uA_eq]
  simp [upd, h]
theorem nI_nneg {z : Nat} (h : z < 2 ^ 31) : ¬ nI z < 0 := fun q => absurd ((nI_ltI (b := 0) h (by decide)).mp q) (by omega)
theorem kfind_no {v : Int32} {s : Sto} {pn : Nat} (h : s.1 0 5 = nI pn) (hp : pn ≤ 8) (hv : v < 0 ∨ ¬ v < nI pn) : F_K_find v s = (nI 0, s) := by
  rw [F_K_find]
  by_cases h0 : v < 0
  · rw [if_pos h0]
  · rw [if_neg h0, bnd_eq, h, nI_clamp (by omega), if_neg (hv.resolve_left h0)]
theorem kfind_at {s : Sto} {pn z : Nat} (h : s.1 0 5 = nI pn) (hp : pn ≤ 8) (hz : z < pn) : F_K_find (nI z) s = (s.1 3 z, s) := by
  rw [F_K_find, if_neg (nI_nneg (by omega)), bnd_eq, h, nI_clamp (by omega), if_pos (nI_lt hz (by omega)), bnd_eq, nI_clamp (by omega)]
theorem kpart0 {v sc : Int32} {s : Sto} (h : F_K_find v s = (nI 0, s)) : F_K_partOf v sc s = (nI 0, s) := by
  rw [F_K_partOf, bnd_eq, h]
  dsimp only
  rw [if_pos (show nI 0 = nI 0 from rfl)]
theorem kpartN {v sc v3 : Int32} {s : Sto} (h : F_K_partOf v sc s = (nI 0, s)) : F_K_part v sc v3 s = (nI 1, nI 0, s) := by
  rw [F_K_part, bnd_eq, h]
  dsimp only
  by_cases q : sc = 0
  · rw [if_pos q, if_pos (show nI 0 = nI 0 from rfl)]
  · rw [if_neg q, if_pos (show nI 0 = nI 0 from rfl)]
/-- the answer of a part of n bytes with the name nm -/
def partv (n nm : Nat) (v3 : Int32) (s : Sto) : Int32 × Int32 × Sto := if n = 0 then (nI 1, nI 0, s) else if v3 < 0 then (nI 2, nI 0, s) else if v3 < nI n then (nI 0, (s.1 nm v3.toNatClampNeg) &&& nI 255, s) else (nI 2, nI 0, s)
theorem kpo0 {v sc : Int32} {s : Sto} (h : F_K_find v s = (nI 1, s)) : F_K_partOf v sc s = if sc = 0 then (nI 1, s) else (nI 1, s) := by
  rw [F_K_partOf, bnd_eq, h]
  dsimp only
  rw [if_neg (show ¬ nI 1 = nI 0 by decide), if_pos (show nI 1 = nI 1 from rfl), bnd_eq]
theorem kpp0 {v sc v3 : Int32} {s : Sto} (h : F_K_partOf v sc s = (nI 1, s)) (q : sc = 0) : F_K_part v sc v3 s = partv 800 (379 + 36 * v.toNatClampNeg + 1) v3 s := by
  rw [F_K_part, bnd_eq, h]
  dsimp only
  rw [if_pos q, if_neg (show ¬ nI 1 = nI 0 by decide), if_pos (show nI 1 = nI 1 from rfl), bnd_eq, bnd_eq, partv, if_neg (show ¬ (800 : Nat) = 0 by decide)]
theorem kps0 {v sc v3 : Int32} {s : Sto} (h : F_K_partOf v sc s = (nI 1, s)) (q : ¬ sc = 0) : F_K_part v sc v3 s = partv 1632 (379 + 36 * v.toNatClampNeg + 2) v3 s := by
  rw [F_K_part, bnd_eq, h]
  dsimp only
  rw [if_neg q, if_neg (show ¬ nI 1 = nI 0 by decide), if_pos (show nI 1 = nI 1 from rfl), bnd_eq, bnd_eq, partv, if_neg (show ¬ (1632 : Nat) = 0 by decide)]
theorem kpo1 {v sc : Int32} {s : Sto} (h : F_K_find v s = (nI 2, s)) : F_K_partOf v sc s = if sc = 0 then (nI 2, s) else (nI 2, s) := by
  rw [F_K_partOf, bnd_eq, h]
  dsimp only
  rw [if_neg (show ¬ nI 2 = nI 0 by decide), if_neg (show ¬ nI 2 = nI 1 by decide), if_pos (show nI 2 = nI 2 from rfl), bnd_eq]
theorem kpp1 {v sc v3 : Int32} {s : Sto} (h : F_K_partOf v sc s = (nI 2, s)) (q : sc = 0) : F_K_part v sc v3 s = partv 1184 (379 + 36 * v.toNatClampNeg + 4) v3 s := by
  rw [F_K_part, bnd_eq, h]
  dsimp only
  rw [if_pos q, if_neg (show ¬ nI 2 = nI 0 by decide), if_neg (show ¬ nI 2 = nI 1 by decide), if_pos (show nI 2 = nI 2 from rfl), bnd_eq, bnd_eq, partv, if_neg (show ¬ (1184 : Nat) = 0 by decide)]
theorem kps1 {v sc v3 : Int32} {s : Sto} (h : F_K_partOf v sc s = (nI 2, s)) (q : ¬ sc = 0) : F_K_part v sc v3 s = partv 2400 (379 + 36 * v.toNatClampNeg + 5) v3 s := by
  rw [F_K_part, bnd_eq, h]
  dsimp only
  rw [if_neg q, if_neg (show ¬ nI 2 = nI 0 by decide), if_neg (show ¬ nI 2 = nI 1 by decide), if_pos (show nI 2 = nI 2 from rfl), bnd_eq, bnd_eq, partv, if_neg (show ¬ (2400 : Nat) = 0 by decide)]
theorem kpo2 {v sc : Int32} {s : Sto} (h : F_K_find v s = (nI 3, s)) : F_K_partOf v sc s = if sc = 0 then (nI 3, s) else (nI 3, s) := by
  rw [F_K_partOf, bnd_eq, h]
  dsimp only
  rw [if_neg (show ¬ nI 3 = nI 0 by decide), if_neg (show ¬ nI 3 = nI 1 by decide), if_neg (show ¬ nI 3 = nI 2 by decide), if_pos (show nI 3 = nI 3 from rfl), bnd_eq]
theorem kpp2 {v sc v3 : Int32} {s : Sto} (h : F_K_partOf v sc s = (nI 3, s)) (q : sc = 0) : F_K_part v sc v3 s = partv 1568 (379 + 36 * v.toNatClampNeg + 7) v3 s := by
  rw [F_K_part, bnd_eq, h]
  dsimp only
  rw [if_pos q, if_neg (show ¬ nI 3 = nI 0 by decide), if_neg (show ¬ nI 3 = nI 1 by decide), if_neg (show ¬ nI 3 = nI 2 by decide), if_pos (show nI 3 = nI 3 from rfl), bnd_eq, bnd_eq, partv, if_neg (show ¬ (1568 : Nat) = 0 by decide)]
theorem kps2 {v sc v3 : Int32} {s : Sto} (h : F_K_partOf v sc s = (nI 3, s)) (q : ¬ sc = 0) : F_K_part v sc v3 s = partv 3168 (379 + 36 * v.toNatClampNeg + 8) v3 s := by
  rw [F_K_part, bnd_eq, h]
  dsimp only
  rw [if_neg q, if_neg (show ¬ nI 3 = nI 0 by decide), if_neg (show ¬ nI 3 = nI 1 by decide), if_neg (show ¬ nI 3 = nI 2 by decide), if_pos (show nI 3 = nI 3 from rfl), bnd_eq, bnd_eq, partv, if_neg (show ¬ (3168 : Nat) = 0 by decide)]
theorem kpo3 {v sc : Int32} {s : Sto} (h : F_K_find v s = (nI 4, s)) : F_K_partOf v sc s = if sc = 0 then (nI 4, s) else (nI 4, s) := by
  rw [F_K_partOf, bnd_eq, h]
  dsimp only
  rw [if_neg (show ¬ nI 4 = nI 0 by decide), if_neg (show ¬ nI 4 = nI 1 by decide), if_neg (show ¬ nI 4 = nI 2 by decide), if_neg (show ¬ nI 4 = nI 3 by decide), if_pos (show nI 4 = nI 4 from rfl), bnd_eq]
theorem kpp3 {v sc v3 : Int32} {s : Sto} (h : F_K_partOf v sc s = (nI 4, s)) (q : sc = 0) : F_K_part v sc v3 s = partv 1312 (379 + 36 * v.toNatClampNeg + 10) v3 s := by
  rw [F_K_part, bnd_eq, h]
  dsimp only
  rw [if_pos q, if_neg (show ¬ nI 4 = nI 0 by decide), if_neg (show ¬ nI 4 = nI 1 by decide), if_neg (show ¬ nI 4 = nI 2 by decide), if_neg (show ¬ nI 4 = nI 3 by decide), if_pos (show nI 4 = nI 4 from rfl), bnd_eq, bnd_eq, partv, if_neg (show ¬ (1312 : Nat) = 0 by decide)]
theorem kps3 {v sc v3 : Int32} {s : Sto} (h : F_K_partOf v sc s = (nI 4, s)) (q : ¬ sc = 0) : F_K_part v sc v3 s = partv 2560 (379 + 36 * v.toNatClampNeg + 11) v3 s := by
  rw [F_K_part, bnd_eq, h]
  dsimp only
  rw [if_neg q, if_neg (show ¬ nI 4 = nI 0 by decide), if_neg (show ¬ nI 4 = nI 1 by decide), if_neg (show ¬ nI 4 = nI 2 by decide), if_neg (show ¬ nI 4 = nI 3 by decide), if_pos (show nI 4 = nI 4 from rfl), bnd_eq, bnd_eq, partv, if_neg (show ¬ (2560 : Nat) = 0 by decide)]
theorem kpo4 {v sc : Int32} {s : Sto} (h : F_K_find v s = (nI 5, s)) : F_K_partOf v sc s = if sc = 0 then (nI 5, s) else (nI 5, s) := by
  rw [F_K_partOf, bnd_eq, h]
  dsimp only
  rw [if_neg (show ¬ nI 5 = nI 0 by decide), if_neg (show ¬ nI 5 = nI 1 by decide), if_neg (show ¬ nI 5 = nI 2 by decide), if_neg (show ¬ nI 5 = nI 3 by decide), if_neg (show ¬ nI 5 = nI 4 by decide), if_pos (show nI 5 = nI 5 from rfl), bnd_eq]
theorem kpp4 {v sc v3 : Int32} {s : Sto} (h : F_K_partOf v sc s = (nI 5, s)) (q : sc = 0) : F_K_part v sc v3 s = partv 1952 (379 + 36 * v.toNatClampNeg + 13) v3 s := by
  rw [F_K_part, bnd_eq, h]
  dsimp only
  rw [if_pos q, if_neg (show ¬ nI 5 = nI 0 by decide), if_neg (show ¬ nI 5 = nI 1 by decide), if_neg (show ¬ nI 5 = nI 2 by decide), if_neg (show ¬ nI 5 = nI 3 by decide), if_neg (show ¬ nI 5 = nI 4 by decide), if_pos (show nI 5 = nI 5 from rfl), bnd_eq, bnd_eq, partv, if_neg (show ¬ (1952 : Nat) = 0 by decide)]
theorem kps4 {v sc v3 : Int32} {s : Sto} (h : F_K_partOf v sc s = (nI 5, s)) (q : ¬ sc = 0) : F_K_part v sc v3 s = partv 4032 (379 + 36 * v.toNatClampNeg + 14) v3 s := by
  rw [F_K_part, bnd_eq, h]
  dsimp only
  rw [if_neg q, if_neg (show ¬ nI 5 = nI 0 by decide), if_neg (show ¬ nI 5 = nI 1 by decide), if_neg (show ¬ nI 5 = nI 2 by decide), if_neg (show ¬ nI 5 = nI 3 by decide), if_neg (show ¬ nI 5 = nI 4 by decide), if_pos (show nI 5 = nI 5 from rfl), bnd_eq, bnd_eq, partv, if_neg (show ¬ (4032 : Nat) = 0 by decide)]
theorem kpo5 {v sc : Int32} {s : Sto} (h : F_K_find v s = (nI 6, s)) : F_K_partOf v sc s = if sc = 0 then (nI 6, s) else (nI 6, s) := by
  rw [F_K_partOf, bnd_eq, h]
  dsimp only
  rw [if_neg (show ¬ nI 6 = nI 0 by decide), if_neg (show ¬ nI 6 = nI 1 by decide), if_neg (show ¬ nI 6 = nI 2 by decide), if_neg (show ¬ nI 6 = nI 3 by decide), if_neg (show ¬ nI 6 = nI 4 by decide), if_neg (show ¬ nI 6 = nI 5 by decide), if_pos (show nI 6 = nI 6 from rfl), bnd_eq]
theorem kpp5 {v sc v3 : Int32} {s : Sto} (h : F_K_partOf v sc s = (nI 6, s)) (q : sc = 0) : F_K_part v sc v3 s = partv 2592 (379 + 36 * v.toNatClampNeg + 16) v3 s := by
  rw [F_K_part, bnd_eq, h]
  dsimp only
  rw [if_pos q, if_neg (show ¬ nI 6 = nI 0 by decide), if_neg (show ¬ nI 6 = nI 1 by decide), if_neg (show ¬ nI 6 = nI 2 by decide), if_neg (show ¬ nI 6 = nI 3 by decide), if_neg (show ¬ nI 6 = nI 4 by decide), if_neg (show ¬ nI 6 = nI 5 by decide), if_pos (show nI 6 = nI 6 from rfl), bnd_eq, bnd_eq, partv, if_neg (show ¬ (2592 : Nat) = 0 by decide)]
theorem kps5 {v sc v3 : Int32} {s : Sto} (h : F_K_partOf v sc s = (nI 6, s)) (q : ¬ sc = 0) : F_K_part v sc v3 s = partv 4896 (379 + 36 * v.toNatClampNeg + 17) v3 s := by
  rw [F_K_part, bnd_eq, h]
  dsimp only
  rw [if_neg q, if_neg (show ¬ nI 6 = nI 0 by decide), if_neg (show ¬ nI 6 = nI 1 by decide), if_neg (show ¬ nI 6 = nI 2 by decide), if_neg (show ¬ nI 6 = nI 3 by decide), if_neg (show ¬ nI 6 = nI 4 by decide), if_neg (show ¬ nI 6 = nI 5 by decide), if_pos (show nI 6 = nI 6 from rfl), bnd_eq, bnd_eq, partv, if_neg (show ¬ (4896 : Nat) = 0 by decide)]
theorem kpo6 {v sc : Int32} {s : Sto} (h : F_K_find v s = (nI 7, s)) : F_K_partOf v sc s = if sc = 0 then (nI 7, s) else (nI 0, s) := by
  rw [F_K_partOf, bnd_eq, h]
  dsimp only
  rw [if_neg (show ¬ nI 7 = nI 0 by decide), if_neg (show ¬ nI 7 = nI 1 by decide), if_neg (show ¬ nI 7 = nI 2 by decide), if_neg (show ¬ nI 7 = nI 3 by decide), if_neg (show ¬ nI 7 = nI 4 by decide), if_neg (show ¬ nI 7 = nI 5 by decide), if_neg (show ¬ nI 7 = nI 6 by decide), if_pos (show nI 7 = nI 7 from rfl), bnd_eq]
theorem kpp6 {v sc v3 : Int32} {s : Sto} (h : F_K_partOf v sc s = (nI 7, s)) (q : sc = 0) : F_K_part v sc v3 s = partv 800 (379 + 36 * v.toNatClampNeg + 19) v3 s := by
  rw [F_K_part, bnd_eq, h]
  dsimp only
  rw [if_pos q, if_neg (show ¬ nI 7 = nI 0 by decide), if_neg (show ¬ nI 7 = nI 1 by decide), if_neg (show ¬ nI 7 = nI 2 by decide), if_neg (show ¬ nI 7 = nI 3 by decide), if_neg (show ¬ nI 7 = nI 4 by decide), if_neg (show ¬ nI 7 = nI 5 by decide), if_neg (show ¬ nI 7 = nI 6 by decide), if_pos (show nI 7 = nI 7 from rfl), bnd_eq, bnd_eq, partv, if_neg (show ¬ (800 : Nat) = 0 by decide)]
theorem kpo7 {v sc : Int32} {s : Sto} (h : F_K_find v s = (nI 8, s)) : F_K_partOf v sc s = if sc = 0 then (nI 8, s) else (nI 0, s) := by
  rw [F_K_partOf, bnd_eq, h]
  dsimp only
  rw [if_neg (show ¬ nI 8 = nI 0 by decide), if_neg (show ¬ nI 8 = nI 1 by decide), if_neg (show ¬ nI 8 = nI 2 by decide), if_neg (show ¬ nI 8 = nI 3 by decide), if_neg (show ¬ nI 8 = nI 4 by decide), if_neg (show ¬ nI 8 = nI 5 by decide), if_neg (show ¬ nI 8 = nI 6 by decide), if_neg (show ¬ nI 8 = nI 7 by decide), if_pos (show nI 8 = nI 8 from rfl), bnd_eq]
theorem kpp7 {v sc v3 : Int32} {s : Sto} (h : F_K_partOf v sc s = (nI 8, s)) (q : sc = 0) : F_K_part v sc v3 s = partv 1184 (379 + 36 * v.toNatClampNeg + 22) v3 s := by
  rw [F_K_part, bnd_eq, h]
  dsimp only
  rw [if_pos q, if_neg (show ¬ nI 8 = nI 0 by decide), if_neg (show ¬ nI 8 = nI 1 by decide), if_neg (show ¬ nI 8 = nI 2 by decide), if_neg (show ¬ nI 8 = nI 3 by decide), if_neg (show ¬ nI 8 = nI 4 by decide), if_neg (show ¬ nI 8 = nI 5 by decide), if_neg (show ¬ nI 8 = nI 6 by decide), if_neg (show ¬ nI 8 = nI 7 by decide), if_pos (show nI 8 = nI 8 from rfl), bnd_eq, bnd_eq, partv, if_neg (show ¬ (1184 : Nat) = 0 by decide)]
theorem kpo8 {v sc : Int32} {s : Sto} (h : F_K_find v s = (nI 9, s)) : F_K_partOf v sc s = if sc = 0 then (nI 9, s) else (nI 0, s) := by
  rw [F_K_partOf, bnd_eq, h]
  dsimp only
  rw [if_neg (show ¬ nI 9 = nI 0 by decide), if_neg (show ¬ nI 9 = nI 1 by decide), if_neg (show ¬ nI 9 = nI 2 by decide), if_neg (show ¬ nI 9 = nI 3 by decide), if_neg (show ¬ nI 9 = nI 4 by decide), if_neg (show ¬ nI 9 = nI 5 by decide), if_neg (show ¬ nI 9 = nI 6 by decide), if_neg (show ¬ nI 9 = nI 7 by decide), if_neg (show ¬ nI 9 = nI 8 by decide), if_pos (show nI 9 = nI 9 from rfl), bnd_eq]
theorem kpp8 {v sc v3 : Int32} {s : Sto} (h : F_K_partOf v sc s = (nI 9, s)) (q : sc = 0) : F_K_part v sc v3 s = partv 1568 (379 + 36 * v.toNatClampNeg + 25) v3 s := by
  rw [F_K_part, bnd_eq, h]
  dsimp only
  rw [if_pos q, if_neg (show ¬ nI 9 = nI 0 by decide), if_neg (show ¬ nI 9 = nI 1 by decide), if_neg (show ¬ nI 9 = nI 2 by decide), if_neg (show ¬ nI 9 = nI 3 by decide), if_neg (show ¬ nI 9 = nI 4 by decide), if_neg (show ¬ nI 9 = nI 5 by decide), if_neg (show ¬ nI 9 = nI 6 by decide), if_neg (show ¬ nI 9 = nI 7 by decide), if_neg (show ¬ nI 9 = nI 8 by decide), if_pos (show nI 9 = nI 9 from rfl), bnd_eq, bnd_eq, partv, if_neg (show ¬ (1568 : Nat) = 0 by decide)]
theorem kpo9 {v sc : Int32} {s : Sto} (h : F_K_find v s = (nI 10, s)) : F_K_partOf v sc s = if sc = 0 then (nI 10, s) else (nI 0, s) := by
  rw [F_K_partOf, bnd_eq, h]
  dsimp only
  rw [if_neg (show ¬ nI 10 = nI 0 by decide), if_neg (show ¬ nI 10 = nI 1 by decide), if_neg (show ¬ nI 10 = nI 2 by decide), if_neg (show ¬ nI 10 = nI 3 by decide), if_neg (show ¬ nI 10 = nI 4 by decide), if_neg (show ¬ nI 10 = nI 5 by decide), if_neg (show ¬ nI 10 = nI 6 by decide), if_neg (show ¬ nI 10 = nI 7 by decide), if_neg (show ¬ nI 10 = nI 8 by decide), if_neg (show ¬ nI 10 = nI 9 by decide), if_pos (show nI 10 = nI 10 from rfl), bnd_eq]
theorem kpp9 {v sc v3 : Int32} {s : Sto} (h : F_K_partOf v sc s = (nI 10, s)) (q : sc = 0) : F_K_part v sc v3 s = partv 1312 (379 + 36 * v.toNatClampNeg + 28) v3 s := by
  rw [F_K_part, bnd_eq, h]
  dsimp only
  rw [if_pos q, if_neg (show ¬ nI 10 = nI 0 by decide), if_neg (show ¬ nI 10 = nI 1 by decide), if_neg (show ¬ nI 10 = nI 2 by decide), if_neg (show ¬ nI 10 = nI 3 by decide), if_neg (show ¬ nI 10 = nI 4 by decide), if_neg (show ¬ nI 10 = nI 5 by decide), if_neg (show ¬ nI 10 = nI 6 by decide), if_neg (show ¬ nI 10 = nI 7 by decide), if_neg (show ¬ nI 10 = nI 8 by decide), if_neg (show ¬ nI 10 = nI 9 by decide), if_pos (show nI 10 = nI 10 from rfl), bnd_eq, bnd_eq, partv, if_neg (show ¬ (1312 : Nat) = 0 by decide)]
theorem kpo10 {v sc : Int32} {s : Sto} (h : F_K_find v s = (nI 11, s)) : F_K_partOf v sc s = if sc = 0 then (nI 11, s) else (nI 0, s) := by
  rw [F_K_partOf, bnd_eq, h]
  dsimp only
  rw [if_neg (show ¬ nI 11 = nI 0 by decide), if_neg (show ¬ nI 11 = nI 1 by decide), if_neg (show ¬ nI 11 = nI 2 by decide), if_neg (show ¬ nI 11 = nI 3 by decide), if_neg (show ¬ nI 11 = nI 4 by decide), if_neg (show ¬ nI 11 = nI 5 by decide), if_neg (show ¬ nI 11 = nI 6 by decide), if_neg (show ¬ nI 11 = nI 7 by decide), if_neg (show ¬ nI 11 = nI 8 by decide), if_neg (show ¬ nI 11 = nI 9 by decide), if_neg (show ¬ nI 11 = nI 10 by decide), if_pos (show nI 11 = nI 11 from rfl), bnd_eq]
theorem kpp10 {v sc v3 : Int32} {s : Sto} (h : F_K_partOf v sc s = (nI 11, s)) (q : sc = 0) : F_K_part v sc v3 s = partv 1952 (379 + 36 * v.toNatClampNeg + 31) v3 s := by
  rw [F_K_part, bnd_eq, h]
  dsimp only
  rw [if_pos q, if_neg (show ¬ nI 11 = nI 0 by decide), if_neg (show ¬ nI 11 = nI 1 by decide), if_neg (show ¬ nI 11 = nI 2 by decide), if_neg (show ¬ nI 11 = nI 3 by decide), if_neg (show ¬ nI 11 = nI 4 by decide), if_neg (show ¬ nI 11 = nI 5 by decide), if_neg (show ¬ nI 11 = nI 6 by decide), if_neg (show ¬ nI 11 = nI 7 by decide), if_neg (show ¬ nI 11 = nI 8 by decide), if_neg (show ¬ nI 11 = nI 9 by decide), if_neg (show ¬ nI 11 = nI 10 by decide), if_pos (show nI 11 = nI 11 from rfl), bnd_eq, bnd_eq, partv, if_neg (show ¬ (1952 : Nat) = 0 by decide)]
theorem kpo11 {v sc : Int32} {s : Sto} (h : F_K_find v s = (nI 12, s)) : F_K_partOf v sc s = if sc = 0 then (nI 12, s) else (nI 0, s) := by
  rw [F_K_partOf, bnd_eq, h]
  dsimp only
  rw [if_neg (show ¬ nI 12 = nI 0 by decide), if_neg (show ¬ nI 12 = nI 1 by decide), if_neg (show ¬ nI 12 = nI 2 by decide), if_neg (show ¬ nI 12 = nI 3 by decide), if_neg (show ¬ nI 12 = nI 4 by decide), if_neg (show ¬ nI 12 = nI 5 by decide), if_neg (show ¬ nI 12 = nI 6 by decide), if_neg (show ¬ nI 12 = nI 7 by decide), if_neg (show ¬ nI 12 = nI 8 by decide), if_neg (show ¬ nI 12 = nI 9 by decide), if_neg (show ¬ nI 12 = nI 10 by decide), if_neg (show ¬ nI 12 = nI 11 by decide), if_pos (show nI 12 = nI 12 from rfl), bnd_eq]
theorem kpp11 {v sc v3 : Int32} {s : Sto} (h : F_K_partOf v sc s = (nI 12, s)) (q : sc = 0) : F_K_part v sc v3 s = partv 2592 (379 + 36 * v.toNatClampNeg + 34) v3 s := by
  rw [F_K_part, bnd_eq, h]
  dsimp only
  rw [if_pos q, if_neg (show ¬ nI 12 = nI 0 by decide), if_neg (show ¬ nI 12 = nI 1 by decide), if_neg (show ¬ nI 12 = nI 2 by decide), if_neg (show ¬ nI 12 = nI 3 by decide), if_neg (show ¬ nI 12 = nI 4 by decide), if_neg (show ¬ nI 12 = nI 5 by decide), if_neg (show ¬ nI 12 = nI 6 by decide), if_neg (show ¬ nI 12 = nI 7 by decide), if_neg (show ¬ nI 12 = nI 8 by decide), if_neg (show ¬ nI 12 = nI 9 by decide), if_neg (show ¬ nI 12 = nI 10 by decide), if_neg (show ¬ nI 12 = nI 11 by decide), if_pos (show nI 12 = nI 12 from rfl), bnd_eq, bnd_eq, partv, if_neg (show ¬ (2592 : Nat) = 0 by decide)]
theorem kpart_at {s : Sto} {pn z c : Nat} {sc v3 : Int32} (h : s.1 0 5 = nI pn) (hp : pn ≤ 8) (hz : z < pn) (hc : c < 12) (e : s.1 3 z = nI (c + 1)) : F_K_part (nI z) sc v3 s = partv (if sc = 0 then kpub (c % 6) else if c < 6 then ksec c else 0) (379 + 36 * z + (3 * c + if sc = 0 then 1 else 2)) v3 s := by
  have hf : F_K_find (nI z) s = (nI (c + 1), s) := by rw [kfind_at h hp hz, e]
  have hzc : (nI z).toNatClampNeg = z := nI_clamp (by omega)
  have h9 : c = 0 ∨ c = 1 ∨ c = 2 ∨ c = 3 ∨ c = 4 ∨ c = 5 ∨ c = 6 ∨ c = 7 ∨ c = 8 ∨ c = 9 ∨ c = 10 ∨ c = 11 := by omega
  by_cases q : sc = 0
  · rw [if_pos q, if_pos q]
    rcases h9 with rfl | rfl | rfl | rfl | rfl | rfl | rfl | rfl | rfl | rfl | rfl | rfl
    · have := kpp0 (v3 := v3) ((kpo0 hf).trans (if_pos q)) q
      rw [hzc] at this
      exact this
    · have := kpp1 (v3 := v3) ((kpo1 hf).trans (if_pos q)) q
      rw [hzc] at this
      exact this
    · have := kpp2 (v3 := v3) ((kpo2 hf).trans (if_pos q)) q
      rw [hzc] at this
      exact this
    · have := kpp3 (v3 := v3) ((kpo3 hf).trans (if_pos q)) q
      rw [hzc] at this
      exact this
    · have := kpp4 (v3 := v3) ((kpo4 hf).trans (if_pos q)) q
      rw [hzc] at this
      exact this
    · have := kpp5 (v3 := v3) ((kpo5 hf).trans (if_pos q)) q
      rw [hzc] at this
      exact this
    · have := kpp6 (v3 := v3) ((kpo6 hf).trans (if_pos q)) q
      rw [hzc] at this
      exact this
    · have := kpp7 (v3 := v3) ((kpo7 hf).trans (if_pos q)) q
      rw [hzc] at this
      exact this
    · have := kpp8 (v3 := v3) ((kpo8 hf).trans (if_pos q)) q
      rw [hzc] at this
      exact this
    · have := kpp9 (v3 := v3) ((kpo9 hf).trans (if_pos q)) q
      rw [hzc] at this
      exact this
    · have := kpp10 (v3 := v3) ((kpo10 hf).trans (if_pos q)) q
      rw [hzc] at this
      exact this
    · have := kpp11 (v3 := v3) ((kpo11 hf).trans (if_pos q)) q
      rw [hzc] at this
      exact this
  · rw [if_neg q, if_neg q]
    rcases h9 with rfl | rfl | rfl | rfl | rfl | rfl | rfl | rfl | rfl | rfl | rfl | rfl
    · have := kps0 (v3 := v3) ((kpo0 hf).trans (if_neg q)) q
      rw [hzc] at this
      exact this
    · have := kps1 (v3 := v3) ((kpo1 hf).trans (if_neg q)) q
      rw [hzc] at this
      exact this
    · have := kps2 (v3 := v3) ((kpo2 hf).trans (if_neg q)) q
      rw [hzc] at this
      exact this
    · have := kps3 (v3 := v3) ((kpo3 hf).trans (if_neg q)) q
      rw [hzc] at this
      exact this
    · have := kps4 (v3 := v3) ((kpo4 hf).trans (if_neg q)) q
      rw [hzc] at this
      exact this
    · have := kps5 (v3 := v3) ((kpo5 hf).trans (if_neg q)) q
      rw [hzc] at this
      exact this
    · exact kpartN ((kpo6 hf).trans (if_neg q))
    · exact kpartN ((kpo7 hf).trans (if_neg q))
    · exact kpartN ((kpo8 hf).trans (if_neg q))
    · exact kpartN ((kpo9 hf).trans (if_neg q))
    · exact kpartN ((kpo10 hf).trans (if_neg q))
    · exact kpartN ((kpo11 hf).trans (if_neg q))
/-- the same of the reference -/
def partm (n nm : Nat) (v3 : Int32) (s : Sto) : Int32 × Sto := if n = 0 then (nI 0, sI (sI s 148 0 (nI 0)) 148 0 (nI 1)) else if v3 < 0 then (nI 0, sI (sI s 148 0 (nI 0)) 148 0 (nI 2)) else if v3 < nI n then (((sI s 148 0 (nI 0)).1 nm v3.toNatClampNeg) &&& nI 255, sI s 148 0 (nI 0)) else (nI 0, sI (sI s 148 0 (nI 0)) 148 0 (nI 2))
theorem mfail_eq {cd : Int32} {s : Sto} : F_M_fail cd s = (nI 0, sI s 148 0 cd) := by rw [F_M_fail, bnd_eq]
theorem mnone_no {v : Int32} {s : Sto} {pn : Nat} (h : s.1 148 3 = nI pn) (hp : pn ≤ 8) (hv : v < 0 ∨ ¬ v < nI pn) : F_M_none v s = (nI 1, s) := by
  rw [F_M_none]
  by_cases h0 : v < 0
  · rw [if_pos h0]
  · rw [if_neg h0, bnd_eq, h, nI_clamp (by omega), if_neg (hv.resolve_left h0)]
theorem mnone_at {s : Sto} {pn z : Nat} (h : s.1 148 3 = nI pn) (hp : pn ≤ 8) (hz : z < pn) : F_M_none (nI z) s = (nI 0, s) := by
  rw [F_M_none, if_neg (nI_nneg (by omega)), bnd_eq, h, nI_clamp (by omega), if_pos (nI_lt hz (by omega)), bnd_eq]
theorem mos0 {s : Sto} : F_M_openSize_0 s = (nI 800, s) := by rw [F_M_openSize_0, bnd_eq, F_ME_openSize_0, bnd_eq]
theorem mos1 {s : Sto} : F_M_openSize_1 s = (nI 1184, s) := by rw [F_M_openSize_1, bnd_eq, F_ME_openSize_1, bnd_eq]
theorem mos2 {s : Sto} : F_M_openSize_2 s = (nI 1568, s) := by rw [F_M_openSize_2, bnd_eq, F_ME_openSize_2, bnd_eq]
theorem mos3 {s : Sto} : F_M_openSize_3 s = (nI 1312, s) := by rw [F_M_openSize_3, bnd_eq, F_MH_openSize_0, bnd_eq]
theorem mos4 {s : Sto} : F_M_openSize_4 s = (nI 1952, s) := by rw [F_M_openSize_4, bnd_eq, F_MH_openSize_1, bnd_eq]
theorem mos5 {s : Sto} : F_M_openSize_5 s = (nI 2592, s) := by rw [F_M_openSize_5, bnd_eq, F_MH_openSize_2, bnd_eq]
theorem msize_p {s : Sto} {k c : Nat} {sc : Int32} (q : sc = 0) (hc : c < 6) (e : s.1 170 k = nI c) : F_M_size k sc s = (nI (kpub c), s) := by
  have h9 : c = 0 ∨ c = 1 ∨ c = 2 ∨ c = 3 ∨ c = 4 ∨ c = 5 := by omega
  rw [F_M_size, if_pos q, e]
  rcases h9 with rfl | rfl | rfl | rfl | rfl | rfl
  · rw [if_pos (show nI 0 = nI 0 from rfl), bnd_eq, mos0, bnd_eq]
    rfl
  · rw [if_neg (show ¬ nI 1 = nI 0 by decide), if_pos (show nI 1 = nI 1 from rfl), bnd_eq, mos1, bnd_eq]
    rfl
  · rw [if_neg (show ¬ nI 2 = nI 0 by decide), if_neg (show ¬ nI 2 = nI 1 by decide), if_pos (show nI 2 = nI 2 from rfl), bnd_eq, mos2, bnd_eq]
    rfl
  · rw [if_neg (show ¬ nI 3 = nI 0 by decide), if_neg (show ¬ nI 3 = nI 1 by decide), if_neg (show ¬ nI 3 = nI 2 by decide), if_pos (show nI 3 = nI 3 from rfl), bnd_eq, mos3, bnd_eq]
    rfl
  · rw [if_neg (show ¬ nI 4 = nI 0 by decide), if_neg (show ¬ nI 4 = nI 1 by decide), if_neg (show ¬ nI 4 = nI 2 by decide), if_neg (show ¬ nI 4 = nI 3 by decide), if_pos (show nI 4 = nI 4 from rfl), bnd_eq, mos4, bnd_eq]
    rfl
  · rw [if_neg (show ¬ nI 5 = nI 0 by decide), if_neg (show ¬ nI 5 = nI 1 by decide), if_neg (show ¬ nI 5 = nI 2 by decide), if_neg (show ¬ nI 5 = nI 3 by decide), if_neg (show ¬ nI 5 = nI 4 by decide), bnd_eq, mos5, bnd_eq]
    rfl
theorem msize_s {s : Sto} {k n : Nat} {sc : Int32} (q : ¬ sc = 0) (hn : n < 2 ^ 31) (e : s.1 171 k = nI n) : F_M_size k sc s = (nI n, s) := by
  rw [F_M_size, if_neg q, bnd_eq, e, nI_clamp hn]
theorem mpart_at {s : Sto} {pn z n : Nat} {sc v3 : Int32} (h : s.1 148 3 = nI pn) (hp : pn ≤ 8) (hz : z < pn) (hn : n ≤ 4896) (e : F_M_size z sc (sI s 148 0 (nI 0)) = (nI n, sI s 148 0 (nI 0))) : F_M_part (nI z) sc v3 s = partm n (if sc = 0 then 153 + z else 162 + z) v3 s := by
  have h1 : (sI s 148 0 (nI 0)).1 148 3 = nI pn := by rw [th_off (by decide)]; exact h
  have hzc : (nI z).toNatClampNeg = z := nI_clamp (by omega)
  have hnc : (nI n).toNatClampNeg = n := nI_clamp (by omega)
  rw [F_M_part, partm, bnd_eq]
  generalize sI s 148 0 (nI 0) = s1 at e h1 ⊢
  rw [bnd_eq, mnone_at h1 hp hz]
  dsimp only
  rw [if_pos (show nI 0 = 0 by decide), bnd_eq, hzc, bnd_eq, e]
  dsimp only
  rw [bnd_eq, hnc]
  by_cases h0 : n = 0
  · subst h0
    rw [if_pos (show nI 0 = 0 by decide), if_pos rfl, bnd_eq, mfail_eq]
  · have h2 : ¬ nI n = 0 := fun q => h0 ((nI_eq (b := 0) (by omega) (by decide)).mp q)
    rw [if_neg h2, if_neg h0]
    by_cases h3 : v3 < 0
    · rw [if_pos h3, if_pos h3, bnd_eq, mfail_eq]
    · rw [if_neg h3, if_neg h3, bnd_eq, e]
      dsimp only
      rw [bnd_eq, hnc]
      by_cases h4 : v3 < nI n
      · rw [if_pos h4, if_pos h4, bnd_eq]
        by_cases q : sc = 0
        · rw [if_pos q, if_pos q]
        · rw [if_neg q, if_neg q]
      · rw [if_neg h4, if_neg h4, bnd_eq, mfail_eq]
theorem mpart_no {s : Sto} {pn : Nat} {v sc v3 : Int32} (h : s.1 148 3 = nI pn) (hp : pn ≤ 8) (hv : v < 0 ∨ ¬ v < nI pn) : F_M_part v sc v3 s = (nI 0, sI (sI s 148 0 (nI 0)) 148 0 (nI 1)) := by
  have h1 : (sI s 148 0 (nI 0)).1 148 3 = nI pn := by rw [th_off (by decide)]; exact h
  rw [F_M_part, bnd_eq]
  generalize sI s 148 0 (nI 0) = s1 at h1 ⊢
  rw [bnd_eq, mnone_no h1 hp hv]
  dsimp only
  rw [if_neg (show ¬ nI 1 = 0 by decide), bnd_eq, mfail_eq]
theorem kpub_le {c : Nat} (h : c < 6) : 0 < kpub c ∧ kpub c ≤ 2592 := by
  have h9 : c = 0 ∨ c = 1 ∨ c = 2 ∨ c = 3 ∨ c = 4 ∨ c = 5 := by omega
  rcases h9 with rfl | rfl | rfl | rfl | rfl | rfl <;> decide
theorem ksec_le {c : Nat} (h : c < 6) : 0 < ksec c ∧ ksec c ≤ 4896 := by
  have h9 : c = 0 ∨ c = 1 ∨ c = 2 ∨ c = 3 ∨ c = 4 ∨ c = 5 := by omega
  rcases h9 with rfl | rfl | rfl | rfl | rfl | rfl <;> decide
/-- what a call of part leaves of the reference's object -/
def onlM (s t : Sto) : Prop := (∀ k, k ≠ 148 → t.1 k = s.1 k) ∧ ∀ j, j ≠ 0 → t.1 148 j = s.1 148 j
theorem onlM1 {s : Sto} {x : Int32} : onlM s (sI s 148 0 x) := ⟨fun _ h => th_ne h, fun _ h => th_off h⟩
theorem onlM_tr {s t u : Sto} (h : onlM s t) (h1 : onlM t u) : onlM s u := ⟨fun k hk => (h1.1 k hk).trans (h.1 k hk), fun j hj => (h1.2 j hj).trans (h.2 j hj)⟩
theorem part_vm {s : Sto} {n n1 n2 : Nat} {v3 : Int32} (h2 : n2 ≠ 148) (hn : n ≤ 4896) (hB : ∀ j, j < n → s.1 n1 j = s.1 n2 j) : (partv n n1 v3 s).2.2 = s ∧ (partm n n2 v3 s).2.1 148 0 = (partv n n1 v3 s).1 ∧ ((partv n n1 v3 s).1 = nI 0 → (partm n n2 v3 s).1 = (partv n n1 v3 s).2.1) ∧ onlM s (partm n n2 v3 s).2 := by
  unfold partv partm
  by_cases h0 : n = 0
  · rw [if_pos h0, if_pos h0]
    exact ⟨rfl, th_at, fun q => absurd q (show ¬ nI 1 = nI 0 by decide), onlM_tr onlM1 onlM1⟩
  · rw [if_neg h0, if_neg h0]
    by_cases h3 : v3 < 0
    · rw [if_pos h3, if_pos h3]
      exact ⟨rfl, th_at, fun q => absurd q (show ¬ nI 2 = nI 0 by decide), onlM_tr onlM1 onlM1⟩
    · rw [if_neg h3, if_neg h3]
      by_cases h4 : v3 < nI n
      · rw [if_pos h4, if_pos h4]
        obtain ⟨j, hj, rfl⟩ := i32_ltc h3 (by omega) h4
        refine ⟨rfl, th_at, fun _ => ?_, onlM1⟩
        show ((sI s 148 0 (nI 0)).1 n2 _) &&& nI 255 = (s.1 n1 _) &&& nI 255
        rw [th_ne h2, nI_clamp (by omega), hB j hj]
      · rw [if_neg h4, if_neg h4]
        exact ⟨rfl, th_at, fun q => absurd q (show ¬ nI 2 = nI 0 by decide), onlM_tr onlM1 onlM1⟩
/-- part answers alike on both sides -/
theorem part_same {tl al pn : Nat} {v sc v3 : Int32} {s : Sto} (h : SAME tl al pn s) : (F_K_part v sc v3 s).2.2 = s ∧ (F_M_part v sc v3 s).2.1 148 0 = (F_K_part v sc v3 s).1 ∧ ((F_K_part v sc v3 s).1 = nI 0 → (F_M_part v sc v3 s).1 = (F_K_part v sc v3 s).2.1) ∧ onlM s (F_M_part v sc v3 s).2 := by
  obtain ⟨-, -, ⟨h1, h2, h3⟩, -, -, hp⟩ := h
  by_cases hv : v < 0 ∨ ¬ v < nI pn
  · rw [kpartN (kpart0 (kfind_no h1 h3 hv)), mpart_no h2 h3 hv]
    exact ⟨rfl, th_at, fun q => absurd q (show ¬ nI 1 = nI 0 by decide), onlM_tr onlM1 onlM1⟩
  · have hv0 : ¬ v < 0 := fun q => hv (Or.inl q)
    have hv1 : v < nI pn := Classical.byContradiction fun q => hv (Or.inr q)
    obtain ⟨z, hz, rfl⟩ := i32_ltc hv0 (by omega) hv1
    obtain ⟨c, hc, e1, e2, e3, e4, e5⟩ := hp z hz
    rw [kpart_at h1 h3 hz hc e1]
    have n1 : (sI s 148 0 (nI 0)).1 170 z = nI (c % 6) := by rw [th_ne (by decide)]; exact e2
    have n2 : (sI s 148 0 (nI 0)).1 171 z = nI (if c < 6 then ksec c else 0) := by rw [th_ne (by decide)]; exact e3
    by_cases q : sc = 0
    · have b := kpub_le (c := c % 6) (by omega)
      rw [mpart_at h2 h3 hz (n := kpub (c % 6)) (by omega) (msize_p q (by omega) n1), if_pos q, if_pos q, if_pos q]
      exact part_vm (by omega) (by omega) e4
    · by_cases q6 : c < 6
      · have b := ksec_le q6
        rw [if_pos q6] at n2
        rw [mpart_at h2 h3 hz (n := ksec c) (by omega) (msize_s q (by omega) n2), if_neg q, if_neg q, if_neg q, if_pos q6]
        exact part_vm (by omega) (by omega) (e5.1 q6)
      · rw [if_neg q6] at n2
        rw [mpart_at h2 h3 hz (n := 0) (by omega) (msize_s q (by omega) n2), if_neg q, if_neg q, if_neg q, if_neg q6]
        exact part_vm (by omega) (by omega) (fun j hj => absurd hj (by omega))
theorem SAME_onlM {tl al pn : Nat} {s t : Sto} (h : SAME tl al pn s) (ho : onlM s t) : SAME tl al pn t := by
  obtain ⟨⟨a1, a2, a3⟩, ⟨b1, b2, b3⟩, ⟨c1, c2, c3⟩, d, e, f⟩ := h
  have o := ho.1
  refine ⟨⟨by rw [o 0 (by decide)]; exact a1, by rw [ho.2 1 (by decide)]; exact a2, a3⟩, ⟨by rw [o 0 (by decide)]; exact b1, by rw [ho.2 2 (by decide)]; exact b2, b3⟩, ⟨by rw [o 0 (by decide)]; exact c1, by rw [ho.2 3 (by decide)]; exact c2, c3⟩, ?_, ?_, fun i hi => PAIR_c (by omega) (fun k hk => o k (by unfold isP at hk; omega)) (f i hi)⟩
  · rw [o 1 (by decide), o 149 (by decide)]; exact d
  · rw [o 2 (by decide), o 150 (by decide)]; exact e
/-- a call of the class and the same call of the reference behind it: both throw the same or answer the same, and go on alike -/
def ALIKE (A : Int32 × Int32 × Sto) (f : Sto → Int32 × Sto) : Prop := (∃ tl al pn, SAME tl al pn (f A.2.2).2) ∧ (f A.2.2).2.1 148 0 = A.1 ∧ (A.1 = nI 0 → (f A.2.2).1 = A.2.1)
theorem part_alike {tl al pn : Nat} {v sc v3 : Int32} {s : Sto} (h : SAME tl al pn s) : ALIKE (F_K_part v sc v3 s) (F_M_part v sc v3) := by
  obtain ⟨h1, h2, h3, h4⟩ := part_same (v := v) (sc := sc) (v3 := v3) h
  unfold ALIKE
  rw [h1]
  exact ⟨⟨tl, al, pn, SAME_onlM h h4⟩, h2, h3⟩
