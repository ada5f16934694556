set_option linter.all false
theorem ar_sI {s s2 : Sto} {k k' i : Nat} {x : Int32} (e : s2 = sI s k i x) (hne : k' ≠ k) : s2.1 k' = s.1 k' := by subst e; exact uA_ne hne
theorem ar_sB {s s2 : Sto} {k k' i : Nat} {x : Int32} (e : s2 = sB s k i x) (hne : k' ≠ k) : s2.1 k' = s.1 k' := by subst e; exact uA_ne hne
theorem ar_sC {s s2 : Sto} {k0 k k' sp dp n : Nat} (e : s2 = sC s k0 k sp dp n) (hne : k' ≠ k) : s2.1 k' = s.1 k' := by subst e; exact uA_ne hne
/-- the ends of the hints' rows, as they are checked -/
def hgN (mh rows : Nat) (h : Nat → Int32) : Prop := ∀ i, i < rows → (h (mh + i) &&& nI 255).toNatClampNeg ≤ mh
theorem hgN_step {mh i : Nat} {h : Nat → Int32} (hg : hgN mh i h) (e : (h (mh + i) &&& nI 255).toNatClampNeg ≤ mh) : hgN mh (i + 1) h := fun j hj => by
  by_cases q : j = i
  · subst q; exact e
  · exact hg j (by omega)
theorem hgN_at {mh i rows : Nat} {h : Nat → Int32} (hg : hgN mh i h) (e : i = rows) : hgN mh rows h := by subst e; exact hg
theorem nar_2 {z : Nat} (h : z < 2) : narrow .boolean (.int (nI z)) = .int (nI z) := by
  match z, h with
  | 0, _ => rfl
  | 1, _ => rfl
