set_option linter.all false
theorem i32_nat {v : Int32} (h : ¬ v < 0) : ∃ z : Nat, z < 2 ^ 31 ∧ v = nI z := by
  have h0 : (0 : Int) ≤ v.toInt := by
    have := Int32.not_lt.mp h
    simpa using Int32.le_iff_toInt_le.mp this
  have h1 : v.toInt < 2 ^ 31 := Int32.toInt_lt v
  refine ⟨v.toInt.toNat, by omega, ?_⟩
  apply Int32.toInt_inj.mp
  rw [nI_toInt (by omega)]
  omega
theorem i32_lt {v : Int32} {n : Nat} (h : ¬ v < 0) (hn : n < 2 ^ 31) (h2 : ¬ nI n ≤ v) : ∃ z : Nat, z < n ∧ v = nI z := by
  obtain ⟨z, h1, rfl⟩ := i32_nat h
  exact ⟨z, Nat.not_le.mp (fun q => h2 (nI_le q (by omega))), rfl⟩
theorem i32_ltc {v : Int32} {n : Nat} (h : ¬ v < 0) (hn : n < 2 ^ 31) (h2 : v < nI n) : ∃ z : Nat, z < n ∧ v = nI z := i32_lt h hn (Int32.not_le.mpr h2)
theorem i32_le {v : Int32} {n : Nat} (h : ¬ v < 0) (hn : n < 2 ^ 31) (h2 : v ≤ nI n) : ∃ z : Nat, z ≤ n ∧ v = nI z := by
  obtain ⟨z, h1, rfl⟩ := i32_nat h
  refine ⟨z, Nat.not_lt.mp (fun q => ?_), rfl⟩
  exact absurd h2 (nI_ge q h1)
theorem i32_lex {v : Int32} {n : Nat} (h : ¬ v < 0) (hn : n < 2 ^ 31) (h2 : ¬ nI n < v) : ∃ z : Nat, z ≤ n ∧ v = nI z := i32_le h hn (Int32.not_lt.mp h2)
