set_option linter.all false
/-- the number of tries in the class, as a name that nothing unrolls -/
noncomputable def fuelM : Nat := Classical.choose (show ∃ n : Nat, n = 1000000 from ⟨1000000, rfl⟩)
theorem fuelM_eq : fuelM = 1000000 := Classical.choose_spec (show ∃ n : Nat, n = 1000000 from ⟨1000000, rfl⟩)
