set_option linter.all false
/-- ML-DSA: the same, from one row into another -/
theorem forth_same8 {pf pg pt k : Nat} {s t : Sto} (hne : pg ≠ pt) (hr : rdc 8380417 (s.1 pf)) (hE : ∀ k, k < 256 → s.1 pf k = t.1 pg k) (hk : k < 256) : (F_RG_transform_8 pf s).1 pf k = (F_MR_forth_8_0 pg pt t).1 pt k := by
  obtain ⟨-, p2, p3⟩ := P_transform8 hr
  obtain ⟨-, q2, -⟩ := Qf_out80 hne 256 0 t rfl (rdc_c hr fun k hk => (hE k hk).symm)
  rw [← F_MR_forth_8_0] at q2
  have q2' : ∀ b, b < 256 → ∃ R : Nat, R < 8380417 ∧ (F_MR_forth_8_0 pg pt t).1 pt b = nI R ∧ cg ((8380417 : Nat) : Int) (R : Int) (sm 256 fun u => vl (t.1 pg) (1 * u + 0) * wf8 b ^ u) := fun b hb => by
    have := q2 b (Nat.zero_le _) hb
    rw [Nat.one_mul, Nat.add_zero] at this
    exact this
  refine rd_same (by decide) p2 (fun k hk => by obtain ⟨R, h1, h2, -⟩ := q2' k hk; exact ⟨R, h1, h2⟩) hk ?_
  obtain ⟨R, h1, h2, h3⟩ := q2' k hk
  have h4 := p3 k 0 hk (by decide)
  rw [Nat.one_mul, Nat.add_zero] at h4
  rw [vl_n h2 (by omega)]
  refine cg_tr h4 (cg_tr (sm_cg _ fun u hu => ?_) (cg_sy h3))
  rw [show 0 + 1 * u = 1 * u + 0 by omega, vl_c (hE (1 * u + 0) (by omega))]
  exact cg_mull (cg_pow (leaf8_x hk) u)
theorem back_same8 {pf pg pt k : Nat} {s t : Sto} (hne : pg ≠ pt) (hr : rdc 8380417 (s.1 pf)) (hE : ∀ k, k < 256 → s.1 pf k = t.1 pg k) (hk : k < 256) : (F_RG_restore_8 pf s).1 pf k = (F_MR_back_8_0 pg pt t).1 pt k := by
  obtain ⟨-, p2, p3⟩ := P_restore8 hr
  obtain ⟨-, q2, -⟩ := Qb_out80 hne 256 0 t rfl (rdc_c hr fun k hk => (hE k hk).symm)
  rw [← F_MR_back_8_0] at q2
  have q2' : ∀ b, b < 256 → ∃ R : Nat, R < 8380417 ∧ (F_MR_back_8_0 pg pt t).1 pt b = nI R ∧ cg ((8380417 : Nat) : Int) (R : Int) ((sm 256 fun u => vl (t.1 pg) (1 * u + 0) * wb8 u ^ b) * 8347681) := fun b hb => by
    have := q2 b (Nat.zero_le _) hb
    rw [Nat.one_mul, Nat.add_zero] at this
    exact this
  refine rd_same (by decide) p2 (fun k hk => by obtain ⟨R, h1, h2, -⟩ := q2' k hk; exact ⟨R, h1, h2⟩) hk ?_
  obtain ⟨R, h1, h2, h3⟩ := q2' k hk
  have h4 := p3 k 0 hk (by decide)
  rw [Nat.one_mul, Nat.add_zero] at h4
  rw [vl_n h2 (by omega)]
  refine cg_tr h4 (cg_tr (cg_mulr (sm_cg _ fun u hu => ?_)) (cg_sy h3))
  rw [vl_c (hE (1 * u + 0) (by omega))]
  exact cg_mull (cg_pow (leaf8_y (by omega)) _)
