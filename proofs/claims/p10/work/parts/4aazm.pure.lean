set_option linter.all false
theorem cl2_0 : cl2.getD 0 0 = 1 := by decide +kernel
theorem cl2_s : ∀ k, k < 512 - 1 → cl2.getD (k + 1) 0 = cl2.getD k 0 * 1753 % 8380417 := by decide +kernel
theorem cl2_e : cl2.getD (512 - 1) 0 * 1753 % 8380417 = 1 % 8380417 := by decide +kernel
theorem cl2_lq : ∀ k, k < 512 → cl2.getD k 0 < 8380417 := by decide +kernel
theorem cl2_p : ∀ k, k < 512 → cg ((8380417 : Nat) : Int) ((cl2.getD k 0 : Nat) : Int) ((1753 : Int) ^ k)
  | 0, _ => by
    rw [cl2_0, Int.pow_zero]
    exact cg_of rfl
  | k + 1, h => by
    rw [cl2_s k (by omega), Int.pow_succ]
    refine cg_tr (cg_mod _ _) ?_
    rw [Int.natCast_mul]
    exact cg_mul (cl2_p k (by omega)) (cg_of rfl)
theorem z8_one : cg ((8380417 : Nat) : Int) ((1753 : Int) ^ (512 - 1 + 1)) 1 := by
  rw [Int.pow_succ]
  have h9 := cg_md cl2_e
  rw [Int.natCast_mul] at h9
  refine cg_tr (cg_mulr (cg_sy (cl2_p (512 - 1) (by decide)))) ?_
  generalize ((cl2.getD (512 - 1) 0 : Nat) : Int) = x at h9 ⊢
  exact h9
theorem z8_mod (e : Nat) : cg ((8380417 : Nat) : Int) ((1753 : Int) ^ (e % 512)) ((1753 : Int) ^ e) := by
  have h : (1753 : Int) ^ e = ((1753 : Int) ^ (512 - 1 + 1)) ^ (e / 512) * (1753 : Int) ^ (e % 512) := by
    rw [← pwm, ← pwa]
    exact congrArg (fun n => (1753 : Int) ^ n) (show e = (512 - 1 + 1) * (e / 512) + e % 512 by omega)
  rw [h]
  refine cg_sy (cg_tr (cg_mulr (cg_pow z8_one _)) ?_)
  rw [one_pw, Int.one_mul]
  exact cg_rf
theorem cl2_m (e : Nat) : cg ((8380417 : Nat) : Int) ((cl2.getD (e % 512) 0 : Nat) : Int) ((1753 : Int) ^ e) := cg_tr (cl2_p _ (Nat.mod_lt _ (by decide))) (z8_mod e)
theorem neg8_ix {r j : Nat} (hr : r ≤ 512) : ((-(nI r)) * nI j) &&& nI (512 - 1) = nI ((512 - r) * j % 512) := by
  have h1 : -(nI r) = nI (4294967296 - r) := by
    rw [← pk_sub (by omega), show nI 4294967296 = 0 by decide, Int32.zero_sub]
  have h2 : (4294967296 - r) * j % 512 = (512 - r) * j % 512 := by
    rw [show 4294967296 - r = 512 * 8388607 + (512 - r) by omega, Nat.add_mul, Nat.mul_assoc, Nat.mul_add_mod]
  rw [h1, pk_mul, pk_and _ 9 (by decide)]
  show nI ((BitVec.ofNat 32 ((4294967296 - r) * j)).toNat % 512) = _
  rw [BitVec.toNat_ofNat, Nat.mod_mod_of_dvd _ (by decide), h2]
/-- the reference's sum at one leaf, forth -/
def wf8 (b : Nat) : Int := (1753 : Int) ^ (ct4.getD b 0)
def wb8 (b : Nat) : Int := (1753 : Int) ^ (512 - ct4.getD b 0)
theorem lN_rem8 {S : Nat} (h : S < 2 ^ 63) : (lN S - lN S / (nI 8380417).toInt64 * (nI 8380417).toInt64) = lN (S % 8380417) := by
  rw [nI_l (by decide), pk_lRem h (by decide) (by decide)]
theorem Qf_in80 {pf pt i : Nat} {kk : Nat → Sto → Sto} {s : Sto} (hi : i < 256) (hr : rdc 8380417 (s.1 pf)) : ∀ (n j S : Nat), j + n = 256 → S ≤ j * 70368744177664 → cg ((8380417 : Nat) : Int) (S : Int) (sm j fun u => vl (s.1 pf) (1 * u + 0) * wf8 i ^ u) →
    ∃ R : Nat, R < 8380417 ∧ F_MR_forth_8_0_L1 pf pt i kk n j (ct4.getD i 0 * j % 512) (lN S) s = kk (i + 1) (sI s pt ((1 * i) + 0) (nI R)) ∧ cg ((8380417 : Nat) : Int) (R : Int) (sm 256 fun u => vl (s.1 pf) (1 * u + 0) * wf8 i ^ u)
  | 0, j, S, hj, hS, hc => by
    obtain rfl : j = 256 := by omega
    refine ⟨S % 8380417, Nat.mod_lt _ (by decide), ?_, cg_tr (cg_mod _ _) hc⟩
    rw [F_MR_forth_8_0_L1, lN_rem8 (by omega), lN_i, bnd_eq]
  | n + 1, j, S, hj, hS, hc => by
    obtain ⟨a, ha, ea⟩ := hr (1 * j + 0) (by omega)
    have h3 := ct4_lt i hi
    have hlt : ct4.getD i 0 * j % 512 < 512 := Nat.mod_lt _ (by decide)
    have hp := cl2_lq _ hlt
    have hm : a * cl2.getD (ct4.getD i 0 * j % 512) 0 ≤ 8388608 * 8388608 := Nat.mul_le_mul (by omega) (by omega)
    have e1 : lN S + ((s.1 pf (1 * j + 0)).toInt64) * ctL 2 (ct4.getD i 0 * j % 512) = lN (S + a * cl2.getD (ct4.getD i 0 * j % 512) 0) := by
      rw [ea, nI_l (by omega)]
      show lN S + lN a * lN (cl2.getD (ct4.getD i 0 * j % 512) 0) = _
      rw [lN_mul, lN_add]
    have e2 : ((nI (ct4.getD i 0 * j % 512) + ctI 4 i) &&& nI (512 - 1)).toNatClampNeg = ct4.getD i 0 * (j + 1) % 512 := by
      show ((nI (ct4.getD i 0 * j % 512) + nI (ct4.getD i 0)) &&& nI (512 - 1)).toNatClampNeg = _
      rw [nI_add, pk_andN (by omega) 9 (by decide)]
      show (nI ((ct4.getD i 0 * j % 512 + ct4.getD i 0) % 512)).toNatClampNeg = _
      rw [Nat.mod_add_mod, ← Nat.mul_add_one, nI_clamp (Nat.lt_of_lt_of_le (Nat.mod_lt _ (by decide)) (by decide))]
    have hc' : cg ((8380417 : Nat) : Int) ((S + a * cl2.getD (ct4.getD i 0 * j % 512) 0 : Nat) : Int) (sm (j + 1) fun u => vl (s.1 pf) (1 * u + 0) * wf8 i ^ u) := by
      rw [Int.natCast_add, Int.natCast_mul]
      refine cg_add hc ?_
      show cg _ _ (vl (s.1 pf) (1 * j + 0) * wf8 i ^ j)
      rw [vl_n ea (by omega)]
      refine cg_mull (cg_tr (cl2_m _) ?_)
      rw [pwm]
      exact cg_rf
    obtain ⟨R, h1, h2, h4⟩ := Qf_in80 hi hr n (j + 1) _ (by omega) (by omega) hc'
    refine ⟨R, h1, Eq.trans ?_ h2, h4⟩
    rw [F_MR_forth_8_0_L1, e1, bnd_eq]
    show bnd (((nI (ct4.getD i 0 * j % 512) + ctI 4 i) &&& nI (512 - 1)).toNatClampNeg) _ = _
    rw [e2, bnd_eq]
theorem Qf_out80 {pf pt : Nat} (hne : pf ≠ pt) : ∀ (n i : Nat) (s : Sto), i + n = 256 → rdc 8380417 (s.1 pf) → onl pt s (F_MR_forth_8_0_L0 pf pt n i s) ∧ (∀ b, i ≤ b → b < 256 → ∃ R : Nat, R < 8380417 ∧ (F_MR_forth_8_0_L0 pf pt n i s).1 pt (1 * b + 0) = nI R ∧ cg ((8380417 : Nat) : Int) (R : Int) (sm 256 fun u => vl (s.1 pf) (1 * u + 0) * wf8 b ^ u)) ∧ ∀ k, (k % 1 ≠ 0 ∨ k < 1 * i) → (F_MR_forth_8_0_L0 pf pt n i s).1 pt k = s.1 pt k
  | 0, i, s, hi, _ => ⟨onl_rf, fun b h1 h2 => by omega, fun _ _ => rfl⟩
  | n + 1, i, s, hi, hr => by
    obtain ⟨R, h1, h2, h3⟩ := Qf_in80 (pt := pt) (kk := F_MR_forth_8_0_L0 pf pt n) (i := i) (by omega) hr 256 0 0 (by omega) (by omega) cg_rf
    have hU : F_MR_forth_8_0_L0 pf pt (n + 1) i s = F_MR_forth_8_0_L0 pf pt n (i + 1) (sI s pt ((1 * i) + 0) (nI R)) := Eq.trans (by rw [F_MR_forth_8_0_L0, Nat.mul_zero, Nat.zero_mod, ← lN0]) h2
    have o1 : onl pt s (sI s pt ((1 * i) + 0) (nI R)) := onl_sI
    have r1 : (sI s pt ((1 * i) + 0) (nI R)).1 pt = upd (s.1 pt) ((1 * i) + 0) (nI R) := sI_row
    generalize sI s pt ((1 * i) + 0) (nI R) = s1 at hU o1 r1
    have ef : s1.1 pf = s.1 pf := o1.1 pf hne
    obtain ⟨q1, q2, q3⟩ := Qf_out80 hne n (i + 1) s1 (by omega) (by rw [ef]; exact hr)
    rw [hU]
    refine ⟨onl_tr o1 q1, fun b u v => ?_, fun k u => ?_⟩
    · by_cases w : b = i
      · subst w
        refine ⟨R, h1, ?_, h3⟩
        rw [q3 _ (Or.inr (by omega)), r1, upd_s]
      · have := q2 b (by omega) v
        rw [ef] at this
        exact this
    · rw [q3 k (by omega), r1, upd_n (by omega)]
theorem Qb_in80 {pf pt i : Nat} {kk : Nat → Sto → Sto} {s : Sto} (hi : i < 256) (hr : rdc 8380417 (s.1 pf)) : ∀ (n j S : Nat), j + n = 256 → S ≤ j * 70368744177664 → cg ((8380417 : Nat) : Int) (S : Int) (sm j fun u => vl (s.1 pf) (1 * u + 0) * wb8 u ^ i) →
    ∃ R : Nat, R < 8380417 ∧ F_MR_back_8_0_L1 pf pt i kk n j (lN S) s = kk (i + 1) (sI s pt ((1 * i) + 0) (nI R)) ∧ cg ((8380417 : Nat) : Int) (R : Int) ((sm 256 fun u => vl (s.1 pf) (1 * u + 0) * wb8 u ^ i) * 8347681)
  | 0, j, S, hj, hS, hc => by
    obtain rfl : j = 256 := by omega
    have hlt : S % 8380417 < 8380417 := Nat.mod_lt _ (by decide)
    refine ⟨S % 8380417 * 8347681 % 8380417, Nat.mod_lt _ (by decide), ?_, ?_⟩
    · rw [F_MR_back_8_0_L1, lN_rem8 (by omega)]
      show bnd (sI s pt ((1 * i) + 0) (((lN (S % 8380417) * lN 8347681) - (lN (S % 8380417) * lN 8347681) / (nI 8380417).toInt64 * (nI 8380417).toInt64).toInt32)) _ = _
      rw [lN_mul, lN_rem8 (by omega), lN_i, bnd_eq]
    · refine cg_tr (cg_mod _ _) ?_
      rw [Int.natCast_mul]
      exact cg_mul (cg_tr (cg_mod _ _) hc) (cg_of rfl)
  | n + 1, j, S, hj, hS, hc => by
    obtain ⟨a, ha, ea⟩ := hr (1 * j + 0) (by omega)
    have h3 := ct4_lt j (by omega)
    have hlt : (512 - ct4.getD j 0) * i % 512 < 512 := Nat.mod_lt _ (by decide)
    have hp := cl2_lq _ hlt
    have hm : a * cl2.getD ((512 - ct4.getD j 0) * i % 512) 0 ≤ 8388608 * 8388608 := Nat.mul_le_mul (by omega) (by omega)
    have e1 : lN S + ((s.1 pf (1 * j + 0)).toInt64) * ctL 2 ((512 - ct4.getD j 0) * i % 512) = lN (S + a * cl2.getD ((512 - ct4.getD j 0) * i % 512) 0) := by
      rw [ea, nI_l (by omega)]
      show lN S + lN a * lN (cl2.getD ((512 - ct4.getD j 0) * i % 512) 0) = _
      rw [lN_mul, lN_add]
    have e2 : (((-(ctI 4 j)) * nI i) &&& nI (512 - 1)).toNatClampNeg = (512 - ct4.getD j 0) * i % 512 := by
      show (((-(nI (ct4.getD j 0))) * nI i) &&& nI (512 - 1)).toNatClampNeg = _
      rw [neg8_ix (by omega), nI_clamp (by omega)]
    have hc' : cg ((8380417 : Nat) : Int) ((S + a * cl2.getD ((512 - ct4.getD j 0) * i % 512) 0 : Nat) : Int) (sm (j + 1) fun u => vl (s.1 pf) (1 * u + 0) * wb8 u ^ i) := by
      rw [Int.natCast_add, Int.natCast_mul]
      refine cg_add hc ?_
      show cg _ _ (vl (s.1 pf) (1 * j + 0) * wb8 j ^ i)
      rw [vl_n ea (by omega)]
      refine cg_mull (cg_tr (cl2_m _) ?_)
      rw [pwm]
      exact cg_rf
    obtain ⟨R, h1, h2, h4⟩ := Qb_in80 hi hr n (j + 1) _ (by omega) (by omega) hc'
    refine ⟨R, h1, Eq.trans ?_ h2, h4⟩
    rw [F_MR_back_8_0_L1]
    show bnd ((((-(ctI 4 j)) * nI i) &&& nI (512 - 1)).toNatClampNeg) _ = _
    rw [e2, bnd_eq, e1, bnd_eq]
theorem Qb_out80 {pf pt : Nat} (hne : pf ≠ pt) : ∀ (n i : Nat) (s : Sto), i + n = 256 → rdc 8380417 (s.1 pf) → onl pt s (F_MR_back_8_0_L0 pf pt n i s) ∧ (∀ b, i ≤ b → b < 256 → ∃ R : Nat, R < 8380417 ∧ (F_MR_back_8_0_L0 pf pt n i s).1 pt (1 * b + 0) = nI R ∧ cg ((8380417 : Nat) : Int) (R : Int) ((sm 256 fun u => vl (s.1 pf) (1 * u + 0) * wb8 u ^ b) * 8347681)) ∧ ∀ k, (k % 1 ≠ 0 ∨ k < 1 * i) → (F_MR_back_8_0_L0 pf pt n i s).1 pt k = s.1 pt k
  | 0, i, s, hi, _ => ⟨onl_rf, fun b h1 h2 => by omega, fun _ _ => rfl⟩
  | n + 1, i, s, hi, hr => by
    obtain ⟨R, h1, h2, h3⟩ := Qb_in80 (pt := pt) (kk := F_MR_back_8_0_L0 pf pt n) (i := i) (by omega) hr 256 0 0 (by omega) (by omega) cg_rf
    have hU : F_MR_back_8_0_L0 pf pt (n + 1) i s = F_MR_back_8_0_L0 pf pt n (i + 1) (sI s pt ((1 * i) + 0) (nI R)) := Eq.trans (by rw [F_MR_back_8_0_L0, ← lN0]) h2
    have o1 : onl pt s (sI s pt ((1 * i) + 0) (nI R)) := onl_sI
    have r1 : (sI s pt ((1 * i) + 0) (nI R)).1 pt = upd (s.1 pt) ((1 * i) + 0) (nI R) := sI_row
    generalize sI s pt ((1 * i) + 0) (nI R) = s1 at hU o1 r1
    have ef : s1.1 pf = s.1 pf := o1.1 pf hne
    obtain ⟨q1, q2, q3⟩ := Qb_out80 hne n (i + 1) s1 (by omega) (by rw [ef]; exact hr)
    rw [hU]
    refine ⟨onl_tr o1 q1, fun b u v => ?_, fun k u => ?_⟩
    · by_cases w : b = i
      · subst w
        refine ⟨R, h1, ?_, h3⟩
        rw [q3 _ (Or.inr (by omega)), r1, upd_s]
      · have := q2 b (by omega) v
        rw [ef] at this
        exact this
    · rw [q3 k (by omega), r1, upd_n (by omega)]
