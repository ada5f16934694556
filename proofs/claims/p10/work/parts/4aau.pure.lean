set_option linter.all false
theorem lN0 : (0 : Int64) = lN 0 := by decide
theorem cl1_0 : cl1.getD 0 0 = 1 := by decide +kernel
theorem cl1_s : ∀ k, k < 256 - 1 → cl1.getD (k + 1) 0 = cl1.getD k 0 * 17 % 3329 := by decide +kernel
theorem cl1_e : cl1.getD (256 - 1) 0 * 17 % 3329 = 1 % 3329 := by decide +kernel
theorem cl1_lq : ∀ k, k < 256 → cl1.getD k 0 < 3329 := by decide +kernel
theorem cl1_p : ∀ k, k < 256 → cg ((3329 : Nat) : Int) ((cl1.getD k 0 : Nat) : Int) ((17 : Int) ^ k)
  | 0, _ => by
    rw [cl1_0, Int.pow_zero]
    exact cg_of rfl
  | k + 1, h => by
    rw [cl1_s k (by omega), Int.pow_succ]
    refine cg_tr (cg_mod _ _) ?_
    rw [Int.natCast_mul]
    exact cg_mul (cl1_p k (by omega)) (cg_of rfl)
theorem z7_one : cg ((3329 : Nat) : Int) ((17 : Int) ^ (256 - 1 + 1)) 1 := by
  rw [Int.pow_succ]
  refine cg_tr (cg_mulr (cg_sy (cl1_p (256 - 1) (by decide)))) ?_
  exact cg_tr (cg_of (Int.natCast_mul _ _).symm) (cg_md cl1_e)
theorem z7_mod (e : Nat) : cg ((3329 : Nat) : Int) ((17 : Int) ^ (e % 256)) ((17 : Int) ^ e) := by
  have h : (17 : Int) ^ e = ((17 : Int) ^ (256 - 1 + 1)) ^ (e / 256) * (17 : Int) ^ (e % 256) := by
    rw [← pwm, ← pwa]
    exact congrArg (fun n => (17 : Int) ^ n) (show e = (256 - 1 + 1) * (e / 256) + e % 256 by omega)
  rw [h]
  refine cg_sy (cg_tr (cg_mulr (cg_pow z7_one _)) ?_)
  rw [one_pw, Int.one_mul]
  exact cg_rf
theorem cl1_m (e : Nat) : cg ((3329 : Nat) : Int) ((cl1.getD (e % 256) 0 : Nat) : Int) ((17 : Int) ^ e) := cg_tr (cl1_p _ (Nat.mod_lt _ (by decide))) (z7_mod e)
theorem neg7_ix {r j : Nat} (hr : r ≤ 256) : ((-(nI r)) * nI j) &&& nI (256 - 1) = nI ((256 - r) * j % 256) := by
  have h1 : -(nI r) = nI (4294967296 - r) := by
    rw [← pk_sub (by omega), show nI 4294967296 = 0 by decide, Int32.zero_sub]
  have h2 : (4294967296 - r) * j % 256 = (256 - r) * j % 256 := by
    rw [show 4294967296 - r = 256 * 16777215 + (256 - r) by omega, Nat.add_mul, Nat.mul_assoc, Nat.mul_add_mod]
  rw [h1, pk_mul, pk_and _ 8 (by decide)]
  show nI ((BitVec.ofNat 32 ((4294967296 - r) * j)).toNat % 256) = _
  rw [BitVec.toNat_ofNat, Nat.mod_mod_of_dvd _ (by decide), h2]
/-- the reference's sum at one leaf, forth -/
def wf7 (b : Nat) : Int := (17 : Int) ^ (ct3.getD b 0)
def wb7 (b : Nat) : Int := (17 : Int) ^ (256 - ct3.getD b 0)
theorem lN_rem7 {S : Nat} (h : S < 2 ^ 63) : (lN S - lN S / (nI 3329).toInt64 * (nI 3329).toInt64) = lN (S % 3329) := by
  rw [nI_l (by decide), pk_lRem h (by decide) (by decide)]
theorem Qf_in70 {pf pt i : Nat} {kk : Nat → Sto → Sto} {s : Sto} (hi : i < 128) (hr : rdc 3329 (s.1 pf)) : ∀ (n j S : Nat), j + n = 128 → S ≤ j * 70368744177664 → cg ((3329 : Nat) : Int) (S : Int) (sm j fun u => vl (s.1 pf) (2 * u + 0) * wf7 i ^ u) →
    ∃ R : Nat, R < 3329 ∧ F_MR_forth_7_0_L1 pf pt i kk n j (ct3.getD i 0 * j % 256) (lN S) s = kk (i + 1) (sI s pt ((2 * i) + 0) (nI R)) ∧ cg ((3329 : Nat) : Int) (R : Int) (sm 128 fun u => vl (s.1 pf) (2 * u + 0) * wf7 i ^ u)
  | 0, j, S, hj, hS, hc => by
    obtain rfl : j = 128 := by omega
    refine ⟨S % 3329, Nat.mod_lt _ (by decide), ?_, cg_tr (cg_mod _ _) hc⟩
    rw [F_MR_forth_7_0_L1, lN_rem7 (by omega), lN_i, bnd_eq]
  | n + 1, j, S, hj, hS, hc => by
    obtain ⟨a, ha, ea⟩ := hr (2 * j + 0) (by omega)
    have h3 := ct3_lt i hi
    have hlt : ct3.getD i 0 * j % 256 < 256 := Nat.mod_lt _ (by decide)
    have hp := cl1_lq _ hlt
    have hm : a * cl1.getD (ct3.getD i 0 * j % 256) 0 ≤ 8388608 * 8388608 := Nat.mul_le_mul (by omega) (by omega)
    have e1 : lN S + ((s.1 pf (2 * j + 0)).toInt64) * ctL 1 (ct3.getD i 0 * j % 256) = lN (S + a * cl1.getD (ct3.getD i 0 * j % 256) 0) := by
      rw [ea, nI_l (by omega)]
      show lN S + lN a * lN (cl1.getD (ct3.getD i 0 * j % 256) 0) = _
      rw [lN_mul, lN_add]
    have e2 : ((nI (ct3.getD i 0 * j % 256) + ctI 3 i) &&& nI (256 - 1)).toNatClampNeg = ct3.getD i 0 * (j + 1) % 256 := by
      show ((nI (ct3.getD i 0 * j % 256) + nI (ct3.getD i 0)) &&& nI (256 - 1)).toNatClampNeg = _
      rw [nI_add, pk_andN (by omega) 8 (by decide)]
      show (nI ((ct3.getD i 0 * j % 256 + ct3.getD i 0) % 256)).toNatClampNeg = _
      rw [Nat.mod_add_mod, ← Nat.mul_add_one, nI_clamp (Nat.lt_of_lt_of_le (Nat.mod_lt _ (by decide)) (by decide))]
    have hc' : cg ((3329 : Nat) : Int) ((S + a * cl1.getD (ct3.getD i 0 * j % 256) 0 : Nat) : Int) (sm (j + 1) fun u => vl (s.1 pf) (2 * u + 0) * wf7 i ^ u) := by
      rw [Int.natCast_add, Int.natCast_mul]
      refine cg_add hc ?_
      show cg _ _ (vl (s.1 pf) (2 * j + 0) * wf7 i ^ j)
      rw [vl_n ea (by omega)]
      refine cg_mull (cg_tr (cl1_m _) ?_)
      rw [pwm]
      exact cg_rf
    obtain ⟨R, h1, h2, h4⟩ := Qf_in70 hi hr n (j + 1) _ (by omega) (by omega) hc'
    refine ⟨R, h1, Eq.trans ?_ h2, h4⟩
    rw [F_MR_forth_7_0_L1, e1, bnd_eq]
    show bnd (((nI (ct3.getD i 0 * j % 256) + ctI 3 i) &&& nI (256 - 1)).toNatClampNeg) _ = _
    rw [e2, bnd_eq]
theorem Qf_out70 {pf pt : Nat} (hne : pf ≠ pt) : ∀ (n i : Nat) (s : Sto), i + n = 128 → rdc 3329 (s.1 pf) → onl pt s (F_MR_forth_7_0_L0 pf pt n i s) ∧ (∀ b, i ≤ b → b < 128 → ∃ R : Nat, R < 3329 ∧ (F_MR_forth_7_0_L0 pf pt n i s).1 pt (2 * b + 0) = nI R ∧ cg ((3329 : Nat) : Int) (R : Int) (sm 128 fun u => vl (s.1 pf) (2 * u + 0) * wf7 b ^ u)) ∧ ∀ k, (k % 2 ≠ 0 ∨ k < 2 * i) → (F_MR_forth_7_0_L0 pf pt n i s).1 pt k = s.1 pt k
  | 0, i, s, hi, _ => ⟨onl_rf, fun b h1 h2 => by omega, fun _ _ => rfl⟩
  | n + 1, i, s, hi, hr => by
    obtain ⟨R, h1, h2, h3⟩ := Qf_in70 (pt := pt) (kk := F_MR_forth_7_0_L0 pf pt n) (i := i) (by omega) hr 128 0 0 (by omega) (by omega) cg_rf
    have hU : F_MR_forth_7_0_L0 pf pt (n + 1) i s = F_MR_forth_7_0_L0 pf pt n (i + 1) (sI s pt ((2 * i) + 0) (nI R)) := Eq.trans (by rw [F_MR_forth_7_0_L0, Nat.mul_zero, Nat.zero_mod, ← lN0]) h2
    have o1 : onl pt s (sI s pt ((2 * i) + 0) (nI R)) := onl_sI
    have r1 : (sI s pt ((2 * i) + 0) (nI R)).1 pt = upd (s.1 pt) ((2 * i) + 0) (nI R) := sI_row
    generalize sI s pt ((2 * i) + 0) (nI R) = s1 at hU o1 r1
    have ef : s1.1 pf = s.1 pf := o1.1 pf hne
    obtain ⟨q1, q2, q3⟩ := Qf_out70 hne n (i + 1) s1 (by omega) (by rw [ef]; exact hr)
    rw [hU]
    refine ⟨onl_tr o1 q1, fun b u v => ?_, fun k u => ?_⟩
    · by_cases w : b = i
      · subst w
        refine ⟨R, h1, ?_, h3⟩
        rw [q3 _ (Or.inr (by omega)), r1, upd_s]
      · have := q2 b (by omega) v
        rw [ef] at this
        exact this
    · rw [q3 k (by omega), r1, upd_n (by omega)]
theorem Qb_in70 {pf pt i : Nat} {kk : Nat → Sto → Sto} {s : Sto} (hi : i < 128) (hr : rdc 3329 (s.1 pf)) : ∀ (n j S : Nat), j + n = 128 → S ≤ j * 70368744177664 → cg ((3329 : Nat) : Int) (S : Int) (sm j fun u => vl (s.1 pf) (2 * u + 0) * wb7 u ^ i) →
    ∃ R : Nat, R < 3329 ∧ F_MR_back_7_0_L1 pf pt i kk n j (lN S) s = kk (i + 1) (sI s pt ((2 * i) + 0) (nI R)) ∧ cg ((3329 : Nat) : Int) (R : Int) ((sm 128 fun u => vl (s.1 pf) (2 * u + 0) * wb7 u ^ i) * 3303)
  | 0, j, S, hj, hS, hc => by
    obtain rfl : j = 128 := by omega
    have hlt : S % 3329 < 3329 := Nat.mod_lt _ (by decide)
    refine ⟨S % 3329 * 3303 % 3329, Nat.mod_lt _ (by decide), ?_, ?_⟩
    · rw [F_MR_back_7_0_L1, lN_rem7 (by omega)]
      show bnd (sI s pt ((2 * i) + 0) (((lN (S % 3329) * lN 3303) - (lN (S % 3329) * lN 3303) / (nI 3329).toInt64 * (nI 3329).toInt64).toInt32)) _ = _
      rw [lN_mul, lN_rem7 (by omega), lN_i, bnd_eq]
    · refine cg_tr (cg_mod _ _) ?_
      rw [Int.natCast_mul]
      exact cg_mul (cg_tr (cg_mod _ _) hc) (cg_of rfl)
  | n + 1, j, S, hj, hS, hc => by
    obtain ⟨a, ha, ea⟩ := hr (2 * j + 0) (by omega)
    have h3 := ct3_lt j (by omega)
    have hlt : (256 - ct3.getD j 0) * i % 256 < 256 := Nat.mod_lt _ (by decide)
    have hp := cl1_lq _ hlt
    have hm : a * cl1.getD ((256 - ct3.getD j 0) * i % 256) 0 ≤ 8388608 * 8388608 := Nat.mul_le_mul (by omega) (by omega)
    have e1 : lN S + ((s.1 pf (2 * j + 0)).toInt64) * ctL 1 ((256 - ct3.getD j 0) * i % 256) = lN (S + a * cl1.getD ((256 - ct3.getD j 0) * i % 256) 0) := by
      rw [ea, nI_l (by omega)]
      show lN S + lN a * lN (cl1.getD ((256 - ct3.getD j 0) * i % 256) 0) = _
      rw [lN_mul, lN_add]
    have e2 : (((-(ctI 3 j)) * nI i) &&& nI (256 - 1)).toNatClampNeg = (256 - ct3.getD j 0) * i % 256 := by
      show (((-(nI (ct3.getD j 0))) * nI i) &&& nI (256 - 1)).toNatClampNeg = _
      rw [neg7_ix (by omega), nI_clamp (by omega)]
    have hc' : cg ((3329 : Nat) : Int) ((S + a * cl1.getD ((256 - ct3.getD j 0) * i % 256) 0 : Nat) : Int) (sm (j + 1) fun u => vl (s.1 pf) (2 * u + 0) * wb7 u ^ i) := by
      rw [Int.natCast_add, Int.natCast_mul]
      refine cg_add hc ?_
      show cg _ _ (vl (s.1 pf) (2 * j + 0) * wb7 j ^ i)
      rw [vl_n ea (by omega)]
      refine cg_mull (cg_tr (cl1_m _) ?_)
      rw [pwm]
      exact cg_rf
    obtain ⟨R, h1, h2, h4⟩ := Qb_in70 hi hr n (j + 1) _ (by omega) (by omega) hc'
    refine ⟨R, h1, Eq.trans ?_ h2, h4⟩
    rw [F_MR_back_7_0_L1]
    show bnd ((((-(ctI 3 j)) * nI i) &&& nI (256 - 1)).toNatClampNeg) _ = _
    rw [e2, bnd_eq, e1, bnd_eq]
theorem Qb_out70 {pf pt : Nat} (hne : pf ≠ pt) : ∀ (n i : Nat) (s : Sto), i + n = 128 → rdc 3329 (s.1 pf) → onl pt s (F_MR_back_7_0_L0 pf pt n i s) ∧ (∀ b, i ≤ b → b < 128 → ∃ R : Nat, R < 3329 ∧ (F_MR_back_7_0_L0 pf pt n i s).1 pt (2 * b + 0) = nI R ∧ cg ((3329 : Nat) : Int) (R : Int) ((sm 128 fun u => vl (s.1 pf) (2 * u + 0) * wb7 u ^ b) * 3303)) ∧ ∀ k, (k % 2 ≠ 0 ∨ k < 2 * i) → (F_MR_back_7_0_L0 pf pt n i s).1 pt k = s.1 pt k
  | 0, i, s, hi, _ => ⟨onl_rf, fun b h1 h2 => by omega, fun _ _ => rfl⟩
  | n + 1, i, s, hi, hr => by
    obtain ⟨R, h1, h2, h3⟩ := Qb_in70 (pt := pt) (kk := F_MR_back_7_0_L0 pf pt n) (i := i) (by omega) hr 128 0 0 (by omega) (by omega) cg_rf
    have hU : F_MR_back_7_0_L0 pf pt (n + 1) i s = F_MR_back_7_0_L0 pf pt n (i + 1) (sI s pt ((2 * i) + 0) (nI R)) := Eq.trans (by rw [F_MR_back_7_0_L0, ← lN0]) h2
    have o1 : onl pt s (sI s pt ((2 * i) + 0) (nI R)) := onl_sI
    have r1 : (sI s pt ((2 * i) + 0) (nI R)).1 pt = upd (s.1 pt) ((2 * i) + 0) (nI R) := sI_row
    generalize sI s pt ((2 * i) + 0) (nI R) = s1 at hU o1 r1
    have ef : s1.1 pf = s.1 pf := o1.1 pf hne
    obtain ⟨q1, q2, q3⟩ := Qb_out70 hne n (i + 1) s1 (by omega) (by rw [ef]; exact hr)
    rw [hU]
    refine ⟨onl_tr o1 q1, fun b u v => ?_, fun k u => ?_⟩
    · by_cases w : b = i
      · subst w
        refine ⟨R, h1, ?_, h3⟩
        rw [q3 _ (Or.inr (by omega)), r1, upd_s]
      · have := q2 b (by omega) v
        rw [ef] at this
        exact this
    · rw [q3 k (by omega), r1, upd_n (by omega)]
theorem Qf_in71 {pf pt i : Nat} {kk : Nat → Sto → Sto} {s : Sto} (hi : i < 128) (hr : rdc 3329 (s.1 pf)) : ∀ (n j S : Nat), j + n = 128 → S ≤ j * 70368744177664 → cg ((3329 : Nat) : Int) (S : Int) (sm j fun u => vl (s.1 pf) (2 * u + 1) * wf7 i ^ u) →
    ∃ R : Nat, R < 3329 ∧ F_MR_forth_7_1_L1 pf pt i kk n j (ct3.getD i 0 * j % 256) (lN S) s = kk (i + 1) (sI s pt ((2 * i) + 1) (nI R)) ∧ cg ((3329 : Nat) : Int) (R : Int) (sm 128 fun u => vl (s.1 pf) (2 * u + 1) * wf7 i ^ u)
  | 0, j, S, hj, hS, hc => by
    obtain rfl : j = 128 := by omega
    refine ⟨S % 3329, Nat.mod_lt _ (by decide), ?_, cg_tr (cg_mod _ _) hc⟩
    rw [F_MR_forth_7_1_L1, lN_rem7 (by omega), lN_i, bnd_eq]
  | n + 1, j, S, hj, hS, hc => by
    obtain ⟨a, ha, ea⟩ := hr (2 * j + 1) (by omega)
    have h3 := ct3_lt i hi
    have hlt : ct3.getD i 0 * j % 256 < 256 := Nat.mod_lt _ (by decide)
    have hp := cl1_lq _ hlt
    have hm : a * cl1.getD (ct3.getD i 0 * j % 256) 0 ≤ 8388608 * 8388608 := Nat.mul_le_mul (by omega) (by omega)
    have e1 : lN S + ((s.1 pf (2 * j + 1)).toInt64) * ctL 1 (ct3.getD i 0 * j % 256) = lN (S + a * cl1.getD (ct3.getD i 0 * j % 256) 0) := by
      rw [ea, nI_l (by omega)]
      show lN S + lN a * lN (cl1.getD (ct3.getD i 0 * j % 256) 0) = _
      rw [lN_mul, lN_add]
    have e2 : ((nI (ct3.getD i 0 * j % 256) + ctI 3 i) &&& nI (256 - 1)).toNatClampNeg = ct3.getD i 0 * (j + 1) % 256 := by
      show ((nI (ct3.getD i 0 * j % 256) + nI (ct3.getD i 0)) &&& nI (256 - 1)).toNatClampNeg = _
      rw [nI_add, pk_andN (by omega) 8 (by decide)]
      show (nI ((ct3.getD i 0 * j % 256 + ct3.getD i 0) % 256)).toNatClampNeg = _
      rw [Nat.mod_add_mod, ← Nat.mul_add_one, nI_clamp (Nat.lt_of_lt_of_le (Nat.mod_lt _ (by decide)) (by decide))]
    have hc' : cg ((3329 : Nat) : Int) ((S + a * cl1.getD (ct3.getD i 0 * j % 256) 0 : Nat) : Int) (sm (j + 1) fun u => vl (s.1 pf) (2 * u + 1) * wf7 i ^ u) := by
      rw [Int.natCast_add, Int.natCast_mul]
      refine cg_add hc ?_
      show cg _ _ (vl (s.1 pf) (2 * j + 1) * wf7 i ^ j)
      rw [vl_n ea (by omega)]
      refine cg_mull (cg_tr (cl1_m _) ?_)
      rw [pwm]
      exact cg_rf
    obtain ⟨R, h1, h2, h4⟩ := Qf_in71 hi hr n (j + 1) _ (by omega) (by omega) hc'
    refine ⟨R, h1, Eq.trans ?_ h2, h4⟩
    rw [F_MR_forth_7_1_L1, e1, bnd_eq]
    show bnd (((nI (ct3.getD i 0 * j % 256) + ctI 3 i) &&& nI (256 - 1)).toNatClampNeg) _ = _
    rw [e2, bnd_eq]
theorem Qf_out71 {pf pt : Nat} (hne : pf ≠ pt) : ∀ (n i : Nat) (s : Sto), i + n = 128 → rdc 3329 (s.1 pf) → onl pt s (F_MR_forth_7_1_L0 pf pt n i s) ∧ (∀ b, i ≤ b → b < 128 → ∃ R : Nat, R < 3329 ∧ (F_MR_forth_7_1_L0 pf pt n i s).1 pt (2 * b + 1) = nI R ∧ cg ((3329 : Nat) : Int) (R : Int) (sm 128 fun u => vl (s.1 pf) (2 * u + 1) * wf7 b ^ u)) ∧ ∀ k, (k % 2 ≠ 1 ∨ k < 2 * i) → (F_MR_forth_7_1_L0 pf pt n i s).1 pt k = s.1 pt k
  | 0, i, s, hi, _ => ⟨onl_rf, fun b h1 h2 => by omega, fun _ _ => rfl⟩
  | n + 1, i, s, hi, hr => by
    obtain ⟨R, h1, h2, h3⟩ := Qf_in71 (pt := pt) (kk := F_MR_forth_7_1_L0 pf pt n) (i := i) (by omega) hr 128 0 0 (by omega) (by omega) cg_rf
    have hU : F_MR_forth_7_1_L0 pf pt (n + 1) i s = F_MR_forth_7_1_L0 pf pt n (i + 1) (sI s pt ((2 * i) + 1) (nI R)) := Eq.trans (by rw [F_MR_forth_7_1_L0, Nat.mul_zero, Nat.zero_mod, ← lN0]) h2
    have o1 : onl pt s (sI s pt ((2 * i) + 1) (nI R)) := onl_sI
    have r1 : (sI s pt ((2 * i) + 1) (nI R)).1 pt = upd (s.1 pt) ((2 * i) + 1) (nI R) := sI_row
    generalize sI s pt ((2 * i) + 1) (nI R) = s1 at hU o1 r1
    have ef : s1.1 pf = s.1 pf := o1.1 pf hne
    obtain ⟨q1, q2, q3⟩ := Qf_out71 hne n (i + 1) s1 (by omega) (by rw [ef]; exact hr)
    rw [hU]
    refine ⟨onl_tr o1 q1, fun b u v => ?_, fun k u => ?_⟩
    · by_cases w : b = i
      · subst w
        refine ⟨R, h1, ?_, h3⟩
        rw [q3 _ (Or.inr (by omega)), r1, upd_s]
      · have := q2 b (by omega) v
        rw [ef] at this
        exact this
    · rw [q3 k (by omega), r1, upd_n (by omega)]
theorem Qb_in71 {pf pt i : Nat} {kk : Nat → Sto → Sto} {s : Sto} (hi : i < 128) (hr : rdc 3329 (s.1 pf)) : ∀ (n j S : Nat), j + n = 128 → S ≤ j * 70368744177664 → cg ((3329 : Nat) : Int) (S : Int) (sm j fun u => vl (s.1 pf) (2 * u + 1) * wb7 u ^ i) →
    ∃ R : Nat, R < 3329 ∧ F_MR_back_7_1_L1 pf pt i kk n j (lN S) s = kk (i + 1) (sI s pt ((2 * i) + 1) (nI R)) ∧ cg ((3329 : Nat) : Int) (R : Int) ((sm 128 fun u => vl (s.1 pf) (2 * u + 1) * wb7 u ^ i) * 3303)
  | 0, j, S, hj, hS, hc => by
    obtain rfl : j = 128 := by omega
    have hlt : S % 3329 < 3329 := Nat.mod_lt _ (by decide)
    refine ⟨S % 3329 * 3303 % 3329, Nat.mod_lt _ (by decide), ?_, ?_⟩
    · rw [F_MR_back_7_1_L1, lN_rem7 (by omega)]
      show bnd (sI s pt ((2 * i) + 1) (((lN (S % 3329) * lN 3303) - (lN (S % 3329) * lN 3303) / (nI 3329).toInt64 * (nI 3329).toInt64).toInt32)) _ = _
      rw [lN_mul, lN_rem7 (by omega), lN_i, bnd_eq]
    · refine cg_tr (cg_mod _ _) ?_
      rw [Int.natCast_mul]
      exact cg_mul (cg_tr (cg_mod _ _) hc) (cg_of rfl)
  | n + 1, j, S, hj, hS, hc => by
    obtain ⟨a, ha, ea⟩ := hr (2 * j + 1) (by omega)
    have h3 := ct3_lt j (by omega)
    have hlt : (256 - ct3.getD j 0) * i % 256 < 256 := Nat.mod_lt _ (by decide)
    have hp := cl1_lq _ hlt
    have hm : a * cl1.getD ((256 - ct3.getD j 0) * i % 256) 0 ≤ 8388608 * 8388608 := Nat.mul_le_mul (by omega) (by omega)
    have e1 : lN S + ((s.1 pf (2 * j + 1)).toInt64) * ctL 1 ((256 - ct3.getD j 0) * i % 256) = lN (S + a * cl1.getD ((256 - ct3.getD j 0) * i % 256) 0) := by
      rw [ea, nI_l (by omega)]
      show lN S + lN a * lN (cl1.getD ((256 - ct3.getD j 0) * i % 256) 0) = _
      rw [lN_mul, lN_add]
    have e2 : (((-(ctI 3 j)) * nI i) &&& nI (256 - 1)).toNatClampNeg = (256 - ct3.getD j 0) * i % 256 := by
      show (((-(nI (ct3.getD j 0))) * nI i) &&& nI (256 - 1)).toNatClampNeg = _
      rw [neg7_ix (by omega), nI_clamp (by omega)]
    have hc' : cg ((3329 : Nat) : Int) ((S + a * cl1.getD ((256 - ct3.getD j 0) * i % 256) 0 : Nat) : Int) (sm (j + 1) fun u => vl (s.1 pf) (2 * u + 1) * wb7 u ^ i) := by
      rw [Int.natCast_add, Int.natCast_mul]
      refine cg_add hc ?_
      show cg _ _ (vl (s.1 pf) (2 * j + 1) * wb7 j ^ i)
      rw [vl_n ea (by omega)]
      refine cg_mull (cg_tr (cl1_m _) ?_)
      rw [pwm]
      exact cg_rf
    obtain ⟨R, h1, h2, h4⟩ := Qb_in71 hi hr n (j + 1) _ (by omega) (by omega) hc'
    refine ⟨R, h1, Eq.trans ?_ h2, h4⟩
    rw [F_MR_back_7_1_L1]
    show bnd ((((-(ctI 3 j)) * nI i) &&& nI (256 - 1)).toNatClampNeg) _ = _
    rw [e2, bnd_eq, e1, bnd_eq]
theorem Qb_out71 {pf pt : Nat} (hne : pf ≠ pt) : ∀ (n i : Nat) (s : Sto), i + n = 128 → rdc 3329 (s.1 pf) → onl pt s (F_MR_back_7_1_L0 pf pt n i s) ∧ (∀ b, i ≤ b → b < 128 → ∃ R : Nat, R < 3329 ∧ (F_MR_back_7_1_L0 pf pt n i s).1 pt (2 * b + 1) = nI R ∧ cg ((3329 : Nat) : Int) (R : Int) ((sm 128 fun u => vl (s.1 pf) (2 * u + 1) * wb7 u ^ b) * 3303)) ∧ ∀ k, (k % 2 ≠ 1 ∨ k < 2 * i) → (F_MR_back_7_1_L0 pf pt n i s).1 pt k = s.1 pt k
  | 0, i, s, hi, _ => ⟨onl_rf, fun b h1 h2 => by omega, fun _ _ => rfl⟩
  | n + 1, i, s, hi, hr => by
    obtain ⟨R, h1, h2, h3⟩ := Qb_in71 (pt := pt) (kk := F_MR_back_7_1_L0 pf pt n) (i := i) (by omega) hr 128 0 0 (by omega) (by omega) cg_rf
    have hU : F_MR_back_7_1_L0 pf pt (n + 1) i s = F_MR_back_7_1_L0 pf pt n (i + 1) (sI s pt ((2 * i) + 1) (nI R)) := Eq.trans (by rw [F_MR_back_7_1_L0, ← lN0]) h2
    have o1 : onl pt s (sI s pt ((2 * i) + 1) (nI R)) := onl_sI
    have r1 : (sI s pt ((2 * i) + 1) (nI R)).1 pt = upd (s.1 pt) ((2 * i) + 1) (nI R) := sI_row
    generalize sI s pt ((2 * i) + 1) (nI R) = s1 at hU o1 r1
    have ef : s1.1 pf = s.1 pf := o1.1 pf hne
    obtain ⟨q1, q2, q3⟩ := Qb_out71 hne n (i + 1) s1 (by omega) (by rw [ef]; exact hr)
    rw [hU]
    refine ⟨onl_tr o1 q1, fun b u v => ?_, fun k u => ?_⟩
    · by_cases w : b = i
      · subst w
        refine ⟨R, h1, ?_, h3⟩
        rw [q3 _ (Or.inr (by omega)), r1, upd_s]
      · have := q2 b (by omega) v
        rw [ef] at this
        exact this
    · rw [q3 k (by omega), r1, upd_n (by omega)]
