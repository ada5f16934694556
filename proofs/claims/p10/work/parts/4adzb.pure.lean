set_option linter.all false
/-! the reference's product by the challenge: sums of longs -/
theorem i64_mul {x y : Int32} (h1 : -4611686018427387904 ≤ x.toInt * y.toInt) (h2 : x.toInt * y.toInt ≤ 4611686018427387904) : (x.toInt64 * y.toInt64).toInt = x.toInt * y.toInt := by
  rw [Int64.toInt_mul, Int32.toInt_toInt64, Int32.toInt_toInt64]
  exact Int.bmod_eq_of_le (by omega) (by omega)
theorem i64_add {a b : Int64} (h1 : -4611686018427387904 ≤ a.toInt + b.toInt) (h2 : a.toInt + b.toInt ≤ 4611686018427387904) : (a + b).toInt = a.toInt + b.toInt := by
  rw [Int64.toInt_add]
  exact Int.bmod_eq_of_le (by omega) (by omega)
theorem i64_sub {a b : Int64} (h1 : -4611686018427387904 ≤ a.toInt - b.toInt) (h2 : a.toInt - b.toInt ≤ 4611686018427387904) : (a - b).toInt = a.toInt - b.toInt := by
  rw [Int64.toInt_sub]
  exact Int.bmod_eq_of_le (by omega) (by omega)
theorem c1_b {C x B : Int} (h1 : -1 ≤ C) (h2 : C ≤ 1) (h3 : -B ≤ x) (h4 : x ≤ B) : -B ≤ C * x ∧ C * x ≤ B := by
  have h : C = -1 ∨ C = 0 ∨ C = 1 := by omega
  rcases h with rfl | rfl | rfl
  · rw [Int.neg_mul, Int.one_mul]
    omega
  · rw [Int.zero_mul]
    omega
  · rw [Int.one_mul]
    omega
theorem shf_b {f : Nat → Int} (hf : ∀ j, j < 256 → 0 ≤ f j ∧ f j < 8380417) {i k : Nat} (hi : i < 256) (hk : k < 256) : -8380417 ≤ shf f i k ∧ shf f i k ≤ 8380417 := by
  unfold shf
  by_cases h : i ≤ k
  · rw [if_pos h]
    have := hf (k - i) (by omega)
    omega
  · rw [if_neg h]
    have := hf (k + 256 - i) (by omega)
    omega
def jj (i k : Nat) : Nat := if i ≤ k then k - i else k + 256 - i
theorem sL_row {s : Sto} {k i : Nat} {x : Int64} : (sL s k i x).2 k = vp_updL (s.2 k) i x := uL_eq
/-- a reduced number out of a long -/
theorem red8 {x : Int64} (h1 : -1099511627776 ≤ x.toInt) (h2 : x.toInt ≤ 1099511627776) : ∃ n : Nat, n < 8380417 ∧ cg ((8380417 : Nat) : Int) (n : Int) x.toInt ∧ (if 0 ≤ (lg_cmp (x - x / 8380417 * 8380417) 0) then (x - x / 8380417 * 8380417).toInt32 else (x - x / 8380417 * 8380417 + 8380417).toInt32) = nI n := by
  have q0 : (8380417 : Int64).toInt = 8380417 := by decide
  have z0 : (0 : Int64).toInt = 0 := by decide
  have hd : ∃ d : Int, (x / 8380417).toInt = d ∧ -1099511627776 ≤ d ∧ d ≤ 1099511627776 ∧ ((0 ≤ x.toInt ∧ 0 ≤ x.toInt - d * 8380417 ∧ x.toInt - d * 8380417 < 8380417) ∨ (x.toInt < 0 ∧ -8380417 < x.toInt - d * 8380417 ∧ x.toInt - d * 8380417 ≤ 0)) := by
    have e : (x / 8380417).toInt = x.toInt.tdiv 8380417 := by
      rw [Int64.toInt_div, q0]
      by_cases s : 0 ≤ x.toInt
      · rw [Int.tdiv_eq_ediv_of_nonneg s]
        exact Int.bmod_eq_of_le (by omega) (by omega)
      · have e1 : x.toInt.tdiv 8380417 = -((-x.toInt) / 8380417) := by
          rw [← Int.tdiv_eq_ediv_of_nonneg (by omega : 0 ≤ -x.toInt), Int.neg_tdiv, Int.neg_neg]
        rw [e1]
        exact Int.bmod_eq_of_le (by omega) (by omega)
    refine ⟨_, rfl, ?_⟩
    rw [e]
    by_cases s : 0 ≤ x.toInt
    · rw [Int.tdiv_eq_ediv_of_nonneg s]
      omega
    · have e1 : x.toInt.tdiv 8380417 = -((-x.toInt) / 8380417) := by
        rw [← Int.tdiv_eq_ediv_of_nonneg (by omega : 0 ≤ -x.toInt), Int.neg_tdiv, Int.neg_neg]
      rw [e1]
      omega
  obtain ⟨d, e1, d1, d2, d3⟩ := hd
  have e2 : (x / 8380417 * 8380417).toInt = d * 8380417 := by
    rw [Int64.toInt_mul, e1, q0]
    exact Int.bmod_eq_of_le (by omega) (by omega)
  have e3 : (x - x / 8380417 * 8380417).toInt = x.toInt - d * 8380417 := by
    rw [i64_sub (by rw [e2]; omega) (by rw [e2]; omega), e2]
  generalize x - x / 8380417 * 8380417 = y at e3 ⊢
  have toN : ∀ z : Int64, 0 ≤ z.toInt → z.toInt < 8380417 → z.toInt32 = nI z.toInt.toNat := fun z h3 h4 => by
    obtain ⟨k, hk, rfl⟩ := pk_lOf (x := z) (by rw [Int64.lt_iff_toInt_lt, z0]; omega)
    rw [lN_i, pk_lT hk]
    rfl
  by_cases s : 0 ≤ y.toInt
  · refine ⟨y.toInt.toNat, by omega, ⟨-d, by omega⟩, ?_⟩
    rw [if_pos ((lg_cmp_ge y 0).mpr (by rw [Int64.le_iff_toInt_le, z0]; exact s)), toN y s (by omega)]
  · have e4 : (y + 8380417).toInt = y.toInt + 8380417 := by
      rw [i64_add (by rw [q0]; omega) (by rw [q0]; omega), q0]
    refine ⟨(y.toInt + 8380417).toNat, by omega, ⟨1 - d, by omega⟩, ?_⟩
    rw [if_neg (fun c => s (by have := (lg_cmp_ge y 0).mp c; rw [Int64.le_iff_toInt_le, z0] at this; exact this)), toN (y + 8380417) (by omega) (by omega), e4]
theorem tu3_0 {pf i : Nat} {kk : Nat → Sto → Sto} {s0 : Sto} {C : Int} {F base : Nat → Int} (hi : i < 256) (hC : (s0.1 368 i).toInt = C) (hC1 : -1 ≤ C) (hC2 : C ≤ 1) (hF : ∀ j, j < 256 → (s0.1 pf j).toInt = F j ∧ 0 ≤ F j ∧ F j < 8380417) (hb : ∀ k, k < 256 → -549755813888 ≤ base k ∧ base k ≤ 549755813888) : ∀ (m j : Nat) (s : Sto), j + m = 256 → s.1 = s0.1 → (∀ k, k < 256 → (s.2 371 k).toInt = base k + if jj i k < j then C * shf F i k else 0) → ∃ s1, F_MH_turned_0_L3 pf i kk m j s = kk (i + 1) s1 ∧ s1.1 = s0.1 ∧ ∀ k, k < 256 → (s1.2 371 k).toInt = base k + C * shf F i k
  | 0, j, s, hj, h1, h2 => by
    refine ⟨s, by rw [F_MH_turned_0_L3], h1, fun k hk => ?_⟩
    rw [h2 k hk, if_pos (by unfold jj; split <;> omega)]
  | m + 1, j, s, hj, h1, h2 => by
    obtain ⟨f1, f2, f3⟩ := hF j (by omega)
    have cb := c1_b hC1 hC2 (show -8380417 ≤ F j by omega) (show F j ≤ 8380417 by omega)
    have y1 : ((s.1 368 i).toInt64 * (s.1 pf j).toInt64).toInt = C * F j := by
      rw [h1, i64_mul (by rw [hC, f1]; omega) (by rw [hC, f1]; omega), hC, f1]
    by_cases w : 256 ≤ i + j
    · have hU : F_MH_turned_0_L3 pf i kk (m + 1) j s = F_MH_turned_0_L3 pf i kk m (j + 1) (sL s 371 ((i + j) - 256) ((s.2 371 ((i + j) - 256)) - ((s.1 368 i).toInt64 * (s.1 pf j).toInt64))) := by rw [F_MH_turned_0_L3, bnd_eq, if_pos w, bnd_eq]
      have k0 : jj i (i + j - 256) = j := by unfold jj; rw [if_neg (by omega)]; omega
      have s0' : shf F i (i + j - 256) = -(F j) := by unfold shf; rw [if_neg (by omega), show i + j - 256 + 256 - i = j by omega]
      have hk0 := h2 (i + j - 256) (by omega)
      rw [k0, if_neg (by omega), Int.add_zero] at hk0
      have hbb := hb (i + j - 256) (by omega)
      obtain ⟨s1, a, b, c⟩ := tu3_0 (kk := kk) hi hC hC1 hC2 hF hb m (j + 1) (sL s 371 ((i + j) - 256) ((s.2 371 ((i + j) - 256)) - ((s.1 368 i).toInt64 * (s.1 pf j).toInt64))) (by omega) h1 (fun k hk => by
        rw [sL_row]
        by_cases q : k = i + j - 256
        · rw [q, pk_uLs, i64_sub (by rw [y1, hk0]; omega) (by rw [y1, hk0]; omega), y1, hk0, k0, if_pos (by omega), s0', Int.mul_neg]
          omega
        · have n0 : jj i k ≠ j := by unfold jj; split <;> omega
          rw [pk_uLn q, h2 k hk]
          by_cases z : jj i k < j
          · rw [if_pos z, if_pos (by omega)]
          · rw [if_neg z, if_neg (by omega)])
      exact ⟨s1, hU.trans a, b, c⟩
    · have hU : F_MH_turned_0_L3 pf i kk (m + 1) j s = F_MH_turned_0_L3 pf i kk m (j + 1) (sL s 371 (i + j) ((s.2 371 (i + j)) + ((s.1 368 i).toInt64 * (s.1 pf j).toInt64))) := by rw [F_MH_turned_0_L3, bnd_eq, if_neg w, bnd_eq]
      have k0 : jj i (i + j) = j := by unfold jj; rw [if_pos (by omega)]; omega
      have s0' : shf F i (i + j) = F j := by unfold shf; rw [if_pos (by omega), show i + j - i = j by omega]
      have hk0 := h2 (i + j) (by omega)
      rw [k0, if_neg (by omega), Int.add_zero] at hk0
      have hbb := hb (i + j) (by omega)
      obtain ⟨s1, a, b, c⟩ := tu3_0 (kk := kk) hi hC hC1 hC2 hF hb m (j + 1) (sL s 371 (i + j) ((s.2 371 (i + j)) + ((s.1 368 i).toInt64 * (s.1 pf j).toInt64))) (by omega) h1 (fun k hk => by
        rw [sL_row]
        by_cases q : k = i + j
        · rw [q, pk_uLs, i64_add (by rw [y1, hk0]; omega) (by rw [y1, hk0]; omega), y1, hk0, k0, if_pos (by omega), s0']
        · have n0 : jj i k ≠ j := by unfold jj; split <;> omega
          rw [pk_uLn q, h2 k hk]
          by_cases z : jj i k < j
          · rw [if_pos z, if_pos (by omega)]
          · rw [if_neg z, if_neg (by omega)])
      exact ⟨s1, hU.trans a, b, c⟩
theorem tu1_0 {pf pt : Nat} {s0 : Sto} {C F : Nat → Int} (hC : ∀ i, i < 256 → (s0.1 368 i).toInt = C i ∧ -1 ≤ C i ∧ C i ≤ 1) (hF : ∀ j, j < 256 → (s0.1 pf j).toInt = F j ∧ 0 ≤ F j ∧ F j < 8380417) : ∀ (m i : Nat) (s : Sto), i + m = 256 → s.1 = s0.1 → (∀ k, k < 256 → (s.2 371 k).toInt = sm i (fun i => C i * shf F i k)) → (∀ k, k < 256 → -(8380417 * (i : Int)) ≤ sm i (fun i => C i * shf F i k) ∧ sm i (fun i => C i * shf F i k) ≤ 8380417 * (i : Int)) → ∃ s1, F_MH_turned_0_L1 pf pt m i s = F_MH_turned_0_L2 pt 256 0 s1 ∧ s1.1 = s0.1 ∧ ∀ k, k < 256 → (s1.2 371 k).toInt = sm 256 (fun i => C i * shf F i k) ∧ -2145386752 ≤ (s1.2 371 k).toInt ∧ (s1.2 371 k).toInt ≤ 2145386752
  | 0, i, s, hi, h1, h2, h3 => by
    obtain rfl : i = 256 := by omega
    refine ⟨s, by rw [F_MH_turned_0_L1], h1, fun k hk => ⟨h2 k hk, ?_⟩⟩
    have := h3 k hk
    rw [h2 k hk]
    omega
  | m + 1, i, s, hi, h1, h2, h3 => by
    obtain ⟨c1, c2, c3⟩ := hC i (by omega)
    have hn : ∀ k, k < 256 → -(8380417 * ((i + 1 : Nat) : Int)) ≤ sm (i + 1) (fun i => C i * shf F i k) ∧ sm (i + 1) (fun i => C i * shf F i k) ≤ 8380417 * ((i + 1 : Nat) : Int) := fun k hk => by
      have a := h3 k hk
      have b := shf_b (fun j hj => (hF j hj).2) (show i < 256 by omega) hk
      have d := c1_b c2 c3 b.1 b.2
      rw [sm_last]
      omega
    by_cases w : s.1 368 i = 0
    · have e0 : C i = 0 := by
        rw [← c1, ← h1, w]
        decide
      obtain ⟨s1, a, b⟩ := tu1_0 (pt := pt) hC hF m (i + 1) s (by omega) h1 (fun k hk => by
        rw [h2 k hk, sm_last, e0, Int.zero_mul, Int.add_zero]) hn
      exact ⟨s1, Eq.trans (by rw [F_MH_turned_0_L1, if_pos w]) a, b⟩
    · obtain ⟨s1, a, b, c⟩ := tu3_0 (pf := pf) (i := i) (kk := F_MH_turned_0_L1 pf pt m) (s0 := s0) (base := fun k => sm i (fun i => C i * shf F i k)) (by omega) c1 c2 c3 hF (fun k hk => by have := h3 k hk; omega) 256 0 s (by omega) h1 (fun k hk => by rw [h2 k hk, if_neg (Nat.not_lt_zero _), Int.add_zero])
      obtain ⟨s2, d, e⟩ := tu1_0 (pt := pt) hC hF m (i + 1) s1 (by omega) b (fun k hk => by rw [c k hk, sm_last]) hn
      exact ⟨s2, (Eq.trans (by rw [F_MH_turned_0_L1, if_neg w]) a).trans d, e⟩
theorem tu0_0 {pf pt : Nat} {s0 : Sto} : ∀ (m i : Nat) (s : Sto), i + m = 256 → s.1 = s0.1 → (∀ k, k < i → s.2 371 k = 0) → ∃ s1, F_MH_turned_0_L0 pf pt m i s = F_MH_turned_0_L1 pf pt 256 0 s1 ∧ s1.1 = s0.1 ∧ ∀ k, k < 256 → s1.2 371 k = 0
  | 0, i, s, hi, h1, h2 => ⟨s, by rw [F_MH_turned_0_L0], h1, fun k hk => h2 k (by omega)⟩
  | m + 1, i, s, hi, h1, h2 => by
    obtain ⟨s1, a, b⟩ := tu0_0 (pf := pf) (pt := pt) (s0 := s0) m (i + 1) (sL s 371 i 0) (by omega) h1 (fun k hk => by
      rw [sL_row]
      by_cases q : k = i
      · subst q
        exact pk_uLs
      · rw [pk_uLn q]
        exact h2 k (by omega))
    exact ⟨s1, Eq.trans (by rw [F_MH_turned_0_L0, bnd_eq]) a, b⟩
/-- the reference's product of the challenge and a row, set 0 -/
theorem Q_turned0 {pf pt : Nat} {s : Sto} {C : Nat → Int} (hC : ∀ i, i < 256 → (s.1 368 i).toInt = C i ∧ -1 ≤ C i ∧ C i ≤ 1) (hf : rdc 8380417 (s.1 pf)) : (∀ k, k ≠ pt → (F_MH_turned_0 pf pt s).1 k = s.1 k) ∧ rdc 8380417 ((F_MH_turned_0 pf pt s).1 pt) ∧ ∀ k, k < 256 → cg ((8380417 : Nat) : Int) (vl ((F_MH_turned_0 pf pt s).1 pt) k) (sm 256 fun i => C i * shf (vl (s.1 pf)) i k) := by
  have hF : ∀ j, j < 256 → (s.1 pf j).toInt = vl (s.1 pf) j ∧ 0 ≤ vl (s.1 pf) j ∧ vl (s.1 pf) j < 8380417 := fun j hj => by
    obtain ⟨n, h1, h2⟩ := hf j hj
    rw [vl_n h2 (by omega), h2, nI_toInt (by omega)]
    omega
  have hU : F_MH_turned_0 pf pt s = F_MH_turned_0_L0 pf pt 256 0 s := by rw [F_MH_turned_0]
  obtain ⟨s1, a1, a2, a3⟩ := tu0_0 (pf := pf) (pt := pt) (s0 := s) 256 0 s (by omega) rfl (fun k hk => absurd hk (Nat.not_lt_zero _))
  obtain ⟨s2, b1, b2, b3⟩ := tu1_0 (pf := pf) (pt := pt) (s0 := s) hC hF 256 0 s1 (by omega) a2 (fun k hk => by
    rw [a3 k hk]
    show (0 : Int64).toInt = 0
    decide) (fun k hk => by
    show -(8380417 * ((0 : Nat) : Int)) ≤ 0 ∧ (0 : Int) ≤ 8380417 * ((0 : Nat) : Int)
    decide)
  rw [hU, a1, b1]
  obtain ⟨s3, c1, c2, c3, -⟩ := el_loop (pf := pt) (G := F_MH_turned_0_L2 pt) (K := fun s => s) (e := fun i s => if 0 ≤ (lg_cmp (s.2 371 i - s.2 371 i / 8380417 * 8380417) 0) then (s.2 371 i - s.2 371 i / 8380417 * 8380417).toInt32 else (s.2 371 i - s.2 371 i / 8380417 * 8380417 + 8380417).toInt32) (fun i s => by rw [F_MH_turned_0_L2]) (fun n i s => by rw [F_MH_turned_0_L2, bnd_eq]; exact e_if) (fun i s s' o h => by simp only [o.2]) 256 0 s2
  rw [c1]
  have key : ∀ k, k < 256 → ∃ n : Nat, n < 8380417 ∧ cg ((8380417 : Nat) : Int) (n : Int) (sm 256 fun i => C i * shf (vl (s.1 pf)) i k) ∧ s3.1 pt k = nI n := fun k hk => by
    obtain ⟨d1, d2, d3⟩ := b3 k hk
    obtain ⟨n, e1, e2, e3⟩ := red8 (x := s2.2 371 k) (by omega) (by omega)
    rw [d1] at e2
    exact ⟨n, e1, e2, (c3 k (Nat.zero_le _) (by omega)).trans e3⟩
  refine ⟨fun k hk => by rw [c2.1 k hk, b2], fun k hk => ?_, fun k hk => ?_⟩
  · obtain ⟨n, e1, -, e3⟩ := key k hk
    exact ⟨n, e1, e3⟩
  · obtain ⟨n, e1, e2, e3⟩ := key k hk
    rw [vl_n e3 (by omega)]
    exact e2
theorem tu3_1 {pf i : Nat} {kk : Nat → Sto → Sto} {s0 : Sto} {C : Int} {F base : Nat → Int} (hi : i < 256) (hC : (s0.1 368 i).toInt = C) (hC1 : -1 ≤ C) (hC2 : C ≤ 1) (hF : ∀ j, j < 256 → (s0.1 pf j).toInt = F j ∧ 0 ≤ F j ∧ F j < 8380417) (hb : ∀ k, k < 256 → -549755813888 ≤ base k ∧ base k ≤ 549755813888) : ∀ (m j : Nat) (s : Sto), j + m = 256 → s.1 = s0.1 → (∀ k, k < 256 → (s.2 371 k).toInt = base k + if jj i k < j then C * shf F i k else 0) → ∃ s1, F_MH_turned_1_L3 pf i kk m j s = kk (i + 1) s1 ∧ s1.1 = s0.1 ∧ ∀ k, k < 256 → (s1.2 371 k).toInt = base k + C * shf F i k
  | 0, j, s, hj, h1, h2 => by
    refine ⟨s, by rw [F_MH_turned_1_L3], h1, fun k hk => ?_⟩
    rw [h2 k hk, if_pos (by unfold jj; split <;> omega)]
  | m + 1, j, s, hj, h1, h2 => by
    obtain ⟨f1, f2, f3⟩ := hF j (by omega)
    have cb := c1_b hC1 hC2 (show -8380417 ≤ F j by omega) (show F j ≤ 8380417 by omega)
    have y1 : ((s.1 368 i).toInt64 * (s.1 pf j).toInt64).toInt = C * F j := by
      rw [h1, i64_mul (by rw [hC, f1]; omega) (by rw [hC, f1]; omega), hC, f1]
    by_cases w : 256 ≤ i + j
    · have hU : F_MH_turned_1_L3 pf i kk (m + 1) j s = F_MH_turned_1_L3 pf i kk m (j + 1) (sL s 371 ((i + j) - 256) ((s.2 371 ((i + j) - 256)) - ((s.1 368 i).toInt64 * (s.1 pf j).toInt64))) := by rw [F_MH_turned_1_L3, bnd_eq, if_pos w, bnd_eq]
      have k0 : jj i (i + j - 256) = j := by unfold jj; rw [if_neg (by omega)]; omega
      have s0' : shf F i (i + j - 256) = -(F j) := by unfold shf; rw [if_neg (by omega), show i + j - 256 + 256 - i = j by omega]
      have hk0 := h2 (i + j - 256) (by omega)
      rw [k0, if_neg (by omega), Int.add_zero] at hk0
      have hbb := hb (i + j - 256) (by omega)
      obtain ⟨s1, a, b, c⟩ := tu3_1 (kk := kk) hi hC hC1 hC2 hF hb m (j + 1) (sL s 371 ((i + j) - 256) ((s.2 371 ((i + j) - 256)) - ((s.1 368 i).toInt64 * (s.1 pf j).toInt64))) (by omega) h1 (fun k hk => by
        rw [sL_row]
        by_cases q : k = i + j - 256
        · rw [q, pk_uLs, i64_sub (by rw [y1, hk0]; omega) (by rw [y1, hk0]; omega), y1, hk0, k0, if_pos (by omega), s0', Int.mul_neg]
          omega
        · have n0 : jj i k ≠ j := by unfold jj; split <;> omega
          rw [pk_uLn q, h2 k hk]
          by_cases z : jj i k < j
          · rw [if_pos z, if_pos (by omega)]
          · rw [if_neg z, if_neg (by omega)])
      exact ⟨s1, hU.trans a, b, c⟩
    · have hU : F_MH_turned_1_L3 pf i kk (m + 1) j s = F_MH_turned_1_L3 pf i kk m (j + 1) (sL s 371 (i + j) ((s.2 371 (i + j)) + ((s.1 368 i).toInt64 * (s.1 pf j).toInt64))) := by rw [F_MH_turned_1_L3, bnd_eq, if_neg w, bnd_eq]
      have k0 : jj i (i + j) = j := by unfold jj; rw [if_pos (by omega)]; omega
      have s0' : shf F i (i + j) = F j := by unfold shf; rw [if_pos (by omega), show i + j - i = j by omega]
      have hk0 := h2 (i + j) (by omega)
      rw [k0, if_neg (by omega), Int.add_zero] at hk0
      have hbb := hb (i + j) (by omega)
      obtain ⟨s1, a, b, c⟩ := tu3_1 (kk := kk) hi hC hC1 hC2 hF hb m (j + 1) (sL s 371 (i + j) ((s.2 371 (i + j)) + ((s.1 368 i).toInt64 * (s.1 pf j).toInt64))) (by omega) h1 (fun k hk => by
        rw [sL_row]
        by_cases q : k = i + j
        · rw [q, pk_uLs, i64_add (by rw [y1, hk0]; omega) (by rw [y1, hk0]; omega), y1, hk0, k0, if_pos (by omega), s0']
        · have n0 : jj i k ≠ j := by unfold jj; split <;> omega
          rw [pk_uLn q, h2 k hk]
          by_cases z : jj i k < j
          · rw [if_pos z, if_pos (by omega)]
          · rw [if_neg z, if_neg (by omega)])
      exact ⟨s1, hU.trans a, b, c⟩
theorem tu1_1 {pf pt : Nat} {s0 : Sto} {C F : Nat → Int} (hC : ∀ i, i < 256 → (s0.1 368 i).toInt = C i ∧ -1 ≤ C i ∧ C i ≤ 1) (hF : ∀ j, j < 256 → (s0.1 pf j).toInt = F j ∧ 0 ≤ F j ∧ F j < 8380417) : ∀ (m i : Nat) (s : Sto), i + m = 256 → s.1 = s0.1 → (∀ k, k < 256 → (s.2 371 k).toInt = sm i (fun i => C i * shf F i k)) → (∀ k, k < 256 → -(8380417 * (i : Int)) ≤ sm i (fun i => C i * shf F i k) ∧ sm i (fun i => C i * shf F i k) ≤ 8380417 * (i : Int)) → ∃ s1, F_MH_turned_1_L1 pf pt m i s = F_MH_turned_1_L2 pt 256 0 s1 ∧ s1.1 = s0.1 ∧ ∀ k, k < 256 → (s1.2 371 k).toInt = sm 256 (fun i => C i * shf F i k) ∧ -2145386752 ≤ (s1.2 371 k).toInt ∧ (s1.2 371 k).toInt ≤ 2145386752
  | 0, i, s, hi, h1, h2, h3 => by
    obtain rfl : i = 256 := by omega
    refine ⟨s, by rw [F_MH_turned_1_L1], h1, fun k hk => ⟨h2 k hk, ?_⟩⟩
    have := h3 k hk
    rw [h2 k hk]
    omega
  | m + 1, i, s, hi, h1, h2, h3 => by
    obtain ⟨c1, c2, c3⟩ := hC i (by omega)
    have hn : ∀ k, k < 256 → -(8380417 * ((i + 1 : Nat) : Int)) ≤ sm (i + 1) (fun i => C i * shf F i k) ∧ sm (i + 1) (fun i => C i * shf F i k) ≤ 8380417 * ((i + 1 : Nat) : Int) := fun k hk => by
      have a := h3 k hk
      have b := shf_b (fun j hj => (hF j hj).2) (show i < 256 by omega) hk
      have d := c1_b c2 c3 b.1 b.2
      rw [sm_last]
      omega
    by_cases w : s.1 368 i = 0
    · have e0 : C i = 0 := by
        rw [← c1, ← h1, w]
        decide
      obtain ⟨s1, a, b⟩ := tu1_1 (pt := pt) hC hF m (i + 1) s (by omega) h1 (fun k hk => by
        rw [h2 k hk, sm_last, e0, Int.zero_mul, Int.add_zero]) hn
      exact ⟨s1, Eq.trans (by rw [F_MH_turned_1_L1, if_pos w]) a, b⟩
    · obtain ⟨s1, a, b, c⟩ := tu3_1 (pf := pf) (i := i) (kk := F_MH_turned_1_L1 pf pt m) (s0 := s0) (base := fun k => sm i (fun i => C i * shf F i k)) (by omega) c1 c2 c3 hF (fun k hk => by have := h3 k hk; omega) 256 0 s (by omega) h1 (fun k hk => by rw [h2 k hk, if_neg (Nat.not_lt_zero _), Int.add_zero])
      obtain ⟨s2, d, e⟩ := tu1_1 (pt := pt) hC hF m (i + 1) s1 (by omega) b (fun k hk => by rw [c k hk, sm_last]) hn
      exact ⟨s2, (Eq.trans (by rw [F_MH_turned_1_L1, if_neg w]) a).trans d, e⟩
theorem tu0_1 {pf pt : Nat} {s0 : Sto} : ∀ (m i : Nat) (s : Sto), i + m = 256 → s.1 = s0.1 → (∀ k, k < i → s.2 371 k = 0) → ∃ s1, F_MH_turned_1_L0 pf pt m i s = F_MH_turned_1_L1 pf pt 256 0 s1 ∧ s1.1 = s0.1 ∧ ∀ k, k < 256 → s1.2 371 k = 0
  | 0, i, s, hi, h1, h2 => ⟨s, by rw [F_MH_turned_1_L0], h1, fun k hk => h2 k (by omega)⟩
  | m + 1, i, s, hi, h1, h2 => by
    obtain ⟨s1, a, b⟩ := tu0_1 (pf := pf) (pt := pt) (s0 := s0) m (i + 1) (sL s 371 i 0) (by omega) h1 (fun k hk => by
      rw [sL_row]
      by_cases q : k = i
      · subst q
        exact pk_uLs
      · rw [pk_uLn q]
        exact h2 k (by omega))
    exact ⟨s1, Eq.trans (by rw [F_MH_turned_1_L0, bnd_eq]) a, b⟩
/-- the reference's product of the challenge and a row, set 1 -/
theorem Q_turned1 {pf pt : Nat} {s : Sto} {C : Nat → Int} (hC : ∀ i, i < 256 → (s.1 368 i).toInt = C i ∧ -1 ≤ C i ∧ C i ≤ 1) (hf : rdc 8380417 (s.1 pf)) : (∀ k, k ≠ pt → (F_MH_turned_1 pf pt s).1 k = s.1 k) ∧ rdc 8380417 ((F_MH_turned_1 pf pt s).1 pt) ∧ ∀ k, k < 256 → cg ((8380417 : Nat) : Int) (vl ((F_MH_turned_1 pf pt s).1 pt) k) (sm 256 fun i => C i * shf (vl (s.1 pf)) i k) := by
  have hF : ∀ j, j < 256 → (s.1 pf j).toInt = vl (s.1 pf) j ∧ 0 ≤ vl (s.1 pf) j ∧ vl (s.1 pf) j < 8380417 := fun j hj => by
    obtain ⟨n, h1, h2⟩ := hf j hj
    rw [vl_n h2 (by omega), h2, nI_toInt (by omega)]
    omega
  have hU : F_MH_turned_1 pf pt s = F_MH_turned_1_L0 pf pt 256 0 s := by rw [F_MH_turned_1]
  obtain ⟨s1, a1, a2, a3⟩ := tu0_1 (pf := pf) (pt := pt) (s0 := s) 256 0 s (by omega) rfl (fun k hk => absurd hk (Nat.not_lt_zero _))
  obtain ⟨s2, b1, b2, b3⟩ := tu1_1 (pf := pf) (pt := pt) (s0 := s) hC hF 256 0 s1 (by omega) a2 (fun k hk => by
    rw [a3 k hk]
    show (0 : Int64).toInt = 0
    decide) (fun k hk => by
    show -(8380417 * ((0 : Nat) : Int)) ≤ 0 ∧ (0 : Int) ≤ 8380417 * ((0 : Nat) : Int)
    decide)
  rw [hU, a1, b1]
  obtain ⟨s3, c1, c2, c3, -⟩ := el_loop (pf := pt) (G := F_MH_turned_1_L2 pt) (K := fun s => s) (e := fun i s => if 0 ≤ (lg_cmp (s.2 371 i - s.2 371 i / 8380417 * 8380417) 0) then (s.2 371 i - s.2 371 i / 8380417 * 8380417).toInt32 else (s.2 371 i - s.2 371 i / 8380417 * 8380417 + 8380417).toInt32) (fun i s => by rw [F_MH_turned_1_L2]) (fun n i s => by rw [F_MH_turned_1_L2, bnd_eq]; exact e_if) (fun i s s' o h => by simp only [o.2]) 256 0 s2
  rw [c1]
  have key : ∀ k, k < 256 → ∃ n : Nat, n < 8380417 ∧ cg ((8380417 : Nat) : Int) (n : Int) (sm 256 fun i => C i * shf (vl (s.1 pf)) i k) ∧ s3.1 pt k = nI n := fun k hk => by
    obtain ⟨d1, d2, d3⟩ := b3 k hk
    obtain ⟨n, e1, e2, e3⟩ := red8 (x := s2.2 371 k) (by omega) (by omega)
    rw [d1] at e2
    exact ⟨n, e1, e2, (c3 k (Nat.zero_le _) (by omega)).trans e3⟩
  refine ⟨fun k hk => by rw [c2.1 k hk, b2], fun k hk => ?_, fun k hk => ?_⟩
  · obtain ⟨n, e1, -, e3⟩ := key k hk
    exact ⟨n, e1, e3⟩
  · obtain ⟨n, e1, e2, e3⟩ := key k hk
    rw [vl_n e3 (by omega)]
    exact e2
theorem tu3_2 {pf i : Nat} {kk : Nat → Sto → Sto} {s0 : Sto} {C : Int} {F base : Nat → Int} (hi : i < 256) (hC : (s0.1 368 i).toInt = C) (hC1 : -1 ≤ C) (hC2 : C ≤ 1) (hF : ∀ j, j < 256 → (s0.1 pf j).toInt = F j ∧ 0 ≤ F j ∧ F j < 8380417) (hb : ∀ k, k < 256 → -549755813888 ≤ base k ∧ base k ≤ 549755813888) : ∀ (m j : Nat) (s : Sto), j + m = 256 → s.1 = s0.1 → (∀ k, k < 256 → (s.2 371 k).toInt = base k + if jj i k < j then C * shf F i k else 0) → ∃ s1, F_MH_turned_2_L3 pf i kk m j s = kk (i + 1) s1 ∧ s1.1 = s0.1 ∧ ∀ k, k < 256 → (s1.2 371 k).toInt = base k + C * shf F i k
  | 0, j, s, hj, h1, h2 => by
    refine ⟨s, by rw [F_MH_turned_2_L3], h1, fun k hk => ?_⟩
    rw [h2 k hk, if_pos (by unfold jj; split <;> omega)]
  | m + 1, j, s, hj, h1, h2 => by
    obtain ⟨f1, f2, f3⟩ := hF j (by omega)
    have cb := c1_b hC1 hC2 (show -8380417 ≤ F j by omega) (show F j ≤ 8380417 by omega)
    have y1 : ((s.1 368 i).toInt64 * (s.1 pf j).toInt64).toInt = C * F j := by
      rw [h1, i64_mul (by rw [hC, f1]; omega) (by rw [hC, f1]; omega), hC, f1]
    by_cases w : 256 ≤ i + j
    · have hU : F_MH_turned_2_L3 pf i kk (m + 1) j s = F_MH_turned_2_L3 pf i kk m (j + 1) (sL s 371 ((i + j) - 256) ((s.2 371 ((i + j) - 256)) - ((s.1 368 i).toInt64 * (s.1 pf j).toInt64))) := by rw [F_MH_turned_2_L3, bnd_eq, if_pos w, bnd_eq]
      have k0 : jj i (i + j - 256) = j := by unfold jj; rw [if_neg (by omega)]; omega
      have s0' : shf F i (i + j - 256) = -(F j) := by unfold shf; rw [if_neg (by omega), show i + j - 256 + 256 - i = j by omega]
      have hk0 := h2 (i + j - 256) (by omega)
      rw [k0, if_neg (by omega), Int.add_zero] at hk0
      have hbb := hb (i + j - 256) (by omega)
      obtain ⟨s1, a, b, c⟩ := tu3_2 (kk := kk) hi hC hC1 hC2 hF hb m (j + 1) (sL s 371 ((i + j) - 256) ((s.2 371 ((i + j) - 256)) - ((s.1 368 i).toInt64 * (s.1 pf j).toInt64))) (by omega) h1 (fun k hk => by
        rw [sL_row]
        by_cases q : k = i + j - 256
        · rw [q, pk_uLs, i64_sub (by rw [y1, hk0]; omega) (by rw [y1, hk0]; omega), y1, hk0, k0, if_pos (by omega), s0', Int.mul_neg]
          omega
        · have n0 : jj i k ≠ j := by unfold jj; split <;> omega
          rw [pk_uLn q, h2 k hk]
          by_cases z : jj i k < j
          · rw [if_pos z, if_pos (by omega)]
          · rw [if_neg z, if_neg (by omega)])
      exact ⟨s1, hU.trans a, b, c⟩
    · have hU : F_MH_turned_2_L3 pf i kk (m + 1) j s = F_MH_turned_2_L3 pf i kk m (j + 1) (sL s 371 (i + j) ((s.2 371 (i + j)) + ((s.1 368 i).toInt64 * (s.1 pf j).toInt64))) := by rw [F_MH_turned_2_L3, bnd_eq, if_neg w, bnd_eq]
      have k0 : jj i (i + j) = j := by unfold jj; rw [if_pos (by omega)]; omega
      have s0' : shf F i (i + j) = F j := by unfold shf; rw [if_pos (by omega), show i + j - i = j by omega]
      have hk0 := h2 (i + j) (by omega)
      rw [k0, if_neg (by omega), Int.add_zero] at hk0
      have hbb := hb (i + j) (by omega)
      obtain ⟨s1, a, b, c⟩ := tu3_2 (kk := kk) hi hC hC1 hC2 hF hb m (j + 1) (sL s 371 (i + j) ((s.2 371 (i + j)) + ((s.1 368 i).toInt64 * (s.1 pf j).toInt64))) (by omega) h1 (fun k hk => by
        rw [sL_row]
        by_cases q : k = i + j
        · rw [q, pk_uLs, i64_add (by rw [y1, hk0]; omega) (by rw [y1, hk0]; omega), y1, hk0, k0, if_pos (by omega), s0']
        · have n0 : jj i k ≠ j := by unfold jj; split <;> omega
          rw [pk_uLn q, h2 k hk]
          by_cases z : jj i k < j
          · rw [if_pos z, if_pos (by omega)]
          · rw [if_neg z, if_neg (by omega)])
      exact ⟨s1, hU.trans a, b, c⟩
theorem tu1_2 {pf pt : Nat} {s0 : Sto} {C F : Nat → Int} (hC : ∀ i, i < 256 → (s0.1 368 i).toInt = C i ∧ -1 ≤ C i ∧ C i ≤ 1) (hF : ∀ j, j < 256 → (s0.1 pf j).toInt = F j ∧ 0 ≤ F j ∧ F j < 8380417) : ∀ (m i : Nat) (s : Sto), i + m = 256 → s.1 = s0.1 → (∀ k, k < 256 → (s.2 371 k).toInt = sm i (fun i => C i * shf F i k)) → (∀ k, k < 256 → -(8380417 * (i : Int)) ≤ sm i (fun i => C i * shf F i k) ∧ sm i (fun i => C i * shf F i k) ≤ 8380417 * (i : Int)) → ∃ s1, F_MH_turned_2_L1 pf pt m i s = F_MH_turned_2_L2 pt 256 0 s1 ∧ s1.1 = s0.1 ∧ ∀ k, k < 256 → (s1.2 371 k).toInt = sm 256 (fun i => C i * shf F i k) ∧ -2145386752 ≤ (s1.2 371 k).toInt ∧ (s1.2 371 k).toInt ≤ 2145386752
  | 0, i, s, hi, h1, h2, h3 => by
    obtain rfl : i = 256 := by omega
    refine ⟨s, by rw [F_MH_turned_2_L1], h1, fun k hk => ⟨h2 k hk, ?_⟩⟩
    have := h3 k hk
    rw [h2 k hk]
    omega
  | m + 1, i, s, hi, h1, h2, h3 => by
    obtain ⟨c1, c2, c3⟩ := hC i (by omega)
    have hn : ∀ k, k < 256 → -(8380417 * ((i + 1 : Nat) : Int)) ≤ sm (i + 1) (fun i => C i * shf F i k) ∧ sm (i + 1) (fun i => C i * shf F i k) ≤ 8380417 * ((i + 1 : Nat) : Int) := fun k hk => by
      have a := h3 k hk
      have b := shf_b (fun j hj => (hF j hj).2) (show i < 256 by omega) hk
      have d := c1_b c2 c3 b.1 b.2
      rw [sm_last]
      omega
    by_cases w : s.1 368 i = 0
    · have e0 : C i = 0 := by
        rw [← c1, ← h1, w]
        decide
      obtain ⟨s1, a, b⟩ := tu1_2 (pt := pt) hC hF m (i + 1) s (by omega) h1 (fun k hk => by
        rw [h2 k hk, sm_last, e0, Int.zero_mul, Int.add_zero]) hn
      exact ⟨s1, Eq.trans (by rw [F_MH_turned_2_L1, if_pos w]) a, b⟩
    · obtain ⟨s1, a, b, c⟩ := tu3_2 (pf := pf) (i := i) (kk := F_MH_turned_2_L1 pf pt m) (s0 := s0) (base := fun k => sm i (fun i => C i * shf F i k)) (by omega) c1 c2 c3 hF (fun k hk => by have := h3 k hk; omega) 256 0 s (by omega) h1 (fun k hk => by rw [h2 k hk, if_neg (Nat.not_lt_zero _), Int.add_zero])
      obtain ⟨s2, d, e⟩ := tu1_2 (pt := pt) hC hF m (i + 1) s1 (by omega) b (fun k hk => by rw [c k hk, sm_last]) hn
      exact ⟨s2, (Eq.trans (by rw [F_MH_turned_2_L1, if_neg w]) a).trans d, e⟩
theorem tu0_2 {pf pt : Nat} {s0 : Sto} : ∀ (m i : Nat) (s : Sto), i + m = 256 → s.1 = s0.1 → (∀ k, k < i → s.2 371 k = 0) → ∃ s1, F_MH_turned_2_L0 pf pt m i s = F_MH_turned_2_L1 pf pt 256 0 s1 ∧ s1.1 = s0.1 ∧ ∀ k, k < 256 → s1.2 371 k = 0
  | 0, i, s, hi, h1, h2 => ⟨s, by rw [F_MH_turned_2_L0], h1, fun k hk => h2 k (by omega)⟩
  | m + 1, i, s, hi, h1, h2 => by
    obtain ⟨s1, a, b⟩ := tu0_2 (pf := pf) (pt := pt) (s0 := s0) m (i + 1) (sL s 371 i 0) (by omega) h1 (fun k hk => by
      rw [sL_row]
      by_cases q : k = i
      · subst q
        exact pk_uLs
      · rw [pk_uLn q]
        exact h2 k (by omega))
    exact ⟨s1, Eq.trans (by rw [F_MH_turned_2_L0, bnd_eq]) a, b⟩
/-- the reference's product of the challenge and a row, set 2 -/
theorem Q_turned2 {pf pt : Nat} {s : Sto} {C : Nat → Int} (hC : ∀ i, i < 256 → (s.1 368 i).toInt = C i ∧ -1 ≤ C i ∧ C i ≤ 1) (hf : rdc 8380417 (s.1 pf)) : (∀ k, k ≠ pt → (F_MH_turned_2 pf pt s).1 k = s.1 k) ∧ rdc 8380417 ((F_MH_turned_2 pf pt s).1 pt) ∧ ∀ k, k < 256 → cg ((8380417 : Nat) : Int) (vl ((F_MH_turned_2 pf pt s).1 pt) k) (sm 256 fun i => C i * shf (vl (s.1 pf)) i k) := by
  have hF : ∀ j, j < 256 → (s.1 pf j).toInt = vl (s.1 pf) j ∧ 0 ≤ vl (s.1 pf) j ∧ vl (s.1 pf) j < 8380417 := fun j hj => by
    obtain ⟨n, h1, h2⟩ := hf j hj
    rw [vl_n h2 (by omega), h2, nI_toInt (by omega)]
    omega
  have hU : F_MH_turned_2 pf pt s = F_MH_turned_2_L0 pf pt 256 0 s := by rw [F_MH_turned_2]
  obtain ⟨s1, a1, a2, a3⟩ := tu0_2 (pf := pf) (pt := pt) (s0 := s) 256 0 s (by omega) rfl (fun k hk => absurd hk (Nat.not_lt_zero _))
  obtain ⟨s2, b1, b2, b3⟩ := tu1_2 (pf := pf) (pt := pt) (s0 := s) hC hF 256 0 s1 (by omega) a2 (fun k hk => by
    rw [a3 k hk]
    show (0 : Int64).toInt = 0
    decide) (fun k hk => by
    show -(8380417 * ((0 : Nat) : Int)) ≤ 0 ∧ (0 : Int) ≤ 8380417 * ((0 : Nat) : Int)
    decide)
  rw [hU, a1, b1]
  obtain ⟨s3, c1, c2, c3, -⟩ := el_loop (pf := pt) (G := F_MH_turned_2_L2 pt) (K := fun s => s) (e := fun i s => if 0 ≤ (lg_cmp (s.2 371 i - s.2 371 i / 8380417 * 8380417) 0) then (s.2 371 i - s.2 371 i / 8380417 * 8380417).toInt32 else (s.2 371 i - s.2 371 i / 8380417 * 8380417 + 8380417).toInt32) (fun i s => by rw [F_MH_turned_2_L2]) (fun n i s => by rw [F_MH_turned_2_L2, bnd_eq]; exact e_if) (fun i s s' o h => by simp only [o.2]) 256 0 s2
  rw [c1]
  have key : ∀ k, k < 256 → ∃ n : Nat, n < 8380417 ∧ cg ((8380417 : Nat) : Int) (n : Int) (sm 256 fun i => C i * shf (vl (s.1 pf)) i k) ∧ s3.1 pt k = nI n := fun k hk => by
    obtain ⟨d1, d2, d3⟩ := b3 k hk
    obtain ⟨n, e1, e2, e3⟩ := red8 (x := s2.2 371 k) (by omega) (by omega)
    rw [d1] at e2
    exact ⟨n, e1, e2, (c3 k (Nat.zero_le _) (by omega)).trans e3⟩
  refine ⟨fun k hk => by rw [c2.1 k hk, b2], fun k hk => ?_, fun k hk => ?_⟩
  · obtain ⟨n, e1, -, e3⟩ := key k hk
    exact ⟨n, e1, e3⟩
  · obtain ⟨n, e1, e2, e3⟩ := key k hk
    rw [vl_n e3 (by omega)]
    exact e2
