set_option linter.all false
theorem cpF {pf : Nat} (hne : pf ≠ 219) : ∀ (n i : Nat) (s : Sto), i + n = 256 → onl pf s (F_ME_forth_L0 pf n i s) ∧ (∀ k, i ≤ k → k < 256 → (F_ME_forth_L0 pf n i s).1 pf k = s.1 219 k) ∧ ∀ k, k < i → (F_ME_forth_L0 pf n i s).1 pf k = s.1 pf k
  | 0, i, s, hi => ⟨onl_rf, fun k h1 h2 => by omega, fun _ _ => rfl⟩
  | n + 1, i, s, hi => by
    have hU : F_ME_forth_L0 pf (n + 1) i s = F_ME_forth_L0 pf n (i + 1) (sI s pf i (s.1 219 i)) := by
      rw [F_ME_forth_L0, bnd_eq]
    have o1 : onl pf s (sI s pf i (s.1 219 i)) := onl_sI
    have r1 : (sI s pf i (s.1 219 i)).1 pf = upd (s.1 pf) i (s.1 219 i) := sI_row
    generalize sI s pf i (s.1 219 i) = s1 at hU o1 r1
    obtain ⟨q1, q2, q3⟩ := cpF hne n (i + 1) s1 (by omega)
    rw [hU]
    refine ⟨onl_tr o1 q1, fun k u v => ?_, fun k u => ?_⟩
    · by_cases w : k = i
      · subst w
        rw [q3 k (by omega), r1, upd_s]
      · rw [q2 k (by omega) v, o1.1 219 (Ne.symm hne)]
    · rw [q3 k (by omega), r1, upd_n (by omega)]
theorem cpB {pf : Nat} (hne : pf ≠ 219) : ∀ (n i : Nat) (s : Sto), i + n = 256 → onl pf s (F_ME_back_L0 pf n i s) ∧ (∀ k, i ≤ k → k < 256 → (F_ME_back_L0 pf n i s).1 pf k = s.1 219 k) ∧ ∀ k, k < i → (F_ME_back_L0 pf n i s).1 pf k = s.1 pf k
  | 0, i, s, hi => ⟨onl_rf, fun k h1 h2 => by omega, fun _ _ => rfl⟩
  | n + 1, i, s, hi => by
    have hU : F_ME_back_L0 pf (n + 1) i s = F_ME_back_L0 pf n (i + 1) (sI s pf i (s.1 219 i)) := by
      rw [F_ME_back_L0, bnd_eq]
    have o1 : onl pf s (sI s pf i (s.1 219 i)) := onl_sI
    have r1 : (sI s pf i (s.1 219 i)).1 pf = upd (s.1 pf) i (s.1 219 i) := sI_row
    generalize sI s pf i (s.1 219 i) = s1 at hU o1 r1
    obtain ⟨q1, q2, q3⟩ := cpB hne n (i + 1) s1 (by omega)
    rw [hU]
    refine ⟨onl_tr o1 q1, fun k u v => ?_, fun k u => ?_⟩
    · by_cases w : k = i
      · subst w
        rw [q3 k (by omega), r1, upd_s]
      · rw [q2 k (by omega) v, o1.1 219 (Ne.symm hne)]
    · rw [q3 k (by omega), r1, upd_n (by omega)]
/-- all but two names are as they were -/
def onl2 (pf pg : Nat) (s s' : Sto) : Prop := (∀ k, k ≠ pf → k ≠ pg → s'.1 k = s.1 k) ∧ s'.2 = s.2
theorem onl2_l {pf pg : Nat} {s s' : Sto} (h : onl pf s s') : onl2 pf pg s s' := ⟨fun k h1 _ => h.1 k h1, h.2⟩
theorem onl2_r {pf pg : Nat} {s s' : Sto} (h : onl pg s s') : onl2 pf pg s s' := ⟨fun k _ h1 => h.1 k h1, h.2⟩
theorem onl2_tr {pf pg : Nat} {s s1 s2 : Sto} (h : onl2 pf pg s s1) (h1 : onl2 pf pg s1 s2) : onl2 pf pg s s2 := ⟨fun k a b => (h1.1 k a b).trans (h.1 k a b), h1.2.trans h.2⟩
theorem Q_forth {pf : Nat} {s : Sto} (hne : pf ≠ 219) (hr : rdc 3329 (s.1 pf)) : onl2 pf 219 s (F_ME_forth pf s) ∧ rdc 3329 ((F_ME_forth pf s).1 pf) ∧ ∀ b c, b < 128 → c < 2 → cg ((3329 : Nat) : Int) (vl ((F_ME_forth pf s).1 pf) (2 * b + c)) (sm 128 fun u => vl (s.1 pf) (2 * u + c) * wf7 b ^ u) := by
  have hU : F_ME_forth pf s = F_ME_forth_L0 pf 256 0 (F_MR_forth_7_1_L0 pf 219 128 0 (F_MR_forth_7_0_L0 pf 219 128 0 s)) := by
    rw [F_ME_forth, bnd_eq, bnd_eq, F_MR_forth_7_0, F_MR_forth_7_1]
  obtain ⟨a1, a2, a3⟩ := Qf_out70 hne 128 0 s rfl hr
  generalize F_MR_forth_7_0_L0 pf 219 128 0 s = s1 at hU a1 a2 a3
  have ef : s1.1 pf = s.1 pf := a1.1 pf hne
  obtain ⟨b1, b2, b3⟩ := Qf_out71 hne 128 0 s1 rfl (by rw [ef]; exact hr)
  generalize F_MR_forth_7_1_L0 pf 219 128 0 s1 = s2 at hU b1 b2 b3
  obtain ⟨c1, c2, -⟩ := cpF hne 256 0 s2 rfl
  rw [hU]
  generalize F_ME_forth_L0 pf 256 0 s2 = s3 at c1 c2
  have key : ∀ b c, b < 128 → c < 2 → ∃ R : Nat, R < 3329 ∧ s3.1 pf (2 * b + c) = nI R ∧ cg ((3329 : Nat) : Int) (R : Int) (sm 128 fun u => vl (s.1 pf) (2 * u + c) * wf7 b ^ u) := fun b c hb hc => by
    rw [c2 _ (Nat.zero_le _) (by omega)]
    by_cases w : c = 0
    · subst w
      obtain ⟨R, h1, h2, h3⟩ := a2 b (Nat.zero_le _) hb
      exact ⟨R, h1, by rw [b3 _ (Or.inl (by omega))]; exact h2, h3⟩
    · obtain rfl : c = 1 := by omega
      obtain ⟨R, h1, h2, h3⟩ := b2 b (Nat.zero_le _) hb
      rw [ef] at h3
      exact ⟨R, h1, h2, h3⟩
  refine ⟨onl2_tr (onl2_tr (onl2_r a1) (onl2_r b1)) (onl2_l c1), fun k hk => ?_, fun b c hb hc => ?_⟩
  · obtain ⟨R, h1, h2, -⟩ := key (k / 2) (k % 2) (by omega) (by omega)
    rw [Nat.div_add_mod] at h2
    exact ⟨R, h1, h2⟩
  · obtain ⟨R, h1, h2, h3⟩ := key b c hb hc
    rw [vl_n h2 (by omega)]
    exact h3
theorem Q_back {pf : Nat} {s : Sto} (hne : pf ≠ 219) (hr : rdc 3329 (s.1 pf)) : onl2 pf 219 s (F_ME_back pf s) ∧ rdc 3329 ((F_ME_back pf s).1 pf) ∧ ∀ b c, b < 128 → c < 2 → cg ((3329 : Nat) : Int) (vl ((F_ME_back pf s).1 pf) (2 * b + c)) ((sm 128 fun u => vl (s.1 pf) (2 * u + c) * wb7 u ^ b) * 3303) := by
  have hU : F_ME_back pf s = F_ME_back_L0 pf 256 0 (F_MR_back_7_1_L0 pf 219 128 0 (F_MR_back_7_0_L0 pf 219 128 0 s)) := by
    rw [F_ME_back, bnd_eq, bnd_eq, F_MR_back_7_0, F_MR_back_7_1]
  obtain ⟨a1, a2, a3⟩ := Qb_out70 hne 128 0 s rfl hr
  generalize F_MR_back_7_0_L0 pf 219 128 0 s = s1 at hU a1 a2 a3
  have ef : s1.1 pf = s.1 pf := a1.1 pf hne
  obtain ⟨b1, b2, b3⟩ := Qb_out71 hne 128 0 s1 rfl (by rw [ef]; exact hr)
  generalize F_MR_back_7_1_L0 pf 219 128 0 s1 = s2 at hU b1 b2 b3
  obtain ⟨c1, c2, -⟩ := cpB hne 256 0 s2 rfl
  rw [hU]
  generalize F_ME_back_L0 pf 256 0 s2 = s3 at c1 c2
  have key : ∀ b c, b < 128 → c < 2 → ∃ R : Nat, R < 3329 ∧ s3.1 pf (2 * b + c) = nI R ∧ cg ((3329 : Nat) : Int) (R : Int) ((sm 128 fun u => vl (s.1 pf) (2 * u + c) * wb7 u ^ b) * 3303) := fun b c hb hc => by
    rw [c2 _ (Nat.zero_le _) (by omega)]
    by_cases w : c = 0
    · subst w
      obtain ⟨R, h1, h2, h3⟩ := a2 b (Nat.zero_le _) hb
      exact ⟨R, h1, by rw [b3 _ (Or.inl (by omega))]; exact h2, h3⟩
    · obtain rfl : c = 1 := by omega
      obtain ⟨R, h1, h2, h3⟩ := b2 b (Nat.zero_le _) hb
      rw [ef] at h3
      exact ⟨R, h1, h2, h3⟩
  refine ⟨onl2_tr (onl2_tr (onl2_r a1) (onl2_r b1)) (onl2_l c1), fun k hk => ?_, fun b c hb hc => ?_⟩
  · obtain ⟨R, h1, h2, -⟩ := key (k / 2) (k % 2) (by omega) (by omega)
    rw [Nat.div_add_mod] at h2
    exact ⟨R, h1, h2⟩
  · obtain ⟨R, h1, h2, h3⟩ := key b c hb hc
    rw [vl_n h2 (by omega)]
    exact h3
/-- ML-KEM: the program's fast transform and the reference's plain sums give the same row -/
theorem forth_same {pf pg k : Nat} {s t : Sto} (hne : pg ≠ 219) (hr : rdc 3329 (s.1 pf)) (hE : ∀ k, k < 256 → s.1 pf k = t.1 pg k) (hk : k < 256) : (F_RG_transform_7 pf s).1 pf k = (F_ME_forth pg t).1 pg k := by
  obtain ⟨-, p2, p3⟩ := P_transform7 hr
  obtain ⟨-, q2, q3⟩ := Q_forth hne (rdc_c hr fun k hk => (hE k hk).symm)
  refine rd_same (by decide) p2 q2 hk ?_
  have h1 := p3 (k / 2) (k % 2) (by omega) (by omega)
  have h2 := q3 (k / 2) (k % 2) (by omega) (by omega)
  rw [Nat.div_add_mod] at h1 h2
  refine cg_tr h1 (cg_tr (sm_cg _ fun u hu => ?_) (cg_sy h2))
  rw [show k % 2 + 2 * u = 2 * u + k % 2 by omega, vl_c (hE (2 * u + k % 2) (by omega))]
  exact cg_mull (cg_pow (leaf7_x (by omega)) u)
theorem back_same {pf pg k : Nat} {s t : Sto} (hne : pg ≠ 219) (hr : rdc 3329 (s.1 pf)) (hE : ∀ k, k < 256 → s.1 pf k = t.1 pg k) (hk : k < 256) : (F_RG_restore_7 pf s).1 pf k = (F_ME_back pg t).1 pg k := by
  obtain ⟨-, p2, p3⟩ := P_restore7 hr
  obtain ⟨-, q2, q3⟩ := Q_back hne (rdc_c hr fun k hk => (hE k hk).symm)
  refine rd_same (by decide) p2 q2 hk ?_
  have h1 := p3 (k / 2) (k % 2) (by omega) (by omega)
  have h2 := q3 (k / 2) (k % 2) (by omega) (by omega)
  rw [Nat.div_add_mod] at h1 h2
  refine cg_tr h1 (cg_tr (cg_mulr (sm_cg _ fun u hu => ?_)) (cg_sy h2))
  rw [vl_c (hE (2 * u + k % 2) (by omega))]
  exact cg_mull (cg_pow (leaf7_y (by omega)) _)
