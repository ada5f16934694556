set_option linter.all false
/-- a row of the matrix times the vector, the reference's, and what the program's row is then, set 0 -/
theorem rbF0 {rw pt : Nat} {t : Sto} (hrw : rw < 4) (hpt : pt ≠ 370) (hM : ∀ j, j < 4 → rdc 8380417 (t.1 (227 + (8 * rw + j)))) (hV : ∀ j, j < 4 → rdc 8380417 (t.1 (343 + j))) : (∀ k, k ≠ 370 → k ≠ pt → (F_MH_rowBy_0 rw pt t).1 k = t.1 k) ∧ rdc 8380417 ((F_MH_rowBy_0 rw pt t).1 pt) ∧ ∀ s : Sto, rdc 8380417 (s.1 (132 + rw)) → (∀ k, k < 256 → cg ((8380417 : Nat) : Int) (vl (s.1 (132 + rw)) k) (sm 4 fun x => vl (t.1 (227 + (8 * rw + x))) k * vl (t.1 (343 + x)) k)) → sr 8380417 ((F_RG_restore_8 (132 + rw) s).1 (132 + rw)) ((F_MH_rowBy_0 rw pt t).1 pt) := by
  obtain ⟨t1, b1, b2, b3⟩ := rb0_O (pt := pt) (s := t) hrw hM hV 256 0 t (by omega) onl_rf (fun k hk => absurd hk (Nat.not_lt_zero _))
  have hW : F_MH_rowBy_0 rw pt t = F_MR_back_8_0 370 pt t1 := by
    rw [F_MH_rowBy_0]
    exact b1
  have r2 : rdc 8380417 (t1.1 370) := fun k hk => by
    obtain ⟨n, h1, h2, -⟩ := rwV_n (s := t) (r := rw) (l := 4) (k := k)
    exact ⟨n, h1, (b3 k hk).trans h2⟩
  have d1 := (Qb_out80 (pf := 370) (pt := pt) (Ne.symm hpt) 256 0 t1 rfl r2).1
  rw [← F_MR_back_8_0] at d1
  have key : ∀ s : Sto, rdc 8380417 (s.1 (132 + rw)) → (∀ k, k < 256 → cg ((8380417 : Nat) : Int) (vl (s.1 (132 + rw)) k) (sm 4 fun x => vl (t.1 (227 + (8 * rw + x))) k * vl (t.1 (343 + x)) k)) → sr 8380417 ((F_RG_restore_8 (132 + rw) s).1 (132 + rw)) ((F_MR_back_8_0 370 pt t1).1 pt) := fun s a2 a3 => by
    have key : ∀ k, k < 256 → s.1 (132 + rw) k = t1.1 370 k := fun k hk => by
      refine rd_same (by decide) a2 r2 hk (cg_tr (a3 k hk) (cg_sy ?_))
      obtain ⟨n, h1, h2, h3⟩ := rwV_n (s := t) (r := rw) (l := 4) (k := k)
      rw [vl_n ((b3 k hk).trans h2) (by omega)]
      refine cg_tr h3 (cg_of (sm_ext 4 fun j hj => ?_))
      obtain ⟨x, hx, x2⟩ := hM j hj k hk
      obtain ⟨y, hy, y2⟩ := hV j hj k hk
      show ((vn (t.1 (227 + (8 * rw + j))) k * vn (t.1 (343 + j)) k : Nat) : Int) = _
      rw [vn_n x2 (by omega), vn_n y2 (by omega), vl_n x2 (by omega), vl_n y2 (by omega), Int.natCast_mul]
    exact sr_of (P_restore8 a2).2.1 fun k hk => back_same8 (Ne.symm hpt) a2 key hk
  rw [hW]
  refine ⟨fun k u v => (d1.1 k v).trans (b2.1 k u), ?_, key⟩
  exact sr_r (key (fun _ => t1.1 370, fun _ _ => 0) r2 (fun k hk => by
    obtain ⟨n, h1, h2, h3⟩ := rwV_n (s := t) (r := rw) (l := 4) (k := k)
    show cg ((8380417 : Nat) : Int) (vl (t1.1 370) k) _
    rw [vl_n ((b3 k hk).trans h2) (by omega)]
    refine cg_tr h3 (cg_of (sm_ext 4 fun j hj => ?_))
    obtain ⟨x, hx, x2⟩ := hM j hj k hk
    obtain ⟨y, hy, y2⟩ := hV j hj k hk
    show ((vn (t.1 (227 + (8 * rw + j))) k * vn (t.1 (343 + j)) k : Nat) : Int) = _
    rw [vn_n x2 (by omega), vn_n y2 (by omega), vl_n x2 (by omega), vl_n y2 (by omega), Int.natCast_mul]))
/-- the program's commitment and the reference's challenge, set 0 -/
theorem com0 {cn : Int32} {s t : Sto} {WW : Nat → Nat → Int32} (hY : ∀ x, x < 4 → isMk0 (t.1 374) (cn + nI x) (t.1 (327 + x))) (hF : ∀ x, x < 4 → isF8 (t.1 (327 + x)) (t.1 (343 + x))) (hM : ∀ y x, y < 4 → x < 4 → sr 8380417 (s.1 (41 + (4 * y + x))) (t.1 (227 + (8 * y + x)))) (hW : ∀ y, y < 4 → ∀ s : Sto, rdc 8380417 (s.1 (132 + y)) → (∀ k, k < 256 → cg ((8380417 : Nat) : Int) (vl (s.1 (132 + y)) k) (sm 4 fun x => vl (t.1 (227 + (8 * y + x))) k * vl (t.1 (343 + x)) k)) → sr 8380417 ((F_RG_restore_8 (132 + y) s).1 (132 + y)) (WW y)) (hC : ∀ x, x < 64 → s.1 142 x = t.1 374 x) : ∃ s1, F_DA_commit_0 cn s = F_DA_commit_0_L2 0 4 s1 ∧ frm (fun k => k = 16 ∨ k = 18 ∨ k = 38 ∨ (124 ≤ k ∧ k ≤ 139) ∨ k = 141 ∨ k = 147) s s1 ∧ (∀ x, x < 4 → sr 8380417 (s1.1 (124 + x)) (t.1 (327 + x))) ∧ (∀ y, y < 4 → sr 8380417 (s1.1 (132 + y)) (WW y)) ∧ spA 16 17 (chS 6 192 (s.1 143) (fun y k => hN0 (vn (WW y) k)) 4) 136 (nI 31) s1 := by
  have hcl : ∀ (m i : Nat) (s : Sto), i + m = 4 → (∀ y, y < i → ∀ k, k < 256 → s.1 (132 + y) k = nI 0) → ∃ s1, F_DA_commit_0_L0 cn m i s = F_DA_commit_0_L1 cn 4 0 s1 ∧ frm (fun k => 132 ≤ k ∧ k ≤ 139) s s1 ∧ ∀ y, y < 4 → ∀ k, k < 256 → s1.1 (132 + y) k = nI 0 := by
    intro m
    induction m with
    | zero =>
      intro i s hi h
      obtain rfl : i = 4 := by omega
      exact ⟨s, by rw [F_DA_commit_0_L0], frm_rf, h⟩
    | succ m ih =>
      intro i s hi h
      have hU : F_DA_commit_0_L0 cn (m + 1) i s = F_DA_commit_0_L0 cn m (i + 1) (F_AR_fillI (132 + i) 256 (nI 0) s) := by rw [F_DA_commit_0_L0, bnd_eq]
      obtain ⟨a1, a2⟩ := P_fill (pf := 132 + i) (v := nI 0) (s := s)
      generalize F_AR_fillI (132 + i) 256 (nI 0) s = s0 at a1 a2 hU
      obtain ⟨s1, b1, b2, b3⟩ := ih (i + 1) s0 (by omega) (fun y hy k hk => by
        by_cases w : y = i
        · subst w
          exact a2 k hk
        · rw [a1.1 _ (by omega)]
          exact h y (by omega) k hk)
      exact ⟨s1, hU.trans b1, fun k hk => by rw [b2 k hk, a1.1 k (by omega)], b3⟩
  obtain ⟨s1, a1, a2, a3⟩ := hcl 4 0 s (by decide) (fun y hy => absurd hy (Nat.not_lt_zero _))
  obtain ⟨s2, b1, b2, b3, b4, b5⟩ := cm10 (cn := cn) (CH := t.1 374) (M := fun y x => s.1 (41 + (4 * y + x))) (Y := fun x => t.1 (327 + x)) (H := fun x => t.1 (343 + x)) (fun y x hy hx => sr_l (hM y x hy hx)) hY hF 4 0 s1 (by decide) (fun x hx => by rw [a2 142 (by omega)]; exact hC x hx) (fun y x hy hx => a2 _ (by omega)) (fun x hx => absurd hx (Nat.not_lt_zero _)) (fun y hy k hk => ⟨0, by decide, a3 y hy k hk⟩) (fun y k hy hk => by
    rw [vl_n (a3 y hy k hk) (by decide)]
    exact cg_of rfl)
  have hX : F_DA_startChallenge s2 = F_SP_absorb 16 17 143 64 0 64 (F_SP_start_3 16 17 s2) := by
    rw [F_DA_startChallenge]
    repeat rw [bnd_eq]
  obtain ⟨c1, c2⟩ := P_start (pv := 16) (qv := 17) (rt := 136) (sf := nI 31) (s := s2)
  rw [← sh3_3] at c1 c2
  obtain ⟨d1, d2⟩ := P_absorb (pb := 143) (nb := 64) (at_ := 0) (len := 64) c1 (by decide) (by decide) (by decide)
  rw [← hX] at d1 d2
  rw [c2.1 143 (by decide), b2 143 (by omega), a2 143 (by omega)] at d1
  have e := c2.tr d2
  generalize F_DA_startChallenge s2 = s3 at b1 d1 e
  obtain ⟨s4, f1, f2, f3, f4⟩ := cm20 (MU := s.1 143) (M := fun y x => s.1 (41 + (4 * y + x))) (H := fun x => t.1 (343 + x)) (WW := WW) (fun y hy s' u1 u2 => hW y hy s' u1 (fun k hk => by
    have := u2 k hk
    refine cg_tr this (cg_of (sm_ext 4 fun x hx => ?_))
    obtain ⟨n, n1, n2, n3⟩ := hM y x hy hx k hk
    show vl (s.1 (41 + (4 * y + x))) k * vl (t.1 (343 + x)) k = vl (t.1 (227 + (8 * y + x))) k * vl (t.1 (343 + x)) k
    rw [vl_n n2 (by omega), vl_n n3 (by omega)])) 4 0 s3 (by decide) (fun y _ hy => by
    rw [e.1 _ (by omega)]
    exact ⟨b4 y hy, fun k hk => b5 y k hy hk⟩) d1 (fun y hy => absurd hy (Nat.not_lt_zero _))
  refine ⟨s4, by rw [F_DA_commit_0, a1, b1, f1], fun k hk => by rw [f2 k (by omega), e.1 k (by omega), b2 k (by omega), a2 k (by omega)], fun x hx => by rw [f2 _ (by omega), e.1 _ (by omega)]; exact b3 x hx, f4, f3⟩
