set_option linter.all false
/-! ML-DSA: products, both sides -/
theorem shf_c {f g : Nat → Int} (h : ∀ j, j < 256 → f j = g j) {i k : Nat} (hi : i < 256) (hk : k < 256) : shf f i k = shf g i k := by
  unfold shf
  by_cases w : i ≤ k
  · rw [if_pos w, if_pos w, h _ (by omega)]
  · rw [if_neg w, if_neg w, h _ (by omega)]
theorem P_addProduct8 {ps pf pg : Nat} {s : Sto} (h1 : pf ≠ ps) (h2 : pg ≠ ps) (hS : rdc 8380417 (s.1 ps)) (hF : rdc 8380417 (s.1 pf)) (hG : rdc 8380417 (s.1 pg)) : onl ps s (F_RG_addProduct_8 ps pf pg s) ∧ ∀ k, k < 256 → ∃ n : Nat, n < 8380417 ∧ (F_RG_addProduct_8 ps pf pg s).1 ps k = nI n ∧ cg ((8380417 : Nat) : Int) (n : Int) (vl (s.1 ps) k + vl (s.1 pf) k * vl (s.1 pg) k) := by
  obtain ⟨s1, a, b, c, -⟩ := el_loop (pf := ps) (G := F_RG_addProduct_8_L0 ps pf pg) (K := fun s => s) (e := fun i s => ((((s.1 ps i).toInt64) + (((s.1 pf i).toInt64) * ((s.1 pg i).toInt64))) - (((s.1 ps i).toInt64) + (((s.1 pf i).toInt64) * ((s.1 pg i).toInt64))) / ((nI 8380417).toInt64) * ((nI 8380417).toInt64)).toInt32) (fun i s => by rw [F_RG_addProduct_8_L0]) (fun n i s => by rw [F_RG_addProduct_8_L0, bnd_eq]) (fun i s s' o h => by simp only [h, o.1 pf h1, o.1 pg h2]) 256 0 s
  rw [F_RG_addProduct_8, a]
  refine ⟨b, fun k hk => ?_⟩
  obtain ⟨x, hx, ex⟩ := hS k hk
  obtain ⟨y, hy, ey⟩ := hF k hk
  obtain ⟨z, hz, ez⟩ := hG k hk
  have m1 : y * z ≤ 8380417 * 8380417 := Nat.mul_le_mul (by omega) (by omega)
  refine ⟨(x + y * z) % 8380417, Nat.mod_lt _ (by decide), ?_, ?_⟩
  · rw [c k (Nat.zero_le _) (by omega)]
    show ((((s.1 ps k).toInt64) + (((s.1 pf k).toInt64) * ((s.1 pg k).toInt64))) - (((s.1 ps k).toInt64) + (((s.1 pf k).toInt64) * ((s.1 pg k).toInt64))) / ((nI 8380417).toInt64) * ((nI 8380417).toInt64)).toInt32 = _
    rw [ex, ey, ez, nI_l (n := x) (by omega), nI_l (n := y) (by omega), nI_l (n := z) (by omega), lN_mul, lN_add, lN_rem8 (by omega), lN_i]
  · rw [vl_n ex (by omega), vl_n ey (by omega), vl_n ez (by omega)]
    refine cg_tr (cg_mod _ _) (cg_of ?_)
    rw [Int.natCast_add, Int.natCast_mul]
/-- the challenge times a transformed row, by the program: the product modulo X^256 + 1 -/
theorem P_multiplyBall {pf pc pd : Nat} {s sc sd : Sto} (hpf : pf ≠ 141) (hc : rdc 8380417 (sc.1 pc)) (hd : rdc 8380417 (sd.1 pd)) (e1 : ∀ k, k < 256 → s.1 140 k = (F_RG_transform_8 pc sc).1 pc k) (e2 : ∀ k, k < 256 → s.1 pf k = (F_RG_transform_8 pd sd).1 pd k) : onl 141 s (F_DA_multiplyBall pf s) ∧ rdc 8380417 ((F_DA_multiplyBall pf s).1 141) ∧ ∀ k, k < 256 → cg ((8380417 : Nat) : Int) (vl ((F_DA_multiplyBall pf s).1 141) k) (sm 256 fun i => vl (sc.1 pc) i * shf (vl (sd.1 pd)) i k) := by
  have hU : F_DA_multiplyBall pf s = F_RG_restore_8 141 (F_RG_addProduct_8 141 140 pf (F_AR_fillI 141 256 (nI 0) s)) := by
    rw [F_DA_multiplyBall]
    repeat rw [bnd_eq]
  obtain ⟨a1, a2⟩ := P_fill (pf := 141) (v := nI 0) (s := s)
  generalize F_AR_fillI 141 256 (nI 0) s = s1 at a1 a2 hU
  have p1 : s1.1 140 = s.1 140 := a1.1 140 (by decide)
  have p2 : s1.1 pf = s.1 pf := a1.1 pf hpf
  have r1 : rdc 8380417 (s.1 140) := rdc_c (P_transform8 hc).2.1 e1
  have r2 : rdc 8380417 (s.1 pf) := rdc_c (P_transform8 hd).2.1 e2
  obtain ⟨b1, b2⟩ := P_addProduct8 (ps := 141) (pf := 140) (pg := pf) (s := s1) (by decide) hpf (fun k hk => ⟨0, by decide, a2 k hk⟩) (by rw [p1]; exact r1) (by rw [p2]; exact r2)
  rw [p1, p2] at b2
  generalize F_RG_addProduct_8 141 140 pf s1 = s2 at b1 b2 hU
  have r3 : rdc 8380417 (s2.1 141) := fun k hk => by
    obtain ⟨n, h1, h2, -⟩ := b2 k hk
    exact ⟨n, h1, h2⟩
  obtain ⟨c1, c2, -⟩ := P_restore8 r3
  have c3 := conv8 (pc := pc) (pf := pd) (pp := 141) (pg := 141) (s := sc) (t := sd) (u := s2) (w := s2) hc hd r3 (fun k hk => by
    obtain ⟨n, h1, h2, h3⟩ := b2 k hk
    rw [vl_n h2 (by omega)]
    refine cg_tr h3 (cg_of ?_)
    rw [vl_n (a2 k hk) (by decide), vl_c (e1 k hk), vl_c (e2 k hk)]
    show ((0 : Nat) : Int) + _ = _
    exact Int.zero_add _) (fun _ _ => rfl)
  rw [hU]
  exact ⟨onl_tr (onl_tr a1 b1) c1, c2, c3⟩
/-- the challenge times a row: both sides, set 0 -/
theorem turn0_same {pf pc pd qf pt : Nat} {s sc sd t : Sto} {C : Nat → Int} (hpf : pf ≠ 141) (hc : rdc 8380417 (sc.1 pc)) (hd : rdc 8380417 (sd.1 pd)) (e1 : ∀ k, k < 256 → s.1 140 k = (F_RG_transform_8 pc sc).1 pc k) (e2 : ∀ k, k < 256 → s.1 pf k = (F_RG_transform_8 pd sd).1 pd k) (hC : ∀ i, i < 256 → (t.1 368 i).toInt = C i ∧ -1 ≤ C i ∧ C i ≤ 1) (h1 : ∀ i, i < 256 → cg ((8380417 : Nat) : Int) (vl (sc.1 pc) i) (C i)) (h2 : ∀ k, k < 256 → sd.1 pd k = t.1 qf k) : onl 141 s (F_DA_multiplyBall pf s) ∧ (∀ k, k ≠ pt → (F_MH_turned_0 qf pt t).1 k = t.1 k) ∧ sr 8380417 ((F_DA_multiplyBall pf s).1 141) ((F_MH_turned_0 qf pt t).1 pt) := by
  obtain ⟨a1, a2, a3⟩ := P_multiplyBall hpf hc hd e1 e2
  obtain ⟨b1, b2, b3⟩ := Q_turned0 (pf := qf) (pt := pt) (s := t) hC (rdc_c hd fun k hk => (h2 k hk).symm)
  refine ⟨a1, b1, sr_of a2 fun k hk => rd_same (by decide) a2 b2 hk (cg_tr (a3 k hk) (cg_tr (sm_cg 256 fun i hi => ?_) (cg_sy (b3 k hk))))⟩
  rw [shf_c (fun j hj => vl_c (h2 j hj)) hi hk]
  exact cg_mulr (h1 i hi)
/-- the challenge times a row: both sides, set 1 -/
theorem turn1_same {pf pc pd qf pt : Nat} {s sc sd t : Sto} {C : Nat → Int} (hpf : pf ≠ 141) (hc : rdc 8380417 (sc.1 pc)) (hd : rdc 8380417 (sd.1 pd)) (e1 : ∀ k, k < 256 → s.1 140 k = (F_RG_transform_8 pc sc).1 pc k) (e2 : ∀ k, k < 256 → s.1 pf k = (F_RG_transform_8 pd sd).1 pd k) (hC : ∀ i, i < 256 → (t.1 368 i).toInt = C i ∧ -1 ≤ C i ∧ C i ≤ 1) (h1 : ∀ i, i < 256 → cg ((8380417 : Nat) : Int) (vl (sc.1 pc) i) (C i)) (h2 : ∀ k, k < 256 → sd.1 pd k = t.1 qf k) : onl 141 s (F_DA_multiplyBall pf s) ∧ (∀ k, k ≠ pt → (F_MH_turned_1 qf pt t).1 k = t.1 k) ∧ sr 8380417 ((F_DA_multiplyBall pf s).1 141) ((F_MH_turned_1 qf pt t).1 pt) := by
  obtain ⟨a1, a2, a3⟩ := P_multiplyBall hpf hc hd e1 e2
  obtain ⟨b1, b2, b3⟩ := Q_turned1 (pf := qf) (pt := pt) (s := t) hC (rdc_c hd fun k hk => (h2 k hk).symm)
  refine ⟨a1, b1, sr_of a2 fun k hk => rd_same (by decide) a2 b2 hk (cg_tr (a3 k hk) (cg_tr (sm_cg 256 fun i hi => ?_) (cg_sy (b3 k hk))))⟩
  rw [shf_c (fun j hj => vl_c (h2 j hj)) hi hk]
  exact cg_mulr (h1 i hi)
/-- the challenge times a row: both sides, set 2 -/
theorem turn2_same {pf pc pd qf pt : Nat} {s sc sd t : Sto} {C : Nat → Int} (hpf : pf ≠ 141) (hc : rdc 8380417 (sc.1 pc)) (hd : rdc 8380417 (sd.1 pd)) (e1 : ∀ k, k < 256 → s.1 140 k = (F_RG_transform_8 pc sc).1 pc k) (e2 : ∀ k, k < 256 → s.1 pf k = (F_RG_transform_8 pd sd).1 pd k) (hC : ∀ i, i < 256 → (t.1 368 i).toInt = C i ∧ -1 ≤ C i ∧ C i ≤ 1) (h1 : ∀ i, i < 256 → cg ((8380417 : Nat) : Int) (vl (sc.1 pc) i) (C i)) (h2 : ∀ k, k < 256 → sd.1 pd k = t.1 qf k) : onl 141 s (F_DA_multiplyBall pf s) ∧ (∀ k, k ≠ pt → (F_MH_turned_2 qf pt t).1 k = t.1 k) ∧ sr 8380417 ((F_DA_multiplyBall pf s).1 141) ((F_MH_turned_2 qf pt t).1 pt) := by
  obtain ⟨a1, a2, a3⟩ := P_multiplyBall hpf hc hd e1 e2
  obtain ⟨b1, b2, b3⟩ := Q_turned2 (pf := qf) (pt := pt) (s := t) hC (rdc_c hd fun k hk => (h2 k hk).symm)
  refine ⟨a1, b1, sr_of a2 fun k hk => rd_same (by decide) a2 b2 hk (cg_tr (a3 k hk) (cg_tr (sm_cg 256 fun i hi => ?_) (cg_sy (b3 k hk))))⟩
  rw [shf_c (fun j hj => vl_c (h2 j hj)) hi hk]
  exact cg_mulr (h1 i hi)
