set_option linter.all false
theorem rpL2_2 {psk : Nat} {B : Nat → Int32} (hp : ¬ (41 ≤ psk ∧ psk ≤ 147)) : ∀ (m i pz : Nat) (s : Sto), i + m = 8 → pz = 1568 + 416 * i → s.1 psk = B → (∀ r, r < i → tr8 (s.1 (115 + r)) (rwN 4096 13 B (1568 + 416 * r))) →
    ∃ s1, F_DA_readSecret_2_L2 psk m i pz s = s1 ∧ frm (fun k => 115 ≤ k ∧ k < 115 + 8) s s1 ∧ ∀ r, r < 8 → tr8 (s1.1 (115 + r)) (rwN 4096 13 B (1568 + 416 * r))
  | 0, i, pz, s, hi, hz, _, h => by
    obtain rfl : i = 8 := by omega
    subst hz
    exact ⟨s, by rw [F_DA_readSecret_2_L2], frm_rf, h⟩
  | m + 1, i, pz, s, hi, hz, hB, h => by
    have hU : F_DA_readSecret_2_L2 psk (m + 1) i pz s = F_DA_readSecret_2_L2 psk m (i + 1) (pz + 416) (F_RG_transform_8 (115 + i) (F_DA_readFlipped (115 + i) 13 (nI 4096) psk 4896 pz s)) := by
      rw [F_DA_readSecret_2_L2]
      repeat rw [bnd_eq]
    obtain ⟨a1, a2⟩ := P_rdT (pf := 115 + i) (b := 13) (T := 4096) (pr_ := psk) (n := 4896) (at_ := pz) (s := s) (by omega) (by decide) (by decide) (by decide)
    generalize F_RG_transform_8 (115 + i) (F_DA_readFlipped (115 + i) 13 (nI 4096) psk 4896 pz s) = s1 at a1 a2 hU
    rw [hB, hz] at a2
    obtain ⟨s2, b1, b2, b3⟩ := rpL2_2 (B := B) hp m (i + 1) (pz + 416) s1 (by omega) (by omega) (by rw [a1.1 psk (by omega)]; exact hB) (fun r hr => by
      by_cases w : r = i
      · subst w
        exact a2
      · rw [a1.1 _ (by omega)]
        exact h r (by omega))
    exact ⟨s2, hU.trans b1, fun k hk => by rw [b2 k hk, a1.1 k (by omega)], b3⟩
theorem rpL1_2 {psk : Nat} {B : Nat → Int32} (hp : ¬ (41 ≤ psk ∧ psk ≤ 147)) : ∀ (m i pz : Nat) (s : Sto), i + m = 8 → pz = 800 + 96 * i → s.1 psk = B → (∀ r, r < i → tr8 (s.1 (106 + r)) (rwN 2 3 B (800 + 96 * r))) →
    ∃ s1, F_DA_readSecret_2_L1 psk m i pz s = F_DA_readSecret_2_L2 psk 8 0 (800 + 96 * 8) s1 ∧ frm (fun k => 106 ≤ k ∧ k < 106 + 8) s s1 ∧ ∀ r, r < 8 → tr8 (s1.1 (106 + r)) (rwN 2 3 B (800 + 96 * r))
  | 0, i, pz, s, hi, hz, _, h => by
    obtain rfl : i = 8 := by omega
    subst hz
    exact ⟨s, by rw [F_DA_readSecret_2_L1], frm_rf, h⟩
  | m + 1, i, pz, s, hi, hz, hB, h => by
    have hU : F_DA_readSecret_2_L1 psk (m + 1) i pz s = F_DA_readSecret_2_L1 psk m (i + 1) (pz + 96) (F_RG_transform_8 (106 + i) (F_DA_readFlipped (106 + i) 3 (nI 2) psk 4896 pz s)) := by
      rw [F_DA_readSecret_2_L1]
      repeat rw [bnd_eq]
    obtain ⟨a1, a2⟩ := P_rdT (pf := 106 + i) (b := 3) (T := 2) (pr_ := psk) (n := 4896) (at_ := pz) (s := s) (by omega) (by decide) (by decide) (by decide)
    generalize F_RG_transform_8 (106 + i) (F_DA_readFlipped (106 + i) 3 (nI 2) psk 4896 pz s) = s1 at a1 a2 hU
    rw [hB, hz] at a2
    obtain ⟨s2, b1, b2, b3⟩ := rpL1_2 (B := B) hp m (i + 1) (pz + 96) s1 (by omega) (by omega) (by rw [a1.1 psk (by omega)]; exact hB) (fun r hr => by
      by_cases w : r = i
      · subst w
        exact a2
      · rw [a1.1 _ (by omega)]
        exact h r (by omega))
    exact ⟨s2, hU.trans b1, fun k hk => by rw [b2 k hk, a1.1 k (by omega)], b3⟩
theorem rpL0_2 {psk : Nat} {B : Nat → Int32} (hp : ¬ (41 ≤ psk ∧ psk ≤ 147)) : ∀ (m i pz : Nat) (s : Sto), i + m = 7 → pz = 128 + 96 * i → s.1 psk = B → (∀ r, r < i → tr8 (s.1 (98 + r)) (rwN 2 3 B (128 + 96 * r))) →
    ∃ s1, F_DA_readSecret_2_L0 psk m i pz s = F_DA_readSecret_2_L1 psk 8 0 (128 + 96 * 7) s1 ∧ frm (fun k => 98 ≤ k ∧ k < 98 + 7) s s1 ∧ ∀ r, r < 7 → tr8 (s1.1 (98 + r)) (rwN 2 3 B (128 + 96 * r))
  | 0, i, pz, s, hi, hz, _, h => by
    obtain rfl : i = 7 := by omega
    subst hz
    exact ⟨s, by rw [F_DA_readSecret_2_L0], frm_rf, h⟩
  | m + 1, i, pz, s, hi, hz, hB, h => by
    have hU : F_DA_readSecret_2_L0 psk (m + 1) i pz s = F_DA_readSecret_2_L0 psk m (i + 1) (pz + 96) (F_RG_transform_8 (98 + i) (F_DA_readFlipped (98 + i) 3 (nI 2) psk 4896 pz s)) := by
      rw [F_DA_readSecret_2_L0]
      repeat rw [bnd_eq]
    obtain ⟨a1, a2⟩ := P_rdT (pf := 98 + i) (b := 3) (T := 2) (pr_ := psk) (n := 4896) (at_ := pz) (s := s) (by omega) (by decide) (by decide) (by decide)
    generalize F_RG_transform_8 (98 + i) (F_DA_readFlipped (98 + i) 3 (nI 2) psk 4896 pz s) = s1 at a1 a2 hU
    rw [hB, hz] at a2
    obtain ⟨s2, b1, b2, b3⟩ := rpL0_2 (B := B) hp m (i + 1) (pz + 96) s1 (by omega) (by omega) (by rw [a1.1 psk (by omega)]; exact hB) (fun r hr => by
      by_cases w : r = i
      · subst w
        exact a2
      · rw [a1.1 _ (by omega)]
        exact h r (by omega))
    exact ⟨s2, hU.trans b1, fun k hk => by rw [b2 k hk, a1.1 k (by omega)], b3⟩
/-- the secret part's vectors, read by the program, set 2 -/
theorem rsec2 {psk : Nat} {s : Sto} (hp : ¬ (16 ≤ psk ∧ psk ≤ 18) ∧ ¬ (41 ≤ psk ∧ psk ≤ 147)) (e : (F_SA_expandMatrix_2 psk 4896 s).1 psk = s.1 psk) : frm (fun k => 98 ≤ k ∧ k ≤ 122) (F_SA_expandMatrix_2 psk 4896 s) (F_DA_readSecret_2 psk s) ∧ (∀ r, r < 7 → tr8 ((F_DA_readSecret_2 psk s).1 (98 + r)) (rwN 2 3 (s.1 psk) (128 + 96 * r))) ∧ (∀ r, r < 8 → tr8 ((F_DA_readSecret_2 psk s).1 (106 + r)) (rwN 2 3 (s.1 psk) (800 + 96 * r))) ∧ ∀ r, r < 8 → tr8 ((F_DA_readSecret_2 psk s).1 (115 + r)) (rwN 4096 13 (s.1 psk) (1568 + 416 * r)) := by
  have hU : F_DA_readSecret_2 psk s = F_DA_readSecret_2_L0 psk 7 0 128 (F_SA_expandMatrix_2 psk 4896 s) := by rw [F_DA_readSecret_2, bnd_eq]
  generalize F_SA_expandMatrix_2 psk 4896 s = s1 at e hU
  obtain ⟨s2, a1, a2, a3⟩ := rpL0_2 (B := s.1 psk) hp.2 7 0 128 s1 (by decide) (by decide) e (fun r hr => absurd hr (Nat.not_lt_zero _))
  obtain ⟨s3, b1, b2, b3⟩ := rpL1_2 (B := s.1 psk) hp.2 8 0 (128 + 96 * 7) s2 (by decide) (by decide) (by rw [a2 psk (by omega)]; exact e) (fun r hr => absurd hr (Nat.not_lt_zero _))
  obtain ⟨s4, c1, c2, c3⟩ := rpL2_2 (B := s.1 psk) hp.2 8 0 (800 + 96 * 8) s3 (by decide) (by decide) (by rw [b2 psk (by omega), a2 psk (by omega)]; exact e) (fun r hr => absurd hr (Nat.not_lt_zero _))
  rw [hU, a1, b1, c1]
  refine ⟨fun k hk => by rw [c2 k (by omega), b2 k (by omega), a2 k (by omega)], fun r hr => ?_, fun r hr => ?_, c3⟩
  · rw [c2 _ (by omega), b2 _ (by omega)]
    exact a3 r hr
  · rw [c2 _ (by omega)]
    exact b3 r hr
/-- the same rows, read by the reference -/
theorem rh32 {psk r az q : Nat} {kk : Nat → Nat → Sto → Sto} {t : Sto} (hp : ¬ (225 ≤ psk ∧ psk ≤ 378)) (hr : r < 15) (hq : (7 ≤ r ∧ q = 300 + (r - 7)) ∨ (¬ 7 ≤ r ∧ q = 292 + r)) (ha : az = 8 * (128 + 96 * r)) : ∃ t1, F_MH_readHidden_2_L3 psk r kk 256 0 az t = kk (r + 1) (az + 768) t1 ∧ onl q t t1 ∧ ∀ k, k < 256 → t1.1 q k = rwN 2 3 (t.1 psk) (128 + 96 * r) k := by
  obtain ⟨t1, a1, a2, a3⟩ := rd_loop (pr_ := psk) (b := 3) (T := 2) (at_ := 128 + 96 * r) (qf := q) (G := fun n i s => F_MH_readHidden_2_L3 psk r kk n i (8 * (128 + 96 * r) + 3 * i) s) (K := fun s => kk (r + 1) (8 * (128 + 96 * r) + 3 * 256) s) (by omega) (by decide) (by decide) (fun s => by
    show F_MH_readHidden_2_L3 psk r kk 0 256 (8 * (128 + 96 * r) + 3 * 256) s = _
    rw [F_MH_readHidden_2_L3]) (fun n i s hi => by
    show F_MH_readHidden_2_L3 psk r kk (n + 1) i (8 * (128 + 96 * r) + 3 * i) s = F_MH_readHidden_2_L3 psk r kk n (i + 1) (8 * (128 + 96 * r) + 3 * (i + 1)) _
    rw [show 8 * (128 + 96 * r) + 3 * (i + 1) = 8 * (128 + 96 * r) + 3 * i + 3 by omega]
    generalize 8 * (128 + 96 * r) + 3 * i = z
    rw [F_MH_readHidden_2_L3]
    repeat rw [bnd_eq]
    rw [Q_unpack (by decide)]
    dsimp only
    rw [Q_minus]
    dsimp only
    rcases hq with ⟨q1, q2⟩ | ⟨q1, q2⟩
    · rw [if_pos q1, q2]
    · rw [if_neg q1, q2]) t
  have a1' : F_MH_readHidden_2_L3 psk r kk 256 0 (8 * (128 + 96 * r) + 3 * 0) t = kk (r + 1) (8 * (128 + 96 * r) + 3 * 256) t1 := a1
  rw [show 8 * (128 + 96 * r) + 3 * 0 = az by omega, show 8 * (128 + 96 * r) + 3 * 256 = az + 768 by omega] at a1'
  exact ⟨t1, a1', a2, a3⟩
theorem rh02 {psk : Nat} {B : Nat → Int32} (hp : ¬ (225 ≤ psk ∧ psk ≤ 378)) : ∀ (m i az : Nat) (t : Sto), i + m = 15 → az = 8 * (128 + 96 * i) → t.1 psk = B → (∀ r, r < 7 → r < i → ∀ k, k < 256 → t.1 (292 + r) k = rwN 2 3 B (128 + 96 * r) k) → (∀ r, r < 8 → 7 + r < i → ∀ k, k < 256 → t.1 (300 + r) k = rwN 2 3 B (800 + 96 * r) k) →
    ∃ t1, F_MH_readHidden_2_L0 psk m i az t = F_MH_readHidden_2_L1 psk 8 0 (8 * 1568) t1 ∧ frm (fun k => 292 ≤ k ∧ k ≤ 307) t t1 ∧ (∀ r, r < 7 → ∀ k, k < 256 → t1.1 (292 + r) k = rwN 2 3 B (128 + 96 * r) k) ∧ ∀ r, r < 8 → ∀ k, k < 256 → t1.1 (300 + r) k = rwN 2 3 B (800 + 96 * r) k
  | 0, i, az, t, hi, ha, _, h1, h2 => by
    obtain rfl : i = 15 := by omega
    exact ⟨t, by rw [F_MH_readHidden_2_L0, bnd_eq, bnd_eq, show az = 8 * 1568 by omega], frm_rf, fun r hr => h1 r hr (by omega), fun r hr => h2 r hr (by omega)⟩
  | m + 1, i, az, t, hi, ha, hB, h1, h2 => by
    have hV : F_MH_readHidden_2_L0 psk (m + 1) i az t = F_MH_readHidden_2_L3 psk i (F_MH_readHidden_2_L0 psk m) 256 0 az t := by rw [F_MH_readHidden_2_L0, bnd_eq, bnd_eq]
    by_cases q : 7 ≤ i
    · obtain ⟨t1, a1, a2, a3⟩ := rh32 (q := 300 + (i - 7)) (kk := F_MH_readHidden_2_L0 psk m) (t := t) hp (by omega) (Or.inl ⟨q, rfl⟩) ha
      rw [hB, show 128 + 96 * i = 800 + 96 * (i - 7) by omega] at a3
      obtain ⟨t2, b1, b2, b3⟩ := rh02 (B := B) hp m (i + 1) (az + 768) t1 (by omega) (by omega) (by rw [a2.1 psk (by omega)]; exact hB) (fun r hr hr2 k hk => by rw [a2.1 _ (by omega)]; exact h1 r hr (by omega) k hk) (fun r hr hr2 k hk => by
        by_cases w : 7 + r = i
        · rw [show r = i - 7 by omega]
          exact a3 k hk
        · rw [a2.1 _ (by omega)]
          exact h2 r hr (by omega) k hk)
      exact ⟨t2, (hV.trans a1).trans b1, fun k hk => by rw [b2 k hk, a2.1 k (by omega)], b3⟩
    · obtain ⟨t1, a1, a2, a3⟩ := rh32 (q := 292 + i) (kk := F_MH_readHidden_2_L0 psk m) (t := t) hp (by omega) (Or.inr ⟨q, rfl⟩) ha
      rw [hB] at a3
      obtain ⟨t2, b1, b2, b3⟩ := rh02 (B := B) hp m (i + 1) (az + 768) t1 (by omega) (by omega) (by rw [a2.1 psk (by omega)]; exact hB) (fun r hr hr2 k hk => by
        by_cases w : r = i
        · subst w
          exact a3 k hk
        · rw [a2.1 _ (by omega)]
          exact h1 r hr (by omega) k hk) (fun r hr hr2 k hk => by omega)
      exact ⟨t2, (hV.trans a1).trans b1, fun k hk => by rw [b2 k hk, a2.1 k (by omega)], b3⟩
theorem rh12 {psk : Nat} {B : Nat → Int32} (hp : ¬ (225 ≤ psk ∧ psk ≤ 378)) : ∀ (m i az : Nat) (t : Sto), i + m = 8 → az = 8 * (1568 + 416 * i) → t.1 psk = B → (∀ r, r < i → ∀ k, k < 256 → t.1 (309 + r) k = rwN 4096 13 B (1568 + 416 * r) k) →
    ∃ t1, F_MH_readHidden_2_L1 psk m i az t = t1 ∧ frm (fun k => 309 ≤ k ∧ k ≤ 316) t t1 ∧ ∀ r, r < 8 → ∀ k, k < 256 → t1.1 (309 + r) k = rwN 4096 13 B (1568 + 416 * r) k
  | 0, i, az, t, hi, _, _, h1 => by
    obtain rfl : i = 8 := by omega
    exact ⟨t, by rw [F_MH_readHidden_2_L1, bnd_eq], frm_rf, h1⟩
  | m + 1, i, az, t, hi, ha, hB, h1 => by
    have hV : F_MH_readHidden_2_L1 psk (m + 1) i az t = F_MH_readHidden_2_L2 psk i (F_MH_readHidden_2_L1 psk m) 256 0 (8 * (1568 + 416 * i) + 13 * 0) t := by rw [F_MH_readHidden_2_L1, bnd_eq, show az = 8 * (1568 + 416 * i) + 13 * 0 by omega]
    obtain ⟨t1, a1, a2, a3⟩ := rd_loop (pr_ := psk) (b := 13) (T := 4096) (at_ := 1568 + 416 * i) (qf := 309 + i) (G := fun n k s => F_MH_readHidden_2_L2 psk i (F_MH_readHidden_2_L1 psk m) n k (8 * (1568 + 416 * i) + 13 * k) s) (K := fun s => F_MH_readHidden_2_L1 psk m (i + 1) (8 * (1568 + 416 * i) + 13 * 256) s) (by omega) (by decide) (by decide) (fun s => by
      show F_MH_readHidden_2_L2 psk i (F_MH_readHidden_2_L1 psk m) 0 256 (8 * (1568 + 416 * i) + 13 * 256) s = _
      rw [F_MH_readHidden_2_L2]) (fun n k s hk => by
      show F_MH_readHidden_2_L2 psk i (F_MH_readHidden_2_L1 psk m) (n + 1) k (8 * (1568 + 416 * i) + 13 * k) s = F_MH_readHidden_2_L2 psk i (F_MH_readHidden_2_L1 psk m) n (k + 1) (8 * (1568 + 416 * i) + 13 * (k + 1)) _
      rw [show 8 * (1568 + 416 * i) + 13 * (k + 1) = 8 * (1568 + 416 * i) + 13 * k + 13 by omega]
      generalize 8 * (1568 + 416 * i) + 13 * k = z
      rw [F_MH_readHidden_2_L2]
      repeat rw [bnd_eq]
      rw [Q_unpack (by decide)]
      dsimp only
      rw [Q_minus]) t
    have a1' : F_MH_readHidden_2_L2 psk i (F_MH_readHidden_2_L1 psk m) 256 0 (8 * (1568 + 416 * i) + 13 * 0) t = F_MH_readHidden_2_L1 psk m (i + 1) (8 * (1568 + 416 * i) + 13 * 256) t1 := a1
    rw [hB] at a3
    obtain ⟨t2, b1, b2, b3⟩ := rh12 (B := B) hp m (i + 1) (8 * (1568 + 416 * i) + 13 * 256) t1 (by omega) (by omega) (by rw [a2.1 psk (by omega)]; exact hB) (fun r hr k hk => by
      by_cases w : r = i
      · subst w
        exact a3 k hk
      · rw [a2.1 _ (by omega)]
        exact h1 r (by omega) k hk)
    exact ⟨t2, (hV.trans a1').trans b1, fun k hk => by rw [b2 k hk, a2.1 k (by omega)], b3⟩
/-- the secret part's vectors, read by the reference, set 2 -/
theorem rhid2 {psk : Nat} {t : Sto} (hp : ¬ (225 ≤ psk ∧ psk ≤ 378)) : frm (fun k => 292 ≤ k ∧ k ≤ 316) t (F_MH_readHidden_2 psk t) ∧ (∀ r, r < 7 → ∀ k, k < 256 → (F_MH_readHidden_2 psk t).1 (292 + r) k = rwN 2 3 (t.1 psk) (128 + 96 * r) k) ∧ (∀ r, r < 8 → ∀ k, k < 256 → (F_MH_readHidden_2 psk t).1 (300 + r) k = rwN 2 3 (t.1 psk) (800 + 96 * r) k) ∧ ∀ r, r < 8 → ∀ k, k < 256 → (F_MH_readHidden_2 psk t).1 (309 + r) k = rwN 4096 13 (t.1 psk) (1568 + 416 * r) k := by
  have hV : F_MH_readHidden_2 psk t = F_MH_readHidden_2_L0 psk 15 0 1024 t := by rw [F_MH_readHidden_2, bnd_eq]
  obtain ⟨t1, a1, a2, a3, a4⟩ := rh02 (B := t.1 psk) hp 15 0 1024 t (by decide) (by decide) rfl (fun r _ hr => absurd hr (Nat.not_lt_zero _)) (fun r _ hr => absurd hr (Nat.not_lt_zero _))
  obtain ⟨t2, b1, b2, b3⟩ := rh12 (B := t.1 psk) hp 8 0 (8 * 1568) t1 (by decide) (by decide) (by rw [a2 psk (by omega)]) (fun r hr => absurd hr (Nat.not_lt_zero _))
  rw [hV, a1, b1]
  refine ⟨fun k hk => by rw [b2 k (by omega), a2 k (by omega)], fun r hr k hk => ?_, fun r hr k hk => ?_, b3⟩
  · rw [b2 _ (by omega)]
    exact a3 r hr k hk
  · rw [b2 _ (by omega)]
    exact a4 r hr k hk
