set_option linter.all false
/-- the reference reads a row of the answer -/
theorem vz72 {pb r : Nat} {kk : Nat → Int32 → Nat → Sto → Int32 × Sto} {ke : Nat → Int32 → Nat → Sto → Prop} {B : Nat → Int32} (hp : ¬ (225 ≤ pb ∧ pb ≤ 378)) (hr : r < 7) : ∀ (m i : Nat) (z : Int32) (t : Sto), i + m = 256 → (z = nI 1 ∨ z = nI 0) → t.1 pb = B → (∀ k, k < i → t.1 (335 + r) k = rwN 524288 20 B (64 + 640 * r) k) →
    ∃ (z1 : Int32) (t1 : Sto), F_MH_verify_2_L7 pb r kk m i z (8 * (64 + 640 * r) + 20 * i) t = kk (r + 1) z1 (8 * (64 + 640 * r) + 20 * 256) t1 ∧ E_MH_verify_2_L7 pb r ke m i z (8 * (64 + 640 * r) + 20 * i) t = ke (r + 1) z1 (8 * (64 + 640 * r) + 20 * 256) t1 ∧ onl (335 + r) t t1 ∧ (∀ k, k < 256 → t1.1 (335 + r) k = rwN 524288 20 B (64 + 640 * r) k) ∧ (z1 = nI 1 ∨ z1 = nI 0) ∧ (z1 = nI 1 ↔ z = nI 1 ∧ ∀ k, i ≤ k → k < 256 → (if vn (rwN 524288 20 B (64 + 640 * r)) k ≤ 4190208 then vn (rwN 524288 20 B (64 + 640 * r)) k else 8380417 - vn (rwN 524288 20 B (64 + 640 * r)) k) < 524168)
  | 0, i, z, t, hi, hz, _, h => by
    obtain rfl : i = 256 := by omega
    exact ⟨z, t, by rw [F_MH_verify_2_L7], by rw [E_MH_verify_2_L7], onl_rf, h, hz, fun g => ⟨g, fun k h1 h2 => by omega⟩, fun g => g.1⟩
  | m + 1, i, z, t, hi, hz, hB, h => by
    have hv : (8380417 + 524288 - bv (rb B) (8 * (64 + 640 * r) + 20 * i) 20) % 8380417 < 8380417 := Nat.mod_lt _ (by decide)
    have ev := rwN_v (T := 524288) (b := 20) (at_ := 64 + 640 * r) (k := i) (B := B)
    have eN : rwN 524288 20 B (64 + 640 * r) i = nI ((8380417 + 524288 - bv (rb B) (8 * (64 + 640 * r) + 20 * i) 20) % 8380417) := rfl
    have q0 := tk_R (T := 524288) (by decide) (bv_q (B := B) (P := 8 * (64 + 640 * r) + 20 * i) (b := 20) (by decide))
    generalize (8380417 + 524288 - bv (rb B) (8 * (64 + 640 * r) + 20 * i) 20) % 8380417 = v at hv ev eN q0
    have o1 : onl (335 + r) t (sI t (335 + r) i (nI v)) := onl_sI
    have r1 : (sI t (335 + r) i (nI v)).1 (335 + r) = upd (t.1 (335 + r)) i (nI v) := sI_row
    have ea : 8 * (64 + 640 * r) + 20 * (i + 1) = 8 * (64 + 640 * r) + 20 * i + 20 := by omega
    have hw : (if v ≤ 4190208 then v else 8380417 - v) < 2 ^ 31 := by
      split <;> omega
    have hU : F_MH_verify_2_L7 pb r kk (m + 1) i z (8 * (64 + 640 * r) + 20 * i) t = if nI 524168 ≤ nI (if v ≤ 4190208 then v else 8380417 - v) then F_MH_verify_2_L7 pb r kk m (i + 1) (z &&& nI 0) (8 * (64 + 640 * r) + 20 * (i + 1)) (sI t (335 + r) i (nI v)) else F_MH_verify_2_L7 pb r kk m (i + 1) (z &&& nI 1) (8 * (64 + 640 * r) + 20 * (i + 1)) (sI t (335 + r) i (nI v)) := by
      rw [ea, F_MH_verify_2_L7, bnd_eq, Q_unpack (by decide), hB, bnd_eq]
      dsimp only
      rw [Q_minus, q0, bnd_eq]
      dsimp only
      rw [bnd_eq, sI_at, Q_norm hv]
      repeat rw [bnd_eq]
    have hW : E_MH_verify_2_L7 pb r ke (m + 1) i z (8 * (64 + 640 * r) + 20 * i) t = if nI 524168 ≤ nI (if v ≤ 4190208 then v else 8380417 - v) then E_MH_verify_2_L7 pb r ke m (i + 1) (z &&& nI 0) (8 * (64 + 640 * r) + 20 * (i + 1)) (sI t (335 + r) i (nI v)) else E_MH_verify_2_L7 pb r ke m (i + 1) (z &&& nI 1) (8 * (64 + 640 * r) + 20 * (i + 1)) (sI t (335 + r) i (nI v)) := by
      rw [ea, E_MH_verify_2_L7, bnd_eq, Q_unpack (by decide), hB, bnd_eq]
      dsimp only
      rw [Q_minus, q0, bnd_eq]
      dsimp only
      rw [bnd_eq, sI_at, Q_norm hv]
      repeat rw [bnd_eq]
    generalize sI t (335 + r) i (nI v) = t0 at o1 r1 hU hW
    have hrow : ∀ k, k < i + 1 → t0.1 (335 + r) k = rwN 524288 20 B (64 + 640 * r) k := fun k hk => by
      rw [r1]
      by_cases w : k = i
      · subst w
        rw [upd_s, eN]
      · rw [upd_n w]
        exact h k (by omega)
    obtain ⟨g1, g2⟩ := fl_and hz
    by_cases q : 524168 ≤ (if v ≤ 4190208 then v else 8380417 - v)
    · rw [if_pos ((nI_leI (by decide) hw).mpr q), g2] at hU hW
      obtain ⟨z1, t1, a1, a2, a3, a4, a5, a6⟩ := vz72 (kk := kk) (ke := ke) (B := B) hp hr m (i + 1) (nI 0) t0 (by omega) (Or.inr rfl) (by rw [o1.1 pb (by omega)]; exact hB) hrow
      refine ⟨z1, t1, hU.trans a1, hW.trans a2, onl_tr o1 a3, a4, a5, a6.trans ⟨fun g => absurd g.1 (by decide), fun g => absurd (g.2 i (Nat.le_refl _) (by omega)) (by rw [ev]; omega)⟩⟩
    · rw [if_neg (fun c => q ((nI_leI (by decide) hw).mp c)), g1] at hU hW
      obtain ⟨z1, t1, a1, a2, a3, a4, a5, a6⟩ := vz72 (kk := kk) (ke := ke) (B := B) hp hr m (i + 1) z t0 (by omega) hz (by rw [o1.1 pb (by omega)]; exact hB) hrow
      refine ⟨z1, t1, hU.trans a1, hW.trans a2, onl_tr o1 a3, a4, a5, a6.trans ⟨fun g => ⟨g.1, fun k h1 h2 => ?_⟩, fun g => ⟨g.1, fun k h1 h2 => g.2 k (by omega) h2⟩⟩⟩
      by_cases w : k = i
      · subst w
        rw [ev]
        omega
      · exact g.2 k (by omega) h2
theorem vz12 {pp pb ed : Nat} {cl_ : Int32} {B : Nat → Int32} (hp : ¬ (225 ≤ pb ∧ pb ≤ 378)) : ∀ (m i : Nat) (z : Int32) (az : Nat) (t : Sto), i + m = 7 → az = 8 * (64 + 640 * i) → (z = nI 1 ∨ z = nI 0) → t.1 pb = B → (∀ x, x < i → ∀ k, k < 256 → t.1 (335 + x) k = rwN 524288 20 B (64 + 640 * x) k) →
    ∃ (z1 : Int32) (t1 : Sto), F_MH_verify_2_L1 pp pb cl_ ed m i z az t = F_MH_verify_2_L1 pp pb cl_ ed 0 7 z1 (8 * 4544) t1 ∧ E_MH_verify_2_L1 pp pb cl_ ed m i z az t = E_MH_verify_2_L1 pp pb cl_ ed 0 7 z1 (8 * 4544) t1 ∧ frm (fun k => 335 ≤ k ∧ k ≤ 341) t t1 ∧ (∀ x, x < 7 → ∀ k, k < 256 → t1.1 (335 + x) k = rwN 524288 20 B (64 + 640 * x) k) ∧ (z1 = nI 1 ∨ z1 = nI 0) ∧ (z1 = nI 1 ↔ z = nI 1 ∧ ∀ x, i ≤ x → x < 7 → shr 524168 (rwN 524288 20 B (64 + 640 * x)))
  | 0, i, z, az, t, hi, ha, hz, _, h => by
    obtain rfl : i = 7 := by omega
    obtain rfl : az = 8 * 4544 := by omega
    exact ⟨z, t, rfl, rfl, frm_rf, h, hz, fun g => ⟨g, fun x h1 h2 => by omega⟩, fun g => g.1⟩
  | m + 1, i, z, az, t, hi, ha, hz, hB, h => by
    have hV : F_MH_verify_2_L1 pp pb cl_ ed (m + 1) i z az t = F_MH_verify_2_L7 pb i (F_MH_verify_2_L1 pp pb cl_ ed m) 256 0 z (8 * (64 + 640 * i) + 20 * 0) t := by rw [F_MH_verify_2_L1, bnd_eq, show az = 8 * (64 + 640 * i) + 20 * 0 by omega]
    have hW : E_MH_verify_2_L1 pp pb cl_ ed (m + 1) i z az t = E_MH_verify_2_L7 pb i (E_MH_verify_2_L1 pp pb cl_ ed m) 256 0 z (8 * (64 + 640 * i) + 20 * 0) t := by rw [E_MH_verify_2_L1, bnd_eq, show az = 8 * (64 + 640 * i) + 20 * 0 by omega]
    obtain ⟨z1, t1, a1, a2, a3, a4, a5, a6⟩ := vz72 (r := i) (kk := F_MH_verify_2_L1 pp pb cl_ ed m) (ke := E_MH_verify_2_L1 pp pb cl_ ed m) (B := B) hp (by omega) 256 0 z t rfl hz hB (fun k hk => absurd hk (Nat.not_lt_zero _))
    obtain ⟨z2, t2, b1, b2, b3, b4, b5, b6⟩ := vz12 (pp := pp) (ed := ed) (cl_ := cl_) (B := B) hp m (i + 1) z1 (8 * (64 + 640 * i) + 20 * 256) t1 (by omega) (by omega) a5 (by rw [a3.1 pb (by omega)]; exact hB) (fun x hx k hk => by
      by_cases w : x = i
      · subst w
        exact a4 k hk
      · rw [a3.1 _ (by omega)]
        exact h x (by omega) k hk)
    refine ⟨z2, t2, (hV.trans a1).trans b1, (hW.trans a2).trans b2, fun k hk => by rw [b3 k hk, a3.1 k (by omega)], b4, b5, b6.trans ⟨fun g => ⟨(a6.mp g.1).1, fun x h1 h2 => ?_⟩, fun g => ⟨a6.mpr ⟨g.1, fun k _ hk => g.2 i (Nat.le_refl _) (by omega) k hk⟩, fun x h1 h2 => g.2 x (by omega) h2⟩⟩⟩
    by_cases w : x = i
    · subst w
      exact fun k hk => (a6.mp g.1).2 k (Nat.zero_le _) hk
    · exact g.2 x (by omega) h2
/-- the program reads the answer -/
theorem rsg2 {ptp n : Nat} {B : Nat → Int32} (hp : ¬ (41 ≤ ptp ∧ ptp ≤ 147)) : ∀ (m i : Nat) (s : Sto), i + m = 7 → s.1 ptp = B → (∀ x, x < i → ∀ k, k < 256 → s.1 (124 + x) k = rwN 524288 20 B (64 + 640 * x) k) →
    ∃ s1, frm (fun k => 124 ≤ k ∧ k ≤ 130) s s1 ∧ ((∀ x, i ≤ x → x < 7 → shr 524168 (rwN 524288 20 B (64 + 640 * x))) → F_DA_readSignature_2_L0 ptp n m i s = (nI 1, s1) ∧ ∀ x, x < 7 → ∀ k, k < 256 → s1.1 (124 + x) k = rwN 524288 20 B (64 + 640 * x) k) ∧ ((¬ ∀ x, i ≤ x → x < 7 → shr 524168 (rwN 524288 20 B (64 + 640 * x))) → F_DA_readSignature_2_L0 ptp n m i s = (nI 0, s1))
  | 0, i, s, hi, _, h => by
    obtain rfl : i = 7 := by omega
    exact ⟨s, frm_rf, fun _ => ⟨by rw [F_DA_readSignature_2_L0], h⟩, fun g => absurd (fun x h1 h2 => by omega) g⟩
  | m + 1, i, s, hi, hB, h => by
    have hU : F_DA_readSignature_2_L0 ptp n (m + 1) i s = if (F_RG_isShort_8 (124 + i) (nI 524168) (F_DA_readFlipped (124 + i) 20 (nI 524288) ptp n (64 + 640 * i) s)).1 = 0 then (nI 0, (F_RG_isShort_8 (124 + i) (nI 524168) (F_DA_readFlipped (124 + i) 20 (nI 524288) ptp n (64 + 640 * i) s)).2) else F_DA_readSignature_2_L0 ptp n m (i + 1) (F_RG_isShort_8 (124 + i) (nI 524168) (F_DA_readFlipped (124 + i) 20 (nI 524288) ptp n (64 + 640 * i) s)).2 := by
      rw [F_DA_readSignature_2_L0]
      repeat rw [bnd_eq]
    obtain ⟨a1, a2⟩ := P_readFl (pf := 124 + i) (b := 20) (T := 524288) (pr_ := ptp) (n := n) (at_ := 64 + 640 * i) (s := s) (by omega) (by decide) (by decide) (by decide)
    rw [hB] at a2
    generalize F_DA_readFlipped (124 + i) 20 (nI 524288) ptp n (64 + 640 * i) s = s0 at a1 a2 hU
    have hr : rdc 8380417 (s0.1 (124 + i)) := fun k hk => ⟨_, Nat.mod_lt _ (by decide), a2 k hk⟩
    obtain ⟨c1, c2⟩ := P_isShortL (pf := 124 + i) (B := 524168) (s := s0) (by decide) hr 256 0 rfl
    rw [← F_RG_isShort_8] at c1 c2
    have e : (∀ k, 0 ≤ k → k < 256 → (if vn (s0.1 (124 + i)) k ≤ 4190208 then vn (s0.1 (124 + i)) k else 8380417 - vn (s0.1 (124 + i)) k) < 524168) ↔ shr 524168 (rwN 524288 20 B (64 + 640 * i)) := ⟨fun g => shr_c (r := s0.1 (124 + i)) (fun k hk => g k (Nat.zero_le _) hk) a2, fun g k _ hk => shr_c g (fun k hk => (a2 k hk).symm) k hk⟩
    by_cases q : shr 524168 (rwN 524288 20 B (64 + 640 * i))
    · rw [c1 (e.mpr q)] at hU
      have hU' : F_DA_readSignature_2_L0 ptp n (m + 1) i s = F_DA_readSignature_2_L0 ptp n m (i + 1) s0 := hU.trans (if_neg (show ¬ nI 1 = 0 by decide))
      obtain ⟨s1, d1, d2, d3⟩ := rsg2 (n := n) (B := B) hp m (i + 1) s0 (by omega) (by rw [a1.1 ptp (by omega)]; exact hB) (fun x hx k hk => by
        by_cases w : x = i
        · subst w
          exact a2 k hk
        · rw [a1.1 _ (by omega)]
          exact h x (by omega) k hk)
      rw [hU']
      refine ⟨s1, fun k hk => by rw [d1 k hk, a1.1 k (by omega)], fun g => d2 fun x h1 h2 => g x (by omega) h2, fun g => d3 fun g2 => g fun x h1 h2 => ?_⟩
      by_cases w : x = i
      · subst w
        exact q
      · exact g2 x (by omega) h2
    · rw [c2 (fun g => q (e.mp g))] at hU
      have hU' : F_DA_readSignature_2_L0 ptp n (m + 1) i s = (nI 0, s0) := hU.trans (if_pos (show nI 0 = 0 by decide))
      rw [hU']
      exact ⟨s0, fun k hk => a1.1 k (by omega), fun g => absurd (g i (Nat.le_refl _) (by omega)) q, fun _ => rfl⟩
/-- the program looks at the hints: set 2 -/
theorem hf22 {r z : Nat} {kk : Nat → Nat → Sto → Int32 × Sto} {s : Sto} : ∀ (n j : Nat), ((∀ k, j ≤ k → k < j + n → u8 (s.1 146 (k - 1)) < u8 (s.1 146 k)) → F_DA_hintsAreInForm_2_L2 r z kk n j s = kk (r + 1) z s) ∧ ((¬ ∀ k, j ≤ k → k < j + n → u8 (s.1 146 (k - 1)) < u8 (s.1 146 k)) → F_DA_hintsAreInForm_2_L2 r z kk n j s = (nI 0, s))
  | 0, j => ⟨fun _ => by rw [F_DA_hintsAreInForm_2_L2], fun h => absurd (fun k h1 h2 => by omega) h⟩
  | n + 1, j => by
    obtain ⟨a, b⟩ := hf22 (r := r) (z := z) (kk := kk) (s := s) n (j + 1)
    have l1 := u8_lt (s.1 146 (j - 1))
    have l2 := u8_lt (s.1 146 j)
    have hc : (s.1 146 (j - 1) &&& nI 255 < s.1 146 j &&& nI 255) ↔ u8 (s.1 146 (j - 1)) < u8 (s.1 146 j) := by
      rw [u8_and, u8_and]
      exact nI_ltI (by omega) (by omega)
    by_cases q : u8 (s.1 146 (j - 1)) < u8 (s.1 146 j)
    · have hU : F_DA_hintsAreInForm_2_L2 r z kk (n + 1) j s = F_DA_hintsAreInForm_2_L2 r z kk n (j + 1) s := by rw [F_DA_hintsAreInForm_2_L2, if_pos (hc.mpr q)]
      rw [hU]
      refine ⟨fun h => a fun k h1 h2 => h k (by omega) (by omega), fun h => b fun g => h fun k h1 h2 => ?_⟩
      by_cases w : k = j
      · subst w
        exact q
      · exact g k (by omega) (by omega)
    · have hU : F_DA_hintsAreInForm_2_L2 r z kk (n + 1) j s = (nI 0, s) := by rw [F_DA_hintsAreInForm_2_L2, if_neg (fun c => q (hc.mp c))]
      rw [hU]
      exact ⟨fun h => absurd (h j (Nat.le_refl _) (by omega)) q, fun _ => rfl⟩
/-- the reference reads a row of hints: set 2 -/
theorem hg32 {pb r my z : Nat} {kk : Nat → Nat → Sto → Int32 × Sto} {A : Nat → Int32} (hp : ¬ (225 ≤ pb ∧ pb ≤ 378)) (hr : r < 8) : ∀ (n j : Nat) (t : Sto), my ≤ j → (∀ x, t.1 pb (4544 + x) = A x) →
    ∃ t1, onl (360 + r) t t1 ∧ ((∀ k, j ≤ k → my < k → k < j + n → u8 (A (k - 1)) < u8 (A k)) → F_MH_readHints_2_L3 pb 4544 r my z kk n j t = kk (r + 1) z t1 ∧ t1.1 (360 + r) = setH A n j (t.1 (360 + r))) ∧ ((¬ ∀ k, j ≤ k → my < k → k < j + n → u8 (A (k - 1)) < u8 (A k)) → F_MH_readHints_2_L3 pb 4544 r my z kk n j t = (nI 0, t1))
  | 0, j, t, _, _ => ⟨t, onl_rf, fun _ => ⟨by rw [F_MH_readHints_2_L3], rfl⟩, fun h => absurd (fun k h1 h2 h3 => by omega) h⟩
  | n + 1, j, t, hj, hA => by
    have l1 := u8_lt (A (j - 1))
    have l2 := u8_lt (A j)
    have e1 : (t.1 pb (4544 + j) &&& nI 255).toNatClampNeg = u8 (A j) := by
      rw [hA, u8_and]
      exact nI_clamp (by omega)
    have o1 : onl (360 + r) t (sI t (360 + r) (u8 (A j)) (nI 1)) := onl_sI
    have r1 : (sI t (360 + r) (u8 (A j)) (nI 1)).1 (360 + r) = upd (t.1 (360 + r)) (u8 (A j)) (nI 1) := sI_row
    by_cases q : j ≤ my ∨ u8 (A (j - 1)) < u8 (A j)
    · have hU : F_MH_readHints_2_L3 pb 4544 r my z kk (n + 1) j t = F_MH_readHints_2_L3 pb 4544 r my z kk n (j + 1) (sI t (360 + r) (u8 (A j)) (nI 1)) := by
        rw [F_MH_readHints_2_L3, e1, bnd_eq]
        by_cases w : j ≤ my
        · rw [if_pos w, bnd_eq]
        · have e2 : (t.1 pb (4544 + j - 1) &&& nI 255).toNatClampNeg = u8 (A (j - 1)) := by
            rw [show 4544 + j - 1 = 4544 + (j - 1) by omega, hA, u8_and]
            exact nI_clamp (by omega)
          rw [if_neg w, e2, bnd_eq, if_pos (q.resolve_left w), bnd_eq]
      generalize sI t (360 + r) (u8 (A j)) (nI 1) = t0 at hU o1 r1
      obtain ⟨t1, a1, a2, a3⟩ := hg32 (my := my) (z := z) (kk := kk) (A := A) hp hr n (j + 1) t0 (by omega) (fun x => by rw [o1.1 pb (by omega)]; exact hA x)
      rw [hU]
      refine ⟨t1, onl_tr o1 a1, fun h => ?_, fun h => a3 fun g => h fun k h1 h2 h3 => ?_⟩
      · obtain ⟨b1, b2⟩ := a2 fun k h1 h2 h3 => h k (by omega) h2 (by omega)
        exact ⟨b1, by rw [b2, r1, setH]⟩
      · by_cases w : k = j
        · subst w
          exact q.resolve_left (by omega)
        · exact g k (by omega) h2 (by omega)
    · have w : ¬ j ≤ my := fun w => q (Or.inl w)
      have hU : F_MH_readHints_2_L3 pb 4544 r my z kk (n + 1) j t = (nI 0, t) := by
        have e2 : (t.1 pb (4544 + j - 1) &&& nI 255).toNatClampNeg = u8 (A (j - 1)) := by
          rw [show 4544 + j - 1 = 4544 + (j - 1) by omega, hA, u8_and]
          exact nI_clamp (by omega)
        rw [F_MH_readHints_2_L3, e1, bnd_eq, if_neg w, e2, bnd_eq, if_neg (fun c => q (Or.inr c))]
      rw [hU]
      exact ⟨t, onl_rf, fun h => absurd (Or.inr (h j (Nat.le_refl _) (by omega) (by omega))) q, fun _ => rfl⟩
theorem hg22 {pb r my : Nat} {kk : Nat → Nat → Sto → Int32 × Sto} (hr : r < 8) : ∀ (n j : Nat) (t : Sto), j + n = 256 → (∀ k, k < j → t.1 (360 + r) k = nI 0) → ∃ t1, F_MH_readHints_2_L2 pb 4544 r my kk n j t = F_MH_readHints_2_L2 pb 4544 r my kk 0 256 t1 ∧ onl (360 + r) t t1 ∧ ∀ k, k < 256 → t1.1 (360 + r) k = nI 0
  | 0, j, t, hj, h => by
    obtain rfl : j = 256 := by omega
    exact ⟨t, rfl, onl_rf, h⟩
  | n + 1, j, t, hj, h => by
    have hU : F_MH_readHints_2_L2 pb 4544 r my kk (n + 1) j t = F_MH_readHints_2_L2 pb 4544 r my kk n (j + 1) (sI t (360 + r) j (nI 0)) := by rw [F_MH_readHints_2_L2, bnd_eq]
    have o1 : onl (360 + r) t (sI t (360 + r) j (nI 0)) := onl_sI
    have r1 : (sI t (360 + r) j (nI 0)).1 (360 + r) = upd (t.1 (360 + r)) j (nI 0) := sI_row
    generalize sI t (360 + r) j (nI 0) = t0 at hU o1 r1
    obtain ⟨t1, a1, a2, a3⟩ := hg22 (pb := pb) (my := my) (kk := kk) hr n (j + 1) t0 (by omega) (fun k hk => by
      rw [r1]
      by_cases w : k = j
      · subst w
        rw [upd_s]
      · rw [upd_n w]
        exact h k (by omega))
    exact ⟨t1, hU.trans a1, onl_tr o1 a2, a3⟩
/-- what stands behind the hints must be zero: both sides -/
theorem hz12 {pb : Nat} {s t : Sto} (hA : ∀ x, x < 75 → s.1 146 x = t.1 pb (4544 + x)) : ∀ (n j : Nat), j + n = 75 → ∃ z : Int32, (z = nI 1 ∨ z = nI 0) ∧ F_DA_hintsAreInForm_2_L1 n j s = (z, s) ∧ F_MH_readHints_2_L1 pb 4544 n j t = (z, t)
  | 0, j, _ => ⟨nI 1, Or.inl rfl, by rw [F_DA_hintsAreInForm_2_L1], by rw [F_MH_readHints_2_L1, bnd_eq]⟩
  | n + 1, j, hj => by
    obtain ⟨z, h0, h1, h2⟩ := hz12 (pb := pb) hA n (j + 1) (by omega)
    by_cases q : s.1 146 j = 0
    · refine ⟨z, h0, ?_, ?_⟩
      · rw [F_DA_hintsAreInForm_2_L1, if_pos q]
        exact h1
      · rw [F_MH_readHints_2_L1, bnd_eq, if_pos (by rw [← hA j (by omega)]; exact q)]
        exact h2
    · refine ⟨nI 0, Or.inr rfl, ?_, ?_⟩
      · rw [F_DA_hintsAreInForm_2_L1, if_neg q]
      · rw [F_MH_readHints_2_L1, bnd_eq, if_neg (by rw [← hA j (by omega)]; exact q)]
/-- the ends of the rows of hints -/
def hen2 (A : Nat → Int32) (r : Nat) : Nat := u8 (A (75 + r))
/-- the hints' form: both sides, set 2 -/
theorem hf02 {pb : Nat} {A : Nat → Int32} {s : Sto} (hp : ¬ (225 ≤ pb ∧ pb ≤ 378)) (hS : ∀ x, x < 83 → s.1 146 x = A x) : ∀ (m i f : Nat) (t : Sto), i + m = 8 → f ≤ 75 → (∀ x, t.1 pb (4544 + x) = A x) →
    ∃ t1, frm (fun k => 360 + i ≤ k ∧ k ≤ 367) t t1 ∧ ((F_DA_hintsAreInForm_2_L0 m i f s = (nI 1, s) ∧ F_MH_readHints_2_L0 pb 4544 m i f t = (nI 1, t1) ∧ ∃ EN : Nat → Nat, (∀ x, i ≤ x → x < 8 → EN (x + 1) = hen2 A x ∧ EN x ≤ EN (x + 1) ∧ EN (x + 1) ≤ 75) ∧ EN i = f ∧ ∀ x, i ≤ x → x < 8 → ∃ r0 : Nat → Int32, (∀ k, k < 256 → r0 k = nI 0) ∧ t1.1 (360 + x) = setH A (EN (x + 1) - EN x) (EN x) r0) ∨ (F_DA_hintsAreInForm_2_L0 m i f s = (nI 0, s) ∧ F_MH_readHints_2_L0 pb 4544 m i f t = (nI 0, t1)))
  | 0, i, f, t, hi, hf, hA => by
    obtain rfl : i = 8 := by omega
    obtain ⟨z, h0, h1, h2⟩ := hz12 (pb := pb) (s := s) (t := t) (fun x hx => by rw [hS x (by omega), hA]) (75 - f) f (by omega)
    have e1 : F_DA_hintsAreInForm_2_L0 0 8 f s = (z, s) := by rw [F_DA_hintsAreInForm_2_L0]; exact h1
    have e2 : F_MH_readHints_2_L0 pb 4544 0 8 f t = (z, t) := by rw [F_MH_readHints_2_L0, bnd_eq]; exact h2
    rcases h0 with rfl | rfl
    · exact ⟨t, frm_rf, Or.inl ⟨e1, e2, fun _ => f, fun x h1 h2 => by omega, rfl, fun x h1 h2 => by omega⟩⟩
    · exact ⟨t, frm_rf, Or.inr ⟨e1, e2⟩⟩
  | m + 1, i, f, t, hi, hf, hA => by
    have lz := u8_lt (A (75 + i))
    have ez : (s.1 146 (75 + i) &&& nI 255).toNatClampNeg = hen2 A i := by
      rw [hS _ (by omega), u8_and]
      exact nI_clamp (by omega)
    have hU : F_DA_hintsAreInForm_2_L0 (m + 1) i f s = if hen2 A i < f then (nI 0, s) else if hen2 A i ≤ 75 then F_DA_hintsAreInForm_2_L2 i (hen2 A i) (F_DA_hintsAreInForm_2_L0 m) (hen2 A i - (f + 1)) (f + 1) s else (nI 0, s) := by rw [F_DA_hintsAreInForm_2_L0, ez, bnd_eq]
    have hV : F_MH_readHints_2_L0 pb 4544 (m + 1) i f t = F_MH_readHints_2_L2 pb 4544 i f (F_MH_readHints_2_L0 pb 4544 m) 256 0 t := by rw [F_MH_readHints_2_L0, bnd_eq]
    obtain ⟨t1, a1, a2, a3⟩ := hg22 (pb := pb) (r := i) (my := f) (kk := F_MH_readHints_2_L0 pb 4544 m) (by omega) 256 0 t rfl (fun k hk => absurd hk (Nat.not_lt_zero _))
    have ez2 : (t1.1 pb (4544 + 75 + i) &&& nI 255).toNatClampNeg = hen2 A i := by
      rw [a2.1 pb (by omega), show 4544 + 75 + i = 4544 + (75 + i) by omega, hA, u8_and]
      exact nI_clamp (by omega)
    have hV2 : F_MH_readHints_2_L2 pb 4544 i f (F_MH_readHints_2_L0 pb 4544 m) 0 256 t1 = if hen2 A i < f then (nI 0, t1) else if hen2 A i ≤ 75 then F_MH_readHints_2_L3 pb 4544 i f (hen2 A i) (F_MH_readHints_2_L0 pb 4544 m) (hen2 A i - f) f t1 else (nI 0, t1) := by
      rw [F_MH_readHints_2_L2, bnd_eq, ez2]
      repeat rw [bnd_eq]
    rw [hV2] at a1
    by_cases q1 : hen2 A i < f
    · rw [if_pos q1] at hU a1
      exact ⟨t1, fun k hk => a2.1 k (by omega), Or.inr ⟨hU, hV.trans a1⟩⟩
    · rw [if_neg q1] at hU a1
      by_cases q2 : hen2 A i ≤ 75
      · rw [if_pos q2] at hU a1
        obtain ⟨b1, b2⟩ := hf22 (r := i) (z := hen2 A i) (kk := F_DA_hintsAreInForm_2_L0 m) (s := s) (hen2 A i - (f + 1)) (f + 1)
        obtain ⟨t2, c1, c2, c3⟩ := hg32 (pb := pb) (r := i) (my := f) (z := hen2 A i) (kk := F_MH_readHints_2_L0 pb 4544 m) (A := A) hp (by omega) (hen2 A i - f) f t1 (Nat.le_refl _) (fun x => by rw [a2.1 pb (by omega)]; exact hA x)
        have ee : (∀ k, f + 1 ≤ k → k < f + 1 + (hen2 A i - (f + 1)) → u8 (s.1 146 (k - 1)) < u8 (s.1 146 k)) ↔ ∀ k, f ≤ k → f < k → k < f + (hen2 A i - f) → u8 (A (k - 1)) < u8 (A k) := by
          constructor
          · intro g k h1 h2 h3
            have := g k (by omega) (by omega)
            rw [hS _ (by omega), hS _ (by omega)] at this
            exact this
          · intro g k h1 h2
            rw [hS _ (by omega), hS _ (by omega)]
            exact g k (by omega) (by omega) (by omega)
        by_cases q3 : ∀ k, f ≤ k → f < k → k < f + (hen2 A i - f) → u8 (A (k - 1)) < u8 (A k)
        · obtain ⟨d1, d2⟩ := c2 q3
          have g : ∀ y, y ≠ 360 + i → t2.1 y = t.1 y := fun y u => by rw [c1.1 y u, a2.1 y u]
          obtain ⟨t3, l1, l2⟩ := hf02 (A := A) (s := s) hp hS m (i + 1) (hen2 A i) t2 (by omega) q2 (fun x => by rw [g pb (by omega)]; exact hA x)
          refine ⟨t3, fun k hk => by rw [l1 k (by omega), g k (by omega)], ?_⟩
          rw [hU, b1 (ee.mpr q3), hV, a1, d1]
          rcases l2 with ⟨n1, n2, EN, n3, n4, n5⟩ | ⟨n1, n2⟩
          · obtain ⟨EX, x1, x2⟩ : ∃ EX : Nat → Nat, EX i = f ∧ ∀ x, x ≠ i → EX x = EN x := ⟨fun x => if x = i then f else EN x, if_pos rfl, fun x hx => if_neg hx⟩
            refine Or.inl ⟨n1, n2, EX, fun x h1 h2 => ?_, x1, fun x h1 h2 => ?_⟩
            · by_cases w : x = i
              · subst w
                rw [x1, x2 (x + 1) (by omega), n4]
                exact ⟨rfl, by omega, q2⟩
              · rw [x2 x w, x2 (x + 1) (by omega)]
                exact n3 x (by omega) h2
            · by_cases w : x = i
              · subst w
                rw [x1, x2 (x + 1) (by omega), n4]
                exact ⟨t1.1 (360 + x), a3, by rw [l1 _ (by omega)]; exact d2⟩
              · rw [x2 x w, x2 (x + 1) (by omega)]
                exact n5 x (by omega) h2
          · exact Or.inr ⟨n1, n2⟩
        · rw [b2 (fun g => q3 (ee.mp g))] at hU
          rw [c3 q3] at a1
          exact ⟨t2, fun k hk => by rw [c1.1 k (by omega), a2.1 k (by omega)], Or.inr ⟨hU, hV.trans a1⟩⟩
      · rw [if_neg q2] at hU a1
        exact ⟨t1, fun k hk => a2.1 k (by omega), Or.inr ⟨hU, hV.trans a1⟩⟩
