set_option linter.all false
/-! ML-DSA: a row of the matrix times a vector -/
def rsN (f : Nat → Nat) : Nat → Nat
  | 0 => 0
  | n + 1 => rsN f n + f n % 8380417
theorem rsN_le {f : Nat → Nat} : ∀ n, rsN f n ≤ n * 8380417
  | 0 => Nat.le_refl _
  | n + 1 => by
    have h1 := rsN_le (f := f) n
    have h2 : f n % 8380417 < 8380417 := Nat.mod_lt _ (by decide)
    show rsN f n + f n % 8380417 ≤ (n + 1) * 8380417
    omega
theorem rsN_cg {f : Nat → Nat} : ∀ n, cg ((8380417 : Nat) : Int) ((rsN f n : Nat) : Int) (sm n fun j => ((f j : Nat) : Int))
  | 0 => cg_of rfl
  | n + 1 => by
    show cg _ ((rsN f n + f n % 8380417 : Nat) : Int) (sm n (fun j => ((f j : Nat) : Int)) + ((f n : Nat) : Int))
    rw [Int.natCast_add]
    exact cg_add (rsN_cg n) (cg_mod _ _)
theorem rsN_ext {f g : Nat → Nat} : ∀ n, (∀ j, j < n → f j = g j) → rsN f n = rsN g n
  | 0, _ => rfl
  | n + 1, h => by
    rw [rsN, rsN, rsN_ext n fun j hj => h j (by omega), h n (by omega)]
/-- one number of the reference's row -/
def rwV (s : Sto) (r l k : Nat) : Int32 := nI (rsN (fun j => vn (s.1 (227 + (8 * r + j))) k * vn (s.1 (343 + j)) k) l % 8380417)
theorem rwV_c {s s1 : Sto} {r l k : Nat} (h1 : ∀ j, j < l → s1.1 (227 + (8 * r + j)) = s.1 (227 + (8 * r + j))) (h2 : ∀ j, j < l → s1.1 (343 + j) = s.1 (343 + j)) : rwV s1 r l k = rwV s r l k := by
  have h : rsN (fun j => vn (s1.1 (227 + (8 * r + j))) k * vn (s1.1 (343 + j)) k) l = rsN (fun j => vn (s.1 (227 + (8 * r + j))) k * vn (s.1 (343 + j)) k) l := rsN_ext l fun j hj => by
    show vn (s1.1 (227 + (8 * r + j))) k * vn (s1.1 (343 + j)) k = vn (s.1 (227 + (8 * r + j))) k * vn (s.1 (343 + j)) k
    rw [h1 j hj, h2 j hj]
  unfold rwV
  rw [h]
theorem rwV_n {s : Sto} {r l k : Nat} : ∃ n : Nat, n < 8380417 ∧ rwV s r l k = nI n ∧ cg ((8380417 : Nat) : Int) (n : Int) (sm l fun j => ((vn (s.1 (227 + (8 * r + j))) k * vn (s.1 (343 + j)) k : Nat) : Int)) := ⟨_, Nat.mod_lt _ (by decide), rfl, cg_tr (cg_mod _ _) (rsN_cg l)⟩
theorem mrsecret0_L {rw : Nat} {s : Sto} (hrw : rw < 4) (hM : ∀ j, j < 4 → rdc 8380417 (s.1 (41 + (4 * rw + j)))) (hV : ∀ j, j < 4 → rdc 8380417 (s.1 (98 + j))) : ∀ (m j : Nat) (s1 : Sto), j + m = 4 → onl (132 + rw) s s1 → rdc 8380417 (s1.1 (132 + rw)) → (∀ k, k < 256 → cg ((8380417 : Nat) : Int) (vl (s1.1 (132 + rw)) k) (sm j fun j => vl (s.1 (41 + (4 * rw + j))) k * vl (s.1 (98 + j)) k)) → onl (132 + rw) s (F_DA_multiplyRow_secret_0_L0 rw m j s1) ∧ rdc 8380417 ((F_DA_multiplyRow_secret_0_L0 rw m j s1).1 (132 + rw)) ∧ ∀ k, k < 256 → cg ((8380417 : Nat) : Int) (vl ((F_DA_multiplyRow_secret_0_L0 rw m j s1).1 (132 + rw)) k) (sm 4 fun j => vl (s.1 (41 + (4 * rw + j))) k * vl (s.1 (98 + j)) k)
  | 0, j, s1, hj, h1, h2, h3 => by
    obtain rfl : j = 4 := by omega
    rw [F_DA_multiplyRow_secret_0_L0]
    exact ⟨h1, h2, h3⟩
  | m + 1, j, s1, hj, h1, h2, h3 => by
    have e1 : s1.1 (41 + (4 * rw + j)) = s.1 (41 + (4 * rw + j)) := h1.1 _ (by omega)
    have e2 : s1.1 (98 + j) = s.1 (98 + j) := h1.1 _ (by omega)
    obtain ⟨a1, a2⟩ := P_addProduct8 (ps := 132 + rw) (pf := 41 + (4 * rw + j)) (pg := 98 + j) (s := s1) (by omega) (by omega) h2 (by rw [e1]; exact hM j (by omega)) (by rw [e2]; exact hV j (by omega))
    rw [e1, e2] at a2
    have hU : F_DA_multiplyRow_secret_0_L0 rw (m + 1) j s1 = F_DA_multiplyRow_secret_0_L0 rw m (j + 1) (F_RG_addProduct_8 (132 + rw) (41 + ((4 * rw) + j)) (98 + j) s1) := by rw [F_DA_multiplyRow_secret_0_L0, bnd_eq]
    generalize F_RG_addProduct_8 (132 + rw) (41 + ((4 * rw) + j)) (98 + j) s1 = s2 at a1 a2 hU
    rw [hU]
    refine mrsecret0_L hrw hM hV m (j + 1) s2 (by omega) (onl_tr h1 a1) (fun k hk => ?_) (fun k hk => ?_)
    · obtain ⟨n, q1, q2, -⟩ := a2 k hk
      exact ⟨n, q1, q2⟩
    · obtain ⟨n, q1, q2, q3⟩ := a2 k hk
      rw [vl_n q2 (by omega), sm_last]
      exact cg_tr q3 (cg_add (h3 k hk) cg_rf)
theorem P_mrsecret0 {rw : Nat} {s : Sto} (hrw : rw < 4) (hM : ∀ j, j < 4 → rdc 8380417 (s.1 (41 + (4 * rw + j)))) (hV : ∀ j, j < 4 → rdc 8380417 (s.1 (98 + j))) : onl (132 + rw) s (F_DA_multiplyRow_secret_0 rw s) ∧ rdc 8380417 ((F_DA_multiplyRow_secret_0 rw s).1 (132 + rw)) ∧ ∀ k, k < 256 → cg ((8380417 : Nat) : Int) (vl ((F_DA_multiplyRow_secret_0 rw s).1 (132 + rw)) k) (sm 4 fun j => vl (s.1 (41 + (4 * rw + j))) k * vl (s.1 (98 + j)) k) := by
  obtain ⟨a1, a2⟩ := P_fill (pf := 132 + rw) (v := nI 0) (s := s)
  have hU : F_DA_multiplyRow_secret_0 rw s = F_DA_multiplyRow_secret_0_L0 rw 4 0 (F_AR_fillI (132 + rw) 256 (nI 0) s) := by rw [F_DA_multiplyRow_secret_0, bnd_eq]
  rw [hU]
  exact mrsecret0_L hrw hM hV 4 0 _ (by decide) a1 (fun k hk => ⟨0, by decide, a2 k hk⟩) (fun k hk => by
    rw [vl_n (a2 k hk) (by decide)]
    exact cg_of rfl)
theorem mrmask0_L {rw : Nat} {s : Sto} (hrw : rw < 4) (hM : ∀ j, j < 4 → rdc 8380417 (s.1 (41 + (4 * rw + j)))) (hV : ∀ j, j < 4 → rdc 8380417 (s.1 (124 + j))) : ∀ (m j : Nat) (s1 : Sto), j + m = 4 → onl (132 + rw) s s1 → rdc 8380417 (s1.1 (132 + rw)) → (∀ k, k < 256 → cg ((8380417 : Nat) : Int) (vl (s1.1 (132 + rw)) k) (sm j fun j => vl (s.1 (41 + (4 * rw + j))) k * vl (s.1 (124 + j)) k)) → onl (132 + rw) s (F_DA_multiplyRow_mask_0_L0 rw m j s1) ∧ rdc 8380417 ((F_DA_multiplyRow_mask_0_L0 rw m j s1).1 (132 + rw)) ∧ ∀ k, k < 256 → cg ((8380417 : Nat) : Int) (vl ((F_DA_multiplyRow_mask_0_L0 rw m j s1).1 (132 + rw)) k) (sm 4 fun j => vl (s.1 (41 + (4 * rw + j))) k * vl (s.1 (124 + j)) k)
  | 0, j, s1, hj, h1, h2, h3 => by
    obtain rfl : j = 4 := by omega
    rw [F_DA_multiplyRow_mask_0_L0]
    exact ⟨h1, h2, h3⟩
  | m + 1, j, s1, hj, h1, h2, h3 => by
    have e1 : s1.1 (41 + (4 * rw + j)) = s.1 (41 + (4 * rw + j)) := h1.1 _ (by omega)
    have e2 : s1.1 (124 + j) = s.1 (124 + j) := h1.1 _ (by omega)
    obtain ⟨a1, a2⟩ := P_addProduct8 (ps := 132 + rw) (pf := 41 + (4 * rw + j)) (pg := 124 + j) (s := s1) (by omega) (by omega) h2 (by rw [e1]; exact hM j (by omega)) (by rw [e2]; exact hV j (by omega))
    rw [e1, e2] at a2
    have hU : F_DA_multiplyRow_mask_0_L0 rw (m + 1) j s1 = F_DA_multiplyRow_mask_0_L0 rw m (j + 1) (F_RG_addProduct_8 (132 + rw) (41 + ((4 * rw) + j)) (124 + j) s1) := by rw [F_DA_multiplyRow_mask_0_L0, bnd_eq]
    generalize F_RG_addProduct_8 (132 + rw) (41 + ((4 * rw) + j)) (124 + j) s1 = s2 at a1 a2 hU
    rw [hU]
    refine mrmask0_L hrw hM hV m (j + 1) s2 (by omega) (onl_tr h1 a1) (fun k hk => ?_) (fun k hk => ?_)
    · obtain ⟨n, q1, q2, -⟩ := a2 k hk
      exact ⟨n, q1, q2⟩
    · obtain ⟨n, q1, q2, q3⟩ := a2 k hk
      rw [vl_n q2 (by omega), sm_last]
      exact cg_tr q3 (cg_add (h3 k hk) cg_rf)
theorem P_mrmask0 {rw : Nat} {s : Sto} (hrw : rw < 4) (hM : ∀ j, j < 4 → rdc 8380417 (s.1 (41 + (4 * rw + j)))) (hV : ∀ j, j < 4 → rdc 8380417 (s.1 (124 + j))) : onl (132 + rw) s (F_DA_multiplyRow_mask_0 rw s) ∧ rdc 8380417 ((F_DA_multiplyRow_mask_0 rw s).1 (132 + rw)) ∧ ∀ k, k < 256 → cg ((8380417 : Nat) : Int) (vl ((F_DA_multiplyRow_mask_0 rw s).1 (132 + rw)) k) (sm 4 fun j => vl (s.1 (41 + (4 * rw + j))) k * vl (s.1 (124 + j)) k) := by
  obtain ⟨a1, a2⟩ := P_fill (pf := 132 + rw) (v := nI 0) (s := s)
  have hU : F_DA_multiplyRow_mask_0 rw s = F_DA_multiplyRow_mask_0_L0 rw 4 0 (F_AR_fillI (132 + rw) 256 (nI 0) s) := by rw [F_DA_multiplyRow_mask_0, bnd_eq]
  rw [hU]
  exact mrmask0_L hrw hM hV 4 0 _ (by decide) a1 (fun k hk => ⟨0, by decide, a2 k hk⟩) (fun k hk => by
    rw [vl_n (a2 k hk) (by decide)]
    exact cg_of rfl)
theorem rb0_I {rw i : Nat} {kk : Nat → Sto → Sto} {s : Sto} (hi : i < 256) (hM : ∀ j, j < 4 → rdc 8380417 (s.1 (227 + (8 * rw + j)))) (hV : ∀ j, j < 4 → rdc 8380417 (s.1 (343 + j))) : ∀ (m j : Nat), j + m = 4 → F_MH_rowBy_0_L1 rw i kk m j (lN (rsN (fun j => vn (s.1 (227 + (8 * rw + j))) i * vn (s.1 (343 + j)) i) j)) s = kk (i + 1) (sI s 370 i (rwV s rw 4 i))
  | 0, j, hj => by
    obtain rfl : j = 4 := by omega
    have h1 := rsN_le (f := fun j => vn (s.1 (227 + (8 * rw + j))) i * vn (s.1 (343 + j)) i) 4
    rw [F_MH_rowBy_0_L1, bnd_eq, rwV]
    show bnd (sI s 370 i ((lN _ - lN _ / lN 8380417 * lN 8380417).toInt32)) _ = _
    rw [pk_lRem (by omega) (by decide) (by decide), lN_i, bnd_eq]
  | m + 1, j, hj => by
    have h1 := rsN_le (f := fun j => vn (s.1 (227 + (8 * rw + j))) i * vn (s.1 (343 + j)) i) j
    obtain ⟨x, hx, ex⟩ := hM j (by omega) i hi
    obtain ⟨y, hy, ey⟩ := hV j (by omega) i hi
    have m1 : x * y ≤ 8380417 * 8380417 := Nat.mul_le_mul (by omega) (by omega)
    have e1 : lN (rsN (fun j => vn (s.1 (227 + (8 * rw + j))) i * vn (s.1 (343 + j)) i) j) + (((s.1 (227 + (8 * rw + j)) i).toInt64 * (s.1 (343 + j) i).toInt64) - ((s.1 (227 + (8 * rw + j)) i).toInt64 * (s.1 (343 + j) i).toInt64) / 8380417 * 8380417) = lN (rsN (fun j => vn (s.1 (227 + (8 * rw + j))) i * vn (s.1 (343 + j)) i) (j + 1)) := by
      rw [ex, ey, nI_l (n := x) (by omega), nI_l (n := y) (by omega), lN_mul]
      show lN _ + (lN (x * y) - lN (x * y) / lN 8380417 * lN 8380417) = lN (rsN _ j + vn (s.1 (227 + (8 * rw + j))) i * vn (s.1 (343 + j)) i % 8380417)
      rw [pk_lRem (by omega) (by decide) (by decide), lN_add, vn_n ex (by omega), vn_n ey (by omega)]
    rw [F_MH_rowBy_0_L1, bnd_eq]
    show bnd (lN (rsN (fun j => vn (s.1 (227 + (8 * rw + j))) i * vn (s.1 (343 + j)) i) j) + (((s.1 (227 + (8 * rw + j)) i).toInt64 * (s.1 (343 + j) i).toInt64) - ((s.1 (227 + (8 * rw + j)) i).toInt64 * (s.1 (343 + j) i).toInt64) / 8380417 * 8380417)) _ = _
    rw [e1, bnd_eq]
    exact rb0_I hi hM hV m (j + 1) (by omega)
theorem rb0_O {rw pt : Nat} {s : Sto} (hrw : rw < 4) (hM : ∀ j, j < 4 → rdc 8380417 (s.1 (227 + (8 * rw + j)))) (hV : ∀ j, j < 4 → rdc 8380417 (s.1 (343 + j))) : ∀ (m i : Nat) (s1 : Sto), i + m = 256 → onl 370 s s1 → (∀ k, k < i → s1.1 370 k = rwV s rw 4 k) → ∃ s2, F_MH_rowBy_0_L0 rw pt m i s1 = F_MR_back_8_0 370 pt s2 ∧ onl 370 s s2 ∧ ∀ k, k < 256 → s2.1 370 k = rwV s rw 4 k
  | 0, i, s1, hi, h1, h2 => ⟨s1, by rw [F_MH_rowBy_0_L0, bnd_eq], h1, fun k hk => h2 k (by omega)⟩
  | m + 1, i, s1, hi, h1, h2 => by
    have e1 : ∀ j, j < 4 → s1.1 (227 + (8 * rw + j)) = s.1 (227 + (8 * rw + j)) := fun j hj => h1.1 _ (by omega)
    have e2 : ∀ j, j < 4 → s1.1 (343 + j) = s.1 (343 + j) := fun j hj => h1.1 _ (by omega)
    have a := rb0_I (rw := rw) (i := i) (kk := F_MH_rowBy_0_L0 rw pt m) (s := s1) (by omega) (fun j hj => by rw [e1 j hj]; exact hM j hj) (fun j hj => by rw [e2 j hj]; exact hV j hj) 4 0 (by decide)
    have er : rwV s1 rw 4 i = rwV s rw 4 i := rwV_c e1 e2
    rw [er] at a
    have hU : F_MH_rowBy_0_L0 rw pt (m + 1) i s1 = F_MH_rowBy_0_L0 rw pt m (i + 1) (sI s1 370 i (rwV s rw 4 i)) := Eq.trans (by rw [F_MH_rowBy_0_L0, rsN.eq_1, lN0]) a
    obtain ⟨s2, b1, b2, b3⟩ := rb0_O (pt := pt) hrw hM hV m (i + 1) (sI s1 370 i (rwV s rw 4 i)) (by omega) (onl_tr h1 onl_sI) (fun k hk => by
      rw [sI_row]
      by_cases w : k = i
      · subst w
        rw [upd_s]
      · rw [upd_n w]
        exact h2 k (by omega))
    exact ⟨s2, hU.trans b1, b2, b3⟩
/-- a row of the matrix times the vector, and the way back: both sides, set 0 (the vector of the program: secret) -/
theorem rowsecret0_same {rw pt : Nat} {s t : Sto} (hrw : rw < 4) (hpt : pt ≠ 370) (hM : ∀ j, j < 4 → sr 8380417 (s.1 (41 + (4 * rw + j))) (t.1 (227 + (8 * rw + j)))) (hV : ∀ j, j < 4 → sr 8380417 (s.1 (98 + j)) (t.1 (343 + j))) : onl (132 + rw) s (F_RG_restore_8 (132 + rw) (F_DA_multiplyRow_secret_0 rw s)) ∧ (∀ k, k ≠ 370 → k ≠ pt → (F_MH_rowBy_0 rw pt t).1 k = t.1 k) ∧ sr 8380417 ((F_RG_restore_8 (132 + rw) (F_DA_multiplyRow_secret_0 rw s)).1 (132 + rw)) ((F_MH_rowBy_0 rw pt t).1 pt) := by
  obtain ⟨a1, a2, a3⟩ := P_mrsecret0 hrw (fun j hj => sr_l (hM j hj)) (fun j hj => sr_l (hV j hj))
  generalize F_DA_multiplyRow_secret_0 rw s = s1 at a1 a2 a3
  obtain ⟨t1, b1, b2, b3⟩ := rb0_O (pt := pt) (s := t) hrw (fun j hj => sr_r (hM j hj)) (fun j hj => sr_r (hV j hj)) 256 0 t (by omega) onl_rf (fun k hk => absurd hk (Nat.not_lt_zero _))
  have hW : F_MH_rowBy_0 rw pt t = F_MR_back_8_0 370 pt t1 := by
    rw [F_MH_rowBy_0]
    exact b1
  have key : ∀ k, k < 256 → s1.1 (132 + rw) k = t1.1 370 k := fun k hk => by
    have r2 : rdc 8380417 (t1.1 370) := fun k hk => by
      obtain ⟨n, h1, h2, -⟩ := rwV_n (s := t) (r := rw) (l := 4) (k := k)
      exact ⟨n, h1, (b3 k hk).trans h2⟩
    refine rd_same (by decide) a2 r2 hk (cg_tr (a3 k hk) (cg_sy ?_))
    obtain ⟨n, h1, h2, h3⟩ := rwV_n (s := t) (r := rw) (l := 4) (k := k)
    rw [vl_n ((b3 k hk).trans h2) (by omega)]
    refine cg_tr h3 (cg_of (sm_ext 4 fun j hj => ?_))
    obtain ⟨x, hx, x1, x2⟩ := hM j hj k hk
    obtain ⟨y, hy, y1, y2⟩ := hV j hj k hk
    show ((vn (t.1 (227 + (8 * rw + j))) k * vn (t.1 (343 + j)) k : Nat) : Int) = _
    rw [vn_n x2 (by omega), vn_n y2 (by omega), vl_n x1 (by omega), vl_n y1 (by omega), Int.natCast_mul]
  rw [hW]
  have c1 := (P_restore8 a2).1
  have c2 := (P_restore8 a2).2.1
  have d1 := (Qb_out80 (pf := 370) (pt := pt) (Ne.symm hpt) 256 0 t1 rfl (rdc_c a2 fun k hk => (key k hk).symm)).1
  rw [← F_MR_back_8_0] at d1
  exact ⟨onl_tr a1 c1, fun k u v => (d1.1 k v).trans (b2.1 k u), sr_of c2 fun k hk => back_same8 (Ne.symm hpt) a2 key hk⟩
/-- a row of the matrix times the vector, and the way back: both sides, set 0 (the vector of the program: mask) -/
theorem rowmask0_same {rw pt : Nat} {s t : Sto} (hrw : rw < 4) (hpt : pt ≠ 370) (hM : ∀ j, j < 4 → sr 8380417 (s.1 (41 + (4 * rw + j))) (t.1 (227 + (8 * rw + j)))) (hV : ∀ j, j < 4 → sr 8380417 (s.1 (124 + j)) (t.1 (343 + j))) : onl (132 + rw) s (F_RG_restore_8 (132 + rw) (F_DA_multiplyRow_mask_0 rw s)) ∧ (∀ k, k ≠ 370 → k ≠ pt → (F_MH_rowBy_0 rw pt t).1 k = t.1 k) ∧ sr 8380417 ((F_RG_restore_8 (132 + rw) (F_DA_multiplyRow_mask_0 rw s)).1 (132 + rw)) ((F_MH_rowBy_0 rw pt t).1 pt) := by
  obtain ⟨a1, a2, a3⟩ := P_mrmask0 hrw (fun j hj => sr_l (hM j hj)) (fun j hj => sr_l (hV j hj))
  generalize F_DA_multiplyRow_mask_0 rw s = s1 at a1 a2 a3
  obtain ⟨t1, b1, b2, b3⟩ := rb0_O (pt := pt) (s := t) hrw (fun j hj => sr_r (hM j hj)) (fun j hj => sr_r (hV j hj)) 256 0 t (by omega) onl_rf (fun k hk => absurd hk (Nat.not_lt_zero _))
  have hW : F_MH_rowBy_0 rw pt t = F_MR_back_8_0 370 pt t1 := by
    rw [F_MH_rowBy_0]
    exact b1
  have key : ∀ k, k < 256 → s1.1 (132 + rw) k = t1.1 370 k := fun k hk => by
    have r2 : rdc 8380417 (t1.1 370) := fun k hk => by
      obtain ⟨n, h1, h2, -⟩ := rwV_n (s := t) (r := rw) (l := 4) (k := k)
      exact ⟨n, h1, (b3 k hk).trans h2⟩
    refine rd_same (by decide) a2 r2 hk (cg_tr (a3 k hk) (cg_sy ?_))
    obtain ⟨n, h1, h2, h3⟩ := rwV_n (s := t) (r := rw) (l := 4) (k := k)
    rw [vl_n ((b3 k hk).trans h2) (by omega)]
    refine cg_tr h3 (cg_of (sm_ext 4 fun j hj => ?_))
    obtain ⟨x, hx, x1, x2⟩ := hM j hj k hk
    obtain ⟨y, hy, y1, y2⟩ := hV j hj k hk
    show ((vn (t.1 (227 + (8 * rw + j))) k * vn (t.1 (343 + j)) k : Nat) : Int) = _
    rw [vn_n x2 (by omega), vn_n y2 (by omega), vl_n x1 (by omega), vl_n y1 (by omega), Int.natCast_mul]
  rw [hW]
  have c1 := (P_restore8 a2).1
  have c2 := (P_restore8 a2).2.1
  have d1 := (Qb_out80 (pf := 370) (pt := pt) (Ne.symm hpt) 256 0 t1 rfl (rdc_c a2 fun k hk => (key k hk).symm)).1
  rw [← F_MR_back_8_0] at d1
  exact ⟨onl_tr a1 c1, fun k u v => (d1.1 k v).trans (b2.1 k u), sr_of c2 fun k hk => back_same8 (Ne.symm hpt) a2 key hk⟩
theorem mrsecret1_L {rw : Nat} {s : Sto} (hrw : rw < 6) (hM : ∀ j, j < 5 → rdc 8380417 (s.1 (41 + (5 * rw + j)))) (hV : ∀ j, j < 5 → rdc 8380417 (s.1 (98 + j))) : ∀ (m j : Nat) (s1 : Sto), j + m = 5 → onl (132 + rw) s s1 → rdc 8380417 (s1.1 (132 + rw)) → (∀ k, k < 256 → cg ((8380417 : Nat) : Int) (vl (s1.1 (132 + rw)) k) (sm j fun j => vl (s.1 (41 + (5 * rw + j))) k * vl (s.1 (98 + j)) k)) → onl (132 + rw) s (F_DA_multiplyRow_secret_1_L0 rw m j s1) ∧ rdc 8380417 ((F_DA_multiplyRow_secret_1_L0 rw m j s1).1 (132 + rw)) ∧ ∀ k, k < 256 → cg ((8380417 : Nat) : Int) (vl ((F_DA_multiplyRow_secret_1_L0 rw m j s1).1 (132 + rw)) k) (sm 5 fun j => vl (s.1 (41 + (5 * rw + j))) k * vl (s.1 (98 + j)) k)
  | 0, j, s1, hj, h1, h2, h3 => by
    obtain rfl : j = 5 := by omega
    rw [F_DA_multiplyRow_secret_1_L0]
    exact ⟨h1, h2, h3⟩
  | m + 1, j, s1, hj, h1, h2, h3 => by
    have e1 : s1.1 (41 + (5 * rw + j)) = s.1 (41 + (5 * rw + j)) := h1.1 _ (by omega)
    have e2 : s1.1 (98 + j) = s.1 (98 + j) := h1.1 _ (by omega)
    obtain ⟨a1, a2⟩ := P_addProduct8 (ps := 132 + rw) (pf := 41 + (5 * rw + j)) (pg := 98 + j) (s := s1) (by omega) (by omega) h2 (by rw [e1]; exact hM j (by omega)) (by rw [e2]; exact hV j (by omega))
    rw [e1, e2] at a2
    have hU : F_DA_multiplyRow_secret_1_L0 rw (m + 1) j s1 = F_DA_multiplyRow_secret_1_L0 rw m (j + 1) (F_RG_addProduct_8 (132 + rw) (41 + ((5 * rw) + j)) (98 + j) s1) := by rw [F_DA_multiplyRow_secret_1_L0, bnd_eq]
    generalize F_RG_addProduct_8 (132 + rw) (41 + ((5 * rw) + j)) (98 + j) s1 = s2 at a1 a2 hU
    rw [hU]
    refine mrsecret1_L hrw hM hV m (j + 1) s2 (by omega) (onl_tr h1 a1) (fun k hk => ?_) (fun k hk => ?_)
    · obtain ⟨n, q1, q2, -⟩ := a2 k hk
      exact ⟨n, q1, q2⟩
    · obtain ⟨n, q1, q2, q3⟩ := a2 k hk
      rw [vl_n q2 (by omega), sm_last]
      exact cg_tr q3 (cg_add (h3 k hk) cg_rf)
theorem P_mrsecret1 {rw : Nat} {s : Sto} (hrw : rw < 6) (hM : ∀ j, j < 5 → rdc 8380417 (s.1 (41 + (5 * rw + j)))) (hV : ∀ j, j < 5 → rdc 8380417 (s.1 (98 + j))) : onl (132 + rw) s (F_DA_multiplyRow_secret_1 rw s) ∧ rdc 8380417 ((F_DA_multiplyRow_secret_1 rw s).1 (132 + rw)) ∧ ∀ k, k < 256 → cg ((8380417 : Nat) : Int) (vl ((F_DA_multiplyRow_secret_1 rw s).1 (132 + rw)) k) (sm 5 fun j => vl (s.1 (41 + (5 * rw + j))) k * vl (s.1 (98 + j)) k) := by
  obtain ⟨a1, a2⟩ := P_fill (pf := 132 + rw) (v := nI 0) (s := s)
  have hU : F_DA_multiplyRow_secret_1 rw s = F_DA_multiplyRow_secret_1_L0 rw 5 0 (F_AR_fillI (132 + rw) 256 (nI 0) s) := by rw [F_DA_multiplyRow_secret_1, bnd_eq]
  rw [hU]
  exact mrsecret1_L hrw hM hV 5 0 _ (by decide) a1 (fun k hk => ⟨0, by decide, a2 k hk⟩) (fun k hk => by
    rw [vl_n (a2 k hk) (by decide)]
    exact cg_of rfl)
theorem mrmask1_L {rw : Nat} {s : Sto} (hrw : rw < 6) (hM : ∀ j, j < 5 → rdc 8380417 (s.1 (41 + (5 * rw + j)))) (hV : ∀ j, j < 5 → rdc 8380417 (s.1 (124 + j))) : ∀ (m j : Nat) (s1 : Sto), j + m = 5 → onl (132 + rw) s s1 → rdc 8380417 (s1.1 (132 + rw)) → (∀ k, k < 256 → cg ((8380417 : Nat) : Int) (vl (s1.1 (132 + rw)) k) (sm j fun j => vl (s.1 (41 + (5 * rw + j))) k * vl (s.1 (124 + j)) k)) → onl (132 + rw) s (F_DA_multiplyRow_mask_1_L0 rw m j s1) ∧ rdc 8380417 ((F_DA_multiplyRow_mask_1_L0 rw m j s1).1 (132 + rw)) ∧ ∀ k, k < 256 → cg ((8380417 : Nat) : Int) (vl ((F_DA_multiplyRow_mask_1_L0 rw m j s1).1 (132 + rw)) k) (sm 5 fun j => vl (s.1 (41 + (5 * rw + j))) k * vl (s.1 (124 + j)) k)
  | 0, j, s1, hj, h1, h2, h3 => by
    obtain rfl : j = 5 := by omega
    rw [F_DA_multiplyRow_mask_1_L0]
    exact ⟨h1, h2, h3⟩
  | m + 1, j, s1, hj, h1, h2, h3 => by
    have e1 : s1.1 (41 + (5 * rw + j)) = s.1 (41 + (5 * rw + j)) := h1.1 _ (by omega)
    have e2 : s1.1 (124 + j) = s.1 (124 + j) := h1.1 _ (by omega)
    obtain ⟨a1, a2⟩ := P_addProduct8 (ps := 132 + rw) (pf := 41 + (5 * rw + j)) (pg := 124 + j) (s := s1) (by omega) (by omega) h2 (by rw [e1]; exact hM j (by omega)) (by rw [e2]; exact hV j (by omega))
    rw [e1, e2] at a2
    have hU : F_DA_multiplyRow_mask_1_L0 rw (m + 1) j s1 = F_DA_multiplyRow_mask_1_L0 rw m (j + 1) (F_RG_addProduct_8 (132 + rw) (41 + ((5 * rw) + j)) (124 + j) s1) := by rw [F_DA_multiplyRow_mask_1_L0, bnd_eq]
    generalize F_RG_addProduct_8 (132 + rw) (41 + ((5 * rw) + j)) (124 + j) s1 = s2 at a1 a2 hU
    rw [hU]
    refine mrmask1_L hrw hM hV m (j + 1) s2 (by omega) (onl_tr h1 a1) (fun k hk => ?_) (fun k hk => ?_)
    · obtain ⟨n, q1, q2, -⟩ := a2 k hk
      exact ⟨n, q1, q2⟩
    · obtain ⟨n, q1, q2, q3⟩ := a2 k hk
      rw [vl_n q2 (by omega), sm_last]
      exact cg_tr q3 (cg_add (h3 k hk) cg_rf)
theorem P_mrmask1 {rw : Nat} {s : Sto} (hrw : rw < 6) (hM : ∀ j, j < 5 → rdc 8380417 (s.1 (41 + (5 * rw + j)))) (hV : ∀ j, j < 5 → rdc 8380417 (s.1 (124 + j))) : onl (132 + rw) s (F_DA_multiplyRow_mask_1 rw s) ∧ rdc 8380417 ((F_DA_multiplyRow_mask_1 rw s).1 (132 + rw)) ∧ ∀ k, k < 256 → cg ((8380417 : Nat) : Int) (vl ((F_DA_multiplyRow_mask_1 rw s).1 (132 + rw)) k) (sm 5 fun j => vl (s.1 (41 + (5 * rw + j))) k * vl (s.1 (124 + j)) k) := by
  obtain ⟨a1, a2⟩ := P_fill (pf := 132 + rw) (v := nI 0) (s := s)
  have hU : F_DA_multiplyRow_mask_1 rw s = F_DA_multiplyRow_mask_1_L0 rw 5 0 (F_AR_fillI (132 + rw) 256 (nI 0) s) := by rw [F_DA_multiplyRow_mask_1, bnd_eq]
  rw [hU]
  exact mrmask1_L hrw hM hV 5 0 _ (by decide) a1 (fun k hk => ⟨0, by decide, a2 k hk⟩) (fun k hk => by
    rw [vl_n (a2 k hk) (by decide)]
    exact cg_of rfl)
theorem rb1_I {rw i : Nat} {kk : Nat → Sto → Sto} {s : Sto} (hi : i < 256) (hM : ∀ j, j < 5 → rdc 8380417 (s.1 (227 + (8 * rw + j)))) (hV : ∀ j, j < 5 → rdc 8380417 (s.1 (343 + j))) : ∀ (m j : Nat), j + m = 5 → F_MH_rowBy_1_L1 rw i kk m j (lN (rsN (fun j => vn (s.1 (227 + (8 * rw + j))) i * vn (s.1 (343 + j)) i) j)) s = kk (i + 1) (sI s 370 i (rwV s rw 5 i))
  | 0, j, hj => by
    obtain rfl : j = 5 := by omega
    have h1 := rsN_le (f := fun j => vn (s.1 (227 + (8 * rw + j))) i * vn (s.1 (343 + j)) i) 5
    rw [F_MH_rowBy_1_L1, bnd_eq, rwV]
    show bnd (sI s 370 i ((lN _ - lN _ / lN 8380417 * lN 8380417).toInt32)) _ = _
    rw [pk_lRem (by omega) (by decide) (by decide), lN_i, bnd_eq]
  | m + 1, j, hj => by
    have h1 := rsN_le (f := fun j => vn (s.1 (227 + (8 * rw + j))) i * vn (s.1 (343 + j)) i) j
    obtain ⟨x, hx, ex⟩ := hM j (by omega) i hi
    obtain ⟨y, hy, ey⟩ := hV j (by omega) i hi
    have m1 : x * y ≤ 8380417 * 8380417 := Nat.mul_le_mul (by omega) (by omega)
    have e1 : lN (rsN (fun j => vn (s.1 (227 + (8 * rw + j))) i * vn (s.1 (343 + j)) i) j) + (((s.1 (227 + (8 * rw + j)) i).toInt64 * (s.1 (343 + j) i).toInt64) - ((s.1 (227 + (8 * rw + j)) i).toInt64 * (s.1 (343 + j) i).toInt64) / 8380417 * 8380417) = lN (rsN (fun j => vn (s.1 (227 + (8 * rw + j))) i * vn (s.1 (343 + j)) i) (j + 1)) := by
      rw [ex, ey, nI_l (n := x) (by omega), nI_l (n := y) (by omega), lN_mul]
      show lN _ + (lN (x * y) - lN (x * y) / lN 8380417 * lN 8380417) = lN (rsN _ j + vn (s.1 (227 + (8 * rw + j))) i * vn (s.1 (343 + j)) i % 8380417)
      rw [pk_lRem (by omega) (by decide) (by decide), lN_add, vn_n ex (by omega), vn_n ey (by omega)]
    rw [F_MH_rowBy_1_L1, bnd_eq]
    show bnd (lN (rsN (fun j => vn (s.1 (227 + (8 * rw + j))) i * vn (s.1 (343 + j)) i) j) + (((s.1 (227 + (8 * rw + j)) i).toInt64 * (s.1 (343 + j) i).toInt64) - ((s.1 (227 + (8 * rw + j)) i).toInt64 * (s.1 (343 + j) i).toInt64) / 8380417 * 8380417)) _ = _
    rw [e1, bnd_eq]
    exact rb1_I hi hM hV m (j + 1) (by omega)
theorem rb1_O {rw pt : Nat} {s : Sto} (hrw : rw < 6) (hM : ∀ j, j < 5 → rdc 8380417 (s.1 (227 + (8 * rw + j)))) (hV : ∀ j, j < 5 → rdc 8380417 (s.1 (343 + j))) : ∀ (m i : Nat) (s1 : Sto), i + m = 256 → onl 370 s s1 → (∀ k, k < i → s1.1 370 k = rwV s rw 5 k) → ∃ s2, F_MH_rowBy_1_L0 rw pt m i s1 = F_MR_back_8_0 370 pt s2 ∧ onl 370 s s2 ∧ ∀ k, k < 256 → s2.1 370 k = rwV s rw 5 k
  | 0, i, s1, hi, h1, h2 => ⟨s1, by rw [F_MH_rowBy_1_L0, bnd_eq], h1, fun k hk => h2 k (by omega)⟩
  | m + 1, i, s1, hi, h1, h2 => by
    have e1 : ∀ j, j < 5 → s1.1 (227 + (8 * rw + j)) = s.1 (227 + (8 * rw + j)) := fun j hj => h1.1 _ (by omega)
    have e2 : ∀ j, j < 5 → s1.1 (343 + j) = s.1 (343 + j) := fun j hj => h1.1 _ (by omega)
    have a := rb1_I (rw := rw) (i := i) (kk := F_MH_rowBy_1_L0 rw pt m) (s := s1) (by omega) (fun j hj => by rw [e1 j hj]; exact hM j hj) (fun j hj => by rw [e2 j hj]; exact hV j hj) 5 0 (by decide)
    have er : rwV s1 rw 5 i = rwV s rw 5 i := rwV_c e1 e2
    rw [er] at a
    have hU : F_MH_rowBy_1_L0 rw pt (m + 1) i s1 = F_MH_rowBy_1_L0 rw pt m (i + 1) (sI s1 370 i (rwV s rw 5 i)) := Eq.trans (by rw [F_MH_rowBy_1_L0, rsN.eq_1, lN0]) a
    obtain ⟨s2, b1, b2, b3⟩ := rb1_O (pt := pt) hrw hM hV m (i + 1) (sI s1 370 i (rwV s rw 5 i)) (by omega) (onl_tr h1 onl_sI) (fun k hk => by
      rw [sI_row]
      by_cases w : k = i
      · subst w
        rw [upd_s]
      · rw [upd_n w]
        exact h2 k (by omega))
    exact ⟨s2, hU.trans b1, b2, b3⟩
/-- a row of the matrix times the vector, and the way back: both sides, set 1 (the vector of the program: secret) -/
theorem rowsecret1_same {rw pt : Nat} {s t : Sto} (hrw : rw < 6) (hpt : pt ≠ 370) (hM : ∀ j, j < 5 → sr 8380417 (s.1 (41 + (5 * rw + j))) (t.1 (227 + (8 * rw + j)))) (hV : ∀ j, j < 5 → sr 8380417 (s.1 (98 + j)) (t.1 (343 + j))) : onl (132 + rw) s (F_RG_restore_8 (132 + rw) (F_DA_multiplyRow_secret_1 rw s)) ∧ (∀ k, k ≠ 370 → k ≠ pt → (F_MH_rowBy_1 rw pt t).1 k = t.1 k) ∧ sr 8380417 ((F_RG_restore_8 (132 + rw) (F_DA_multiplyRow_secret_1 rw s)).1 (132 + rw)) ((F_MH_rowBy_1 rw pt t).1 pt) := by
  obtain ⟨a1, a2, a3⟩ := P_mrsecret1 hrw (fun j hj => sr_l (hM j hj)) (fun j hj => sr_l (hV j hj))
  generalize F_DA_multiplyRow_secret_1 rw s = s1 at a1 a2 a3
  obtain ⟨t1, b1, b2, b3⟩ := rb1_O (pt := pt) (s := t) hrw (fun j hj => sr_r (hM j hj)) (fun j hj => sr_r (hV j hj)) 256 0 t (by omega) onl_rf (fun k hk => absurd hk (Nat.not_lt_zero _))
  have hW : F_MH_rowBy_1 rw pt t = F_MR_back_8_0 370 pt t1 := by
    rw [F_MH_rowBy_1]
    exact b1
  have key : ∀ k, k < 256 → s1.1 (132 + rw) k = t1.1 370 k := fun k hk => by
    have r2 : rdc 8380417 (t1.1 370) := fun k hk => by
      obtain ⟨n, h1, h2, -⟩ := rwV_n (s := t) (r := rw) (l := 5) (k := k)
      exact ⟨n, h1, (b3 k hk).trans h2⟩
    refine rd_same (by decide) a2 r2 hk (cg_tr (a3 k hk) (cg_sy ?_))
    obtain ⟨n, h1, h2, h3⟩ := rwV_n (s := t) (r := rw) (l := 5) (k := k)
    rw [vl_n ((b3 k hk).trans h2) (by omega)]
    refine cg_tr h3 (cg_of (sm_ext 5 fun j hj => ?_))
    obtain ⟨x, hx, x1, x2⟩ := hM j hj k hk
    obtain ⟨y, hy, y1, y2⟩ := hV j hj k hk
    show ((vn (t.1 (227 + (8 * rw + j))) k * vn (t.1 (343 + j)) k : Nat) : Int) = _
    rw [vn_n x2 (by omega), vn_n y2 (by omega), vl_n x1 (by omega), vl_n y1 (by omega), Int.natCast_mul]
  rw [hW]
  have c1 := (P_restore8 a2).1
  have c2 := (P_restore8 a2).2.1
  have d1 := (Qb_out80 (pf := 370) (pt := pt) (Ne.symm hpt) 256 0 t1 rfl (rdc_c a2 fun k hk => (key k hk).symm)).1
  rw [← F_MR_back_8_0] at d1
  exact ⟨onl_tr a1 c1, fun k u v => (d1.1 k v).trans (b2.1 k u), sr_of c2 fun k hk => back_same8 (Ne.symm hpt) a2 key hk⟩
/-- a row of the matrix times the vector, and the way back: both sides, set 1 (the vector of the program: mask) -/
theorem rowmask1_same {rw pt : Nat} {s t : Sto} (hrw : rw < 6) (hpt : pt ≠ 370) (hM : ∀ j, j < 5 → sr 8380417 (s.1 (41 + (5 * rw + j))) (t.1 (227 + (8 * rw + j)))) (hV : ∀ j, j < 5 → sr 8380417 (s.1 (124 + j)) (t.1 (343 + j))) : onl (132 + rw) s (F_RG_restore_8 (132 + rw) (F_DA_multiplyRow_mask_1 rw s)) ∧ (∀ k, k ≠ 370 → k ≠ pt → (F_MH_rowBy_1 rw pt t).1 k = t.1 k) ∧ sr 8380417 ((F_RG_restore_8 (132 + rw) (F_DA_multiplyRow_mask_1 rw s)).1 (132 + rw)) ((F_MH_rowBy_1 rw pt t).1 pt) := by
  obtain ⟨a1, a2, a3⟩ := P_mrmask1 hrw (fun j hj => sr_l (hM j hj)) (fun j hj => sr_l (hV j hj))
  generalize F_DA_multiplyRow_mask_1 rw s = s1 at a1 a2 a3
  obtain ⟨t1, b1, b2, b3⟩ := rb1_O (pt := pt) (s := t) hrw (fun j hj => sr_r (hM j hj)) (fun j hj => sr_r (hV j hj)) 256 0 t (by omega) onl_rf (fun k hk => absurd hk (Nat.not_lt_zero _))
  have hW : F_MH_rowBy_1 rw pt t = F_MR_back_8_0 370 pt t1 := by
    rw [F_MH_rowBy_1]
    exact b1
  have key : ∀ k, k < 256 → s1.1 (132 + rw) k = t1.1 370 k := fun k hk => by
    have r2 : rdc 8380417 (t1.1 370) := fun k hk => by
      obtain ⟨n, h1, h2, -⟩ := rwV_n (s := t) (r := rw) (l := 5) (k := k)
      exact ⟨n, h1, (b3 k hk).trans h2⟩
    refine rd_same (by decide) a2 r2 hk (cg_tr (a3 k hk) (cg_sy ?_))
    obtain ⟨n, h1, h2, h3⟩ := rwV_n (s := t) (r := rw) (l := 5) (k := k)
    rw [vl_n ((b3 k hk).trans h2) (by omega)]
    refine cg_tr h3 (cg_of (sm_ext 5 fun j hj => ?_))
    obtain ⟨x, hx, x1, x2⟩ := hM j hj k hk
    obtain ⟨y, hy, y1, y2⟩ := hV j hj k hk
    show ((vn (t.1 (227 + (8 * rw + j))) k * vn (t.1 (343 + j)) k : Nat) : Int) = _
    rw [vn_n x2 (by omega), vn_n y2 (by omega), vl_n x1 (by omega), vl_n y1 (by omega), Int.natCast_mul]
  rw [hW]
  have c1 := (P_restore8 a2).1
  have c2 := (P_restore8 a2).2.1
  have d1 := (Qb_out80 (pf := 370) (pt := pt) (Ne.symm hpt) 256 0 t1 rfl (rdc_c a2 fun k hk => (key k hk).symm)).1
  rw [← F_MR_back_8_0] at d1
  exact ⟨onl_tr a1 c1, fun k u v => (d1.1 k v).trans (b2.1 k u), sr_of c2 fun k hk => back_same8 (Ne.symm hpt) a2 key hk⟩
theorem mrsecret2_L {rw : Nat} {s : Sto} (hrw : rw < 8) (hM : ∀ j, j < 7 → rdc 8380417 (s.1 (41 + (7 * rw + j)))) (hV : ∀ j, j < 7 → rdc 8380417 (s.1 (98 + j))) : ∀ (m j : Nat) (s1 : Sto), j + m = 7 → onl (132 + rw) s s1 → rdc 8380417 (s1.1 (132 + rw)) → (∀ k, k < 256 → cg ((8380417 : Nat) : Int) (vl (s1.1 (132 + rw)) k) (sm j fun j => vl (s.1 (41 + (7 * rw + j))) k * vl (s.1 (98 + j)) k)) → onl (132 + rw) s (F_DA_multiplyRow_secret_2_L0 rw m j s1) ∧ rdc 8380417 ((F_DA_multiplyRow_secret_2_L0 rw m j s1).1 (132 + rw)) ∧ ∀ k, k < 256 → cg ((8380417 : Nat) : Int) (vl ((F_DA_multiplyRow_secret_2_L0 rw m j s1).1 (132 + rw)) k) (sm 7 fun j => vl (s.1 (41 + (7 * rw + j))) k * vl (s.1 (98 + j)) k)
  | 0, j, s1, hj, h1, h2, h3 => by
    obtain rfl : j = 7 := by omega
    rw [F_DA_multiplyRow_secret_2_L0]
    exact ⟨h1, h2, h3⟩
  | m + 1, j, s1, hj, h1, h2, h3 => by
    have e1 : s1.1 (41 + (7 * rw + j)) = s.1 (41 + (7 * rw + j)) := h1.1 _ (by omega)
    have e2 : s1.1 (98 + j) = s.1 (98 + j) := h1.1 _ (by omega)
    obtain ⟨a1, a2⟩ := P_addProduct8 (ps := 132 + rw) (pf := 41 + (7 * rw + j)) (pg := 98 + j) (s := s1) (by omega) (by omega) h2 (by rw [e1]; exact hM j (by omega)) (by rw [e2]; exact hV j (by omega))
    rw [e1, e2] at a2
    have hU : F_DA_multiplyRow_secret_2_L0 rw (m + 1) j s1 = F_DA_multiplyRow_secret_2_L0 rw m (j + 1) (F_RG_addProduct_8 (132 + rw) (41 + ((7 * rw) + j)) (98 + j) s1) := by rw [F_DA_multiplyRow_secret_2_L0, bnd_eq]
    generalize F_RG_addProduct_8 (132 + rw) (41 + ((7 * rw) + j)) (98 + j) s1 = s2 at a1 a2 hU
    rw [hU]
    refine mrsecret2_L hrw hM hV m (j + 1) s2 (by omega) (onl_tr h1 a1) (fun k hk => ?_) (fun k hk => ?_)
    · obtain ⟨n, q1, q2, -⟩ := a2 k hk
      exact ⟨n, q1, q2⟩
    · obtain ⟨n, q1, q2, q3⟩ := a2 k hk
      rw [vl_n q2 (by omega), sm_last]
      exact cg_tr q3 (cg_add (h3 k hk) cg_rf)
theorem P_mrsecret2 {rw : Nat} {s : Sto} (hrw : rw < 8) (hM : ∀ j, j < 7 → rdc 8380417 (s.1 (41 + (7 * rw + j)))) (hV : ∀ j, j < 7 → rdc 8380417 (s.1 (98 + j))) : onl (132 + rw) s (F_DA_multiplyRow_secret_2 rw s) ∧ rdc 8380417 ((F_DA_multiplyRow_secret_2 rw s).1 (132 + rw)) ∧ ∀ k, k < 256 → cg ((8380417 : Nat) : Int) (vl ((F_DA_multiplyRow_secret_2 rw s).1 (132 + rw)) k) (sm 7 fun j => vl (s.1 (41 + (7 * rw + j))) k * vl (s.1 (98 + j)) k) := by
  obtain ⟨a1, a2⟩ := P_fill (pf := 132 + rw) (v := nI 0) (s := s)
  have hU : F_DA_multiplyRow_secret_2 rw s = F_DA_multiplyRow_secret_2_L0 rw 7 0 (F_AR_fillI (132 + rw) 256 (nI 0) s) := by rw [F_DA_multiplyRow_secret_2, bnd_eq]
  rw [hU]
  exact mrsecret2_L hrw hM hV 7 0 _ (by decide) a1 (fun k hk => ⟨0, by decide, a2 k hk⟩) (fun k hk => by
    rw [vl_n (a2 k hk) (by decide)]
    exact cg_of rfl)
theorem mrmask2_L {rw : Nat} {s : Sto} (hrw : rw < 8) (hM : ∀ j, j < 7 → rdc 8380417 (s.1 (41 + (7 * rw + j)))) (hV : ∀ j, j < 7 → rdc 8380417 (s.1 (124 + j))) : ∀ (m j : Nat) (s1 : Sto), j + m = 7 → onl (132 + rw) s s1 → rdc 8380417 (s1.1 (132 + rw)) → (∀ k, k < 256 → cg ((8380417 : Nat) : Int) (vl (s1.1 (132 + rw)) k) (sm j fun j => vl (s.1 (41 + (7 * rw + j))) k * vl (s.1 (124 + j)) k)) → onl (132 + rw) s (F_DA_multiplyRow_mask_2_L0 rw m j s1) ∧ rdc 8380417 ((F_DA_multiplyRow_mask_2_L0 rw m j s1).1 (132 + rw)) ∧ ∀ k, k < 256 → cg ((8380417 : Nat) : Int) (vl ((F_DA_multiplyRow_mask_2_L0 rw m j s1).1 (132 + rw)) k) (sm 7 fun j => vl (s.1 (41 + (7 * rw + j))) k * vl (s.1 (124 + j)) k)
  | 0, j, s1, hj, h1, h2, h3 => by
    obtain rfl : j = 7 := by omega
    rw [F_DA_multiplyRow_mask_2_L0]
    exact ⟨h1, h2, h3⟩
  | m + 1, j, s1, hj, h1, h2, h3 => by
    have e1 : s1.1 (41 + (7 * rw + j)) = s.1 (41 + (7 * rw + j)) := h1.1 _ (by omega)
    have e2 : s1.1 (124 + j) = s.1 (124 + j) := h1.1 _ (by omega)
    obtain ⟨a1, a2⟩ := P_addProduct8 (ps := 132 + rw) (pf := 41 + (7 * rw + j)) (pg := 124 + j) (s := s1) (by omega) (by omega) h2 (by rw [e1]; exact hM j (by omega)) (by rw [e2]; exact hV j (by omega))
    rw [e1, e2] at a2
    have hU : F_DA_multiplyRow_mask_2_L0 rw (m + 1) j s1 = F_DA_multiplyRow_mask_2_L0 rw m (j + 1) (F_RG_addProduct_8 (132 + rw) (41 + ((7 * rw) + j)) (124 + j) s1) := by rw [F_DA_multiplyRow_mask_2_L0, bnd_eq]
    generalize F_RG_addProduct_8 (132 + rw) (41 + ((7 * rw) + j)) (124 + j) s1 = s2 at a1 a2 hU
    rw [hU]
    refine mrmask2_L hrw hM hV m (j + 1) s2 (by omega) (onl_tr h1 a1) (fun k hk => ?_) (fun k hk => ?_)
    · obtain ⟨n, q1, q2, -⟩ := a2 k hk
      exact ⟨n, q1, q2⟩
    · obtain ⟨n, q1, q2, q3⟩ := a2 k hk
      rw [vl_n q2 (by omega), sm_last]
      exact cg_tr q3 (cg_add (h3 k hk) cg_rf)
theorem P_mrmask2 {rw : Nat} {s : Sto} (hrw : rw < 8) (hM : ∀ j, j < 7 → rdc 8380417 (s.1 (41 + (7 * rw + j)))) (hV : ∀ j, j < 7 → rdc 8380417 (s.1 (124 + j))) : onl (132 + rw) s (F_DA_multiplyRow_mask_2 rw s) ∧ rdc 8380417 ((F_DA_multiplyRow_mask_2 rw s).1 (132 + rw)) ∧ ∀ k, k < 256 → cg ((8380417 : Nat) : Int) (vl ((F_DA_multiplyRow_mask_2 rw s).1 (132 + rw)) k) (sm 7 fun j => vl (s.1 (41 + (7 * rw + j))) k * vl (s.1 (124 + j)) k) := by
  obtain ⟨a1, a2⟩ := P_fill (pf := 132 + rw) (v := nI 0) (s := s)
  have hU : F_DA_multiplyRow_mask_2 rw s = F_DA_multiplyRow_mask_2_L0 rw 7 0 (F_AR_fillI (132 + rw) 256 (nI 0) s) := by rw [F_DA_multiplyRow_mask_2, bnd_eq]
  rw [hU]
  exact mrmask2_L hrw hM hV 7 0 _ (by decide) a1 (fun k hk => ⟨0, by decide, a2 k hk⟩) (fun k hk => by
    rw [vl_n (a2 k hk) (by decide)]
    exact cg_of rfl)
theorem rb2_I {rw i : Nat} {kk : Nat → Sto → Sto} {s : Sto} (hi : i < 256) (hM : ∀ j, j < 7 → rdc 8380417 (s.1 (227 + (8 * rw + j)))) (hV : ∀ j, j < 7 → rdc 8380417 (s.1 (343 + j))) : ∀ (m j : Nat), j + m = 7 → F_MH_rowBy_2_L1 rw i kk m j (lN (rsN (fun j => vn (s.1 (227 + (8 * rw + j))) i * vn (s.1 (343 + j)) i) j)) s = kk (i + 1) (sI s 370 i (rwV s rw 7 i))
  | 0, j, hj => by
    obtain rfl : j = 7 := by omega
    have h1 := rsN_le (f := fun j => vn (s.1 (227 + (8 * rw + j))) i * vn (s.1 (343 + j)) i) 7
    rw [F_MH_rowBy_2_L1, bnd_eq, rwV]
    show bnd (sI s 370 i ((lN _ - lN _ / lN 8380417 * lN 8380417).toInt32)) _ = _
    rw [pk_lRem (by omega) (by decide) (by decide), lN_i, bnd_eq]
  | m + 1, j, hj => by
    have h1 := rsN_le (f := fun j => vn (s.1 (227 + (8 * rw + j))) i * vn (s.1 (343 + j)) i) j
    obtain ⟨x, hx, ex⟩ := hM j (by omega) i hi
    obtain ⟨y, hy, ey⟩ := hV j (by omega) i hi
    have m1 : x * y ≤ 8380417 * 8380417 := Nat.mul_le_mul (by omega) (by omega)
    have e1 : lN (rsN (fun j => vn (s.1 (227 + (8 * rw + j))) i * vn (s.1 (343 + j)) i) j) + (((s.1 (227 + (8 * rw + j)) i).toInt64 * (s.1 (343 + j) i).toInt64) - ((s.1 (227 + (8 * rw + j)) i).toInt64 * (s.1 (343 + j) i).toInt64) / 8380417 * 8380417) = lN (rsN (fun j => vn (s.1 (227 + (8 * rw + j))) i * vn (s.1 (343 + j)) i) (j + 1)) := by
      rw [ex, ey, nI_l (n := x) (by omega), nI_l (n := y) (by omega), lN_mul]
      show lN _ + (lN (x * y) - lN (x * y) / lN 8380417 * lN 8380417) = lN (rsN _ j + vn (s.1 (227 + (8 * rw + j))) i * vn (s.1 (343 + j)) i % 8380417)
      rw [pk_lRem (by omega) (by decide) (by decide), lN_add, vn_n ex (by omega), vn_n ey (by omega)]
    rw [F_MH_rowBy_2_L1, bnd_eq]
    show bnd (lN (rsN (fun j => vn (s.1 (227 + (8 * rw + j))) i * vn (s.1 (343 + j)) i) j) + (((s.1 (227 + (8 * rw + j)) i).toInt64 * (s.1 (343 + j) i).toInt64) - ((s.1 (227 + (8 * rw + j)) i).toInt64 * (s.1 (343 + j) i).toInt64) / 8380417 * 8380417)) _ = _
    rw [e1, bnd_eq]
    exact rb2_I hi hM hV m (j + 1) (by omega)
theorem rb2_O {rw pt : Nat} {s : Sto} (hrw : rw < 8) (hM : ∀ j, j < 7 → rdc 8380417 (s.1 (227 + (8 * rw + j)))) (hV : ∀ j, j < 7 → rdc 8380417 (s.1 (343 + j))) : ∀ (m i : Nat) (s1 : Sto), i + m = 256 → onl 370 s s1 → (∀ k, k < i → s1.1 370 k = rwV s rw 7 k) → ∃ s2, F_MH_rowBy_2_L0 rw pt m i s1 = F_MR_back_8_0 370 pt s2 ∧ onl 370 s s2 ∧ ∀ k, k < 256 → s2.1 370 k = rwV s rw 7 k
  | 0, i, s1, hi, h1, h2 => ⟨s1, by rw [F_MH_rowBy_2_L0, bnd_eq], h1, fun k hk => h2 k (by omega)⟩
  | m + 1, i, s1, hi, h1, h2 => by
    have e1 : ∀ j, j < 7 → s1.1 (227 + (8 * rw + j)) = s.1 (227 + (8 * rw + j)) := fun j hj => h1.1 _ (by omega)
    have e2 : ∀ j, j < 7 → s1.1 (343 + j) = s.1 (343 + j) := fun j hj => h1.1 _ (by omega)
    have a := rb2_I (rw := rw) (i := i) (kk := F_MH_rowBy_2_L0 rw pt m) (s := s1) (by omega) (fun j hj => by rw [e1 j hj]; exact hM j hj) (fun j hj => by rw [e2 j hj]; exact hV j hj) 7 0 (by decide)
    have er : rwV s1 rw 7 i = rwV s rw 7 i := rwV_c e1 e2
    rw [er] at a
    have hU : F_MH_rowBy_2_L0 rw pt (m + 1) i s1 = F_MH_rowBy_2_L0 rw pt m (i + 1) (sI s1 370 i (rwV s rw 7 i)) := Eq.trans (by rw [F_MH_rowBy_2_L0, rsN.eq_1, lN0]) a
    obtain ⟨s2, b1, b2, b3⟩ := rb2_O (pt := pt) hrw hM hV m (i + 1) (sI s1 370 i (rwV s rw 7 i)) (by omega) (onl_tr h1 onl_sI) (fun k hk => by
      rw [sI_row]
      by_cases w : k = i
      · subst w
        rw [upd_s]
      · rw [upd_n w]
        exact h2 k (by omega))
    exact ⟨s2, hU.trans b1, b2, b3⟩
/-- a row of the matrix times the vector, and the way back: both sides, set 2 (the vector of the program: secret) -/
theorem rowsecret2_same {rw pt : Nat} {s t : Sto} (hrw : rw < 8) (hpt : pt ≠ 370) (hM : ∀ j, j < 7 → sr 8380417 (s.1 (41 + (7 * rw + j))) (t.1 (227 + (8 * rw + j)))) (hV : ∀ j, j < 7 → sr 8380417 (s.1 (98 + j)) (t.1 (343 + j))) : onl (132 + rw) s (F_RG_restore_8 (132 + rw) (F_DA_multiplyRow_secret_2 rw s)) ∧ (∀ k, k ≠ 370 → k ≠ pt → (F_MH_rowBy_2 rw pt t).1 k = t.1 k) ∧ sr 8380417 ((F_RG_restore_8 (132 + rw) (F_DA_multiplyRow_secret_2 rw s)).1 (132 + rw)) ((F_MH_rowBy_2 rw pt t).1 pt) := by
  obtain ⟨a1, a2, a3⟩ := P_mrsecret2 hrw (fun j hj => sr_l (hM j hj)) (fun j hj => sr_l (hV j hj))
  generalize F_DA_multiplyRow_secret_2 rw s = s1 at a1 a2 a3
  obtain ⟨t1, b1, b2, b3⟩ := rb2_O (pt := pt) (s := t) hrw (fun j hj => sr_r (hM j hj)) (fun j hj => sr_r (hV j hj)) 256 0 t (by omega) onl_rf (fun k hk => absurd hk (Nat.not_lt_zero _))
  have hW : F_MH_rowBy_2 rw pt t = F_MR_back_8_0 370 pt t1 := by
    rw [F_MH_rowBy_2]
    exact b1
  have key : ∀ k, k < 256 → s1.1 (132 + rw) k = t1.1 370 k := fun k hk => by
    have r2 : rdc 8380417 (t1.1 370) := fun k hk => by
      obtain ⟨n, h1, h2, -⟩ := rwV_n (s := t) (r := rw) (l := 7) (k := k)
      exact ⟨n, h1, (b3 k hk).trans h2⟩
    refine rd_same (by decide) a2 r2 hk (cg_tr (a3 k hk) (cg_sy ?_))
    obtain ⟨n, h1, h2, h3⟩ := rwV_n (s := t) (r := rw) (l := 7) (k := k)
    rw [vl_n ((b3 k hk).trans h2) (by omega)]
    refine cg_tr h3 (cg_of (sm_ext 7 fun j hj => ?_))
    obtain ⟨x, hx, x1, x2⟩ := hM j hj k hk
    obtain ⟨y, hy, y1, y2⟩ := hV j hj k hk
    show ((vn (t.1 (227 + (8 * rw + j))) k * vn (t.1 (343 + j)) k : Nat) : Int) = _
    rw [vn_n x2 (by omega), vn_n y2 (by omega), vl_n x1 (by omega), vl_n y1 (by omega), Int.natCast_mul]
  rw [hW]
  have c1 := (P_restore8 a2).1
  have c2 := (P_restore8 a2).2.1
  have d1 := (Qb_out80 (pf := 370) (pt := pt) (Ne.symm hpt) 256 0 t1 rfl (rdc_c a2 fun k hk => (key k hk).symm)).1
  rw [← F_MR_back_8_0] at d1
  exact ⟨onl_tr a1 c1, fun k u v => (d1.1 k v).trans (b2.1 k u), sr_of c2 fun k hk => back_same8 (Ne.symm hpt) a2 key hk⟩
/-- a row of the matrix times the vector, and the way back: both sides, set 2 (the vector of the program: mask) -/
theorem rowmask2_same {rw pt : Nat} {s t : Sto} (hrw : rw < 8) (hpt : pt ≠ 370) (hM : ∀ j, j < 7 → sr 8380417 (s.1 (41 + (7 * rw + j))) (t.1 (227 + (8 * rw + j)))) (hV : ∀ j, j < 7 → sr 8380417 (s.1 (124 + j)) (t.1 (343 + j))) : onl (132 + rw) s (F_RG_restore_8 (132 + rw) (F_DA_multiplyRow_mask_2 rw s)) ∧ (∀ k, k ≠ 370 → k ≠ pt → (F_MH_rowBy_2 rw pt t).1 k = t.1 k) ∧ sr 8380417 ((F_RG_restore_8 (132 + rw) (F_DA_multiplyRow_mask_2 rw s)).1 (132 + rw)) ((F_MH_rowBy_2 rw pt t).1 pt) := by
  obtain ⟨a1, a2, a3⟩ := P_mrmask2 hrw (fun j hj => sr_l (hM j hj)) (fun j hj => sr_l (hV j hj))
  generalize F_DA_multiplyRow_mask_2 rw s = s1 at a1 a2 a3
  obtain ⟨t1, b1, b2, b3⟩ := rb2_O (pt := pt) (s := t) hrw (fun j hj => sr_r (hM j hj)) (fun j hj => sr_r (hV j hj)) 256 0 t (by omega) onl_rf (fun k hk => absurd hk (Nat.not_lt_zero _))
  have hW : F_MH_rowBy_2 rw pt t = F_MR_back_8_0 370 pt t1 := by
    rw [F_MH_rowBy_2]
    exact b1
  have key : ∀ k, k < 256 → s1.1 (132 + rw) k = t1.1 370 k := fun k hk => by
    have r2 : rdc 8380417 (t1.1 370) := fun k hk => by
      obtain ⟨n, h1, h2, -⟩ := rwV_n (s := t) (r := rw) (l := 7) (k := k)
      exact ⟨n, h1, (b3 k hk).trans h2⟩
    refine rd_same (by decide) a2 r2 hk (cg_tr (a3 k hk) (cg_sy ?_))
    obtain ⟨n, h1, h2, h3⟩ := rwV_n (s := t) (r := rw) (l := 7) (k := k)
    rw [vl_n ((b3 k hk).trans h2) (by omega)]
    refine cg_tr h3 (cg_of (sm_ext 7 fun j hj => ?_))
    obtain ⟨x, hx, x1, x2⟩ := hM j hj k hk
    obtain ⟨y, hy, y1, y2⟩ := hV j hj k hk
    show ((vn (t.1 (227 + (8 * rw + j))) k * vn (t.1 (343 + j)) k : Nat) : Int) = _
    rw [vn_n x2 (by omega), vn_n y2 (by omega), vl_n x1 (by omega), vl_n y1 (by omega), Int.natCast_mul]
  rw [hW]
  have c1 := (P_restore8 a2).1
  have c2 := (P_restore8 a2).2.1
  have d1 := (Qb_out80 (pf := 370) (pt := pt) (Ne.symm hpt) 256 0 t1 rfl (rdc_c a2 fun k hk => (key k hk).symm)).1
  rw [← F_MR_back_8_0] at d1
  exact ⟨onl_tr a1 c1, fun k u v => (d1.1 k v).trans (b2.1 k u), sr_of c2 fun k hk => back_same8 (Ne.symm hpt) a2 key hk⟩
