set_option linter.all false
theorem ca1 {s t : Sto} (h1 : ∀ x, x < 48 → s.1 144 x = t.1 376 x) (h2 : ∀ x, x < 48 → s.1 145 x = t.1 377 x) : ∀ (n j : Nat), j + n = 48 → ∃ z : Int32, (z = nI 1 ∨ z = nI 0) ∧ F_DA_challengesAgree_1_L0 n j s = (z, s) ∧ F_MH_verify_1_L4 n j t = (z, t)
  | 0, j, _ => ⟨nI 1, Or.inl rfl, by rw [F_DA_challengesAgree_1_L0], by rw [F_MH_verify_1_L4, bnd_eq]⟩
  | n + 1, j, hj => by
    obtain ⟨z, z0, z1, z2⟩ := ca1 h1 h2 n (j + 1) (by omega)
    by_cases q : s.1 144 j = s.1 145 j
    · refine ⟨z, z0, ?_, ?_⟩
      · rw [F_DA_challengesAgree_1_L0, if_pos q]
        exact z1
      · rw [F_MH_verify_1_L4, bnd_eq, if_pos (by rw [← h1 j (by omega), ← h2 j (by omega)]; exact q.symm)]
        exact z2
    · refine ⟨nI 0, Or.inr rfl, ?_, ?_⟩
      · rw [F_DA_challengesAgree_1_L0, if_neg q]
      · rw [F_MH_verify_1_L4, bnd_eq, if_neg (by rw [← h1 j (by omega), ← h2 j (by omega)]; exact fun c => q c.symm)]
theorem vt21 {pp : Nat} : ∀ (m j : Nat) (t : Sto), j + m = 5 → (∀ x, x < 5 → rdc 8380417 (t.1 (335 + x))) → (∀ x, x < j → isF8 (t.1 (335 + x)) (t.1 (343 + x)) ∧ rdc 8380417 (t.1 (343 + x))) →
    ∃ t1, F_MH_verify_1_L2 pp m j t = F_MH_verify_1_L3 pp 6 0 t1 ∧ frm (fun k => 343 ≤ k ∧ k ≤ 349) t t1 ∧ ∀ x, x < 5 → isF8 (t1.1 (335 + x)) (t1.1 (343 + x)) ∧ rdc 8380417 (t1.1 (343 + x))
  | 0, j, t, hj, _, h => by
    obtain rfl : j = 5 := by omega
    exact ⟨t, by rw [F_MH_verify_1_L2, bnd_eq], frm_rf, h⟩
  | m + 1, j, t, hj, h1, h => by
    have hV : F_MH_verify_1_L2 pp (m + 1) j t = F_MH_verify_1_L2 pp m (j + 1) (F_MR_forth_8_0 (335 + j) (343 + j) t) := by rw [F_MH_verify_1_L2, bnd_eq, bnd_eq]
    obtain ⟨-, b1, b2⟩ := forth8_sr (pf := 335 + j) (pg := 335 + j) (pt := 343 + j) (s := t) (t := t) (by omega) (sr_of (h1 j (by omega)) fun _ _ => rfl)
    have b3 : isF8 (t.1 (335 + j)) ((F_MR_forth_8_0 (335 + j) (343 + j) t).1 (343 + j)) := fun s pf u => (forth8_sr (pg := 335 + j) (pt := 343 + j) (t := t) (by omega) u).2.2
    generalize F_MR_forth_8_0 (335 + j) (343 + j) t = t2 at b1 b2 b3 hV
    obtain ⟨t3, c1, c3, c4⟩ := vt21 (pp := pp) m (j + 1) t2 (by omega) (fun x hx => by rw [b1.1 _ (by omega)]; exact h1 x hx) (fun x hx => by
      by_cases w : x = j
      · subst w
        rw [b1.1 (335 + x) (by omega)]
        exact ⟨b3, sr_r b2⟩
      · rw [b1.1 (335 + x) (by omega), b1.1 (343 + x) (by omega)]
        exact h x (by omega))
    exact ⟨t3, hV.trans c1, fun k hk => by rw [c3 k hk, b1.1 k (by omega)], c4⟩
/-- a row of the verifier, as the reference has it: set 1 -/
def rwF1 (BP c : Nat → Int32) (MM : Nat → Nat → Nat → Int32) (HH : Nat → Nat → Int32) (v : Nat) (w : Nat → Int32) : Prop := ∃ W0 P : Nat → Int32, rdc 8380417 P ∧ (∀ k, k < 256 → cg ((8380417 : Nat) : Int) (vl P k) (sm 256 fun i => (c i).toInt * shf (fun j => ((t1N BP (32 + 320 * v) j : Nat) : Int)) i k)) ∧ (∀ s' : Sto, (∀ x, x < 5 → sr 8380417 (s'.1 (41 + (5 * v + x))) (MM v x)) → (∀ x, x < 5 → sr 8380417 (s'.1 (124 + x)) (HH x)) → sr 8380417 ((F_RG_restore_8 (132 + v) (F_DA_multiplyRow_mask_1 v s')).1 (132 + v)) W0) ∧ ∀ k, k < 256 → w k = nI ((8380417 + vn W0 k - vn P k) % 8380417)
theorem vv31 {pp : Nat} {BP a c : Nat → Int32} {MM : Nat → Nat → Nat → Int32} {HH : Nat → Nat → Int32} (hp : ¬ (225 ≤ pp ∧ pp ≤ 378)) (ha : tern a c) (hM : ∀ y x, y < 6 → x < 5 → rdc 8380417 (MM y x)) (hH : ∀ x, x < 5 → rdc 8380417 (HH x)) : ∀ (m y : Nat) (t : Sto), y + m = 6 → t.1 pp = BP → t.1 368 = c → (∀ y x, y < 6 → x < 5 → t.1 (227 + (8 * y + x)) = MM y x) → (∀ x, x < 5 → t.1 (343 + x) = HH x) → (∀ v, v < y → rwF1 BP c MM HH v (t.1 (351 + v))) →
    ∃ t1, F_MH_verify_1_L3 pp m y t = F_MH_verify_1_L3 pp 0 6 t1 ∧ frm (fun k => (318 ≤ k ∧ k ≤ 325) ∨ (351 ≤ k ∧ k ≤ 358) ∨ k = 369 ∨ k = 370) t t1 ∧ ∀ v, v < 6 → rwF1 BP c MM HH v (t1.1 (351 + v))
  | 0, y, t, hy, _, _, _, _, h => by
    obtain rfl : y = 6 := by omega
    exact ⟨t, rfl, frm_rf, h⟩
  | m + 1, y, t, hy, e1, e2, h1, h2, h => by
    have hV : F_MH_verify_1_L3 pp (m + 1) y t = F_MH_verify_1_L5 pp y (F_MH_verify_1_L3 pp m) 256 0 (F_MH_rowBy_1 y (351 + y) t) := by rw [F_MH_verify_1_L3, bnd_eq, bnd_eq]
    obtain ⟨a1, a2, -⟩ := rbF1 (rw := y) (pt := 351 + y) (t := t) (by omega) (by omega) (fun x hx => by rw [h1 y x (by omega) hx]; exact hM y x (by omega) hx) (fun x hx => by rw [h2 x hx]; exact hH x hx)
    have a4 : ∀ s' : Sto, (∀ x, x < 5 → sr 8380417 (s'.1 (41 + (5 * y + x))) (MM y x)) → (∀ x, x < 5 → sr 8380417 (s'.1 (124 + x)) (HH x)) → sr 8380417 ((F_RG_restore_8 (132 + y) (F_DA_multiplyRow_mask_1 y s')).1 (132 + y)) ((F_MH_rowBy_1 y (351 + y) t).1 (351 + y)) := fun s' u1 u2 => (rowmask1_same (s := s') (t := t) (show y < 6 by omega) (show 351 + y ≠ 370 by omega) (fun x hx => by rw [h1 y x (by omega) hx]; exact u1 x hx) (fun x hx => by rw [h2 x hx]; exact u2 x hx)).2.2
    generalize F_MH_rowBy_1 y (351 + y) t = t2 at a1 a2 a4 hV
    obtain ⟨t3, b1, b3, P, b4, b5, b6⟩ := vr51 (pp := pp) (r := y) (kk := F_MH_verify_1_L3 pp m) (t := t2) (a := a) hp (by omega) (by rw [a1 368 (by omega) (by omega), e2]; exact ha) a2
    rw [a1 368 (by omega) (by omega), e2, a1 pp (by omega) (by omega), e1] at b5
    have g : ∀ k, k ≠ 318 + y → k ≠ 351 + y → k ≠ 369 → k ≠ 370 → t3.1 k = t.1 k := fun k u1 u2 u3 u4 => by rw [b3 k (by omega), a1 k u4 u2]
    obtain ⟨t4, c1, c2, c3⟩ := vv31 (BP := BP) (c := c) hp ha hM hH m (y + 1) t3 (by omega) (by rw [g pp (by omega) (by omega) (by omega) (by omega)]; exact e1) (by rw [g 368 (by omega) (by omega) (by omega) (by omega)]; exact e2) (fun v x hv hx => by rw [g _ (by omega) (by omega) (by omega) (by omega)]; exact h1 v x hv hx) (fun x hx => by rw [g _ (by omega) (by omega) (by omega) (by omega)]; exact h2 x hx) (fun v hv => by
      by_cases w : v = y
      · subst w
        exact ⟨t2.1 (351 + v), P, b4, b5, a4, b6⟩
      · rw [g _ (by omega) (by omega) (by omega) (by omega)]
        exact h v (by omega))
    exact ⟨t4, (hV.trans b1).trans c1, fun k hk => by rw [c2 k hk, g k (by omega) (by omega) (by omega) (by omega)], c3⟩
theorem va01 {pp : Nat} {Z HH : Nat → Nat → Int32} (hF : ∀ x, x < 5 → isF8 (Z x) (HH x)) : ∀ (m j : Nat) (s : Sto), j + m = 5 → (∀ x, x < j → sr 8380417 (s.1 (124 + x)) (HH x)) → (∀ x, j ≤ x → x < 5 → sr 8380417 (s.1 (124 + x)) (Z x)) →
    ∃ s1, F_DA_accepts_1_L0 pp m j s = F_DA_accepts_1_L1 pp 6 0 0 (F_DA_startChallenge s1) ∧ frm (fun k => 124 ≤ k ∧ k ≤ 130) s s1 ∧ ∀ x, x < 5 → sr 8380417 (s1.1 (124 + x)) (HH x)
  | 0, j, s, hj, h1, _ => ⟨s, by rw [F_DA_accepts_1_L0, bnd_eq], frm_rf, fun x hx => h1 x (by omega)⟩
  | m + 1, j, s, hj, h1, h2 => by
    have hU : F_DA_accepts_1_L0 pp (m + 1) j s = F_DA_accepts_1_L0 pp m (j + 1) (F_RG_transform_8 (124 + j) s) := by rw [F_DA_accepts_1_L0, bnd_eq]
    have a := h2 j (Nat.le_refl _) (by omega)
    have b := hF j (by omega) s (124 + j) a
    have c := (P_transform8 (sr_l a)).1
    generalize F_RG_transform_8 (124 + j) s = s1 at b c hU
    obtain ⟨s2, d1, d2, d3⟩ := va01 (pp := pp) hF m (j + 1) s1 (by omega) (fun x hx => by
      by_cases w : x = j
      · subst w
        exact b
      · rw [c.1 (124 + x) (by omega)]
        exact h1 x (by omega)) (fun x hx1 hx2 => by rw [c.1 (124 + x) (by omega)]; exact h2 x (by omega) hx2)
    exact ⟨s2, hU.trans d1, fun k hk => by rw [d2 k hk, c.1 k (by omega)], d3⟩
