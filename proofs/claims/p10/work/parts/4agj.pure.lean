set_option linter.all false
theorem kpS2 {pf psk i : Nat} {SD R : Nat → Int32} {s : Sto} (h1 : pf ≠ 18) (h2 : pf ≠ 141) (h3 : psk ≠ 18) (h4 : psk ≠ 141) (h5 : pf ≠ psk) (hR : isSm2 SD (nI i) R) (hB : ∀ x, x < 64 → s.1 142 (32 + x) = SD x) :
    (∀ y, y ≠ 18 → y ≠ pf → y ≠ 141 → y ≠ psk → (F_BT_pack 141 3 psk 4896 (128 + 96 * i) (F_RG_flip_8 pf (nI 2) 141 (F_SA_sampleSmall_2 pf 142 128 32 (nI i) s))).1 y = s.1 y) ∧ ss 2 ((F_BT_pack 141 3 psk 4896 (128 + 96 * i) (F_RG_flip_8 pf (nI 2) 141 (F_SA_sampleSmall_2 pf 142 128 32 (nI i) s))).1 pf) R ∧ (∀ j, j < 96 → (F_BT_pack 141 3 psk 4896 (128 + 96 * i) (F_RG_flip_8 pf (nI 2) 141 (F_SA_sampleSmall_2 pf 142 128 32 (nI i) s))).1 psk (128 + 96 * i + j) = pkb 3 (fun k => wS 2 (R k)) j) ∧ ∀ k, k < 128 + 96 * i → (F_BT_pack 141 3 psk 4896 (128 + 96 * i) (F_RG_flip_8 pf (nI 2) 141 (F_SA_sampleSmall_2 pf 142 128 32 (nI i) s))).1 psk k = s.1 psk k := by
  obtain ⟨a1, a2⟩ := hR pf 142 128 32 s h1 (by decide) hB
  generalize F_SA_sampleSmall_2 pf 142 128 32 (nI i) s = s1 at a1 a2
  obtain ⟨b1, b2⟩ := P_flip8 (pf := pf) (pg := 141) (tp := nI 2) (s := s1)
  generalize F_RG_flip_8 pf (nI 2) 141 s1 = s2 at b1 b2
  obtain ⟨c1, c2, c3⟩ := P_packW (pf := 141) (b := 3) (pt := psk) (n := 4896) (at_ := 128 + 96 * i) (W := fun k => wS 2 (R k)) (s := s2) (Ne.symm h4) (by decide) (by decide) (fun k hk => by
    obtain ⟨w, hw, e1, e2⟩ := a2 k hk
    show wS 2 (R k) < 2 ^ 3 ∧ s2.1 141 k = nI (wS 2 (R k))
    rw [b2 k hk, e1, e2, wS_e (by decide) hw, fl_small (by decide) hw]
    exact ⟨by omega, rfl⟩)
  refine ⟨fun y u1 u2 u3 u4 => ?_, ?_, fun j hj => c2 j (by omega), fun k hk => ?_⟩
  · rw [c1.1 y u4, b1.1 y u3, a1.1 y u1 u2]
  · rw [c1.1 pf h5, b1.1 pf h2]
    exact a2
  · rw [c3 k (Or.inl hk), b1.1 psk h4, a1.1 psk h3 (Ne.symm h5)]
theorem kp02 {psk : Nat} {SD LB : Nat → Int32} {R : Nat → Nat → Int32} (hp : ¬ (16 ≤ psk ∧ psk ≤ 18) ∧ ¬ (41 ≤ psk ∧ psk ≤ 147)) (hR : ∀ r, r < 15 → isSm2 SD (nI r) (R r)) : ∀ (m i : Nat) (s : Sto), i + m = 15 → (∀ x, x < 64 → s.1 142 (32 + x) = SD x) → (∀ x, x < 128 → s.1 psk x = LB x) → (∀ r, r < 7 → r < i → ss 2 (s.1 (98 + r)) (R r)) → (∀ r, r < 8 → 7 + r < i → ss 2 (s.1 (106 + r)) (R (7 + r))) → (∀ r j, r < i → j < 96 → s.1 psk (128 + 96 * r + j) = pkb 3 (fun k => wS 2 (R r k)) j) →
    ∃ s1, F_DA_writeSmallVectors_2_L0 psk m i s = s1 ∧ frm (fun k => k = 18 ∨ (98 ≤ k ∧ k ≤ 113) ∨ k = 141 ∨ k = psk) s s1 ∧ (∀ x, x < 128 → s1.1 psk x = LB x) ∧ (∀ r, r < 7 → ss 2 (s1.1 (98 + r)) (R r)) ∧ (∀ r, r < 8 → ss 2 (s1.1 (106 + r)) (R (7 + r))) ∧ ∀ r j, r < 15 → j < 96 → s1.1 psk (128 + 96 * r + j) = pkb 3 (fun k => wS 2 (R r k)) j
  | 0, i, s, hi, _, h2, h3, h4, h5 => by
    obtain rfl : i = 15 := by omega
    exact ⟨s, by rw [F_DA_writeSmallVectors_2_L0], frm_rf, h2, fun r hr => h3 r hr (by omega), fun r hr => h4 r hr (by omega), h5⟩
  | m + 1, i, s, hi, h1, h2, h3, h4, h5 => by
    by_cases q : 7 ≤ i
    · have hU : F_DA_writeSmallVectors_2_L0 psk (m + 1) i s = F_DA_writeSmallVectors_2_L0 psk m (i + 1) (F_BT_pack 141 3 psk 4896 (128 + 96 * i) (F_RG_flip_8 (106 + (i - 7)) (nI 2) 141 (F_SA_sampleSmall_2 (106 + (i - 7)) 142 128 32 (nI i) s))) := by
        rw [F_DA_writeSmallVectors_2_L0, if_pos q]
        repeat rw [bnd_eq]
      obtain ⟨a1, a2, a3, a4⟩ := kpS2 (pf := 106 + (i - 7)) (psk := psk) (i := i) (s := s) (by omega) (by omega) (by omega) (by omega) (by omega) (hR i (by omega)) h1
      generalize F_BT_pack 141 3 psk 4896 (128 + 96 * i) (F_RG_flip_8 (106 + (i - 7)) (nI 2) 141 (F_SA_sampleSmall_2 (106 + (i - 7)) 142 128 32 (nI i) s)) = s1 at a1 a2 a3 a4 hU
      obtain ⟨s2, b1, b2, b3⟩ := kp02 (LB := LB) hp hR m (i + 1) s1 (by omega) (fun x hx => by rw [a1 142 (by omega) (by omega) (by omega) (by omega)]; exact h1 x hx) (fun x hx => by rw [a4 x (by omega)]; exact h2 x hx) (fun r hr hr2 => by rw [a1 (98 + r) (by omega) (by omega) (by omega) (by omega)]; exact h3 r hr (by omega)) (fun r hr hr2 => by
        by_cases w : 7 + r = i
        · rw [show 106 + r = 106 + (i - 7) by omega, w]
          exact a2
        · rw [a1 (106 + r) (by omega) (by omega) (by omega) (by omega)]
          exact h4 r hr (by omega)) (fun r j hr hj => by
        by_cases w : r = i
        · subst w
          exact a3 j hj
        · rw [a4 _ (by omega)]
          exact h5 r j (by omega) hj)
      exact ⟨s2, hU.trans b1, fun k hk => by rw [b2 k hk, a1 k (by omega) (by omega) (by omega) (by omega)], b3⟩
    · have hU : F_DA_writeSmallVectors_2_L0 psk (m + 1) i s = F_DA_writeSmallVectors_2_L0 psk m (i + 1) (F_BT_pack 141 3 psk 4896 (128 + 96 * i) (F_RG_flip_8 (98 + i) (nI 2) 141 (F_SA_sampleSmall_2 (98 + i) 142 128 32 (nI i) s))) := by
        rw [F_DA_writeSmallVectors_2_L0, if_neg q]
        repeat rw [bnd_eq]
      obtain ⟨a1, a2, a3, a4⟩ := kpS2 (pf := 98 + i) (psk := psk) (i := i) (s := s) (by omega) (by omega) (by omega) (by omega) (by omega) (hR i (by omega)) h1
      generalize F_BT_pack 141 3 psk 4896 (128 + 96 * i) (F_RG_flip_8 (98 + i) (nI 2) 141 (F_SA_sampleSmall_2 (98 + i) 142 128 32 (nI i) s)) = s1 at a1 a2 a3 a4 hU
      obtain ⟨s2, b1, b2, b3⟩ := kp02 (LB := LB) hp hR m (i + 1) s1 (by omega) (fun x hx => by rw [a1 142 (by omega) (by omega) (by omega) (by omega)]; exact h1 x hx) (fun x hx => by rw [a4 x (by omega)]; exact h2 x hx) (fun r hr hr2 => by
        by_cases w : r = i
        · subst w
          exact a2
        · rw [a1 (98 + r) (by omega) (by omega) (by omega) (by omega)]
          exact h3 r hr (by omega)) (fun r hr hr2 => by omega) (fun r j hr hj => by
        by_cases w : r = i
        · subst w
          exact a3 j hj
        · rw [a4 _ (by omega)]
          exact h5 r j (by omega) hj)
      exact ⟨s2, hU.trans b1, fun k hk => by rw [b2 k hk, a1 k (by omega) (by omega) (by omega) (by omega)], b3⟩
theorem kp12 {pp psk : Nat} {R HH : Nat → Nat → Int32} (hF : ∀ x, x < 7 → isF8 (R x) (HH x)) : ∀ (m i : Nat) (s : Sto), i + m = 7 → (∀ x, x < i → sr 8380417 (s.1 (98 + x)) (HH x)) → (∀ x, i ≤ x → x < 7 → sr 8380417 (s.1 (98 + x)) (R x)) →
    ∃ s1, F_DA_makePair_2_L0 pp psk m i s = F_DA_makePair_2_L1 pp psk 8 0 s1 ∧ frm (fun k => 98 ≤ k ∧ k ≤ 104) s s1 ∧ ∀ x, x < 7 → sr 8380417 (s1.1 (98 + x)) (HH x)
  | 0, i, s, hi, h1, _ => ⟨s, by rw [F_DA_makePair_2_L0], frm_rf, fun x hx => h1 x (by omega)⟩
  | m + 1, i, s, hi, h1, h2 => by
    have hU : F_DA_makePair_2_L0 pp psk (m + 1) i s = F_DA_makePair_2_L0 pp psk m (i + 1) (F_RG_transform_8 (98 + i) s) := by rw [F_DA_makePair_2_L0, bnd_eq]
    have a := h2 i (Nat.le_refl _) (by omega)
    have b := hF i (by omega) s (98 + i) a
    have c := (P_transform8 (sr_l a)).1
    generalize F_RG_transform_8 (98 + i) s = s1 at b c hU
    obtain ⟨s2, d1, d2, d3⟩ := kp12 (pp := pp) (psk := psk) hF m (i + 1) s1 (by omega) (fun x hx => by
      by_cases w : x = i
      · subst w
        exact b
      · rw [c.1 (98 + x) (by omega)]
        exact h1 x (by omega)) (fun x hx1 hx2 => by rw [c.1 (98 + x) (by omega)]; exact h2 x (by omega) hx2)
    exact ⟨s2, hU.trans d1, fun k hk => by rw [d2 k hk, c.1 k (by omega)], d3⟩
theorem kp22 {pp psk : Nat} {SE LB : Nat → Int32} {MM : Nat → Nat → Nat → Int32} {HH S2 : Nat → Nat → Int32} {VV : Nat → Nat → Nat} (hp : ¬ (16 ≤ pp ∧ pp ≤ 18) ∧ ¬ (41 ≤ pp ∧ pp ≤ 147)) (hq : ¬ (16 ≤ psk ∧ psk ≤ 18) ∧ ¬ (41 ≤ psk ∧ psk ≤ 147)) (hne : pp ≠ psk) (hV : ∀ r k, r < 8 → k < 256 → VV r k < 8380417) (hZ : ∀ r, r < 8 → ∀ s : Sto, (∀ x, x < 7 → sr 8380417 (s.1 (41 + (7 * r + x))) (MM r x)) → (∀ x, x < 7 → sr 8380417 (s.1 (98 + x)) (HH x)) → sr 8380417 (s.1 (106 + r)) (S2 r) → onl (132 + r) s (F_RG_restore_8 (132 + r) (F_DA_multiplyRow_secret_2 r s)) ∧ ∀ k, k < 256 → (F_RG_add_8 (132 + r) (106 + r) (F_RG_restore_8 (132 + r) (F_DA_multiplyRow_secret_2 r s))).1 (132 + r) k = nI (VV r k)) : ∀ (m i : Nat) (s : Sto), i + m = 8 → (∀ y x, y < 8 → x < 7 → sr 8380417 (s.1 (41 + (7 * y + x))) (MM y x)) → (∀ x, x < 7 → sr 8380417 (s.1 (98 + x)) (HH x)) → (∀ r, r < 8 → sr 8380417 (s.1 (106 + r)) (S2 r)) → (∀ x, x < 32 → s.1 pp x = SE x) → (∀ x, x < 1568 → s.1 psk x = LB x) → (∀ r j, r < i → j < 320 → s.1 pp (32 + 320 * r + j) = pkb 10 (fun k => p2h (VV r k)) j) → (∀ r j, r < i → j < 416 → s.1 psk (1568 + 416 * r + j) = pkb 13 (fun k => p2w (VV r k)) j) →
    ∃ s1, F_DA_makePair_2_L1 pp psk m i s = F_DA_makePair_2_L1 pp psk 0 8 s1 ∧ frm (fun k => (132 ≤ k ∧ k ≤ 139) ∨ k = 141 ∨ k = pp ∨ k = psk) s s1 ∧ (∀ x, x < 32 → s1.1 pp x = SE x) ∧ (∀ x, x < 1568 → s1.1 psk x = LB x) ∧ (∀ r j, r < 8 → j < 320 → s1.1 pp (32 + 320 * r + j) = pkb 10 (fun k => p2h (VV r k)) j) ∧ ∀ r j, r < 8 → j < 416 → s1.1 psk (1568 + 416 * r + j) = pkb 13 (fun k => p2w (VV r k)) j
  | 0, i, s, hi, _, _, _, h4, h5, h6, h7 => by
    obtain rfl : i = 8 := by omega
    exact ⟨s, rfl, frm_rf, h4, h5, h6, h7⟩
  | m + 1, i, s, hi, h1, h2, h3, h4, h5, h6, h7 => by
    have hU : F_DA_makePair_2_L1 pp psk (m + 1) i s = F_DA_makePair_2_L1 pp psk m (i + 1) (F_BT_pack 141 13 psk 4896 (1568 + 416 * i) (F_BT_pack (132 + i) 10 pp 2592 (32 + 320 * i) (F_DA_splitRow (132 + i) (F_RG_add_8 (132 + i) (106 + i) (F_RG_restore_8 (132 + i) (F_DA_multiplyRow_secret_2 i s)))))) := by
      rw [F_DA_makePair_2_L1]
      repeat rw [bnd_eq]
    obtain ⟨a1, a2⟩ := hZ i (by omega) s (fun x hx => h1 i x (by omega) hx) h2 (h3 i (by omega))
    have a3 : onl (132 + i) (F_RG_restore_8 (132 + i) (F_DA_multiplyRow_secret_2 i s)) (F_RG_add_8 (132 + i) (106 + i) (F_RG_restore_8 (132 + i) (F_DA_multiplyRow_secret_2 i s))) := (P_add8 (by omega)).1
    have a4 := onl_tr a1 a3
    generalize F_RG_add_8 (132 + i) (106 + i) (F_RG_restore_8 (132 + i) (F_DA_multiplyRow_secret_2 i s)) = s1 at a2 a4 hU
    obtain ⟨b1, b2⟩ := P_split (pf := 132 + i) (s := s1) (by omega) (fun k hk => ⟨VV i k, hV i k (by omega) hk, a2 k hk⟩)
    have b3 : ∀ k, k < 256 → (F_DA_splitRow (132 + i) s1).1 141 k = nI (p2w (VV i k)) ∧ (F_DA_splitRow (132 + i) s1).1 (132 + i) k = nI (p2h (VV i k)) := fun k hk => b2 k _ hk (hV i k (by omega) hk) (a2 k hk)
    generalize F_DA_splitRow (132 + i) s1 = s2 at b1 b3 hU
    obtain ⟨c1, c2, c3⟩ := P_packW (pf := 132 + i) (b := 10) (pt := pp) (n := 2592) (at_ := 32 + 320 * i) (W := fun k => p2h (VV i k)) (s := s2) (by omega) (by decide) (by decide) (fun k hk => ⟨p2h_lt (hV i k (by omega) hk), (b3 k hk).2⟩)
    generalize F_BT_pack (132 + i) 10 pp 2592 (32 + 320 * i) s2 = s3 at c1 c2 c3 hU
    obtain ⟨d1, d2, d3⟩ := P_packW (pf := 141) (b := 13) (pt := psk) (n := 4896) (at_ := 1568 + 416 * i) (W := fun k => p2w (VV i k)) (s := s3) (by omega) (by decide) (by decide) (fun k hk => ⟨p2w_lt, by rw [c1.1 141 (by omega)]; exact (b3 k hk).1⟩)
    generalize F_BT_pack 141 13 psk 4896 (1568 + 416 * i) s3 = s4 at d1 d2 d3 hU
    have g : frm (fun k => k = 132 + i ∨ k = 141 ∨ k = pp ∨ k = psk) s s4 := fun k hk => by rw [d1.1 k (by omega), c1.1 k (by omega), b1 k (by omega) (by omega), a4.1 k (by omega)]
    have e1 : s4.1 pp = s3.1 pp := d1.1 pp hne
    have e2 : s2.1 pp = s.1 pp := by rw [b1 pp (by omega) (by omega), a4.1 pp (by omega)]
    have e3 : s3.1 psk = s.1 psk := by rw [c1.1 psk (Ne.symm hne), b1 psk (by omega) (by omega), a4.1 psk (by omega)]
    obtain ⟨s5, f1, f2, f3⟩ := kp22 (SE := SE) (LB := LB) hp hq hne hV hZ m (i + 1) s4 (by omega) (fun y x hy hx => by rw [g _ (by omega)]; exact h1 y x hy hx) (fun x hx => by rw [g _ (by omega)]; exact h2 x hx) (fun r hr => by rw [g _ (by omega)]; exact h3 r hr) (fun x hx => by rw [e1, c3 x (Or.inl (by omega)), e2]; exact h4 x hx) (fun x hx => by rw [d3 x (Or.inl (by omega)), e3]; exact h5 x hx) (fun r j hr hj => by
      rw [e1]
      by_cases w : r = i
      · subst w
        exact c2 j (by omega)
      · rw [c3 _ (Or.inl (by omega)), e2]
        exact h6 r j (by omega) hj) (fun r j hr hj => by
      by_cases w : r = i
      · subst w
        exact d2 j (by omega)
      · rw [d3 _ (Or.inl (by omega)), e3]
        exact h7 r j (by omega) hj)
    exact ⟨s5, hU.trans f1, fun k hk => by rw [f2 k hk, g k (by omega)], f3⟩
theorem Q_as2 {t : Sto} {k : Nat} (hk : k ≠ 225) : (F_MH_as_2 t).1 k = t.1 k := by
  rw [F_MH_as_2]
  repeat rw [bnd_eq]
  repeat rw [sI_ne hk]
/-- ML-DSA.KeyGen, set 2: where the reference's draws end in time, both parts of the keys are the same bytes -/
theorem dkeys2_same {pch n pp psk psd m pek pdk : Nat} {s t : Sto} (hK : apK8 pch pp psk) (hL : apL8 psd pek pdk) (hS : ∀ j, j < 32 → s.1 pch j = t.1 psd j) (hE : E_MH_keys_2 psd m pek pdk t) : frm (fun k => k = 16 ∨ k = 18 ∨ (41 ≤ k ∧ k ≤ 143) ∨ k = pp ∨ k = psk) s (F_DA_makePair_2 pch n pp psk s) ∧ frm (fun k => k = 172 ∨ (225 ≤ k ∧ k ≤ 372) ∨ k = pek ∨ k = pdk) t (F_MH_keys_2 psd m pek pdk t) ∧ (∀ x, x < 2592 → (F_DA_makePair_2 pch n pp psk s).1 pp x = (F_MH_keys_2 psd m pek pdk t).1 pek x) ∧ ∀ x, x < 4896 → (F_DA_makePair_2 pch n pp psk s).1 psk x = (F_MH_keys_2 psd m pek pdk t).1 pdk x := by
  have hK' := hK
  unfold apK8 at hK'
  have hL' := hL
  unfold apL8 at hL'
  have o2 : ∀ w : Sto, (F_MH_openSize_2 w).2 = w := fun w => by rw [F_MH_openSize_2]
  have hU : F_DA_makePair_2 pch n pp psk s = F_DA_makePair_2_L0 pp psk 7 0 (F_SA_expandMatrix_2 pp 2592 (F_DA_writeSmallVectors_2 psk (sC (sC (sC (F_SP_squeeze 16 17 142 128 0 128 (F_SP_finish 16 17 (F_SP_absorbByte 16 17 (nI 7) (F_SP_absorbByte 16 17 (nI 8) (F_SP_absorb 16 17 pch n 0 32 (F_SP_start_3 16 17 s)))))) 142 pp 0 0 32) 142 psk 0 0 32) 142 psk 96 32 32))) := by
    rw [F_DA_makePair_2]
    repeat rw [bnd_eq]
  have hV : F_MH_keys_2 psd m pek pdk t = F_MH_keys_2_L0 pek pdk 7 0 (F_MH_expand_2 372 128 (F_MS_take 372 128 0 128 (F_MS_end (F_MS_put (nI 7) (F_MS_put (nI 8) (F_MS_puts psd m 0 32 (F_MS_begin 136 (nI 31) (F_MH_as_2 t)))))))) := by
    rw [F_MH_keys_2]
    repeat rw [bnd_eq]
    rw [shM]
  rw [E_MH_keys_2] at hE
  repeat rw [bnd_eq] at hE
  rw [shM] at hE
  have hA : ∀ k, k ≠ 225 → (F_MH_as_2 t).1 k = t.1 k := fun k hk => Q_as2 hk
  generalize F_MH_as_2 t = ta at hA hV hE
  obtain ⟨a1, a2, a3, a4⟩ := seed8_same (k := 8) (l := 7) (n := n) (m := m) (s := s) (t := ta) (by omega : pch ≠ 16) (by omega : psd ≠ 172) (fun j hj => by rw [hA psd (by omega)]; exact hS j hj)
  generalize F_SP_squeeze 16 17 142 128 0 128 (F_SP_finish 16 17 (F_SP_absorbByte 16 17 (nI 7) (F_SP_absorbByte 16 17 (nI 8) (F_SP_absorb 16 17 pch n 0 32 (F_SP_start_3 16 17 s))))) = s0 at a1 a3 hU
  generalize F_MS_take 372 128 0 128 (F_MS_end (F_MS_put (nI 7) (F_MS_put (nI 8) (F_MS_puts psd m 0 32 (F_MS_begin 136 (nI 31) ta))))) = t0 at a2 a3 a4 hV hE
  -- the program's copies of the seeds
  have b1 : onl pp s0 (sC s0 142 pp 0 0 32) := sC_o
  have b2 : ∀ x, x < 32 → (sC s0 142 pp 0 0 32).1 pp x = t0.1 372 x := fun x hx => by
    have := sC_in (s := s0) (k0 := 142) (k1 := pp) (sp := 0) (dp := 0) hx
    rw [Nat.zero_add] at this
    rw [this]
    exact a3 x (by omega)
  generalize sC s0 142 pp 0 0 32 = s1 at b1 b2 hU
  have b3 : onl psk s1 (sC s1 142 psk 0 0 32) := sC_o
  have b4 : ∀ x, x < 32 → (sC s1 142 psk 0 0 32).1 psk x = t0.1 372 x := fun x hx => by
    have := sC_in (s := s1) (k0 := 142) (k1 := psk) (sp := 0) (dp := 0) hx
    rw [Nat.zero_add] at this
    rw [this, b1.1 142 (by omega)]
    exact a3 x (by omega)
  generalize sC s1 142 psk 0 0 32 = s2 at b3 b4 hU
  have b5 : onl psk s2 (sC s2 142 psk 96 32 32) := sC_o
  have b6 : ∀ x, x < 32 → (sC s2 142 psk 96 32 32).1 psk (32 + x) = t0.1 372 (96 + x) := fun x hx => by
    rw [sC_in hx, b3.1 142 (by omega), b1.1 142 (by omega)]
    exact a3 _ (by omega)
  have b7 : ∀ x, x < 32 → (sC s2 142 psk 96 32 32).1 psk x = t0.1 372 x := fun x hx => by
    rw [sC_out (Or.inl hx)]
    exact b4 x hx
  generalize sC s2 142 psk 96 32 32 = s3 at b5 b6 b7 hU
  -- the reference: the matrix, the vectors, the rows
  have hEx := hE.1
  rw [and_iff_right hEx] at hE
  have x2 : ∀ (s : Sto) (pb np : Nat), (pb ≠ 18 ∧ ¬ (41 ≤ pb ∧ pb ≤ 96)) → (∀ x, x < 32 → s.1 pb x = t0.1 372 x) → frm (fun k => k = 18 ∨ (41 ≤ k ∧ k ≤ 96)) s (F_SA_expandMatrix_2 pb np s) ∧ frm (fun k => k = 172 ∨ (227 ≤ k ∧ k ≤ 290)) t0 (F_MH_expand_2 372 128 t0) ∧ ∀ y x, y < 8 → x < 7 → sr 8380417 ((F_SA_expandMatrix_2 pb np s).1 (41 + (7 * y + x))) ((F_MH_expand_2 372 128 t0).1 (227 + (8 * y + x))) := fun s pb np u1 u2 => exp2_same u1 (by decide) u2 hEx
  obtain ⟨-, x1, x3⟩ := x2 (fun _ x => t0.1 372 x, fun _ _ => 0) 0 0 (by decide) (fun _ _ => rfl)
  have hMM : ∀ y x, y < 8 → x < 7 → rdc 8380417 ((F_MH_expand_2 372 128 t0).1 (227 + (8 * y + x))) := fun y x hy hx => sr_r (x3 y x hy hx)
  generalize F_MH_expand_2 372 128 t0 = t1 at x1 x2 hMM hV hE
  obtain ⟨t2, c1, c2, c3, c4⟩ := kq02 (pp := pek) (psk := pdk) (SD := fun x => t0.1 372 (32 + x)) 7 0 t1 (by decide) (fun x hx => by rw [x1 372 (by omega)]) hE (fun r hr => absurd hr (Nat.not_lt_zero _))
  rw [c1] at hV
  obtain ⟨t3, d1, d2, d3⟩ := kq12 (pp := pek) (psk := pdk) (SD := fun x => t0.1 372 (32 + x)) (MM := fun y x => t1.1 (227 + (8 * y + x))) (HH := fun x => t2.1 (343 + x)) hMM (fun x hx => (c4 x hx).2.2) 8 0 t2 (by decide) (fun x hx => by rw [c3 372 (by omega), x1 372 (by omega)]) (fun y x hy hx => by rw [c3 _ (by omega)]) (fun x hx => rfl) c2 (fun r hr => absurd hr (Nat.not_lt_zero _))
  rw [d1] at hV
  have eSE : t3.1 372 = t0.1 372 := by rw [d2 372 (by omega), c3 372 (by omega), x1 372 (by omega)]
  obtain ⟨VV, hVV⟩ := sk_of (fun _ => 0) (n := 8) (fun r hr => (d3 r hr).2)
  have hVlt : ∀ r k, r < 8 → k < 256 → VV r k < 8380417 := fun r k hr hk => ((hVV r hr).1 k hk).1
  have hR : ∀ r, r < 15 → isSm2 (fun x => t0.1 372 (32 + x)) (nI r) (if r < 7 then t3.1 (292 + r) else t3.1 (300 + (r - 7))) := fun r hr => by
    by_cases q : r < 7
    · rw [if_pos q, d2 _ (by omega)]
      exact (c4 r q).1
    · rw [if_neg q]
      have := (d3 (r - 7) (by omega)).1
      rw [show r - 7 + 7 = r by omega] at this
      exact this
  have hRa : ∀ r, r < 7 → (if r < 7 then t3.1 (292 + r) else t3.1 (300 + (r - 7))) = t3.1 (292 + r) := fun r hr => if_pos hr
  have hRb : ∀ r, (if 7 + r < 7 then t3.1 (292 + (7 + r)) else t3.1 (300 + (7 + r - 7))) = t3.1 (300 + r) := fun r => by
    rw [if_neg (by omega), show 7 + r - 7 = r by omega]
  obtain ⟨R, hRe⟩ : ∃ R : Nat → Nat → Int32, R = fun r => if r < 7 then t3.1 (292 + r) else t3.1 (300 + (r - 7)) := ⟨_, rfl⟩
  have hR1 : ∀ r, r < 15 → isSm2 (fun x => t0.1 372 (32 + x)) (nI r) (R r) := fun r hr => by rw [hRe]; exact hR r hr
  have hR2 : ∀ r, r < 7 → R r = t3.1 (292 + r) := fun r hr => by rw [hRe]; exact hRa r hr
  have hR3 : ∀ r, R (7 + r) = t3.1 (300 + r) := fun r => by rw [hRe]; exact hRb r
  have hWl : ∀ r k, r < 15 → k < 256 → wS 2 (R r k) ≤ 2 * 2 ∧ R r k = nI ((8380417 + 2 - wS 2 (R r k)) % 8380417) := fun r k hr hk => by
    obtain ⟨w, hw, e⟩ := isSm2_w (hR1 r hr) hk
    rw [e, wS_e (by decide) hw]
    exact ⟨hw, rfl⟩
  -- the reference: bytes
  obtain ⟨t4, e1, e2, e3⟩ := kq22 (pp := pek) (psk := pdk) (SE := t0.1 372) (by omega) (by omega) (by omega) a4 32 0 t3 (by decide) (fun x hx => by rw [eSE]) (fun x hx => absurd hx (Nat.not_lt_zero _))
  rw [e1] at hV
  obtain ⟨t5, f1, f2, f3, f4⟩ := kq32 (pp := pek) (psk := pdk) (SE := t0.1 372) (W1 := fun r k => p2h (VV r k)) (by omega) (fun r k hr hk => p2h_lt (hVlt r k hr hk)) 8 0 t4 (by decide) (fun r k hr hk => by rw [e2 _ (by omega)]; exact ((hVV r hr).1 k hk).2.2) (fun x hx => (e3 x hx).1) (fun r j hr => absurd hr (Nat.not_lt_zero _))
  rw [f1] at hV
  have hV2 : F_MH_keys_2_L3 pek pdk 0 8 t5 = F_MH_keys_2_L4 pdk 15 0 1024 (F_MS_take pdk 4896 64 64 (F_MS_end (F_MS_puts pek 2592 0 2592 (F_MS_begin 136 (nI 31) t5)))) := by
    rw [F_MH_keys_2_L3]
    repeat rw [bnd_eq]
    rw [o2, shM]
  rw [hV2] at hV
  -- the program
  obtain ⟨s4, g1, g2, g3, g4, g5, g6⟩ := kp02 (psk := psk) (LB := s3.1 psk) (R := R) (by omega) hR1 15 0 s3 (by decide) (fun x hx => by rw [b5.1 142 (by omega), b3.1 142 (by omega), b1.1 142 (by omega)]; exact a3 _ (by omega)) (fun x hx => rfl) (fun r _ hr => absurd hr (Nat.not_lt_zero _)) (fun r _ hr => absurd hr (Nat.not_lt_zero _)) (fun r j hr => absurd hr (Nat.not_lt_zero _))
  rw [← F_DA_writeSmallVectors_2] at g1
  rw [g1] at hU
  have ePP : ∀ x, x < 32 → s4.1 pp x = t0.1 372 x := fun x hx => by
    rw [g2 pp (by omega), b5.1 pp (by omega), b3.1 pp (by omega)]
    exact b2 x hx
  obtain ⟨h1, -, h3⟩ := x2 s4 pp 2592 (by omega) ePP
  generalize F_SA_expandMatrix_2 pp 2592 s4 = s5 at h1 h3 hU
  obtain ⟨s6, i1, i2, i3⟩ := kp12 (pp := pp) (psk := psk) (R := R) (HH := fun x => t2.1 (343 + x)) (fun x hx => by rw [hR2 x hx, d2 _ (by omega)]; exact (c4 x hx).2.1) 7 0 s5 (by decide) (fun x hx => absurd hx (Nat.not_lt_zero _)) (fun x _ hx => by rw [h1 _ (by omega)]; exact ss_sr (g4 x hx))
  rw [i1] at hU
  obtain ⟨s7, j1, j2, j3, j4, j5, j6⟩ := kp22 (pp := pp) (psk := psk) (SE := t0.1 372) (LB := s4.1 psk) (MM := fun y x => t1.1 (227 + (8 * y + x))) (HH := fun x => t2.1 (343 + x)) (S2 := fun r => t3.1 (300 + r)) (VV := VV) (by omega) (by omega) (by omega) hVlt (fun r hr => (hVV r hr).2) 8 0 s6 (by decide) (fun y x hy hx => by rw [i2 _ (by omega)]; exact h3 y x hy hx) i3 (fun r hr => by
    rw [i2 _ (by omega), h1 _ (by omega)]
    have := ss_sr (g5 r hr)
    rw [hR3 r] at this
    exact this) (fun x hx => by rw [i2 pp (by omega), h1 pp (by omega)]; exact ePP x hx) (fun x hx => by rw [i2 psk (by omega), h1 psk (by omega)]) (fun r j hr => absurd hr (Nat.not_lt_zero _)) (fun r j hr => absurd hr (Nat.not_lt_zero _))
  rw [j1] at hU
  have hU2 : F_DA_makePair_2_L1 pp psk 0 8 s7 = sC (F_SP_squeeze 16 17 143 64 0 64 (F_SP_finish 16 17 (F_SP_absorb 16 17 pp 2592 0 2592 (F_SP_start_3 16 17 s7)))) 143 psk 0 64 64 := by
    rw [F_DA_makePair_2_L1, F_DA_digestOf]
    repeat rw [bnd_eq]
  rw [hU2] at hU
  -- the public part, and its hash
  have PK : ∀ x, x < 2592 → s7.1 pp x = t5.1 pek x := fun x hx => by
    by_cases w : x < 32
    · rw [j3 x w, f3 x w]
    · have u1 := j5 ((x - 32) / 320) ((x - 32) % 320) (by omega) (Nat.mod_lt _ (by decide))
      have u2 := f4 ((x - 32) / 320) ((x - 32) % 320) (by omega) (Nat.mod_lt _ (by decide))
      rw [show 32 + 320 * ((x - 32) / 320) + (x - 32) % 320 = x by omega] at u1 u2
      rw [u1, u2]
  obtain ⟨k1, k2, k3, k4, -, k6⟩ := dig8_same (pv := 16) (qv := 17) (pb := pp) (n := 2592) (at1 := 0) (len := 2592) (qb := pek) (m := 2592) (at2 := 0) (pt := 143) (nt := 64) (w1 := 0) (qt := pdk) (nq := 4896) (w2 := 64) (tk := 64) (s := s7) (t := t5) (by omega) (by omega) (by decide) (by omega) (fun j hj => by rw [Nat.zero_add]; exact PK j hj)
  generalize F_SP_squeeze 16 17 143 64 0 64 (F_SP_finish 16 17 (F_SP_absorb 16 17 pp 2592 0 2592 (F_SP_start_3 16 17 s7))) = s8 at k1 k3 hU
  generalize F_MS_take pdk 4896 64 64 (F_MS_end (F_MS_puts pek 2592 0 2592 (F_MS_begin 136 (nI 31) t5))) = t6 at k2 k3 k4 k6 hV
  have l1 : onl psk s8 (sC s8 143 psk 0 64 64) := sC_o
  have l2 : ∀ x, x < 64 → (sC s8 143 psk 0 64 64).1 psk (64 + x) = s8.1 143 x := fun x hx => by rw [sC_in hx, Nat.zero_add]
  have l3 : ∀ x, (x < 64 ∨ 128 ≤ x) → (sC s8 143 psk 0 64 64).1 psk x = s8.1 psk x := fun x hx => sC_out (by omega)
  generalize sC s8 143 psk 0 64 64 = s9 at l1 l2 l3 hU
  -- the reference: the secret part
  have T6 : ∀ y, y ≠ 172 → y ≠ pek → y ≠ pdk → t6.1 y = t3.1 y := fun y u1 u2 u3 => by rw [k2.1 y u1 u3, f2.1 y u2, e2 y (by omega)]
  obtain ⟨t7, m1, m2, m3, m4⟩ := kq42 (psk := pdk) (LB := t6.1 pdk) (WS := fun r k => wS 2 (R r k)) (by omega) (fun r k hr hk => (hWl r k hr hk).1) 15 0 1024 t6 (by decide) (by decide) (fun r k hr hk => by
    rw [T6 _ (by omega) (by omega) (by omega), ← hR2 r hr]
    exact (hWl r k (by omega) hk).2) (fun r k hr hk => by
    rw [T6 _ (by omega) (by omega) (by omega), ← hR3 r]
    exact (hWl (7 + r) k (by omega) hk).2) (fun x hx => rfl) (fun r j hr => absurd hr (Nat.not_lt_zero _))
  rw [m1] at hV
  obtain ⟨t8, n1, n2, n3, n4⟩ := kq52 (psk := pdk) (LB := t7.1 pdk) (W0 := fun r k => p2w (VV r k)) (by omega) (fun r k hr hk => p2w_lt) 8 0 (1024 + 768 * 15) t7 (by decide) (by decide) (fun r k hr hk => by
    rw [m2.1 _ (by omega), T6 _ (by omega) (by omega) (by omega)]
    exact ((hVV r hr).1 k hk).2.1) (fun x hx => rfl) (fun r j hr => absurd hr (Nat.not_lt_zero _))
  rw [n1] at hV
  rw [hU, hV]
  refine ⟨fun k hk => ?_, fun k hk => ?_, fun x hx => ?_, fun x hx => ?_⟩
  · rw [l1.1 k (by omega), k1.1 k (by omega) (by omega), j2 k (by omega), i2 k (by omega), h1 k (by omega), g2 k (by omega), b5.1 k (by omega), b3.1 k (by omega), b1.1 k (by omega), a1.1 k (by omega) (by omega)]
  · rw [n2.1 k (by omega), m2.1 k (by omega), T6 k (by omega) (by omega) (by omega), d2 k (by omega), c3 k (by omega), x1 k (by omega), a2.1 k (by omega) (by omega), hA k (by omega)]
  · rw [l1.1 pp (by omega), k1.1 pp (by omega) (by omega), n2.1 pek (by omega), m2.1 pek (by omega), k2.1 pek (by omega) (by omega)]
    exact PK x hx
  · by_cases w1 : x < 1568
    · rw [n3 x w1]
      by_cases w2 : x < 128
      · rw [m3 x w2]
        by_cases w3 : x < 64
        · rw [l3 x (Or.inl w3), k1.1 psk (by omega) (by omega), j4 x w1, g3 x w2, k6 x (Or.inl w3), f2.1 pdk (by omega)]
          by_cases w4 : x < 32
          · rw [b7 x w4, (e3 x w4).2.1]
          · have u1 := b6 (x - 32) (by omega)
            have u2 := (e3 (x - 32) (by omega)).2.2
            rw [show 32 + (x - 32) = x by omega] at u1 u2
            rw [u1, u2]
        · have u1 := l2 (x - 64) (by omega)
          have u2 := k3 (x - 64) (by omega)
          rw [show 64 + (x - 64) = x by omega] at u1 u2
          rw [Nat.zero_add] at u2
          rw [u1, u2]
      · rw [l3 x (Or.inr (by omega)), k1.1 psk (by omega) (by omega), j4 x w1]
        have u1 := g6 ((x - 128) / 96) ((x - 128) % 96) (by omega) (Nat.mod_lt _ (by decide))
        have u2 := m4 ((x - 128) / 96) ((x - 128) % 96) (by omega) (Nat.mod_lt _ (by decide))
        rw [show 128 + 96 * ((x - 128) / 96) + (x - 128) % 96 = x by omega] at u1 u2
        rw [u1, u2]
    · rw [l3 x (Or.inr (by omega)), k1.1 psk (by omega) (by omega)]
      have u1 := j6 ((x - 1568) / 416) ((x - 1568) % 416) (by omega) (Nat.mod_lt _ (by decide))
      have u2 := n4 ((x - 1568) / 416) ((x - 1568) % 416) (by omega) (Nat.mod_lt _ (by decide))
      rw [show 1568 + 416 * ((x - 1568) / 416) + (x - 1568) % 416 = x by omega] at u1 u2
      rw [u1, u2]
