set_option linter.all false
/-- set 2: the reference's noise rows -/
theorem keA2 {psd pek pdk : Nat} {SD : Nat → Int32} : ∀ (m i : Nat) (t : Sto), i + m = 4 → (∀ j, j < 32 → t.1 220 (32 + j) = SD j) → (∀ i', i' < i → (isS2 SD i' (t.1 (203 + i')) ∧ rdc 3329 (t.1 (203 + i'))) ∧ isS2 SD (4 + i') (t.1 (208 + i'))) → ∃ t1, F_ME_keys_2_L0 psd pek pdk m i t = F_ME_keys_2_L1 psd pek pdk 4 0 t1 ∧ frm (fun k => k = 172 ∨ k = 221 ∨ (203 ≤ k ∧ k ≤ 219)) t t1 ∧ ∀ i', i' < 4 → (isS2 SD i' (t1.1 (203 + i')) ∧ rdc 3329 (t1.1 (203 + i'))) ∧ isS2 SD (4 + i') (t1.1 (208 + i'))
  | 0, i, t, hi, _, h => by
    obtain rfl : i = 4 := by omega
    exact ⟨t, by rw [F_ME_keys_2_L0], frm_rf, h⟩
  | m + 1, i, t, hi, hS, h => by
    have hU : F_ME_keys_2_L0 psd pek pdk (m + 1) i t = F_ME_keys_2_L0 psd pek pdk m (i + 1) (F_ME_forth (208 + i) (F_ME_forth (203 + i) (F_ME_noise_2 (208 + i) 220 64 32 (nI (4 + i)) (F_ME_noise_2 (203 + i) 220 64 32 (nI i) t)))) := by
      rw [F_ME_keys_2_L0]
      repeat rw [bnd_eq]
    obtain ⟨b1, b2⟩ := Q_noiseM2 (qf := 203 + i) (n := 64) (wh := nI i) (t := t) (by omega) (by omega)
    have b3 : ∀ (s : Sto) (pf : Nat), pf ≠ 14 → pf ≠ 35 → (∀ j, j < 32 → s.1 34 (32 + j) = SD j) → sr 3329 ((F_KM_sampleNoise_2 pf (nI i) s).1 pf) ((F_ME_noise_2 (203 + i) 220 64 32 (nI i) t).1 (203 + i)) := fun s pf h1 h2 hs => (noise2_same h1 h2 (by omega) (by omega) (by decide) (fun j hj => (hs j hj).trans (hS j hj).symm)).2.2
    generalize F_ME_noise_2 (203 + i) 220 64 32 (nI i) t = tC at b1 b2 b3 hU
    have s2 : tC.1 220 = t.1 220 := b1 220 (by omega) (by omega) (by omega)
    obtain ⟨c1, c2⟩ := Q_noiseM2 (qf := 208 + i) (n := 64) (wh := nI (4 + i)) (t := tC) (by omega) (by omega)
    have c3 : ∀ (s : Sto) (pf : Nat), pf ≠ 14 → pf ≠ 35 → (∀ j, j < 32 → s.1 34 (32 + j) = SD j) → sr 3329 ((F_KM_sampleNoise_2 pf (nI (4 + i)) s).1 pf) ((F_ME_noise_2 (208 + i) 220 64 32 (nI (4 + i)) tC).1 (208 + i)) := fun s pf h1 h2 hs => (noise2_same h1 h2 (by omega) (by omega) (by decide) (fun j hj => (hs j hj).trans (by rw [s2]; exact (hS j hj).symm))).2.2
    generalize F_ME_noise_2 (208 + i) 220 64 32 (nI (4 + i)) tC = tD at c1 c2 c3 hU
    have e3 : tD.1 (203 + i) = tC.1 (203 + i) := c1 (203 + i) (by omega) (by omega) (by omega)
    obtain ⟨d1, d2, -⟩ := Q_forth (pf := 203 + i) (s := tD) (by omega) (by rw [e3]; exact b2)
    have d3 : isS2 SD i ((F_ME_forth (203 + i) tD).1 (203 + i)) := fun s pf h1 h2 hs => (forth_sr (by omega) (by rw [e3]; exact b3 s pf h1 h2 hs)).2.2
    generalize F_ME_forth (203 + i) tD = tE at d1 d2 d3 hU
    have e4 : tE.1 (208 + i) = tD.1 (208 + i) := d1.1 (208 + i) (by omega) (by omega)
    have f1 := (Q_forth (pf := 208 + i) (s := tE) (by omega) (by rw [e4]; exact c2)).1
    have f3 : isS2 SD (4 + i) ((F_ME_forth (208 + i) tE).1 (208 + i)) := fun s pf h1 h2 hs => (forth_sr (by omega) (by rw [e4]; exact c3 s pf h1 h2 hs)).2.2
    generalize F_ME_forth (208 + i) tE = tF at f1 f3 hU
    have g : ∀ y, y ≠ 172 → y ≠ 221 → y ≠ 219 → y ≠ 203 + i → y ≠ 208 + i → tF.1 y = t.1 y := fun y w1 w2 w3 w4 w5 => by rw [f1.1 y w5 w3, d1.1 y w4 w3, c1 y w1 w2 w5, b1 y w1 w2 w4]
    have gS : tF.1 (203 + i) = tE.1 (203 + i) := f1.1 (203 + i) (by omega) (by omega)
    obtain ⟨t1, e, k1, k2⟩ := keA2 (psd := psd) (pek := pek) (pdk := pdk) (SD := SD) m (i + 1) tF (by omega) (fun j hj => by rw [g 220 (by omega) (by omega) (by omega) (by omega) (by omega)]; exact hS j hj) (fun i' hi' => by
      by_cases w : i' = i
      · subst w
        rw [gS]
        exact ⟨⟨d3, d2⟩, f3⟩
      · rw [g (203 + i') (by omega) (by omega) (by omega) (by omega) (by omega), g (208 + i') (by omega) (by omega) (by omega) (by omega) (by omega)]
        exact h i' (by omega))
    exact ⟨t1, hU.trans e, ftr (fun k hk => g k (by omega) (by omega) (by omega) (by omega) (by omega)) k1, k2⟩
/-- set 2: the program's secret rows and their bytes -/
theorem keB2 {pch pp psk : Nat} {SD : Nat → Int32} {r : Nat → Nat → Int32} (hK : apK pch pp psk) (hr : ∀ i, i < 4 → isS2 SD i (r i)) : ∀ (m i : Nat) (s : Sto), i + m = 4 → (∀ j, j < 32 → s.1 34 (32 + j) = SD j) → (∀ i', i' < i → sr 3329 (s.1 (26 + i')) (r i') ∧ ∀ j, j < 384 → s.1 psk (384 * i' + j) = b12 (r i') j) → ∃ s1, F_KM_makePair_2_L0 pch pp psk m i s = F_KM_makePair_2_L1 pch pp psk 4 0 s1 ∧ frm (fun k => k = 14 ∨ k = 35 ∨ (26 ≤ k ∧ k ≤ 29) ∨ k = psk) s s1 ∧ ∀ i', i' < 4 → sr 3329 (s1.1 (26 + i')) (r i') ∧ ∀ j, j < 384 → s1.1 psk (384 * i' + j) = b12 (r i') j
  | 0, i, s, hi, _, h => by
    obtain rfl : i = 4 := by omega
    exact ⟨s, by rw [F_KM_makePair_2_L0], frm_rf, h⟩
  | m + 1, i, s, hi, hS, h => by
    have hK' := hK
    unfold apK at hK'
    have hU : F_KM_makePair_2_L0 pch pp psk (m + 1) i s = F_KM_makePair_2_L0 pch pp psk m (i + 1) (F_BT_pack (26 + i) 12 psk 3168 (384 * i) (F_RG_transform_7 (26 + i) (F_KM_sampleNoise_2 (26 + i) (nI i) s))) := by
      rw [F_KM_makePair_2_L0]
      repeat rw [bnd_eq]
    have k1 := hr i (by omega) s (26 + i) (by omega) (by omega) hS
    obtain ⟨a1, a2⟩ := P_noiseM2 (pf := 26 + i) (wh := nI i) (s := s) (by omega) (by omega)
    generalize F_KM_sampleNoise_2 (26 + i) (nI i) s = sA at a1 a2 k1 hU
    have b1 := (P_transform7 a2).1
    generalize F_RG_transform_7 (26 + i) sA = sB at b1 k1 hU
    obtain ⟨c1, c2, c3⟩ := P_pack12 (pf := 26 + i) (pt := psk) (n := 3168) (at_ := 384 * i) (s := sB) (by omega) (sr_l k1)
    generalize F_BT_pack (26 + i) 12 psk 3168 (384 * i) sB = sC at c1 c2 c3 hU
    have g : ∀ y, y ≠ 14 → y ≠ 35 → y ≠ 26 + i → y ≠ psk → sC.1 y = s.1 y := fun y w1 w2 w3 w4 => by rw [c1.1 y w4, b1.1 y w3, a1 y w1 w2 w3]
    have gp : sB.1 psk = s.1 psk := by rw [b1.1 psk (by omega), a1 psk (by omega) (by omega) (by omega)]
    obtain ⟨s1, e, f1, f2⟩ := keB2 (SD := SD) hK hr m (i + 1) sC (by omega) (fun j hj => by rw [g 34 (by omega) (by omega) (by omega) (by omega)]; exact hS j hj) (fun i' hi' => by
      by_cases w : i' = i
      · subst w
        refine ⟨sr_w k1 (c1.1 (26 + i') (by omega)) rfl, fun j hj => ?_⟩
        rw [c2 j hj]
        exact b12_c (sr_e k1) hj
      · refine ⟨?_, fun j hj => ?_⟩
        · rw [g (26 + i') (by omega) (by omega) (by omega) (by omega)]
          exact (h i' (by omega)).1
        · rw [c3 _ (by omega), gp]
          exact (h i' (by omega)).2 j hj)
    exact ⟨s1, hU.trans e, ftr (fun k hk => g k (by omega) (by omega) (by omega) (by omega)) f1, f2⟩
/-- set 2: one row of the public part -/
theorem keD2 {pch pp psk psd pek pdk i : Nat} {RO : Nat → Int32} {r : Nat → Nat → Int32} {kk kk' : Nat → Sto → Sto} (hK : apK pch pp psk) (hi : i < 4) (hr : ∀ j, j < 4 → rdc 3329 (r j)) : ∀ (m j : Nat) (s t : Sto), j + m = 4 → (∀ x, x < 32 → s.1 pp (1536 + x) = RO x) → (∀ j, j < 4 → sr 3329 (s.1 (26 + j)) (r j) ∧ t.1 (203 + j) = r j) → (∀ x, x < 4 → isM pp 1568 1536 RO x i (t.1 (186 + (4 * i + x)))) → sr 3329 (s.1 30) (t.1 (208 + i)) → ∃ s1 t1, F_KM_makePair_2_L2 pp i kk m j s = F_KM_makePair_2_L2 pp i kk 0 4 s1 ∧ F_ME_keys_2_L5 pek pdk i kk' m j t = F_ME_keys_2_L5 pek pdk i kk' 0 4 t1 ∧ frm (fun k => k = 14 ∨ k = 30 ∨ k = 31) s s1 ∧ frm (fun k => k = 208 + i) t t1 ∧ sr 3329 (s1.1 30) (t1.1 (208 + i))
  | 0, j, s, t, hj, _, _, _, h => by
    obtain rfl : j = 4 := by omega
    exact ⟨s, t, rfl, rfl, frm_rf, frm_rf, h⟩
  | m + 1, j, s, t, hj, h1, h2, h3, h => by
    have hK' := hK
    unfold apK at hK'
    have hU : F_KM_makePair_2_L2 pp i kk (m + 1) j s = F_KM_makePair_2_L2 pp i kk m (j + 1) (F_RG_addProduct_7 30 31 (26 + j) (F_KM_sampleEntry pp 1568 1536 (nI j) (nI i) s)) := by
      rw [F_KM_makePair_2_L2]
      repeat rw [bnd_eq]
    have hV : F_ME_keys_2_L5 pek pdk i kk' (m + 1) j t = F_ME_keys_2_L5 pek pdk i kk' m (j + 1) (F_ME_product (186 + ((4 * i) + j)) (203 + j) (208 + i) t) := by
      rw [F_ME_keys_2_L5]
      repeat rw [bnd_eq]
    have k1 := h3 j (by omega) s h1
    have a1 := P_entryM (pb := pp) (n := 1568) (at_ := 1536) (v1 := nI j) (v2 := nI i) (s := s) (by omega)
    generalize F_KM_sampleEntry pp 1568 1536 (nI j) (nI i) s = sA at a1 k1 hU
    have k2 := (h2 j (by omega)).1
    rw [← a1.1 (26 + j) (by omega) (by omega), ← (h2 j (by omega)).2] at k2
    rw [← a1.1 30 (by omega) (by omega)] at h
    obtain ⟨b1, b2, b3⟩ := product_sr (ps := 30) (pf := 31) (pg := 26 + j) (qs := 208 + i) (qf := 186 + ((4 * i) + j)) (qg := 203 + j) (by omega) (by omega) (by omega) (by omega) h k1 k2
    generalize F_RG_addProduct_7 30 31 (26 + j) sA = sB at b1 b3 hU
    generalize F_ME_product (186 + ((4 * i) + j)) (203 + j) (208 + i) t = tB at b2 b3 hV
    have g1 : frm (fun k => k = 14 ∨ k = 30 ∨ k = 31) s sB := fun k hk => (b1.1 k (by omega)).trans (a1.1 k (by omega) (by omega))
    have g2 : frm (fun k => k = 208 + i) t tB := fun k hk => b2.1 k hk
    obtain ⟨s1, t1, e1, e2, f1, f2, f3⟩ := keD2 (psd := psd) (pek := pek) (pdk := pdk) (RO := RO) (kk := kk) (kk' := kk') hK hi hr m (j + 1) sB tB (by omega) (fun x hx => by rw [g1 pp (by omega)]; exact h1 x hx) (fun j' hj' => by rw [g1 (26 + j') (by omega), g2 (203 + j') (by omega)]; exact h2 j' hj') (fun x hx => by rw [g2 (186 + (4 * i + x)) (by omega)]; exact h3 x hx) b3
    exact ⟨s1, t1, hU.trans e1, hV.trans e2, ftr g1 f1, ftr g2 f2, f3⟩
/-- set 2: the public part, and the secret rows' bytes on the reference's side -/
theorem keC2 {pch pp psk psd pek pdk : Nat} {RO SD : Nat → Int32} {r : Nat → Nat → Int32} (hK : apK pch pp psk) (hL : apL psd pek pdk) (hr : ∀ j, j < 4 → rdc 3329 (r j)) : ∀ (m i : Nat) (s t : Sto), i + m = 4 → (∀ x, x < 32 → s.1 pp (1536 + x) = RO x) → (∀ x, x < 32 → s.1 34 (32 + x) = SD x) → (∀ j, j < 4 → sr 3329 (s.1 (26 + j)) (r j) ∧ t.1 (203 + j) = r j) → (∀ i' x, i' < 4 → x < 4 → isM pp 1568 1536 RO x i' (t.1 (186 + (4 * i' + x)))) → (∀ i', i ≤ i' → i' < 4 → isS2 SD (4 + i') (t.1 (208 + i'))) → (∀ x, x < 384 * i → s.1 pp x = t.1 pek x ∧ vp_nar .byte (t.1 pek x) = t.1 pek x) → (∀ i' j, i' < i → j < 384 → t.1 pdk (384 * i' + j) = b12 (r i') j) →
    ∃ s1 t1, F_KM_makePair_2_L1 pch pp psk m i s = F_KM_makePair_2_L1 pch pp psk 0 4 s1 ∧ F_ME_keys_2_L1 psd pek pdk m i t = F_ME_keys_2_L2 psd pek pdk 32 0 t1 ∧ frm (fun k => k = 14 ∨ k = 30 ∨ k = 31 ∨ k = 35 ∨ k = pp) s s1 ∧ frm (fun k => (208 ≤ k ∧ k ≤ 211) ∨ k = pek ∨ k = pdk) t t1 ∧ (∀ x, x < 32 → s1.1 pp (1536 + x) = RO x) ∧ (∀ x, x < 1536 → s1.1 pp x = t1.1 pek x ∧ vp_nar .byte (t1.1 pek x) = t1.1 pek x) ∧ ∀ i' j, i' < 4 → j < 384 → t1.1 pdk (384 * i' + j) = b12 (r i') j
  | 0, i, s, t, hi, h1, _, _, _, _, h6, h7 => by
    obtain rfl : i = 4 := by omega
    exact ⟨s, t, rfl, by rw [F_ME_keys_2_L1], frm_rf, frm_rf, h1, fun x hx => h6 x (by omega), h7⟩
  | m + 1, i, s, t, hi, h1, h2, h3, h4, h5, h6, h7 => by
    have hK' := hK
    unfold apK at hK'
    have hL' := hL
    unfold apL at hL'
    have hU : F_KM_makePair_2_L1 pch pp psk (m + 1) i s = F_KM_makePair_2_L2 pp i (F_KM_makePair_2_L1 pch pp psk m) 4 0 (F_RG_transform_7 30 (F_KM_sampleNoise_2 30 (nI (4 + i)) s)) := by
      rw [F_KM_makePair_2_L1]
      repeat rw [bnd_eq]
    have hV : F_ME_keys_2_L1 psd pek pdk (m + 1) i t = F_ME_keys_2_L5 pek pdk i (F_ME_keys_2_L1 psd pek pdk m) 4 0 t := by rw [F_ME_keys_2_L1]
    have k1 := h5 i (Nat.le_refl _) (by omega) s 30 (by decide) (by decide) h2
    obtain ⟨a1, a2⟩ := P_noiseM2 (pf := 30) (wh := nI (4 + i)) (s := s) (by decide) (by decide)
    generalize F_KM_sampleNoise_2 30 (nI (4 + i)) s = sA at a1 a2 k1 hU
    have b1 := (P_transform7 a2).1
    generalize F_RG_transform_7 30 sA = sB at b1 k1 hU
    have g : ∀ y, y ≠ 14 → y ≠ 35 → y ≠ 30 → sB.1 y = s.1 y := fun y w1 w2 w3 => by rw [b1.1 y w3, a1 y w1 w2 w3]
    obtain ⟨s1, t1, e1, e2, f1, f2, f3⟩ := keD2 (psd := psd) (pek := pek) (pdk := pdk) (RO := RO) (kk := F_KM_makePair_2_L1 pch pp psk m) (kk' := F_ME_keys_2_L1 psd pek pdk m) hK (show i < 4 by omega) hr 4 0 sB t (by decide) (fun x hx => by rw [g pp (by omega) (by omega) (by omega)]; exact h1 x hx) (fun j hj => by rw [g (26 + j) (by omega) (by omega) (by omega)]; exact h3 j hj) (fun x hx => h4 i x (by omega) hx) k1
    rw [e1] at hU
    rw [e2] at hV
    have hU2 : F_KM_makePair_2_L2 pp i (F_KM_makePair_2_L1 pch pp psk m) 0 4 s1 = F_KM_makePair_2_L1 pch pp psk m (i + 1) (F_BT_pack 30 12 pp 1568 (384 * i) s1) := by rw [F_KM_makePair_2_L2, bnd_eq]
    have hV2 : F_ME_keys_2_L5 pek pdk i (F_ME_keys_2_L1 psd pek pdk m) 0 4 t1 = F_ME_keys_2_L1 psd pek pdk m (i + 1) (F_ME_write_12 (203 + i) pdk 4896 (384 * i) (F_ME_write_12 (208 + i) pek 2592 (384 * i) t1)) := by
      rw [F_ME_keys_2_L5]
      repeat rw [bnd_eq]
    rw [hU2] at hU
    rw [hV2] at hV
    have er : t1.1 (203 + i) = r i := by rw [f2 (203 + i) (by omega)]; exact (h3 i (by omega)).2
    obtain ⟨c1, c2, c3⟩ := P_pack12 (pf := 30) (pt := pp) (n := 1568) (at_ := 384 * i) (s := s1) (by omega) (sr_l f3)
    obtain ⟨d1, d2, d3⟩ := Q_write12 (qf := 208 + i) (qt := pek) (m := 2592) (bt := 384 * i) (t := t1) (by omega) (sr_r f3)
    generalize F_BT_pack 30 12 pp 1568 (384 * i) s1 = s2 at c1 c2 c3 hU
    generalize F_ME_write_12 (208 + i) pek 2592 (384 * i) t1 = t2 at d1 d2 d3 hV
    have er2 : t2.1 (203 + i) = r i := by rw [d1.1 (203 + i) (by omega)]; exact er
    obtain ⟨w1, w2, w3⟩ := Q_write12 (qf := 203 + i) (qt := pdk) (m := 4896) (bt := 384 * i) (t := t2) (by omega) (by rw [er2]; exact hr i (by omega))
    rw [er2] at w2
    generalize F_ME_write_12 (203 + i) pdk 4896 (384 * i) t2 = t3 at w1 w2 w3 hV
    have G1 : frm (fun k => k = 14 ∨ k = 30 ∨ k = 31 ∨ k = 35 ∨ k = pp) s s2 := fun k hk => by rw [c1.1 k (by omega), f1 k (by omega), g k (by omega) (by omega) (by omega)]
    have G2 : frm (fun k => k = 208 + i ∨ k = pek ∨ k = pdk) t t3 := fun k hk => by rw [w1.1 k (by omega), d1.1 k (by omega), f2 k (by omega)]
    have p1 : s1.1 pp = s.1 pp := by rw [f1 pp (by omega), g pp (by omega) (by omega) (by omega)]
    have p2 : t3.1 pek = t2.1 pek := w1.1 pek (by omega)
    have p3 : t1.1 pek = t.1 pek := f2 pek (by omega)
    have p4 : t2.1 pdk = t.1 pdk := by rw [d1.1 pdk (by omega), f2 pdk (by omega)]
    obtain ⟨s4, t4, q1, q2, q3, q4, q5, q6, q7⟩ := keC2 (RO := RO) (SD := SD) (r := r) hK hL hr m (i + 1) s2 t3 (by omega) (fun x hx => by rw [c3 _ (by omega), p1]; exact h1 x hx) (fun x hx => by rw [G1 34 (by omega)]; exact h2 x hx) (fun j hj => by rw [G1 (26 + j) (by omega), G2 (203 + j) (by omega)]; exact h3 j hj) (fun i' x hi' hx => by rw [G2 (186 + (4 * i' + x)) (by omega)]; exact h4 i' x hi' hx) (fun i' hi1 hi2 => by rw [G2 (208 + i') (by omega)]; exact h5 i' (by omega) hi2) (fun x hx => by
      rw [p2]
      by_cases w : x < 384 * i
      · rw [c3 x (by omega), d3 x (by omega), p1, p3]
        exact h6 x w
      · have u1 := c2 (x - 384 * i) (by omega)
        have u2 := d2 (x - 384 * i) (by omega)
        rw [show 384 * i + (x - 384 * i) = x by omega] at u1 u2
        rw [u1, u2, b12_c (sr_e f3) (by omega)]
        exact ⟨rfl, by8_nar _⟩) (fun i' j hi' hj => by
      by_cases w : i' = i
      · subst w
        exact w2 j hj
      · rw [w3 _ (by omega), p4]
        exact h7 i' j (by omega) hj)
    exact ⟨s4, t4, hU.trans q1, hV.trans q2, ftr G1 q3, ftr (fun k hk => G2 k (by omega)) q4, q5, q6, q7⟩
/-- ML-KEM.KeyGen, set 2: where the reference's draws end in time, both parts of the keys are the same bytes -/
theorem keys2_same {pch n pp psk psd m pek pdk : Nat} {s t : Sto} (hK : apK pch pp psk) (hL : apL psd pek pdk) (hS : ∀ j, j < 64 → s.1 pch j = t.1 psd j) (hN : ∀ j, j < 64 → vp_nar .byte (t.1 psd j) = t.1 psd j) (hE : E_ME_keys_2 psd m pek pdk t) : frm (fun k => k = 14 ∨ (26 ≤ k ∧ k ≤ 35) ∨ k = pp ∨ k = psk) s (F_KM_makePair_2 pch n pp psk s) ∧ frm (fun k => k = 172 ∨ (186 ≤ k ∧ k ≤ 221) ∨ k = pek ∨ k = pdk) t (F_ME_keys_2 psd m pek pdk t) ∧ (∀ x, x < 1568 → (F_KM_makePair_2 pch n pp psk s).1 pp x = (F_ME_keys_2 psd m pek pdk t).1 pek x) ∧ ∀ x, x < 3168 → (F_KM_makePair_2 pch n pp psk s).1 psk x = (F_ME_keys_2 psd m pek pdk t).1 pdk x := by
  have hK' := hK
  unfold apK at hK'
  have hL' := hL
  unfold apL at hL'
  have o2 : ∀ w : Sto, (F_ME_openSize_2 w).2 = w := fun w => by rw [F_ME_openSize_2]
  have hU : F_KM_makePair_2 pch n pp psk s = F_KM_makePair_2_L0 pch pp psk 4 0 (sC (F_SP_squeeze 14 15 34 64 0 64 (F_SP_finish 14 15 (F_SP_absorbByte 14 15 (nI 4) (F_SP_absorb 14 15 pch n 0 32 (F_SP_start_1 14 15 s))))) 34 pp 0 1536 32) := by
    rw [F_KM_makePair_2]
    repeat rw [bnd_eq]
  have hV : F_ME_keys_2 psd m pek pdk t = F_ME_keys_2_L0 psd pek pdk 4 0 (F_ME_expand_4 220 64 0 (F_MS_take 220 64 0 64 (F_MS_end (F_MS_put (nI 4) (F_MS_puts psd m 0 32 (F_MS_begin 72 (nI 6) t)))))) := by
    rw [F_ME_keys_2]
    repeat rw [bnd_eq]
  rw [E_ME_keys_2, bnd_eq, bnd_eq, bnd_eq, bnd_eq, bnd_eq] at hE
  obtain ⟨a1, a2, a3, a4⟩ := seedG_same (k := 4) (n := n) (m := m) (s := s) (t := t) (by omega : pch ≠ 14) (by omega : psd ≠ 172) (fun j hj => hS j (by omega))
  generalize F_SP_squeeze 14 15 34 64 0 64 (F_SP_finish 14 15 (F_SP_absorbByte 14 15 (nI 4) (F_SP_absorb 14 15 pch n 0 32 (F_SP_start_1 14 15 s)))) = s0 at a1 a3 hU
  generalize F_MS_take 220 64 0 64 (F_MS_end (F_MS_put (nI 4) (F_MS_puts psd m 0 32 (F_MS_begin 72 (nI 6) t)))) = t0 at a2 a3 a4 hV hE
  have hE1 := hE.1
  have b1 : onl pp s0 (sC s0 34 pp 0 1536 32) := sC_o
  have b2 : ∀ x, x < 32 → (sC s0 34 pp 0 1536 32).1 pp (1536 + x) = t0.1 220 x := fun x hx => by
    rw [sC_in hx, Nat.zero_add]
    exact a3 x (by omega)
  generalize sC s0 34 pp 0 1536 32 = s1 at b1 b2 hU
  obtain ⟨c1, c2⟩ := ex4 (pb := 220) (n := 64) (at_ := 0) (pp := pp) (n0 := 1568) (at0 := 1536) (B := fun j => t0.1 220 j) (t := t0) (by unfold MX; omega) (by omega) (fun x hx => by rw [Nat.zero_add]) hE1
  generalize F_ME_expand_4 220 64 0 t0 = t1 at c1 c2 hV
  have e1 : t1.1 220 = t0.1 220 := c1 220 (by unfold MX; omega)
  obtain ⟨t2, d1, d2, d3⟩ := keA2 (psd := psd) (pek := pek) (pdk := pdk) (SD := fun j => t0.1 220 (32 + j)) 4 0 t1 (by decide) (fun j hj => by rw [e1]) (fun i' hi' => by omega)
  rw [d1] at hV
  have e2 : s1.1 34 = s0.1 34 := b1.1 34 (by omega)
  obtain ⟨s2, f1, f2, f3⟩ := keB2 (SD := fun j => t0.1 220 (32 + j)) (r := fun i => t2.1 (203 + i)) hK (fun i hi => (d3 i hi).1.1) 4 0 s1 (by decide) (fun j hj => by rw [e2]; exact a3 (32 + j) (by omega)) (fun i' hi' => by omega)
  rw [f1] at hU
  have e3 : t2.1 220 = t0.1 220 := by rw [d2 220 (by omega), e1]
  obtain ⟨s3, t3, g1, g2, g3, g4, g5, g6, g7⟩ := keC2 (RO := fun j => t0.1 220 j) (SD := fun j => t0.1 220 (32 + j)) (r := fun i => t2.1 (203 + i)) hK hL (fun j hj => (d3 j hj).1.2) 4 0 s2 t2 (by decide) (fun x hx => by rw [f2 pp (by omega)]; exact b2 x hx) (fun x hx => by rw [f2 34 (by omega), e2]; exact a3 (32 + x) (by omega)) (fun j hj => ⟨(f3 j hj).1, rfl⟩) (fun i' x hi' hx => by rw [d2 (186 + (4 * i' + x)) (by omega)]; exact c2 i' x hi' hx) (fun i' _ hi' => (d3 i' hi').2) (fun x hx => by omega) (fun i' j hi' => by omega)
  rw [g1] at hU
  rw [g2] at hV
  have e4 : t3.1 220 = t0.1 220 := by rw [g4 220 (by omega), e3]
  obtain ⟨t4, h1, h2, h3, h4⟩ := cp_loop (pt := pek) (pr_ := 220) (o := 1536) (r := 0) (G := F_ME_keys_2_L2 psd pek pdk) (K := F_ME_keys_2_L3 psd pek pdk 1568 0) (by omega) (fun i s => by rw [F_ME_keys_2_L2]) (fun n i s => by rw [F_ME_keys_2_L2, bnd_eq, Nat.zero_add]) 32 0 t3
  rw [h1] at hV
  have P4 : ∀ x, x < 1568 → s3.1 pp x = t4.1 pek x ∧ vp_nar .byte (t4.1 pek x) = t4.1 pek x := fun x hx => by
    by_cases w : x < 1536
    · rw [h4 x (Or.inl (by omega))]
      exact g6 x w
    · have u := h3 (x - 1536) (Nat.zero_le _) (by omega)
      have v := g5 (x - 1536) (by omega)
      rw [show 1536 + (x - 1536) = x by omega] at u v
      rw [Nat.zero_add, e4, a4 _ (by omega)] at u
      rw [u, v]
      exact ⟨rfl, a4 _ (by omega)⟩
  obtain ⟨t5, k1, k2, k3, k4⟩ := cp_loop (pt := pdk) (pr_ := pek) (o := 1536) (r := 0) (G := F_ME_keys_2_L3 psd pek pdk) (K := fun s => F_ME_keys_2_L4 psd pdk 32 0 (F_ME_hash pek 2592 0 1568 pdk 4896 3104 s)) (by omega) (fun i s => by
    rw [F_ME_keys_2_L3]
    repeat rw [bnd_eq]
    rw [o2, o2]) (fun n i s => by
    rw [F_ME_keys_2_L3]
    repeat rw [bnd_eq]
    rw [o2, Nat.zero_add]) 1568 0 t4
  rw [k1] at hV
  have e5 : t5.1 pek = t4.1 pek := k2.1 pek (by omega)
  have hU2 : F_KM_makePair_2_L1 pch pp psk 0 4 s3 = sC (sC (F_KM_digestOf pp 1568 0 1568 (sC s3 pp psk 0 1536 1568)) 33 psk 0 3104 32) pch psk 32 3136 32 := by
    rw [F_KM_makePair_2_L1]
    repeat rw [bnd_eq]
  rw [hU2] at hU
  have l1 : onl psk s3 (sC s3 pp psk 0 1536 1568) := sC_o
  have l2 : ∀ x, x < 1568 → (sC s3 pp psk 0 1536 1568).1 psk (1536 + x) = s3.1 pp x := fun x hx => by rw [sC_in hx, Nat.zero_add]
  have l3 : ∀ x, x < 1536 → (sC s3 pp psk 0 1536 1568).1 psk x = s3.1 psk x := fun x hx => sC_out (Or.inl hx)
  generalize sC s3 pp psk 0 1536 1568 = s4 at l1 l2 l3 hU
  obtain ⟨m1, m2, m3, -, m5⟩ := digest_same (pb := pp) (n := 1568) (at_ := 0) (len := 1568) (qb := pek) (m := 2592) (bt := 0) (qt := pdk) (nt := 4896) (wh := 3104) (s := s4) (t := t5) (by omega) (by omega) (by omega) (fun j hj => by rw [l1.1 pp (by omega), e5, Nat.zero_add]; exact (P4 j hj).1)
  generalize F_KM_digestOf pp 1568 0 1568 s4 = s5 at m1 m3 hU
  generalize F_ME_hash pek 2592 0 1568 pdk 4896 3104 t5 = t6 at m2 m3 m5 hV
  obtain ⟨t7, x1, x2, x3, x4⟩ := cp_loop (pt := pdk) (pr_ := psd) (o := 3136) (r := 32) (G := F_ME_keys_2_L4 psd pdk) (K := fun s => s) (by omega) (fun i s => by rw [F_ME_keys_2_L4]) (fun n i s => by rw [F_ME_keys_2_L4, bnd_eq]) 32 0 t6
  rw [x1] at hV
  have y1 : onl psk s5 (sC s5 33 psk 0 3104 32) := sC_o
  have y2 : ∀ x, x < 32 → (sC s5 33 psk 0 3104 32).1 psk (3104 + x) = s5.1 33 x := fun x hx => by rw [sC_in hx, Nat.zero_add]
  have y3 : ∀ x, x < 3104 → (sC s5 33 psk 0 3104 32).1 psk x = s5.1 psk x := fun x hx => sC_out (Or.inl hx)
  generalize sC s5 33 psk 0 3104 32 = s6 at y1 y2 y3 hU
  have z1 : onl psk s6 (sC s6 pch psk 32 3136 32) := sC_o
  have z2 : ∀ x, x < 32 → (sC s6 pch psk 32 3136 32).1 psk (3136 + x) = s6.1 pch (32 + x) := fun x hx => sC_in hx
  have z3 : ∀ x, x < 3136 → (sC s6 pch psk 32 3136 32).1 psk x = s6.1 psk x := fun x hx => sC_out (Or.inl hx)
  generalize sC s6 pch psk 32 3136 32 = s7 at z1 z2 z3 hU
  have Gs : ∀ y, y ≠ 14 → ¬ (26 ≤ y ∧ y ≤ 35) → y ≠ pp → y ≠ psk → s7.1 y = s.1 y := fun y w1 w2 w3 w4 => by rw [z1.1 y w4, y1.1 y w4, m1.1 y w1 (by omega), l1.1 y w4, g3 y (by omega), f2 y (by omega), b1.1 y w3, a1.1 y w1 (by omega)]
  have Gt : ∀ y, y ≠ 172 → ¬ (186 ≤ y ∧ y ≤ 221) → y ≠ pek → y ≠ pdk → t7.1 y = t.1 y := fun y w1 w2 w3 w4 => by rw [x2.1 y w4, m2.1 y w1 w4, k2.1 y w4, h2.1 y w3, g4 y (by omega), d2 y (by omega), c1 y (by unfold MX; omega), a2.1 y w1 (by omega)]
  rw [hU, hV]
  refine ⟨fun k hk => Gs k (by omega) (by omega) (by omega) (by omega), fun k hk => Gt k (by omega) (by omega) (by omega) (by omega), fun x hx => ?_, fun x hx => ?_⟩
  · rw [z1.1 pp (by omega), y1.1 pp (by omega), m1.1 pp (by omega) (by omega), l1.1 pp (by omega), x2.1 pek (by omega), m2.1 pek (by omega) (by omega), e5]
    exact (P4 x hx).1
  · have q1 : s6.1 pch = s.1 pch := by rw [y1.1 pch (by omega), m1.1 pch (by omega) (by omega), l1.1 pch (by omega), g3 pch (by omega), f2 pch (by omega), b1.1 pch (by omega), a1.1 pch (by omega) (by omega)]
    have q2 : t6.1 psd = t.1 psd := by rw [m2.1 psd (by omega) (by omega), k2.1 psd (by omega), h2.1 psd (by omega), g4 psd (by omega), d2 psd (by omega), c1 psd (by unfold MX; omega), a2.1 psd (by omega) (by omega)]
    by_cases w1 : x < 3136
    · rw [z3 x w1, x4 x (Or.inl (by omega))]
      by_cases w2 : x < 3104
      · rw [y3 x w2, m5 x (Or.inl w2), m1.1 psk (by omega) (by omega)]
        by_cases w3 : x < 1536
        · rw [l3 x w3, k4 x (Or.inl (by omega)), g3 psk (by omega), h2.1 pdk (by omega)]
          have u1 := (f3 (x / 384) (by omega)).2 (x % 384) (Nat.mod_lt _ (by decide))
          have u2 := g7 (x / 384) (x % 384) (by omega) (Nat.mod_lt _ (by decide))
          rw [Nat.div_add_mod] at u1 u2
          rw [u1, u2]
        · have u1 := l2 (x - 1536) (by omega)
          have u2 := k3 (x - 1536) (Nat.zero_le _) (by omega)
          rw [show 1536 + (x - 1536) = x by omega] at u1 u2
          rw [u1, u2, Nat.zero_add, (P4 _ (by omega)).2]
          exact (P4 _ (by omega)).1
      · have u1 := y2 (x - 3104) (by omega)
        have u2 := m3 (x - 3104) (by omega)
        rw [show 3104 + (x - 3104) = x by omega] at u1 u2
        rw [u1, u2]
    · have u1 := z2 (x - 3136) (by omega)
      have u2 := x3 (x - 3136) (Nat.zero_le _) (by omega)
      rw [show 3136 + (x - 3136) = x by omega] at u1 u2
      rw [u1, u2, q1, q2, hN _ (by omega)]
      exact hS _ (by omega)
