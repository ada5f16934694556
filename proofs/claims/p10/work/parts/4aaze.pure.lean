set_option linter.all false
/-- set 0: the reference's first loop -/
theorem enA0 {pek n at_ pms nm pct nc pp n0 : Nat} {BK SD : Nat → Int32} (hR : apR pek pms pct) (hpp : pp ≠ 31) : ∀ (m i : Nat) (t : Sto), i + m = 2 → (∀ j, j < 768 → t.1 pek (at_ + j) = BK j) → (∀ j, j < 32 → t.1 220 (32 + j) = SD j) → (∀ i', i' < i → isO pp n0 BK i' (t.1 (213 + i')) ∧ isS3 SD i' (t.1 (203 + i')) ∧ isN SD (2 + i') (t.1 (208 + i'))) →
    ∃ t1, F_ME_encrypt_0_L0 pek n at_ pms nm pct nc m i t = F_ME_encrypt_0_L1 pms nm pct nc 2 0 t1 ∧ frm (MR pct) t t1 ∧ (∀ i', i' < 2 → isO pp n0 BK i' (t1.1 (213 + i')) ∧ isS3 SD i' (t1.1 (203 + i')) ∧ isN SD (2 + i') (t1.1 (208 + i'))) ∧ ∀ y, 186 ≤ y → y ≤ 201 → t1.1 y = t.1 y
  | 0, i, t, hi, _, _, h => by
    obtain rfl : i = 2 := by omega
    exact ⟨t, by rw [F_ME_encrypt_0_L0], frm_rf, h, fun _ _ _ => rfl⟩
  | m + 1, i, t, hi, hK, hS, h => by
    have hR' := hR
    unfold apR at hR'
    have hU : F_ME_encrypt_0_L0 pek n at_ pms nm pct nc (m + 1) i t = F_ME_encrypt_0_L0 pek n at_ pms nm pct nc m (i + 1) (F_ME_forth (203 + i) (F_ME_noise_2 (208 + i) 220 64 32 (nI (2 + i)) (F_ME_noise_3 (203 + i) 220 64 32 (nI i) (F_ME_proper (213 + i) (F_ME_read_12 pek n (at_ + (384 * i)) (213 + i) t))))) := by
      rw [F_ME_encrypt_0_L0]
      repeat rw [bnd_eq]
    have a1 := Q_readM (qb := pek) (m := n) (bt := at_ + (384 * i)) (qf := 213 + i) (t := t) (by omega)
    have a2 : isO pp n0 BK i ((F_ME_proper (213 + i) (F_ME_read_12 pek n (at_ + (384 * i)) (213 + i) t)).1 (213 + i)) := fun s hs => (reduced_same (n := n0) (m := n) hpp (by omega) (fun j hj => (hs j hj).trans (by rw [Nat.add_assoc]; exact (hK (384 * i + j) (by omega)).symm))).2.2
    generalize F_ME_proper (213 + i) (F_ME_read_12 pek n (at_ + (384 * i)) (213 + i) t) = tB at a1 a2 hU
    have s1 : tB.1 220 = t.1 220 := a1.1 220 (by omega)
    obtain ⟨b1, b2⟩ := Q_noiseM3 (qf := 203 + i) (n := 64) (wh := nI i) (t := tB) (by omega) (by omega)
    have b3 : ∀ (s : Sto) (pf : Nat), pf ≠ 14 → pf ≠ 35 → (∀ j, j < 32 → s.1 34 (32 + j) = SD j) → sr 3329 ((F_KM_sampleNoise_3 pf (nI i) s).1 pf) ((F_ME_noise_3 (203 + i) 220 64 32 (nI i) tB).1 (203 + i)) := fun s pf h1 h2 hs => (noise3_same h1 h2 (by omega) (by omega) (by decide) (fun j hj => (hs j hj).trans (by rw [s1]; exact (hS j hj).symm))).2.2
    generalize F_ME_noise_3 (203 + i) 220 64 32 (nI i) tB = tC at b1 b2 b3 hU
    have s2 : tC.1 220 = t.1 220 := (b1 220 (by omega) (by omega) (by omega)).trans s1
    obtain ⟨c1, -⟩ := Q_noiseM2 (qf := 208 + i) (n := 64) (wh := nI (2 + i)) (t := tC) (by omega) (by omega)
    have c3 : isN SD (2 + i) ((F_ME_noise_2 (208 + i) 220 64 32 (nI (2 + i)) tC).1 (208 + i)) := fun s hs => (noise2_same (by decide) (by decide) (by omega) (by omega) (by decide) (fun j hj => (hs j hj).trans (by rw [s2]; exact (hS j hj).symm))).2.2
    generalize F_ME_noise_2 (208 + i) 220 64 32 (nI (2 + i)) tC = tD at c1 c3 hU
    have s3 : tD.1 220 = t.1 220 := (c1 220 (by omega) (by omega) (by omega)).trans s2
    have e3 : tD.1 (203 + i) = tC.1 (203 + i) := c1 (203 + i) (by omega) (by omega) (by omega)
    have d1 := (Q_forth (pf := 203 + i) (s := tD) (by omega) (by rw [e3]; exact b2)).1
    have d3 : isS3 SD i ((F_ME_forth (203 + i) tD).1 (203 + i)) := fun s pf h1 h2 hs => (forth_sr (by omega) (by rw [e3]; exact b3 s pf h1 h2 hs)).2.2
    generalize F_ME_forth (203 + i) tD = tF at d1 d3 hU
    have g : ∀ y, y ≠ 172 → y ≠ 221 → y ≠ 219 → y ≠ 213 + i → y ≠ 203 + i → y ≠ 208 + i → tF.1 y = t.1 y := fun y w1 w2 w3 w4 w5 w6 => by
      rw [d1.1 y w5 w3, c1 y w1 w2 w6, b1 y w1 w2 w5, a1.1 y w4]
    have gO : tF.1 (213 + i) = tB.1 (213 + i) := by rw [d1.1 (213 + i) (by omega) (by omega), c1 (213 + i) (by omega) (by omega) (by omega), b1 (213 + i) (by omega) (by omega) (by omega)]
    have gN : tF.1 (208 + i) = tD.1 (208 + i) := d1.1 (208 + i) (by omega) (by omega)
    obtain ⟨t1, e, f1, f2, f3⟩ := enA0 (n := n) (at_ := at_) (nm := nm) (nc := nc) (pp := pp) (n0 := n0) (BK := BK) (SD := SD) hR hpp m (i + 1) tF (by omega) (fun j hj => by rw [g pek (by omega) (by omega) (by omega) (by omega) (by omega) (by omega)]; exact hK j hj) (fun j hj => by rw [g 220 (by omega) (by omega) (by omega) (by omega) (by omega) (by omega)]; exact hS j hj) (fun i' hi' => by
      by_cases w : i' = i
      · subst w
        rw [gO, gN]
        exact ⟨a2, d3, c3⟩
      · rw [g (213 + i') (by omega) (by omega) (by omega) (by omega) (by omega) (by omega), g (203 + i') (by omega) (by omega) (by omega) (by omega) (by omega) (by omega), g (208 + i') (by omega) (by omega) (by omega) (by omega) (by omega) (by omega)]
        exact h i' (by omega))
    refine ⟨t1, hU.trans e, ftr (fun k hk => ?_) f1, f2, fun y h1 h2 => ?_⟩
    · unfold MR at hk
      exact g k (by omega) (by omega) (by omega) (by omega) (by omega) (by omega)
    · rw [f3 y h1 h2, g y (by omega) (by omega) (by omega) (by omega) (by omega) (by omega)]
/-- set 0: the program's first loop -/
theorem enB0 {pp pt n : Nat} {SD : Nat → Int32} {r : Nat → Nat → Int32} (hr : ∀ i, i < 2 → isS3 SD i (r i)) : ∀ (m i : Nat) (s : Sto), i + m = 2 → (∀ j, j < 32 → s.1 34 (32 + j) = SD j) → (∀ i', i' < i → sr 3329 (s.1 (26 + i')) (r i')) → ∃ s1, F_KM_encrypt_0_L0 pp pt n m i s = F_KM_encrypt_0_L1 pp pt n 2 0 s1 ∧ frm (fun k => k = 14 ∨ k = 35 ∨ (26 ≤ k ∧ k ≤ 29)) s s1 ∧ ∀ i', i' < 2 → sr 3329 (s1.1 (26 + i')) (r i')
  | 0, i, s, hi, _, h => by
    obtain rfl : i = 2 := by omega
    exact ⟨s, by rw [F_KM_encrypt_0_L0], frm_rf, h⟩
  | m + 1, i, s, hi, hS, h => by
    have hU : F_KM_encrypt_0_L0 pp pt n (m + 1) i s = F_KM_encrypt_0_L0 pp pt n m (i + 1) (F_RG_transform_7 (26 + i) (F_KM_sampleNoise_3 (26 + i) (nI i) s)) := by
      rw [F_KM_encrypt_0_L0]
      repeat rw [bnd_eq]
    have k1 := hr i (by omega) s (26 + i) (by omega) (by omega) hS
    obtain ⟨a1, a2⟩ := P_noiseM3 (pf := 26 + i) (wh := nI i) (s := s) (by omega) (by omega)
    generalize F_KM_sampleNoise_3 (26 + i) (nI i) s = sA at a1 a2 k1 hU
    have b1 := (P_transform7 a2).1
    generalize F_RG_transform_7 (26 + i) sA = sB at b1 k1 hU
    have g : ∀ y, y ≠ 14 → y ≠ 35 → y ≠ 26 + i → sB.1 y = s.1 y := fun y w1 w2 w3 => by rw [b1.1 y w3, a1 y w1 w2 w3]
    obtain ⟨s1, e, f1, f2⟩ := enB0 (pp := pp) (pt := pt) (n := n) hr m (i + 1) sB (by omega) (fun j hj => by rw [g 34 (by omega) (by omega) (by omega)]; exact hS j hj) (fun i' hi' => by
      by_cases w : i' = i
      · subst w
        exact k1
      · rw [g (26 + i') (by omega) (by omega) (by omega)]
        exact h i' (by omega))
    refine ⟨s1, hU.trans e, ftr (fun k hk => g k (by omega) (by omega) (by omega)) f1, f2⟩
/-- set 0: one row of the product -/
theorem enD0 {pp pt n pek pms pct nc i : Nat} {BK SD MS : Nat → Int32} {kk kk' : Nat → Sto → Sto} (hC : apC pp pt) (hR : apR pek pms pct) (hi : i < 2) : ∀ (m j : Nat) (s t : Sto), j + m = 2 → IV 2 800 768 pp pms BK SD MS s t → sr 3329 (s.1 30) (t.1 217) → ∃ s1 t1, F_KM_encrypt_0_L3 pp pt n i kk m j s = F_KM_encrypt_0_L3 pp pt n i kk 0 2 s1 ∧ F_ME_encrypt_0_L3 pct nc i kk' m j t = F_ME_encrypt_0_L3 pct nc i kk' 0 2 t1 ∧ frm (fun k => k = 14 ∨ k = 30 ∨ k = 31) s s1 ∧ frm (fun k => k = 217) t t1 ∧ sr 3329 (s1.1 30) (t1.1 217)
  | 0, j, s, t, hj, _, h => by
    obtain rfl : j = 2 := by omega
    exact ⟨s, t, rfl, rfl, frm_rf, frm_rf, h⟩
  | m + 1, j, s, t, hj, hI, h => by
    have hC' := hC
    unfold apC at hC'
    have hU : F_KM_encrypt_0_L3 pp pt n i kk (m + 1) j s = F_KM_encrypt_0_L3 pp pt n i kk m (j + 1) (F_RG_addProduct_7 30 31 (26 + j) (F_KM_sampleEntry pp 800 768 (nI i) (nI j) s)) := by
      rw [F_KM_encrypt_0_L3]
      repeat rw [bnd_eq]
    have hV : F_ME_encrypt_0_L3 pct nc i kk' (m + 1) j t = F_ME_encrypt_0_L3 pct nc i kk' m (j + 1) (F_ME_product (186 + ((4 * j) + i)) (203 + j) 217 t) := by
      rw [F_ME_encrypt_0_L3]
      repeat rw [bnd_eq]
    have k1 := hI.2.2.2.2.2.2 j i (by omega) hi s (fun x hx => hI.1 (768 + x) (by omega))
    have a1 := P_entryM (pb := pp) (n := 800) (at_ := 768) (v1 := nI i) (v2 := nI j) (s := s) (by omega)
    generalize F_KM_sampleEntry pp 800 768 (nI i) (nI j) s = sA at a1 k1 hU
    have k2 := (hI.2.2.2.2.2.1 j (by omega)).1
    rw [← a1.1 (26 + j) (by omega) (by omega)] at k2
    rw [← a1.1 30 (by omega) (by omega)] at h
    obtain ⟨b1, b2, b3⟩ := product_sr (ps := 30) (pf := 31) (pg := 26 + j) (qs := 217) (qf := 186 + ((4 * j) + i)) (qg := 203 + j) (by omega) (by omega) (by omega) (by omega) h k1 k2
    generalize F_RG_addProduct_7 30 31 (26 + j) sA = sB at b1 b3 hU
    generalize F_ME_product (186 + ((4 * j) + i)) (203 + j) 217 t = tB at b2 b3 hV
    have g1 : frm (fun k => k = 14 ∨ k = 30 ∨ k = 31) s sB := fun k hk => (b1.1 k (by omega)).trans (a1.1 k (by omega) (by omega))
    have g2 : frm (fun k => k = 217) t tB := fun k hk => b2.1 k hk
    obtain ⟨s1, t1, e1, e2, f1, f2, f3⟩ := enD0 (pp := pp) (pt := pt) (n := n) (pek := pek) (nc := nc) (kk := kk) (kk' := kk') hC hR hi m (j + 1) sB tB (by omega) (IV_f (by decide) hC hR hI (fun k hk => g1 k (by unfold MI at hk; omega)) (fun k hk => g2 k (by unfold MJ at hk; omega))) b3
    exact ⟨s1, t1, hU.trans e1, hV.trans e2, ftr g1 f1, ftr g2 f2, f3⟩
/-- set 0: the last part, the value -/
theorem enE0 {pp pt n pek pms nm pct nc : Nat} {BK SD MS : Nat → Int32} (hC : apC pp pt) (hR : apR pek pms pct) : ∀ (m j : Nat) (s t : Sto), j + m = 2 → IV 2 800 768 pp pms BK SD MS s t → sr 3329 (s.1 30) (t.1 217) → frm (MC pt) s (F_KM_encrypt_0_L2 pp pt n m j s) ∧ frm (MR pct) t (F_ME_encrypt_0_L2 pms nm pct nc m j t) ∧ (∀ x, x < 128 → (F_KM_encrypt_0_L2 pp pt n m j s).1 pt (640 + x) = (F_ME_encrypt_0_L2 pms nm pct nc m j t).1 pct (640 + x)) ∧ (∀ x, x < 640 → (F_KM_encrypt_0_L2 pp pt n m j s).1 pt x = s.1 pt x) ∧ ∀ x, x < 640 → (F_ME_encrypt_0_L2 pms nm pct nc m j t).1 pct x = t.1 pct x
  | 0, j, s, t, hj, hI, h => by
    have hC' := hC
    unfold apC at hC'
    have hR' := hR
    unfold apR at hR'
    have hU : F_KM_encrypt_0_L2 pp pt n 0 j s = F_KM_writeRounded 30 4 pt n 640 (F_RG_add_7 30 31 (F_KM_readRounded 31 1 32 32 0 (F_RG_add_7 30 31 (F_KM_sampleNoise_2 31 (nI 4) (F_RG_restore_7 30 s))))) := by
      rw [F_KM_encrypt_0_L2]
      repeat rw [bnd_eq]
    have hV : F_ME_encrypt_0_L2 pms nm pct nc 0 j t = F_ME_write_4 217 pct nc 640 (F_ME_less_4 217 (F_ME_plus 217 218 (F_ME_more_1 218 (F_ME_read_1 pms nm 0 218 (F_ME_plus 217 218 (F_ME_noise_2 218 220 64 32 (nI 4) (F_ME_back 217 t))))))) := by
      rw [F_ME_encrypt_0_L2]
      repeat rw [bnd_eq]
    obtain ⟨a1, a2, a3⟩ := back_sr (by decide) h
    generalize F_RG_restore_7 30 s = s1 at a1 a3 hU
    generalize F_ME_back 217 t = t1 at a2 a3 hV
    obtain ⟨b1, b2, b3⟩ := noise2_same (pf := 31) (qf := 218) (pb := 220) (n := 64) (at_ := 32) (wh := nI 4) (s := s1) (t := t1) (by decide) (by decide) (by decide) (by decide) (by decide) (fun x hx => by rw [a1.1 34 (by decide), a2.1 220 (by decide) (by decide), hI.2.1 x hx, hI.2.2.2.2.1 x hx])
    generalize F_KM_sampleNoise_2 31 (nI 4) s1 = s2 at b1 b3 hU
    generalize F_ME_noise_2 218 220 64 32 (nI 4) t1 = t2 at b2 b3 hV
    obtain ⟨c1, c2, c3⟩ := add_same (pf := 30) (pg := 31) (qf := 217) (qg := 218) (s := s2) (t := t2) (by decide) (by decide) (sr_w a3 (b1 30 (by decide) (by decide) (by decide)) (b2 217 (by decide) (by decide) (by decide))) b3
    generalize F_RG_add_7 30 31 s2 = s3 at c1 c3 hU
    generalize F_ME_plus 217 218 t2 = t3 at c2 c3 hV
    have m1 : s3.1 32 = s.1 32 := by rw [c1.1 32 (by decide), b1 32 (by decide) (by decide) (by decide), a1.1 32 (by decide)]
    have m2 : t3.1 pms = t.1 pms := by rw [c2.1 pms (by omega), b2 pms (by omega) (by omega) (by omega), a2.1 pms (by omega) (by omega)]
    obtain ⟨d1, d2, d3⟩ := spread1_same (pf := 31) (pr_ := 32) (n := 32) (at_ := 0) (qf := 218) (qr := pms) (m := nm) (bt := 0) (s := s3) (t := t3) (by decide) (by omega) (fun x hx => by rw [m1, m2, Nat.zero_add, hI.2.2.1 x (by omega), hI.2.2.2.1 x (by omega)])
    generalize F_KM_readRounded 31 1 32 32 0 s3 = s4 at d1 d3 hU
    generalize F_ME_more_1 218 (F_ME_read_1 pms nm 0 218 t3) = t4 at d2 d3 hV
    obtain ⟨e1, e2, e3⟩ := add_same (pf := 30) (pg := 31) (qf := 217) (qg := 218) (s := s4) (t := t4) (by decide) (by decide) (sr_w c3 (d1.1 30 (by decide)) (d2.1 217 (by decide))) d3
    generalize F_RG_add_7 30 31 s4 = s5 at e1 e3 hU
    generalize F_ME_plus 217 218 t4 = t5 at e2 e3 hV
    obtain ⟨w1, w2, w3, w4, w5⟩ := rounded4_same (pf := 30) (pt := pt) (n := n) (at_ := 640) (qf := 217) (qt := pct) (m := nc) (bt := 640) (s := s5) (t := t5) (by omega) (by omega) e3
    rw [hU, hV]
    have g1 : ∀ y, y ≠ 14 → y ≠ 30 → y ≠ 31 → y ≠ 35 → s5.1 y = s.1 y := fun y x1 x2 x3 x4 => by rw [e1.1 y x2, d1.1 y x3, c1.1 y x2, b1 y x1 x4 x3, a1.1 y x2]
    have g2 : ∀ y, y ≠ 172 → ¬ (217 ≤ y ∧ y ≤ 219) → y ≠ 221 → t5.1 y = t.1 y := fun y x1 x2 x3 => by rw [e2.1 y (by omega), d2.1 y (by omega), c2.1 y (by omega), b2 y x1 x3 (by omega), a2.1 y (by omega) (by omega)]
    refine ⟨fun k hk => ?_, fun k hk => ?_, fun x hx => w3 x (by omega), fun x hx => ?_, fun x hx => ?_⟩
    · unfold MC at hk
      rw [w1 k (by omega) (by omega), g1 k (by omega) (by omega) (by omega) (by omega)]
    · unfold MR at hk
      rw [w2 k (by omega) (by omega), g2 k (by omega) (by omega) (by omega)]
    · rw [w4 x (by omega), g1 pt (by omega) (by omega) (by omega) (by omega)]
    · rw [w5 x (by omega), g2 pct (by omega) (by omega) (by omega)]
  | m + 1, j, s, t, hj, hI, h => by
    have hC' := hC
    unfold apC at hC'
    have hR' := hR
    unfold apR at hR'
    have hU : F_KM_encrypt_0_L2 pp pt n (m + 1) j s = F_KM_encrypt_0_L2 pp pt n m (j + 1) (F_RG_addProduct_7 30 31 (26 + j) (F_KM_readReduced pp 800 (384 * j) s)) := by
      rw [F_KM_encrypt_0_L2]
      repeat rw [bnd_eq]
    have hV : F_ME_encrypt_0_L2 pms nm pct nc (m + 1) j t = F_ME_encrypt_0_L2 pms nm pct nc m (j + 1) (F_ME_product (213 + j) (203 + j) 217 t) := by
      rw [F_ME_encrypt_0_L2]
      repeat rw [bnd_eq]
    have k1 := (hI.2.2.2.2.2.1 j (by omega)).2.1 s (fun x hx => hI.1 (384 * j + x) (by omega))
    have a1 := P_readM (pb := pp) (n := 800) (at_ := 384 * j) (s := s) (by omega)
    generalize F_KM_readReduced pp 800 (384 * j) s = sA at a1 k1 hU
    have k2 := (hI.2.2.2.2.2.1 j (by omega)).1
    rw [← a1.1 (26 + j) (by omega)] at k2
    rw [← a1.1 30 (by omega)] at h
    obtain ⟨b1, b2, b3⟩ := product_sr (ps := 30) (pf := 31) (pg := 26 + j) (qs := 217) (qf := 213 + j) (qg := 203 + j) (by omega) (by omega) (by omega) (by omega) h k1 k2
    generalize F_RG_addProduct_7 30 31 (26 + j) sA = sB at b1 b3 hU
    generalize F_ME_product (213 + j) (203 + j) 217 t = tB at b2 b3 hV
    have g1 : frm (fun k => k = 30 ∨ k = 31) s sB := fun k hk => (b1.1 k (by omega)).trans (a1.1 k (by omega))
    have g2 : frm (fun k => k = 217) t tB := fun k hk => b2.1 k hk
    obtain ⟨f1, f2, f3, f4, f5⟩ := enE0 (n := n) (pek := pek) (nm := nm) (nc := nc) hC hR m (j + 1) sB tB (by omega) (IV_f (by decide) hC hR hI (fun k hk => g1 k (by unfold MI at hk; omega)) (fun k hk => g2 k (by unfold MJ at hk; omega))) b3
    rw [hU, hV]
    refine ⟨ftr (fun k hk => g1 k (by unfold MC at hk; omega)) f1, ftr (fun k hk => g2 k (by unfold MR at hk; omega)) f2, f3, fun x hx => ?_, fun x hx => ?_⟩
    · rw [f4 x hx, g1 pt (by omega)]
    · rw [f5 x hx, g2 pct (by omega)]
/-- set 0: row by row of the ciphertext, then the value -/
theorem enC0 {pp pt n pek pms nm pct nc : Nat} {BK SD MS : Nat → Int32} (hC : apC pp pt) (hR : apR pek pms pct) : ∀ (m i : Nat) (s t : Sto), i + m = 2 → IV 2 800 768 pp pms BK SD MS s t → (∀ x, x < 320 * i → s.1 pt x = t.1 pct x) → frm (MC pt) s (F_KM_encrypt_0_L1 pp pt n m i s) ∧ frm (MR pct) t (F_ME_encrypt_0_L1 pms nm pct nc m i t) ∧ ∀ x, x < 768 → (F_KM_encrypt_0_L1 pp pt n m i s).1 pt x = (F_ME_encrypt_0_L1 pms nm pct nc m i t).1 pct x
  | 0, i, s, t, hi, hI, hB => by
    obtain rfl : i = 2 := by omega
    have hC' := hC
    unfold apC at hC'
    have hR' := hR
    unfold apR at hR'
    have hU : F_KM_encrypt_0_L1 pp pt n 0 2 s = F_KM_encrypt_0_L2 pp pt n 2 0 (F_AR_fillI 30 256 (nI 0) s) := by rw [F_KM_encrypt_0_L1, bnd_eq]
    have hV : F_ME_encrypt_0_L1 pms nm pct nc 0 2 t = F_ME_encrypt_0_L2 pms nm pct nc 2 0 (F_ME_clear 217 t) := by rw [F_ME_encrypt_0_L1, bnd_eq]
    obtain ⟨a1, a2⟩ := P_fill (pf := 30) (v := nI 0) (s := s)
    obtain ⟨b1, b2⟩ := Q_clear (pf := 217) (s := t)
    generalize F_AR_fillI 30 256 (nI 0) s = sA at a1 a2 hU
    generalize F_ME_clear 217 t = tA at b1 b2 hV
    obtain ⟨f1, f2, f3, f4, f5⟩ := enE0 (n := n) (pek := pek) (nm := nm) (nc := nc) hC hR 2 0 sA tA (by decide) (IV_f (by decide) hC hR hI (fo a1 (by unfold MI; omega)) (fo b1 (by unfold MJ; omega))) (fun k hk => ⟨0, by decide, a2 k hk, b2 k hk⟩)
    rw [hU, hV]
    refine ⟨ftr (fo a1 (by unfold MC; omega)) f1, ftr (fo b1 (by unfold MR; omega)) f2, fun x hx => ?_⟩
    by_cases w : x < 640
    · rw [f4 x w, f5 x w, a1.1 pt (by omega), b1.1 pct (by omega)]
      exact hB x (by omega)
    · have := f3 (x - 640) (by omega)
      rw [show 640 + (x - 640) = x by omega] at this
      exact this
  | m + 1, i, s, t, hi, hI, hB => by
    have hC' := hC
    unfold apC at hC'
    have hR' := hR
    unfold apR at hR'
    have hU : F_KM_encrypt_0_L1 pp pt n (m + 1) i s = F_KM_encrypt_0_L3 pp pt n i (F_KM_encrypt_0_L1 pp pt n m) 2 0 (F_AR_fillI 30 256 (nI 0) s) := by rw [F_KM_encrypt_0_L1, bnd_eq]
    have hV : F_ME_encrypt_0_L1 pms nm pct nc (m + 1) i t = F_ME_encrypt_0_L3 pct nc i (F_ME_encrypt_0_L1 pms nm pct nc m) 2 0 (F_ME_clear 217 t) := by rw [F_ME_encrypt_0_L1, bnd_eq]
    obtain ⟨a1, a2⟩ := P_fill (pf := 30) (v := nI 0) (s := s)
    obtain ⟨b1, b2⟩ := Q_clear (pf := 217) (s := t)
    generalize F_AR_fillI 30 256 (nI 0) s = sA at a1 a2 hU
    generalize F_ME_clear 217 t = tA at b1 b2 hV
    have hI1 := IV_f (by decide) hC hR hI (fo a1 (show MI pt 30 by unfold MI; omega)) (fo b1 (show MJ pct 217 by unfold MJ; omega))
    obtain ⟨sB, tB, u1, u2, u3, u4, u5⟩ := enD0 (n := n) (pek := pek) (nc := nc) (kk := F_KM_encrypt_0_L1 pp pt n m) (kk' := F_ME_encrypt_0_L1 pms nm pct nc m) hC hR (show i < 2 by omega) 2 0 sA tA (by decide) hI1 (fun k hk => ⟨0, by decide, a2 k hk, b2 k hk⟩)
    rw [u1] at hU
    rw [u2] at hV
    have hI2 := IV_f (by decide) hC hR hI1 (fun k hk => u3 k (by unfold MI at hk; omega)) (fun k hk => u4 k (by unfold MJ at hk; omega))
    have hU2 : F_KM_encrypt_0_L3 pp pt n i (F_KM_encrypt_0_L1 pp pt n m) 0 2 sB = F_KM_encrypt_0_L1 pp pt n m (i + 1) (F_KM_writeRounded 30 10 pt n (320 * i) (F_RG_add_7 30 31 (F_KM_sampleNoise_2 31 (nI (2 + i)) (F_RG_restore_7 30 sB)))) := by
      rw [F_KM_encrypt_0_L3]
      repeat rw [bnd_eq]
    have hV2 : F_ME_encrypt_0_L3 pct nc i (F_ME_encrypt_0_L1 pms nm pct nc m) 0 2 tB = F_ME_encrypt_0_L1 pms nm pct nc m (i + 1) (F_ME_write_10 217 pct nc (320 * i) (F_ME_less_10 217 (F_ME_plus 217 (208 + i) (F_ME_back 217 tB)))) := by
      rw [F_ME_encrypt_0_L3]
      repeat rw [bnd_eq]
    rw [hU2] at hU
    rw [hV2] at hV
    obtain ⟨c1, c2, c3⟩ := back_sr (by decide) u5
    generalize F_RG_restore_7 30 sB = s1 at c1 c3 hU
    generalize F_ME_back 217 tB = t1 at c2 c3 hV
    have n3 := (hI2.2.2.2.2.2.1 i (by omega)).2.2 s1 (fun x hx => by rw [c1.1 34 (by decide)]; exact hI2.2.1 x hx)
    obtain ⟨n1, -⟩ := P_noiseM2 (pf := 31) (wh := nI (2 + i)) (s := s1) (by decide) (by decide)
    generalize F_KM_sampleNoise_2 31 (nI (2 + i)) s1 = s2 at n1 n3 hU
    rw [← c2.1 (208 + i) (by omega) (by omega)] at n3
    obtain ⟨d1, d2, d3⟩ := add_same (pf := 30) (pg := 31) (qf := 217) (qg := 208 + i) (s := s2) (t := t1) (by decide) (by omega) (sr_w c3 (n1 30 (by decide) (by decide) (by decide)) rfl) n3
    generalize F_RG_add_7 30 31 s2 = s3 at d1 d3 hU
    generalize F_ME_plus 217 (208 + i) t1 = t3 at d2 d3 hV
    obtain ⟨w1, w2, w3, w4, w5⟩ := rounded10_same (pf := 30) (pt := pt) (n := n) (at_ := 320 * i) (qf := 217) (qt := pct) (m := nc) (bt := 320 * i) (s := s3) (t := t3) (by omega) (by omega) d3
    generalize F_KM_writeRounded 30 10 pt n (320 * i) s3 = s4 at w1 w3 w4 hU
    generalize F_ME_write_10 217 pct nc (320 * i) (F_ME_less_10 217 t3) = t4 at w2 w3 w5 hV
    have g1 : ∀ y, y ≠ 14 → y ≠ 30 → y ≠ 31 → y ≠ 35 → s3.1 y = s.1 y := fun y x1 x2 x3 x4 => by rw [d1.1 y x2, n1 y x1 x4 x3, c1.1 y x2, u3 y (by omega), a1.1 y x2]
    have g2 : ∀ y, y ≠ 217 → y ≠ 219 → t3.1 y = t.1 y := fun y x1 x2 => by rw [d2.1 y x1, c2.1 y x1 x2, u4 y x1, b1.1 y x1]
    have F1 : frm (MI pt) s s4 := fun k hk => by
      unfold MI at hk
      rw [w1 k (by omega) (by omega), g1 k (by omega) (by omega) (by omega) (by omega)]
    have F2 : frm (MJ pct) t t4 := fun k hk => by
      unfold MJ at hk
      rw [w2 k (by omega) (by omega), g2 k (by omega) (by omega)]
    have c := enC0 (n := n) (pek := pek) (nm := nm) (nc := nc) hC hR m (i + 1) s4 t4 (by omega) (IV_f (by decide) hC hR hI F1 F2) (fun x hx => by
      by_cases w : x < 320 * i
      · rw [w4 x (by omega), w5 x (by omega), g1 pt (by omega) (by omega) (by omega) (by omega), g2 pct (by omega) (by omega)]
        exact hB x w
      · have := w3 (x - 320 * i) (by omega)
        rw [show 320 * i + (x - 320 * i) = x by omega] at this
        exact this)
    rw [hU, hV]
    exact ⟨ftr (fun k hk => F1 k (by unfold MC at hk; unfold MI; omega)) c.1, ftr (fun k hk => F2 k (by unfold MR at hk; unfold MJ; omega)) c.2.1, c.2.2⟩
/-- K-PKE.Encrypt, set 0: where the reference's draws end in time, both sides write the same ciphertext -/
theorem encrypt0_same {pp pt n pek nn at_ pms nm pct nc : Nat} {s t : Sto} (hC : apC pp pt) (hR : apR pek pms pct) (hK : ∀ j, j < 800 → s.1 pp j = t.1 pek (at_ + j)) (hM : ∀ j, j < 32 → s.1 32 j = t.1 pms j) (hS : ∀ j, j < 32 → s.1 34 (32 + j) = t.1 220 (32 + j)) (hE : E_ME_encrypt_0 pek nn at_ pms nm pct nc t) : frm (MC pt) s (F_KM_encrypt_0 pp pt n s) ∧ frm (MR pct) t (F_ME_encrypt_0 pek nn at_ pms nm pct nc t) ∧ ∀ x, x < 768 → (F_KM_encrypt_0 pp pt n s).1 pt x = (F_ME_encrypt_0 pek nn at_ pms nm pct nc t).1 pct x := by
  have hC' := hC
  unfold apC at hC'
  have hR' := hR
  unfold apR at hR'
  rw [E_ME_encrypt_0] at hE
  obtain ⟨a1, a2⟩ := ex2 (pp := pp) (n0 := 800) (at0 := 768) (B := fun j => t.1 pek (at_ + (768 + j))) (by unfold MX; omega) (by omega) (fun x hx => by rw [Nat.add_assoc]) hE.1
  have hV : F_ME_encrypt_0 pek nn at_ pms nm pct nc t = F_ME_encrypt_0_L0 pek nn at_ pms nm pct nc 2 0 (F_ME_expand_2 pek nn (at_ + 768) t) := by rw [F_ME_encrypt_0, bnd_eq]
  generalize F_ME_expand_2 pek nn (at_ + 768) t = tA at a1 a2 hV
  have e1 : tA.1 pek = t.1 pek := a1 pek (by unfold MX; omega)
  have e2 : tA.1 220 = t.1 220 := a1 220 (by unfold MX; omega)
  have e3 : tA.1 pms = t.1 pms := a1 pms (by unfold MX; omega)
  obtain ⟨t1, b1, b2, b3, b4⟩ := enA0 (n := nn) (at_ := at_) (nm := nm) (nc := nc) (pp := pp) (n0 := 800) (BK := fun j => t.1 pek (at_ + j)) (SD := fun j => t.1 220 (32 + j)) hR (by omega) 2 0 tA (by decide) (fun j hj => by rw [e1]) (fun j hj => by rw [e2]) (fun i' hi' => by omega)
  rw [b1] at hV
  have hU : F_KM_encrypt_0 pp pt n s = F_KM_encrypt_0_L0 pp pt n 2 0 s := by rw [F_KM_encrypt_0]
  obtain ⟨s1, c1, c2, c3⟩ := enB0 (pp := pp) (pt := pt) (n := n) (SD := fun j => t.1 220 (32 + j)) (r := fun i => t1.1 (203 + i)) (fun i hi => (b3 i hi).2.1) 2 0 s (by decide) hS (fun i' hi' => by omega)
  rw [c1] at hU
  have hI : IV 2 800 768 pp pms (fun j => t.1 pek (at_ + j)) (fun j => t.1 220 (32 + j)) (fun j => t.1 pms j) s1 t1 := by
    refine ⟨fun j hj => ?_, fun j hj => ?_, fun j hj => ?_, fun j hj => ?_, fun j hj => ?_, fun i hi => ⟨c3 i hi, (b3 i hi).1, (b3 i hi).2.2⟩, fun i x hi hx => ?_⟩
    · rw [c2 pp (by omega)]
      exact hK j hj
    · rw [c2 34 (by omega)]
      exact hS j hj
    · rw [c2 32 (by omega)]
      exact hM j hj
    · rw [b2 pms (by unfold MR; omega), e3]
    · rw [b2 220 (by unfold MR; omega), e2]
    · rw [b4 (186 + (4 * i + x)) (by omega) (by omega)]
      exact a2 i x hi hx
  obtain ⟨d1, d2, d3⟩ := enC0 (n := n) (pek := pek) (nm := nm) (nc := nc) hC hR 2 0 s1 t1 (by decide) hI (fun x hx => by omega)
  rw [hU, hV]
  exact ⟨ftr (fun k hk => c2 k (by unfold MC at hk; omega)) d1, ftr (ftr (fun k hk => a1 k (by unfold MR at hk; unfold MX; omega)) b2) d2, d3⟩
/-- set 1: the reference's first loop -/
theorem enA1 {pek n at_ pms nm pct nc pp n0 : Nat} {BK SD : Nat → Int32} (hR : apR pek pms pct) (hpp : pp ≠ 31) : ∀ (m i : Nat) (t : Sto), i + m = 3 → (∀ j, j < 1152 → t.1 pek (at_ + j) = BK j) → (∀ j, j < 32 → t.1 220 (32 + j) = SD j) → (∀ i', i' < i → isO pp n0 BK i' (t.1 (213 + i')) ∧ isS2 SD i' (t.1 (203 + i')) ∧ isN SD (3 + i') (t.1 (208 + i'))) →
    ∃ t1, F_ME_encrypt_1_L0 pek n at_ pms nm pct nc m i t = F_ME_encrypt_1_L1 pms nm pct nc 3 0 t1 ∧ frm (MR pct) t t1 ∧ (∀ i', i' < 3 → isO pp n0 BK i' (t1.1 (213 + i')) ∧ isS2 SD i' (t1.1 (203 + i')) ∧ isN SD (3 + i') (t1.1 (208 + i'))) ∧ ∀ y, 186 ≤ y → y ≤ 201 → t1.1 y = t.1 y
  | 0, i, t, hi, _, _, h => by
    obtain rfl : i = 3 := by omega
    exact ⟨t, by rw [F_ME_encrypt_1_L0], frm_rf, h, fun _ _ _ => rfl⟩
  | m + 1, i, t, hi, hK, hS, h => by
    have hR' := hR
    unfold apR at hR'
    have hU : F_ME_encrypt_1_L0 pek n at_ pms nm pct nc (m + 1) i t = F_ME_encrypt_1_L0 pek n at_ pms nm pct nc m (i + 1) (F_ME_forth (203 + i) (F_ME_noise_2 (208 + i) 220 64 32 (nI (3 + i)) (F_ME_noise_2 (203 + i) 220 64 32 (nI i) (F_ME_proper (213 + i) (F_ME_read_12 pek n (at_ + (384 * i)) (213 + i) t))))) := by
      rw [F_ME_encrypt_1_L0]
      repeat rw [bnd_eq]
    have a1 := Q_readM (qb := pek) (m := n) (bt := at_ + (384 * i)) (qf := 213 + i) (t := t) (by omega)
    have a2 : isO pp n0 BK i ((F_ME_proper (213 + i) (F_ME_read_12 pek n (at_ + (384 * i)) (213 + i) t)).1 (213 + i)) := fun s hs => (reduced_same (n := n0) (m := n) hpp (by omega) (fun j hj => (hs j hj).trans (by rw [Nat.add_assoc]; exact (hK (384 * i + j) (by omega)).symm))).2.2
    generalize F_ME_proper (213 + i) (F_ME_read_12 pek n (at_ + (384 * i)) (213 + i) t) = tB at a1 a2 hU
    have s1 : tB.1 220 = t.1 220 := a1.1 220 (by omega)
    obtain ⟨b1, b2⟩ := Q_noiseM2 (qf := 203 + i) (n := 64) (wh := nI i) (t := tB) (by omega) (by omega)
    have b3 : ∀ (s : Sto) (pf : Nat), pf ≠ 14 → pf ≠ 35 → (∀ j, j < 32 → s.1 34 (32 + j) = SD j) → sr 3329 ((F_KM_sampleNoise_2 pf (nI i) s).1 pf) ((F_ME_noise_2 (203 + i) 220 64 32 (nI i) tB).1 (203 + i)) := fun s pf h1 h2 hs => (noise2_same h1 h2 (by omega) (by omega) (by decide) (fun j hj => (hs j hj).trans (by rw [s1]; exact (hS j hj).symm))).2.2
    generalize F_ME_noise_2 (203 + i) 220 64 32 (nI i) tB = tC at b1 b2 b3 hU
    have s2 : tC.1 220 = t.1 220 := (b1 220 (by omega) (by omega) (by omega)).trans s1
    obtain ⟨c1, -⟩ := Q_noiseM2 (qf := 208 + i) (n := 64) (wh := nI (3 + i)) (t := tC) (by omega) (by omega)
    have c3 : isN SD (3 + i) ((F_ME_noise_2 (208 + i) 220 64 32 (nI (3 + i)) tC).1 (208 + i)) := fun s hs => (noise2_same (by decide) (by decide) (by omega) (by omega) (by decide) (fun j hj => (hs j hj).trans (by rw [s2]; exact (hS j hj).symm))).2.2
    generalize F_ME_noise_2 (208 + i) 220 64 32 (nI (3 + i)) tC = tD at c1 c3 hU
    have s3 : tD.1 220 = t.1 220 := (c1 220 (by omega) (by omega) (by omega)).trans s2
    have e3 : tD.1 (203 + i) = tC.1 (203 + i) := c1 (203 + i) (by omega) (by omega) (by omega)
    have d1 := (Q_forth (pf := 203 + i) (s := tD) (by omega) (by rw [e3]; exact b2)).1
    have d3 : isS2 SD i ((F_ME_forth (203 + i) tD).1 (203 + i)) := fun s pf h1 h2 hs => (forth_sr (by omega) (by rw [e3]; exact b3 s pf h1 h2 hs)).2.2
    generalize F_ME_forth (203 + i) tD = tF at d1 d3 hU
    have g : ∀ y, y ≠ 172 → y ≠ 221 → y ≠ 219 → y ≠ 213 + i → y ≠ 203 + i → y ≠ 208 + i → tF.1 y = t.1 y := fun y w1 w2 w3 w4 w5 w6 => by
      rw [d1.1 y w5 w3, c1 y w1 w2 w6, b1 y w1 w2 w5, a1.1 y w4]
    have gO : tF.1 (213 + i) = tB.1 (213 + i) := by rw [d1.1 (213 + i) (by omega) (by omega), c1 (213 + i) (by omega) (by omega) (by omega), b1 (213 + i) (by omega) (by omega) (by omega)]
    have gN : tF.1 (208 + i) = tD.1 (208 + i) := d1.1 (208 + i) (by omega) (by omega)
    obtain ⟨t1, e, f1, f2, f3⟩ := enA1 (n := n) (at_ := at_) (nm := nm) (nc := nc) (pp := pp) (n0 := n0) (BK := BK) (SD := SD) hR hpp m (i + 1) tF (by omega) (fun j hj => by rw [g pek (by omega) (by omega) (by omega) (by omega) (by omega) (by omega)]; exact hK j hj) (fun j hj => by rw [g 220 (by omega) (by omega) (by omega) (by omega) (by omega) (by omega)]; exact hS j hj) (fun i' hi' => by
      by_cases w : i' = i
      · subst w
        rw [gO, gN]
        exact ⟨a2, d3, c3⟩
      · rw [g (213 + i') (by omega) (by omega) (by omega) (by omega) (by omega) (by omega), g (203 + i') (by omega) (by omega) (by omega) (by omega) (by omega) (by omega), g (208 + i') (by omega) (by omega) (by omega) (by omega) (by omega) (by omega)]
        exact h i' (by omega))
    refine ⟨t1, hU.trans e, ftr (fun k hk => ?_) f1, f2, fun y h1 h2 => ?_⟩
    · unfold MR at hk
      exact g k (by omega) (by omega) (by omega) (by omega) (by omega) (by omega)
    · rw [f3 y h1 h2, g y (by omega) (by omega) (by omega) (by omega) (by omega) (by omega)]
/-- set 1: the program's first loop -/
theorem enB1 {pp pt n : Nat} {SD : Nat → Int32} {r : Nat → Nat → Int32} (hr : ∀ i, i < 3 → isS2 SD i (r i)) : ∀ (m i : Nat) (s : Sto), i + m = 3 → (∀ j, j < 32 → s.1 34 (32 + j) = SD j) → (∀ i', i' < i → sr 3329 (s.1 (26 + i')) (r i')) → ∃ s1, F_KM_encrypt_1_L0 pp pt n m i s = F_KM_encrypt_1_L1 pp pt n 3 0 s1 ∧ frm (fun k => k = 14 ∨ k = 35 ∨ (26 ≤ k ∧ k ≤ 29)) s s1 ∧ ∀ i', i' < 3 → sr 3329 (s1.1 (26 + i')) (r i')
  | 0, i, s, hi, _, h => by
    obtain rfl : i = 3 := by omega
    exact ⟨s, by rw [F_KM_encrypt_1_L0], frm_rf, h⟩
  | m + 1, i, s, hi, hS, h => by
    have hU : F_KM_encrypt_1_L0 pp pt n (m + 1) i s = F_KM_encrypt_1_L0 pp pt n m (i + 1) (F_RG_transform_7 (26 + i) (F_KM_sampleNoise_2 (26 + i) (nI i) s)) := by
      rw [F_KM_encrypt_1_L0]
      repeat rw [bnd_eq]
    have k1 := hr i (by omega) s (26 + i) (by omega) (by omega) hS
    obtain ⟨a1, a2⟩ := P_noiseM2 (pf := 26 + i) (wh := nI i) (s := s) (by omega) (by omega)
    generalize F_KM_sampleNoise_2 (26 + i) (nI i) s = sA at a1 a2 k1 hU
    have b1 := (P_transform7 a2).1
    generalize F_RG_transform_7 (26 + i) sA = sB at b1 k1 hU
    have g : ∀ y, y ≠ 14 → y ≠ 35 → y ≠ 26 + i → sB.1 y = s.1 y := fun y w1 w2 w3 => by rw [b1.1 y w3, a1 y w1 w2 w3]
    obtain ⟨s1, e, f1, f2⟩ := enB1 (pp := pp) (pt := pt) (n := n) hr m (i + 1) sB (by omega) (fun j hj => by rw [g 34 (by omega) (by omega) (by omega)]; exact hS j hj) (fun i' hi' => by
      by_cases w : i' = i
      · subst w
        exact k1
      · rw [g (26 + i') (by omega) (by omega) (by omega)]
        exact h i' (by omega))
    refine ⟨s1, hU.trans e, ftr (fun k hk => g k (by omega) (by omega) (by omega)) f1, f2⟩
/-- set 1: one row of the product -/
theorem enD1 {pp pt n pek pms pct nc i : Nat} {BK SD MS : Nat → Int32} {kk kk' : Nat → Sto → Sto} (hC : apC pp pt) (hR : apR pek pms pct) (hi : i < 3) : ∀ (m j : Nat) (s t : Sto), j + m = 3 → IV 3 1184 1152 pp pms BK SD MS s t → sr 3329 (s.1 30) (t.1 217) → ∃ s1 t1, F_KM_encrypt_1_L3 pp pt n i kk m j s = F_KM_encrypt_1_L3 pp pt n i kk 0 3 s1 ∧ F_ME_encrypt_1_L3 pct nc i kk' m j t = F_ME_encrypt_1_L3 pct nc i kk' 0 3 t1 ∧ frm (fun k => k = 14 ∨ k = 30 ∨ k = 31) s s1 ∧ frm (fun k => k = 217) t t1 ∧ sr 3329 (s1.1 30) (t1.1 217)
  | 0, j, s, t, hj, _, h => by
    obtain rfl : j = 3 := by omega
    exact ⟨s, t, rfl, rfl, frm_rf, frm_rf, h⟩
  | m + 1, j, s, t, hj, hI, h => by
    have hC' := hC
    unfold apC at hC'
    have hU : F_KM_encrypt_1_L3 pp pt n i kk (m + 1) j s = F_KM_encrypt_1_L3 pp pt n i kk m (j + 1) (F_RG_addProduct_7 30 31 (26 + j) (F_KM_sampleEntry pp 1184 1152 (nI i) (nI j) s)) := by
      rw [F_KM_encrypt_1_L3]
      repeat rw [bnd_eq]
    have hV : F_ME_encrypt_1_L3 pct nc i kk' (m + 1) j t = F_ME_encrypt_1_L3 pct nc i kk' m (j + 1) (F_ME_product (186 + ((4 * j) + i)) (203 + j) 217 t) := by
      rw [F_ME_encrypt_1_L3]
      repeat rw [bnd_eq]
    have k1 := hI.2.2.2.2.2.2 j i (by omega) hi s (fun x hx => hI.1 (1152 + x) (by omega))
    have a1 := P_entryM (pb := pp) (n := 1184) (at_ := 1152) (v1 := nI i) (v2 := nI j) (s := s) (by omega)
    generalize F_KM_sampleEntry pp 1184 1152 (nI i) (nI j) s = sA at a1 k1 hU
    have k2 := (hI.2.2.2.2.2.1 j (by omega)).1
    rw [← a1.1 (26 + j) (by omega) (by omega)] at k2
    rw [← a1.1 30 (by omega) (by omega)] at h
    obtain ⟨b1, b2, b3⟩ := product_sr (ps := 30) (pf := 31) (pg := 26 + j) (qs := 217) (qf := 186 + ((4 * j) + i)) (qg := 203 + j) (by omega) (by omega) (by omega) (by omega) h k1 k2
    generalize F_RG_addProduct_7 30 31 (26 + j) sA = sB at b1 b3 hU
    generalize F_ME_product (186 + ((4 * j) + i)) (203 + j) 217 t = tB at b2 b3 hV
    have g1 : frm (fun k => k = 14 ∨ k = 30 ∨ k = 31) s sB := fun k hk => (b1.1 k (by omega)).trans (a1.1 k (by omega) (by omega))
    have g2 : frm (fun k => k = 217) t tB := fun k hk => b2.1 k hk
    obtain ⟨s1, t1, e1, e2, f1, f2, f3⟩ := enD1 (pp := pp) (pt := pt) (n := n) (pek := pek) (nc := nc) (kk := kk) (kk' := kk') hC hR hi m (j + 1) sB tB (by omega) (IV_f (by decide) hC hR hI (fun k hk => g1 k (by unfold MI at hk; omega)) (fun k hk => g2 k (by unfold MJ at hk; omega))) b3
    exact ⟨s1, t1, hU.trans e1, hV.trans e2, ftr g1 f1, ftr g2 f2, f3⟩
/-- set 1: the last part, the value -/
theorem enE1 {pp pt n pek pms nm pct nc : Nat} {BK SD MS : Nat → Int32} (hC : apC pp pt) (hR : apR pek pms pct) : ∀ (m j : Nat) (s t : Sto), j + m = 3 → IV 3 1184 1152 pp pms BK SD MS s t → sr 3329 (s.1 30) (t.1 217) → frm (MC pt) s (F_KM_encrypt_1_L2 pp pt n m j s) ∧ frm (MR pct) t (F_ME_encrypt_1_L2 pms nm pct nc m j t) ∧ (∀ x, x < 128 → (F_KM_encrypt_1_L2 pp pt n m j s).1 pt (960 + x) = (F_ME_encrypt_1_L2 pms nm pct nc m j t).1 pct (960 + x)) ∧ (∀ x, x < 960 → (F_KM_encrypt_1_L2 pp pt n m j s).1 pt x = s.1 pt x) ∧ ∀ x, x < 960 → (F_ME_encrypt_1_L2 pms nm pct nc m j t).1 pct x = t.1 pct x
  | 0, j, s, t, hj, hI, h => by
    have hC' := hC
    unfold apC at hC'
    have hR' := hR
    unfold apR at hR'
    have hU : F_KM_encrypt_1_L2 pp pt n 0 j s = F_KM_writeRounded 30 4 pt n 960 (F_RG_add_7 30 31 (F_KM_readRounded 31 1 32 32 0 (F_RG_add_7 30 31 (F_KM_sampleNoise_2 31 (nI 6) (F_RG_restore_7 30 s))))) := by
      rw [F_KM_encrypt_1_L2]
      repeat rw [bnd_eq]
    have hV : F_ME_encrypt_1_L2 pms nm pct nc 0 j t = F_ME_write_4 217 pct nc 960 (F_ME_less_4 217 (F_ME_plus 217 218 (F_ME_more_1 218 (F_ME_read_1 pms nm 0 218 (F_ME_plus 217 218 (F_ME_noise_2 218 220 64 32 (nI 6) (F_ME_back 217 t))))))) := by
      rw [F_ME_encrypt_1_L2]
      repeat rw [bnd_eq]
    obtain ⟨a1, a2, a3⟩ := back_sr (by decide) h
    generalize F_RG_restore_7 30 s = s1 at a1 a3 hU
    generalize F_ME_back 217 t = t1 at a2 a3 hV
    obtain ⟨b1, b2, b3⟩ := noise2_same (pf := 31) (qf := 218) (pb := 220) (n := 64) (at_ := 32) (wh := nI 6) (s := s1) (t := t1) (by decide) (by decide) (by decide) (by decide) (by decide) (fun x hx => by rw [a1.1 34 (by decide), a2.1 220 (by decide) (by decide), hI.2.1 x hx, hI.2.2.2.2.1 x hx])
    generalize F_KM_sampleNoise_2 31 (nI 6) s1 = s2 at b1 b3 hU
    generalize F_ME_noise_2 218 220 64 32 (nI 6) t1 = t2 at b2 b3 hV
    obtain ⟨c1, c2, c3⟩ := add_same (pf := 30) (pg := 31) (qf := 217) (qg := 218) (s := s2) (t := t2) (by decide) (by decide) (sr_w a3 (b1 30 (by decide) (by decide) (by decide)) (b2 217 (by decide) (by decide) (by decide))) b3
    generalize F_RG_add_7 30 31 s2 = s3 at c1 c3 hU
    generalize F_ME_plus 217 218 t2 = t3 at c2 c3 hV
    have m1 : s3.1 32 = s.1 32 := by rw [c1.1 32 (by decide), b1 32 (by decide) (by decide) (by decide), a1.1 32 (by decide)]
    have m2 : t3.1 pms = t.1 pms := by rw [c2.1 pms (by omega), b2 pms (by omega) (by omega) (by omega), a2.1 pms (by omega) (by omega)]
    obtain ⟨d1, d2, d3⟩ := spread1_same (pf := 31) (pr_ := 32) (n := 32) (at_ := 0) (qf := 218) (qr := pms) (m := nm) (bt := 0) (s := s3) (t := t3) (by decide) (by omega) (fun x hx => by rw [m1, m2, Nat.zero_add, hI.2.2.1 x (by omega), hI.2.2.2.1 x (by omega)])
    generalize F_KM_readRounded 31 1 32 32 0 s3 = s4 at d1 d3 hU
    generalize F_ME_more_1 218 (F_ME_read_1 pms nm 0 218 t3) = t4 at d2 d3 hV
    obtain ⟨e1, e2, e3⟩ := add_same (pf := 30) (pg := 31) (qf := 217) (qg := 218) (s := s4) (t := t4) (by decide) (by decide) (sr_w c3 (d1.1 30 (by decide)) (d2.1 217 (by decide))) d3
    generalize F_RG_add_7 30 31 s4 = s5 at e1 e3 hU
    generalize F_ME_plus 217 218 t4 = t5 at e2 e3 hV
    obtain ⟨w1, w2, w3, w4, w5⟩ := rounded4_same (pf := 30) (pt := pt) (n := n) (at_ := 960) (qf := 217) (qt := pct) (m := nc) (bt := 960) (s := s5) (t := t5) (by omega) (by omega) e3
    rw [hU, hV]
    have g1 : ∀ y, y ≠ 14 → y ≠ 30 → y ≠ 31 → y ≠ 35 → s5.1 y = s.1 y := fun y x1 x2 x3 x4 => by rw [e1.1 y x2, d1.1 y x3, c1.1 y x2, b1 y x1 x4 x3, a1.1 y x2]
    have g2 : ∀ y, y ≠ 172 → ¬ (217 ≤ y ∧ y ≤ 219) → y ≠ 221 → t5.1 y = t.1 y := fun y x1 x2 x3 => by rw [e2.1 y (by omega), d2.1 y (by omega), c2.1 y (by omega), b2 y x1 x3 (by omega), a2.1 y (by omega) (by omega)]
    refine ⟨fun k hk => ?_, fun k hk => ?_, fun x hx => w3 x (by omega), fun x hx => ?_, fun x hx => ?_⟩
    · unfold MC at hk
      rw [w1 k (by omega) (by omega), g1 k (by omega) (by omega) (by omega) (by omega)]
    · unfold MR at hk
      rw [w2 k (by omega) (by omega), g2 k (by omega) (by omega) (by omega)]
    · rw [w4 x (by omega), g1 pt (by omega) (by omega) (by omega) (by omega)]
    · rw [w5 x (by omega), g2 pct (by omega) (by omega) (by omega)]
  | m + 1, j, s, t, hj, hI, h => by
    have hC' := hC
    unfold apC at hC'
    have hR' := hR
    unfold apR at hR'
    have hU : F_KM_encrypt_1_L2 pp pt n (m + 1) j s = F_KM_encrypt_1_L2 pp pt n m (j + 1) (F_RG_addProduct_7 30 31 (26 + j) (F_KM_readReduced pp 1184 (384 * j) s)) := by
      rw [F_KM_encrypt_1_L2]
      repeat rw [bnd_eq]
    have hV : F_ME_encrypt_1_L2 pms nm pct nc (m + 1) j t = F_ME_encrypt_1_L2 pms nm pct nc m (j + 1) (F_ME_product (213 + j) (203 + j) 217 t) := by
      rw [F_ME_encrypt_1_L2]
      repeat rw [bnd_eq]
    have k1 := (hI.2.2.2.2.2.1 j (by omega)).2.1 s (fun x hx => hI.1 (384 * j + x) (by omega))
    have a1 := P_readM (pb := pp) (n := 1184) (at_ := 384 * j) (s := s) (by omega)
    generalize F_KM_readReduced pp 1184 (384 * j) s = sA at a1 k1 hU
    have k2 := (hI.2.2.2.2.2.1 j (by omega)).1
    rw [← a1.1 (26 + j) (by omega)] at k2
    rw [← a1.1 30 (by omega)] at h
    obtain ⟨b1, b2, b3⟩ := product_sr (ps := 30) (pf := 31) (pg := 26 + j) (qs := 217) (qf := 213 + j) (qg := 203 + j) (by omega) (by omega) (by omega) (by omega) h k1 k2
    generalize F_RG_addProduct_7 30 31 (26 + j) sA = sB at b1 b3 hU
    generalize F_ME_product (213 + j) (203 + j) 217 t = tB at b2 b3 hV
    have g1 : frm (fun k => k = 30 ∨ k = 31) s sB := fun k hk => (b1.1 k (by omega)).trans (a1.1 k (by omega))
    have g2 : frm (fun k => k = 217) t tB := fun k hk => b2.1 k hk
    obtain ⟨f1, f2, f3, f4, f5⟩ := enE1 (n := n) (pek := pek) (nm := nm) (nc := nc) hC hR m (j + 1) sB tB (by omega) (IV_f (by decide) hC hR hI (fun k hk => g1 k (by unfold MI at hk; omega)) (fun k hk => g2 k (by unfold MJ at hk; omega))) b3
    rw [hU, hV]
    refine ⟨ftr (fun k hk => g1 k (by unfold MC at hk; omega)) f1, ftr (fun k hk => g2 k (by unfold MR at hk; omega)) f2, f3, fun x hx => ?_, fun x hx => ?_⟩
    · rw [f4 x hx, g1 pt (by omega)]
    · rw [f5 x hx, g2 pct (by omega)]
/-- set 1: row by row of the ciphertext, then the value -/
theorem enC1 {pp pt n pek pms nm pct nc : Nat} {BK SD MS : Nat → Int32} (hC : apC pp pt) (hR : apR pek pms pct) : ∀ (m i : Nat) (s t : Sto), i + m = 3 → IV 3 1184 1152 pp pms BK SD MS s t → (∀ x, x < 320 * i → s.1 pt x = t.1 pct x) → frm (MC pt) s (F_KM_encrypt_1_L1 pp pt n m i s) ∧ frm (MR pct) t (F_ME_encrypt_1_L1 pms nm pct nc m i t) ∧ ∀ x, x < 1088 → (F_KM_encrypt_1_L1 pp pt n m i s).1 pt x = (F_ME_encrypt_1_L1 pms nm pct nc m i t).1 pct x
  | 0, i, s, t, hi, hI, hB => by
    obtain rfl : i = 3 := by omega
    have hC' := hC
    unfold apC at hC'
    have hR' := hR
    unfold apR at hR'
    have hU : F_KM_encrypt_1_L1 pp pt n 0 3 s = F_KM_encrypt_1_L2 pp pt n 3 0 (F_AR_fillI 30 256 (nI 0) s) := by rw [F_KM_encrypt_1_L1, bnd_eq]
    have hV : F_ME_encrypt_1_L1 pms nm pct nc 0 3 t = F_ME_encrypt_1_L2 pms nm pct nc 3 0 (F_ME_clear 217 t) := by rw [F_ME_encrypt_1_L1, bnd_eq]
    obtain ⟨a1, a2⟩ := P_fill (pf := 30) (v := nI 0) (s := s)
    obtain ⟨b1, b2⟩ := Q_clear (pf := 217) (s := t)
    generalize F_AR_fillI 30 256 (nI 0) s = sA at a1 a2 hU
    generalize F_ME_clear 217 t = tA at b1 b2 hV
    obtain ⟨f1, f2, f3, f4, f5⟩ := enE1 (n := n) (pek := pek) (nm := nm) (nc := nc) hC hR 3 0 sA tA (by decide) (IV_f (by decide) hC hR hI (fo a1 (by unfold MI; omega)) (fo b1 (by unfold MJ; omega))) (fun k hk => ⟨0, by decide, a2 k hk, b2 k hk⟩)
    rw [hU, hV]
    refine ⟨ftr (fo a1 (by unfold MC; omega)) f1, ftr (fo b1 (by unfold MR; omega)) f2, fun x hx => ?_⟩
    by_cases w : x < 960
    · rw [f4 x w, f5 x w, a1.1 pt (by omega), b1.1 pct (by omega)]
      exact hB x (by omega)
    · have := f3 (x - 960) (by omega)
      rw [show 960 + (x - 960) = x by omega] at this
      exact this
  | m + 1, i, s, t, hi, hI, hB => by
    have hC' := hC
    unfold apC at hC'
    have hR' := hR
    unfold apR at hR'
    have hU : F_KM_encrypt_1_L1 pp pt n (m + 1) i s = F_KM_encrypt_1_L3 pp pt n i (F_KM_encrypt_1_L1 pp pt n m) 3 0 (F_AR_fillI 30 256 (nI 0) s) := by rw [F_KM_encrypt_1_L1, bnd_eq]
    have hV : F_ME_encrypt_1_L1 pms nm pct nc (m + 1) i t = F_ME_encrypt_1_L3 pct nc i (F_ME_encrypt_1_L1 pms nm pct nc m) 3 0 (F_ME_clear 217 t) := by rw [F_ME_encrypt_1_L1, bnd_eq]
    obtain ⟨a1, a2⟩ := P_fill (pf := 30) (v := nI 0) (s := s)
    obtain ⟨b1, b2⟩ := Q_clear (pf := 217) (s := t)
    generalize F_AR_fillI 30 256 (nI 0) s = sA at a1 a2 hU
    generalize F_ME_clear 217 t = tA at b1 b2 hV
    have hI1 := IV_f (by decide) hC hR hI (fo a1 (show MI pt 30 by unfold MI; omega)) (fo b1 (show MJ pct 217 by unfold MJ; omega))
    obtain ⟨sB, tB, u1, u2, u3, u4, u5⟩ := enD1 (n := n) (pek := pek) (nc := nc) (kk := F_KM_encrypt_1_L1 pp pt n m) (kk' := F_ME_encrypt_1_L1 pms nm pct nc m) hC hR (show i < 3 by omega) 3 0 sA tA (by decide) hI1 (fun k hk => ⟨0, by decide, a2 k hk, b2 k hk⟩)
    rw [u1] at hU
    rw [u2] at hV
    have hI2 := IV_f (by decide) hC hR hI1 (fun k hk => u3 k (by unfold MI at hk; omega)) (fun k hk => u4 k (by unfold MJ at hk; omega))
    have hU2 : F_KM_encrypt_1_L3 pp pt n i (F_KM_encrypt_1_L1 pp pt n m) 0 3 sB = F_KM_encrypt_1_L1 pp pt n m (i + 1) (F_KM_writeRounded 30 10 pt n (320 * i) (F_RG_add_7 30 31 (F_KM_sampleNoise_2 31 (nI (3 + i)) (F_RG_restore_7 30 sB)))) := by
      rw [F_KM_encrypt_1_L3]
      repeat rw [bnd_eq]
    have hV2 : F_ME_encrypt_1_L3 pct nc i (F_ME_encrypt_1_L1 pms nm pct nc m) 0 3 tB = F_ME_encrypt_1_L1 pms nm pct nc m (i + 1) (F_ME_write_10 217 pct nc (320 * i) (F_ME_less_10 217 (F_ME_plus 217 (208 + i) (F_ME_back 217 tB)))) := by
      rw [F_ME_encrypt_1_L3]
      repeat rw [bnd_eq]
    rw [hU2] at hU
    rw [hV2] at hV
    obtain ⟨c1, c2, c3⟩ := back_sr (by decide) u5
    generalize F_RG_restore_7 30 sB = s1 at c1 c3 hU
    generalize F_ME_back 217 tB = t1 at c2 c3 hV
    have n3 := (hI2.2.2.2.2.2.1 i (by omega)).2.2 s1 (fun x hx => by rw [c1.1 34 (by decide)]; exact hI2.2.1 x hx)
    obtain ⟨n1, -⟩ := P_noiseM2 (pf := 31) (wh := nI (3 + i)) (s := s1) (by decide) (by decide)
    generalize F_KM_sampleNoise_2 31 (nI (3 + i)) s1 = s2 at n1 n3 hU
    rw [← c2.1 (208 + i) (by omega) (by omega)] at n3
    obtain ⟨d1, d2, d3⟩ := add_same (pf := 30) (pg := 31) (qf := 217) (qg := 208 + i) (s := s2) (t := t1) (by decide) (by omega) (sr_w c3 (n1 30 (by decide) (by decide) (by decide)) rfl) n3
    generalize F_RG_add_7 30 31 s2 = s3 at d1 d3 hU
    generalize F_ME_plus 217 (208 + i) t1 = t3 at d2 d3 hV
    obtain ⟨w1, w2, w3, w4, w5⟩ := rounded10_same (pf := 30) (pt := pt) (n := n) (at_ := 320 * i) (qf := 217) (qt := pct) (m := nc) (bt := 320 * i) (s := s3) (t := t3) (by omega) (by omega) d3
    generalize F_KM_writeRounded 30 10 pt n (320 * i) s3 = s4 at w1 w3 w4 hU
    generalize F_ME_write_10 217 pct nc (320 * i) (F_ME_less_10 217 t3) = t4 at w2 w3 w5 hV
    have g1 : ∀ y, y ≠ 14 → y ≠ 30 → y ≠ 31 → y ≠ 35 → s3.1 y = s.1 y := fun y x1 x2 x3 x4 => by rw [d1.1 y x2, n1 y x1 x4 x3, c1.1 y x2, u3 y (by omega), a1.1 y x2]
    have g2 : ∀ y, y ≠ 217 → y ≠ 219 → t3.1 y = t.1 y := fun y x1 x2 => by rw [d2.1 y x1, c2.1 y x1 x2, u4 y x1, b1.1 y x1]
    have F1 : frm (MI pt) s s4 := fun k hk => by
      unfold MI at hk
      rw [w1 k (by omega) (by omega), g1 k (by omega) (by omega) (by omega) (by omega)]
    have F2 : frm (MJ pct) t t4 := fun k hk => by
      unfold MJ at hk
      rw [w2 k (by omega) (by omega), g2 k (by omega) (by omega)]
    have c := enC1 (n := n) (pek := pek) (nm := nm) (nc := nc) hC hR m (i + 1) s4 t4 (by omega) (IV_f (by decide) hC hR hI F1 F2) (fun x hx => by
      by_cases w : x < 320 * i
      · rw [w4 x (by omega), w5 x (by omega), g1 pt (by omega) (by omega) (by omega) (by omega), g2 pct (by omega) (by omega)]
        exact hB x w
      · have := w3 (x - 320 * i) (by omega)
        rw [show 320 * i + (x - 320 * i) = x by omega] at this
        exact this)
    rw [hU, hV]
    exact ⟨ftr (fun k hk => F1 k (by unfold MC at hk; unfold MI; omega)) c.1, ftr (fun k hk => F2 k (by unfold MR at hk; unfold MJ; omega)) c.2.1, c.2.2⟩
/-- K-PKE.Encrypt, set 1: where the reference's draws end in time, both sides write the same ciphertext -/
theorem encrypt1_same {pp pt n pek nn at_ pms nm pct nc : Nat} {s t : Sto} (hC : apC pp pt) (hR : apR pek pms pct) (hK : ∀ j, j < 1184 → s.1 pp j = t.1 pek (at_ + j)) (hM : ∀ j, j < 32 → s.1 32 j = t.1 pms j) (hS : ∀ j, j < 32 → s.1 34 (32 + j) = t.1 220 (32 + j)) (hE : E_ME_encrypt_1 pek nn at_ pms nm pct nc t) : frm (MC pt) s (F_KM_encrypt_1 pp pt n s) ∧ frm (MR pct) t (F_ME_encrypt_1 pek nn at_ pms nm pct nc t) ∧ ∀ x, x < 1088 → (F_KM_encrypt_1 pp pt n s).1 pt x = (F_ME_encrypt_1 pek nn at_ pms nm pct nc t).1 pct x := by
  have hC' := hC
  unfold apC at hC'
  have hR' := hR
  unfold apR at hR'
  rw [E_ME_encrypt_1] at hE
  obtain ⟨a1, a2⟩ := ex3 (pp := pp) (n0 := 1184) (at0 := 1152) (B := fun j => t.1 pek (at_ + (1152 + j))) (by unfold MX; omega) (by omega) (fun x hx => by rw [Nat.add_assoc]) hE.1
  have hV : F_ME_encrypt_1 pek nn at_ pms nm pct nc t = F_ME_encrypt_1_L0 pek nn at_ pms nm pct nc 3 0 (F_ME_expand_3 pek nn (at_ + 1152) t) := by rw [F_ME_encrypt_1, bnd_eq]
  generalize F_ME_expand_3 pek nn (at_ + 1152) t = tA at a1 a2 hV
  have e1 : tA.1 pek = t.1 pek := a1 pek (by unfold MX; omega)
  have e2 : tA.1 220 = t.1 220 := a1 220 (by unfold MX; omega)
  have e3 : tA.1 pms = t.1 pms := a1 pms (by unfold MX; omega)
  obtain ⟨t1, b1, b2, b3, b4⟩ := enA1 (n := nn) (at_ := at_) (nm := nm) (nc := nc) (pp := pp) (n0 := 1184) (BK := fun j => t.1 pek (at_ + j)) (SD := fun j => t.1 220 (32 + j)) hR (by omega) 3 0 tA (by decide) (fun j hj => by rw [e1]) (fun j hj => by rw [e2]) (fun i' hi' => by omega)
  rw [b1] at hV
  have hU : F_KM_encrypt_1 pp pt n s = F_KM_encrypt_1_L0 pp pt n 3 0 s := by rw [F_KM_encrypt_1]
  obtain ⟨s1, c1, c2, c3⟩ := enB1 (pp := pp) (pt := pt) (n := n) (SD := fun j => t.1 220 (32 + j)) (r := fun i => t1.1 (203 + i)) (fun i hi => (b3 i hi).2.1) 3 0 s (by decide) hS (fun i' hi' => by omega)
  rw [c1] at hU
  have hI : IV 3 1184 1152 pp pms (fun j => t.1 pek (at_ + j)) (fun j => t.1 220 (32 + j)) (fun j => t.1 pms j) s1 t1 := by
    refine ⟨fun j hj => ?_, fun j hj => ?_, fun j hj => ?_, fun j hj => ?_, fun j hj => ?_, fun i hi => ⟨c3 i hi, (b3 i hi).1, (b3 i hi).2.2⟩, fun i x hi hx => ?_⟩
    · rw [c2 pp (by omega)]
      exact hK j hj
    · rw [c2 34 (by omega)]
      exact hS j hj
    · rw [c2 32 (by omega)]
      exact hM j hj
    · rw [b2 pms (by unfold MR; omega), e3]
    · rw [b2 220 (by unfold MR; omega), e2]
    · rw [b4 (186 + (4 * i + x)) (by omega) (by omega)]
      exact a2 i x hi hx
  obtain ⟨d1, d2, d3⟩ := enC1 (n := n) (pek := pek) (nm := nm) (nc := nc) hC hR 3 0 s1 t1 (by decide) hI (fun x hx => by omega)
  rw [hU, hV]
  exact ⟨ftr (fun k hk => c2 k (by unfold MC at hk; omega)) d1, ftr (ftr (fun k hk => a1 k (by unfold MR at hk; unfold MX; omega)) b2) d2, d3⟩
/-- set 2: the reference's first loop -/
theorem enA2 {pek n at_ pms nm pct nc pp n0 : Nat} {BK SD : Nat → Int32} (hR : apR pek pms pct) (hpp : pp ≠ 31) : ∀ (m i : Nat) (t : Sto), i + m = 4 → (∀ j, j < 1536 → t.1 pek (at_ + j) = BK j) → (∀ j, j < 32 → t.1 220 (32 + j) = SD j) → (∀ i', i' < i → isO pp n0 BK i' (t.1 (213 + i')) ∧ isS2 SD i' (t.1 (203 + i')) ∧ isN SD (4 + i') (t.1 (208 + i'))) →
    ∃ t1, F_ME_encrypt_2_L0 pek n at_ pms nm pct nc m i t = F_ME_encrypt_2_L1 pms nm pct nc 4 0 t1 ∧ frm (MR pct) t t1 ∧ (∀ i', i' < 4 → isO pp n0 BK i' (t1.1 (213 + i')) ∧ isS2 SD i' (t1.1 (203 + i')) ∧ isN SD (4 + i') (t1.1 (208 + i'))) ∧ ∀ y, 186 ≤ y → y ≤ 201 → t1.1 y = t.1 y
  | 0, i, t, hi, _, _, h => by
    obtain rfl : i = 4 := by omega
    exact ⟨t, by rw [F_ME_encrypt_2_L0], frm_rf, h, fun _ _ _ => rfl⟩
  | m + 1, i, t, hi, hK, hS, h => by
    have hR' := hR
    unfold apR at hR'
    have hU : F_ME_encrypt_2_L0 pek n at_ pms nm pct nc (m + 1) i t = F_ME_encrypt_2_L0 pek n at_ pms nm pct nc m (i + 1) (F_ME_forth (203 + i) (F_ME_noise_2 (208 + i) 220 64 32 (nI (4 + i)) (F_ME_noise_2 (203 + i) 220 64 32 (nI i) (F_ME_proper (213 + i) (F_ME_read_12 pek n (at_ + (384 * i)) (213 + i) t))))) := by
      rw [F_ME_encrypt_2_L0]
      repeat rw [bnd_eq]
    have a1 := Q_readM (qb := pek) (m := n) (bt := at_ + (384 * i)) (qf := 213 + i) (t := t) (by omega)
    have a2 : isO pp n0 BK i ((F_ME_proper (213 + i) (F_ME_read_12 pek n (at_ + (384 * i)) (213 + i) t)).1 (213 + i)) := fun s hs => (reduced_same (n := n0) (m := n) hpp (by omega) (fun j hj => (hs j hj).trans (by rw [Nat.add_assoc]; exact (hK (384 * i + j) (by omega)).symm))).2.2
    generalize F_ME_proper (213 + i) (F_ME_read_12 pek n (at_ + (384 * i)) (213 + i) t) = tB at a1 a2 hU
    have s1 : tB.1 220 = t.1 220 := a1.1 220 (by omega)
    obtain ⟨b1, b2⟩ := Q_noiseM2 (qf := 203 + i) (n := 64) (wh := nI i) (t := tB) (by omega) (by omega)
    have b3 : ∀ (s : Sto) (pf : Nat), pf ≠ 14 → pf ≠ 35 → (∀ j, j < 32 → s.1 34 (32 + j) = SD j) → sr 3329 ((F_KM_sampleNoise_2 pf (nI i) s).1 pf) ((F_ME_noise_2 (203 + i) 220 64 32 (nI i) tB).1 (203 + i)) := fun s pf h1 h2 hs => (noise2_same h1 h2 (by omega) (by omega) (by decide) (fun j hj => (hs j hj).trans (by rw [s1]; exact (hS j hj).symm))).2.2
    generalize F_ME_noise_2 (203 + i) 220 64 32 (nI i) tB = tC at b1 b2 b3 hU
    have s2 : tC.1 220 = t.1 220 := (b1 220 (by omega) (by omega) (by omega)).trans s1
    obtain ⟨c1, -⟩ := Q_noiseM2 (qf := 208 + i) (n := 64) (wh := nI (4 + i)) (t := tC) (by omega) (by omega)
    have c3 : isN SD (4 + i) ((F_ME_noise_2 (208 + i) 220 64 32 (nI (4 + i)) tC).1 (208 + i)) := fun s hs => (noise2_same (by decide) (by decide) (by omega) (by omega) (by decide) (fun j hj => (hs j hj).trans (by rw [s2]; exact (hS j hj).symm))).2.2
    generalize F_ME_noise_2 (208 + i) 220 64 32 (nI (4 + i)) tC = tD at c1 c3 hU
    have s3 : tD.1 220 = t.1 220 := (c1 220 (by omega) (by omega) (by omega)).trans s2
    have e3 : tD.1 (203 + i) = tC.1 (203 + i) := c1 (203 + i) (by omega) (by omega) (by omega)
    have d1 := (Q_forth (pf := 203 + i) (s := tD) (by omega) (by rw [e3]; exact b2)).1
    have d3 : isS2 SD i ((F_ME_forth (203 + i) tD).1 (203 + i)) := fun s pf h1 h2 hs => (forth_sr (by omega) (by rw [e3]; exact b3 s pf h1 h2 hs)).2.2
    generalize F_ME_forth (203 + i) tD = tF at d1 d3 hU
    have g : ∀ y, y ≠ 172 → y ≠ 221 → y ≠ 219 → y ≠ 213 + i → y ≠ 203 + i → y ≠ 208 + i → tF.1 y = t.1 y := fun y w1 w2 w3 w4 w5 w6 => by
      rw [d1.1 y w5 w3, c1 y w1 w2 w6, b1 y w1 w2 w5, a1.1 y w4]
    have gO : tF.1 (213 + i) = tB.1 (213 + i) := by rw [d1.1 (213 + i) (by omega) (by omega), c1 (213 + i) (by omega) (by omega) (by omega), b1 (213 + i) (by omega) (by omega) (by omega)]
    have gN : tF.1 (208 + i) = tD.1 (208 + i) := d1.1 (208 + i) (by omega) (by omega)
    obtain ⟨t1, e, f1, f2, f3⟩ := enA2 (n := n) (at_ := at_) (nm := nm) (nc := nc) (pp := pp) (n0 := n0) (BK := BK) (SD := SD) hR hpp m (i + 1) tF (by omega) (fun j hj => by rw [g pek (by omega) (by omega) (by omega) (by omega) (by omega) (by omega)]; exact hK j hj) (fun j hj => by rw [g 220 (by omega) (by omega) (by omega) (by omega) (by omega) (by omega)]; exact hS j hj) (fun i' hi' => by
      by_cases w : i' = i
      · subst w
        rw [gO, gN]
        exact ⟨a2, d3, c3⟩
      · rw [g (213 + i') (by omega) (by omega) (by omega) (by omega) (by omega) (by omega), g (203 + i') (by omega) (by omega) (by omega) (by omega) (by omega) (by omega), g (208 + i') (by omega) (by omega) (by omega) (by omega) (by omega) (by omega)]
        exact h i' (by omega))
    refine ⟨t1, hU.trans e, ftr (fun k hk => ?_) f1, f2, fun y h1 h2 => ?_⟩
    · unfold MR at hk
      exact g k (by omega) (by omega) (by omega) (by omega) (by omega) (by omega)
    · rw [f3 y h1 h2, g y (by omega) (by omega) (by omega) (by omega) (by omega) (by omega)]
/-- set 2: the program's first loop -/
theorem enB2 {pp pt n : Nat} {SD : Nat → Int32} {r : Nat → Nat → Int32} (hr : ∀ i, i < 4 → isS2 SD i (r i)) : ∀ (m i : Nat) (s : Sto), i + m = 4 → (∀ j, j < 32 → s.1 34 (32 + j) = SD j) → (∀ i', i' < i → sr 3329 (s.1 (26 + i')) (r i')) → ∃ s1, F_KM_encrypt_2_L0 pp pt n m i s = F_KM_encrypt_2_L1 pp pt n 4 0 s1 ∧ frm (fun k => k = 14 ∨ k = 35 ∨ (26 ≤ k ∧ k ≤ 29)) s s1 ∧ ∀ i', i' < 4 → sr 3329 (s1.1 (26 + i')) (r i')
  | 0, i, s, hi, _, h => by
    obtain rfl : i = 4 := by omega
    exact ⟨s, by rw [F_KM_encrypt_2_L0], frm_rf, h⟩
  | m + 1, i, s, hi, hS, h => by
    have hU : F_KM_encrypt_2_L0 pp pt n (m + 1) i s = F_KM_encrypt_2_L0 pp pt n m (i + 1) (F_RG_transform_7 (26 + i) (F_KM_sampleNoise_2 (26 + i) (nI i) s)) := by
      rw [F_KM_encrypt_2_L0]
      repeat rw [bnd_eq]
    have k1 := hr i (by omega) s (26 + i) (by omega) (by omega) hS
    obtain ⟨a1, a2⟩ := P_noiseM2 (pf := 26 + i) (wh := nI i) (s := s) (by omega) (by omega)
    generalize F_KM_sampleNoise_2 (26 + i) (nI i) s = sA at a1 a2 k1 hU
    have b1 := (P_transform7 a2).1
    generalize F_RG_transform_7 (26 + i) sA = sB at b1 k1 hU
    have g : ∀ y, y ≠ 14 → y ≠ 35 → y ≠ 26 + i → sB.1 y = s.1 y := fun y w1 w2 w3 => by rw [b1.1 y w3, a1 y w1 w2 w3]
    obtain ⟨s1, e, f1, f2⟩ := enB2 (pp := pp) (pt := pt) (n := n) hr m (i + 1) sB (by omega) (fun j hj => by rw [g 34 (by omega) (by omega) (by omega)]; exact hS j hj) (fun i' hi' => by
      by_cases w : i' = i
      · subst w
        exact k1
      · rw [g (26 + i') (by omega) (by omega) (by omega)]
        exact h i' (by omega))
    refine ⟨s1, hU.trans e, ftr (fun k hk => g k (by omega) (by omega) (by omega)) f1, f2⟩
/-- set 2: one row of the product -/
theorem enD2 {pp pt n pek pms pct nc i : Nat} {BK SD MS : Nat → Int32} {kk kk' : Nat → Sto → Sto} (hC : apC pp pt) (hR : apR pek pms pct) (hi : i < 4) : ∀ (m j : Nat) (s t : Sto), j + m = 4 → IV 4 1568 1536 pp pms BK SD MS s t → sr 3329 (s.1 30) (t.1 217) → ∃ s1 t1, F_KM_encrypt_2_L3 pp pt n i kk m j s = F_KM_encrypt_2_L3 pp pt n i kk 0 4 s1 ∧ F_ME_encrypt_2_L3 pct nc i kk' m j t = F_ME_encrypt_2_L3 pct nc i kk' 0 4 t1 ∧ frm (fun k => k = 14 ∨ k = 30 ∨ k = 31) s s1 ∧ frm (fun k => k = 217) t t1 ∧ sr 3329 (s1.1 30) (t1.1 217)
  | 0, j, s, t, hj, _, h => by
    obtain rfl : j = 4 := by omega
    exact ⟨s, t, rfl, rfl, frm_rf, frm_rf, h⟩
  | m + 1, j, s, t, hj, hI, h => by
    have hC' := hC
    unfold apC at hC'
    have hU : F_KM_encrypt_2_L3 pp pt n i kk (m + 1) j s = F_KM_encrypt_2_L3 pp pt n i kk m (j + 1) (F_RG_addProduct_7 30 31 (26 + j) (F_KM_sampleEntry pp 1568 1536 (nI i) (nI j) s)) := by
      rw [F_KM_encrypt_2_L3]
      repeat rw [bnd_eq]
    have hV : F_ME_encrypt_2_L3 pct nc i kk' (m + 1) j t = F_ME_encrypt_2_L3 pct nc i kk' m (j + 1) (F_ME_product (186 + ((4 * j) + i)) (203 + j) 217 t) := by
      rw [F_ME_encrypt_2_L3]
      repeat rw [bnd_eq]
    have k1 := hI.2.2.2.2.2.2 j i (by omega) hi s (fun x hx => hI.1 (1536 + x) (by omega))
    have a1 := P_entryM (pb := pp) (n := 1568) (at_ := 1536) (v1 := nI i) (v2 := nI j) (s := s) (by omega)
    generalize F_KM_sampleEntry pp 1568 1536 (nI i) (nI j) s = sA at a1 k1 hU
    have k2 := (hI.2.2.2.2.2.1 j (by omega)).1
    rw [← a1.1 (26 + j) (by omega) (by omega)] at k2
    rw [← a1.1 30 (by omega) (by omega)] at h
    obtain ⟨b1, b2, b3⟩ := product_sr (ps := 30) (pf := 31) (pg := 26 + j) (qs := 217) (qf := 186 + ((4 * j) + i)) (qg := 203 + j) (by omega) (by omega) (by omega) (by omega) h k1 k2
    generalize F_RG_addProduct_7 30 31 (26 + j) sA = sB at b1 b3 hU
    generalize F_ME_product (186 + ((4 * j) + i)) (203 + j) 217 t = tB at b2 b3 hV
    have g1 : frm (fun k => k = 14 ∨ k = 30 ∨ k = 31) s sB := fun k hk => (b1.1 k (by omega)).trans (a1.1 k (by omega) (by omega))
    have g2 : frm (fun k => k = 217) t tB := fun k hk => b2.1 k hk
    obtain ⟨s1, t1, e1, e2, f1, f2, f3⟩ := enD2 (pp := pp) (pt := pt) (n := n) (pek := pek) (nc := nc) (kk := kk) (kk' := kk') hC hR hi m (j + 1) sB tB (by omega) (IV_f (by decide) hC hR hI (fun k hk => g1 k (by unfold MI at hk; omega)) (fun k hk => g2 k (by unfold MJ at hk; omega))) b3
    exact ⟨s1, t1, hU.trans e1, hV.trans e2, ftr g1 f1, ftr g2 f2, f3⟩
/-- set 2: the last part, the value -/
theorem enE2 {pp pt n pek pms nm pct nc : Nat} {BK SD MS : Nat → Int32} (hC : apC pp pt) (hR : apR pek pms pct) : ∀ (m j : Nat) (s t : Sto), j + m = 4 → IV 4 1568 1536 pp pms BK SD MS s t → sr 3329 (s.1 30) (t.1 217) → frm (MC pt) s (F_KM_encrypt_2_L2 pp pt n m j s) ∧ frm (MR pct) t (F_ME_encrypt_2_L2 pms nm pct nc m j t) ∧ (∀ x, x < 160 → (F_KM_encrypt_2_L2 pp pt n m j s).1 pt (1408 + x) = (F_ME_encrypt_2_L2 pms nm pct nc m j t).1 pct (1408 + x)) ∧ (∀ x, x < 1408 → (F_KM_encrypt_2_L2 pp pt n m j s).1 pt x = s.1 pt x) ∧ ∀ x, x < 1408 → (F_ME_encrypt_2_L2 pms nm pct nc m j t).1 pct x = t.1 pct x
  | 0, j, s, t, hj, hI, h => by
    have hC' := hC
    unfold apC at hC'
    have hR' := hR
    unfold apR at hR'
    have hU : F_KM_encrypt_2_L2 pp pt n 0 j s = F_KM_writeRounded 30 5 pt n 1408 (F_RG_add_7 30 31 (F_KM_readRounded 31 1 32 32 0 (F_RG_add_7 30 31 (F_KM_sampleNoise_2 31 (nI 8) (F_RG_restore_7 30 s))))) := by
      rw [F_KM_encrypt_2_L2]
      repeat rw [bnd_eq]
    have hV : F_ME_encrypt_2_L2 pms nm pct nc 0 j t = F_ME_write_5 217 pct nc 1408 (F_ME_less_5 217 (F_ME_plus 217 218 (F_ME_more_1 218 (F_ME_read_1 pms nm 0 218 (F_ME_plus 217 218 (F_ME_noise_2 218 220 64 32 (nI 8) (F_ME_back 217 t))))))) := by
      rw [F_ME_encrypt_2_L2]
      repeat rw [bnd_eq]
    obtain ⟨a1, a2, a3⟩ := back_sr (by decide) h
    generalize F_RG_restore_7 30 s = s1 at a1 a3 hU
    generalize F_ME_back 217 t = t1 at a2 a3 hV
    obtain ⟨b1, b2, b3⟩ := noise2_same (pf := 31) (qf := 218) (pb := 220) (n := 64) (at_ := 32) (wh := nI 8) (s := s1) (t := t1) (by decide) (by decide) (by decide) (by decide) (by decide) (fun x hx => by rw [a1.1 34 (by decide), a2.1 220 (by decide) (by decide), hI.2.1 x hx, hI.2.2.2.2.1 x hx])
    generalize F_KM_sampleNoise_2 31 (nI 8) s1 = s2 at b1 b3 hU
    generalize F_ME_noise_2 218 220 64 32 (nI 8) t1 = t2 at b2 b3 hV
    obtain ⟨c1, c2, c3⟩ := add_same (pf := 30) (pg := 31) (qf := 217) (qg := 218) (s := s2) (t := t2) (by decide) (by decide) (sr_w a3 (b1 30 (by decide) (by decide) (by decide)) (b2 217 (by decide) (by decide) (by decide))) b3
    generalize F_RG_add_7 30 31 s2 = s3 at c1 c3 hU
    generalize F_ME_plus 217 218 t2 = t3 at c2 c3 hV
    have m1 : s3.1 32 = s.1 32 := by rw [c1.1 32 (by decide), b1 32 (by decide) (by decide) (by decide), a1.1 32 (by decide)]
    have m2 : t3.1 pms = t.1 pms := by rw [c2.1 pms (by omega), b2 pms (by omega) (by omega) (by omega), a2.1 pms (by omega) (by omega)]
    obtain ⟨d1, d2, d3⟩ := spread1_same (pf := 31) (pr_ := 32) (n := 32) (at_ := 0) (qf := 218) (qr := pms) (m := nm) (bt := 0) (s := s3) (t := t3) (by decide) (by omega) (fun x hx => by rw [m1, m2, Nat.zero_add, hI.2.2.1 x (by omega), hI.2.2.2.1 x (by omega)])
    generalize F_KM_readRounded 31 1 32 32 0 s3 = s4 at d1 d3 hU
    generalize F_ME_more_1 218 (F_ME_read_1 pms nm 0 218 t3) = t4 at d2 d3 hV
    obtain ⟨e1, e2, e3⟩ := add_same (pf := 30) (pg := 31) (qf := 217) (qg := 218) (s := s4) (t := t4) (by decide) (by decide) (sr_w c3 (d1.1 30 (by decide)) (d2.1 217 (by decide))) d3
    generalize F_RG_add_7 30 31 s4 = s5 at e1 e3 hU
    generalize F_ME_plus 217 218 t4 = t5 at e2 e3 hV
    obtain ⟨w1, w2, w3, w4, w5⟩ := rounded5_same (pf := 30) (pt := pt) (n := n) (at_ := 1408) (qf := 217) (qt := pct) (m := nc) (bt := 1408) (s := s5) (t := t5) (by omega) (by omega) e3
    rw [hU, hV]
    have g1 : ∀ y, y ≠ 14 → y ≠ 30 → y ≠ 31 → y ≠ 35 → s5.1 y = s.1 y := fun y x1 x2 x3 x4 => by rw [e1.1 y x2, d1.1 y x3, c1.1 y x2, b1 y x1 x4 x3, a1.1 y x2]
    have g2 : ∀ y, y ≠ 172 → ¬ (217 ≤ y ∧ y ≤ 219) → y ≠ 221 → t5.1 y = t.1 y := fun y x1 x2 x3 => by rw [e2.1 y (by omega), d2.1 y (by omega), c2.1 y (by omega), b2 y x1 x3 (by omega), a2.1 y (by omega) (by omega)]
    refine ⟨fun k hk => ?_, fun k hk => ?_, fun x hx => w3 x (by omega), fun x hx => ?_, fun x hx => ?_⟩
    · unfold MC at hk
      rw [w1 k (by omega) (by omega), g1 k (by omega) (by omega) (by omega) (by omega)]
    · unfold MR at hk
      rw [w2 k (by omega) (by omega), g2 k (by omega) (by omega) (by omega)]
    · rw [w4 x (by omega), g1 pt (by omega) (by omega) (by omega) (by omega)]
    · rw [w5 x (by omega), g2 pct (by omega) (by omega) (by omega)]
  | m + 1, j, s, t, hj, hI, h => by
    have hC' := hC
    unfold apC at hC'
    have hR' := hR
    unfold apR at hR'
    have hU : F_KM_encrypt_2_L2 pp pt n (m + 1) j s = F_KM_encrypt_2_L2 pp pt n m (j + 1) (F_RG_addProduct_7 30 31 (26 + j) (F_KM_readReduced pp 1568 (384 * j) s)) := by
      rw [F_KM_encrypt_2_L2]
      repeat rw [bnd_eq]
    have hV : F_ME_encrypt_2_L2 pms nm pct nc (m + 1) j t = F_ME_encrypt_2_L2 pms nm pct nc m (j + 1) (F_ME_product (213 + j) (203 + j) 217 t) := by
      rw [F_ME_encrypt_2_L2]
      repeat rw [bnd_eq]
    have k1 := (hI.2.2.2.2.2.1 j (by omega)).2.1 s (fun x hx => hI.1 (384 * j + x) (by omega))
    have a1 := P_readM (pb := pp) (n := 1568) (at_ := 384 * j) (s := s) (by omega)
    generalize F_KM_readReduced pp 1568 (384 * j) s = sA at a1 k1 hU
    have k2 := (hI.2.2.2.2.2.1 j (by omega)).1
    rw [← a1.1 (26 + j) (by omega)] at k2
    rw [← a1.1 30 (by omega)] at h
    obtain ⟨b1, b2, b3⟩ := product_sr (ps := 30) (pf := 31) (pg := 26 + j) (qs := 217) (qf := 213 + j) (qg := 203 + j) (by omega) (by omega) (by omega) (by omega) h k1 k2
    generalize F_RG_addProduct_7 30 31 (26 + j) sA = sB at b1 b3 hU
    generalize F_ME_product (213 + j) (203 + j) 217 t = tB at b2 b3 hV
    have g1 : frm (fun k => k = 30 ∨ k = 31) s sB := fun k hk => (b1.1 k (by omega)).trans (a1.1 k (by omega))
    have g2 : frm (fun k => k = 217) t tB := fun k hk => b2.1 k hk
    obtain ⟨f1, f2, f3, f4, f5⟩ := enE2 (n := n) (pek := pek) (nm := nm) (nc := nc) hC hR m (j + 1) sB tB (by omega) (IV_f (by decide) hC hR hI (fun k hk => g1 k (by unfold MI at hk; omega)) (fun k hk => g2 k (by unfold MJ at hk; omega))) b3
    rw [hU, hV]
    refine ⟨ftr (fun k hk => g1 k (by unfold MC at hk; omega)) f1, ftr (fun k hk => g2 k (by unfold MR at hk; omega)) f2, f3, fun x hx => ?_, fun x hx => ?_⟩
    · rw [f4 x hx, g1 pt (by omega)]
    · rw [f5 x hx, g2 pct (by omega)]
/-- set 2: row by row of the ciphertext, then the value -/
theorem enC2 {pp pt n pek pms nm pct nc : Nat} {BK SD MS : Nat → Int32} (hC : apC pp pt) (hR : apR pek pms pct) : ∀ (m i : Nat) (s t : Sto), i + m = 4 → IV 4 1568 1536 pp pms BK SD MS s t → (∀ x, x < 352 * i → s.1 pt x = t.1 pct x) → frm (MC pt) s (F_KM_encrypt_2_L1 pp pt n m i s) ∧ frm (MR pct) t (F_ME_encrypt_2_L1 pms nm pct nc m i t) ∧ ∀ x, x < 1568 → (F_KM_encrypt_2_L1 pp pt n m i s).1 pt x = (F_ME_encrypt_2_L1 pms nm pct nc m i t).1 pct x
  | 0, i, s, t, hi, hI, hB => by
    obtain rfl : i = 4 := by omega
    have hC' := hC
    unfold apC at hC'
    have hR' := hR
    unfold apR at hR'
    have hU : F_KM_encrypt_2_L1 pp pt n 0 4 s = F_KM_encrypt_2_L2 pp pt n 4 0 (F_AR_fillI 30 256 (nI 0) s) := by rw [F_KM_encrypt_2_L1, bnd_eq]
    have hV : F_ME_encrypt_2_L1 pms nm pct nc 0 4 t = F_ME_encrypt_2_L2 pms nm pct nc 4 0 (F_ME_clear 217 t) := by rw [F_ME_encrypt_2_L1, bnd_eq]
    obtain ⟨a1, a2⟩ := P_fill (pf := 30) (v := nI 0) (s := s)
    obtain ⟨b1, b2⟩ := Q_clear (pf := 217) (s := t)
    generalize F_AR_fillI 30 256 (nI 0) s = sA at a1 a2 hU
    generalize F_ME_clear 217 t = tA at b1 b2 hV
    obtain ⟨f1, f2, f3, f4, f5⟩ := enE2 (n := n) (pek := pek) (nm := nm) (nc := nc) hC hR 4 0 sA tA (by decide) (IV_f (by decide) hC hR hI (fo a1 (by unfold MI; omega)) (fo b1 (by unfold MJ; omega))) (fun k hk => ⟨0, by decide, a2 k hk, b2 k hk⟩)
    rw [hU, hV]
    refine ⟨ftr (fo a1 (by unfold MC; omega)) f1, ftr (fo b1 (by unfold MR; omega)) f2, fun x hx => ?_⟩
    by_cases w : x < 1408
    · rw [f4 x w, f5 x w, a1.1 pt (by omega), b1.1 pct (by omega)]
      exact hB x (by omega)
    · have := f3 (x - 1408) (by omega)
      rw [show 1408 + (x - 1408) = x by omega] at this
      exact this
  | m + 1, i, s, t, hi, hI, hB => by
    have hC' := hC
    unfold apC at hC'
    have hR' := hR
    unfold apR at hR'
    have hU : F_KM_encrypt_2_L1 pp pt n (m + 1) i s = F_KM_encrypt_2_L3 pp pt n i (F_KM_encrypt_2_L1 pp pt n m) 4 0 (F_AR_fillI 30 256 (nI 0) s) := by rw [F_KM_encrypt_2_L1, bnd_eq]
    have hV : F_ME_encrypt_2_L1 pms nm pct nc (m + 1) i t = F_ME_encrypt_2_L3 pct nc i (F_ME_encrypt_2_L1 pms nm pct nc m) 4 0 (F_ME_clear 217 t) := by rw [F_ME_encrypt_2_L1, bnd_eq]
    obtain ⟨a1, a2⟩ := P_fill (pf := 30) (v := nI 0) (s := s)
    obtain ⟨b1, b2⟩ := Q_clear (pf := 217) (s := t)
    generalize F_AR_fillI 30 256 (nI 0) s = sA at a1 a2 hU
    generalize F_ME_clear 217 t = tA at b1 b2 hV
    have hI1 := IV_f (by decide) hC hR hI (fo a1 (show MI pt 30 by unfold MI; omega)) (fo b1 (show MJ pct 217 by unfold MJ; omega))
    obtain ⟨sB, tB, u1, u2, u3, u4, u5⟩ := enD2 (n := n) (pek := pek) (nc := nc) (kk := F_KM_encrypt_2_L1 pp pt n m) (kk' := F_ME_encrypt_2_L1 pms nm pct nc m) hC hR (show i < 4 by omega) 4 0 sA tA (by decide) hI1 (fun k hk => ⟨0, by decide, a2 k hk, b2 k hk⟩)
    rw [u1] at hU
    rw [u2] at hV
    have hI2 := IV_f (by decide) hC hR hI1 (fun k hk => u3 k (by unfold MI at hk; omega)) (fun k hk => u4 k (by unfold MJ at hk; omega))
    have hU2 : F_KM_encrypt_2_L3 pp pt n i (F_KM_encrypt_2_L1 pp pt n m) 0 4 sB = F_KM_encrypt_2_L1 pp pt n m (i + 1) (F_KM_writeRounded 30 11 pt n (352 * i) (F_RG_add_7 30 31 (F_KM_sampleNoise_2 31 (nI (4 + i)) (F_RG_restore_7 30 sB)))) := by
      rw [F_KM_encrypt_2_L3]
      repeat rw [bnd_eq]
    have hV2 : F_ME_encrypt_2_L3 pct nc i (F_ME_encrypt_2_L1 pms nm pct nc m) 0 4 tB = F_ME_encrypt_2_L1 pms nm pct nc m (i + 1) (F_ME_write_11 217 pct nc (352 * i) (F_ME_less_11 217 (F_ME_plus 217 (208 + i) (F_ME_back 217 tB)))) := by
      rw [F_ME_encrypt_2_L3]
      repeat rw [bnd_eq]
    rw [hU2] at hU
    rw [hV2] at hV
    obtain ⟨c1, c2, c3⟩ := back_sr (by decide) u5
    generalize F_RG_restore_7 30 sB = s1 at c1 c3 hU
    generalize F_ME_back 217 tB = t1 at c2 c3 hV
    have n3 := (hI2.2.2.2.2.2.1 i (by omega)).2.2 s1 (fun x hx => by rw [c1.1 34 (by decide)]; exact hI2.2.1 x hx)
    obtain ⟨n1, -⟩ := P_noiseM2 (pf := 31) (wh := nI (4 + i)) (s := s1) (by decide) (by decide)
    generalize F_KM_sampleNoise_2 31 (nI (4 + i)) s1 = s2 at n1 n3 hU
    rw [← c2.1 (208 + i) (by omega) (by omega)] at n3
    obtain ⟨d1, d2, d3⟩ := add_same (pf := 30) (pg := 31) (qf := 217) (qg := 208 + i) (s := s2) (t := t1) (by decide) (by omega) (sr_w c3 (n1 30 (by decide) (by decide) (by decide)) rfl) n3
    generalize F_RG_add_7 30 31 s2 = s3 at d1 d3 hU
    generalize F_ME_plus 217 (208 + i) t1 = t3 at d2 d3 hV
    obtain ⟨w1, w2, w3, w4, w5⟩ := rounded11_same (pf := 30) (pt := pt) (n := n) (at_ := 352 * i) (qf := 217) (qt := pct) (m := nc) (bt := 352 * i) (s := s3) (t := t3) (by omega) (by omega) d3
    generalize F_KM_writeRounded 30 11 pt n (352 * i) s3 = s4 at w1 w3 w4 hU
    generalize F_ME_write_11 217 pct nc (352 * i) (F_ME_less_11 217 t3) = t4 at w2 w3 w5 hV
    have g1 : ∀ y, y ≠ 14 → y ≠ 30 → y ≠ 31 → y ≠ 35 → s3.1 y = s.1 y := fun y x1 x2 x3 x4 => by rw [d1.1 y x2, n1 y x1 x4 x3, c1.1 y x2, u3 y (by omega), a1.1 y x2]
    have g2 : ∀ y, y ≠ 217 → y ≠ 219 → t3.1 y = t.1 y := fun y x1 x2 => by rw [d2.1 y x1, c2.1 y x1 x2, u4 y x1, b1.1 y x1]
    have F1 : frm (MI pt) s s4 := fun k hk => by
      unfold MI at hk
      rw [w1 k (by omega) (by omega), g1 k (by omega) (by omega) (by omega) (by omega)]
    have F2 : frm (MJ pct) t t4 := fun k hk => by
      unfold MJ at hk
      rw [w2 k (by omega) (by omega), g2 k (by omega) (by omega)]
    have c := enC2 (n := n) (pek := pek) (nm := nm) (nc := nc) hC hR m (i + 1) s4 t4 (by omega) (IV_f (by decide) hC hR hI F1 F2) (fun x hx => by
      by_cases w : x < 352 * i
      · rw [w4 x (by omega), w5 x (by omega), g1 pt (by omega) (by omega) (by omega) (by omega), g2 pct (by omega) (by omega)]
        exact hB x w
      · have := w3 (x - 352 * i) (by omega)
        rw [show 352 * i + (x - 352 * i) = x by omega] at this
        exact this)
    rw [hU, hV]
    exact ⟨ftr (fun k hk => F1 k (by unfold MC at hk; unfold MI; omega)) c.1, ftr (fun k hk => F2 k (by unfold MR at hk; unfold MJ; omega)) c.2.1, c.2.2⟩
/-- K-PKE.Encrypt, set 2: where the reference's draws end in time, both sides write the same ciphertext -/
theorem encrypt2_same {pp pt n pek nn at_ pms nm pct nc : Nat} {s t : Sto} (hC : apC pp pt) (hR : apR pek pms pct) (hK : ∀ j, j < 1568 → s.1 pp j = t.1 pek (at_ + j)) (hM : ∀ j, j < 32 → s.1 32 j = t.1 pms j) (hS : ∀ j, j < 32 → s.1 34 (32 + j) = t.1 220 (32 + j)) (hE : E_ME_encrypt_2 pek nn at_ pms nm pct nc t) : frm (MC pt) s (F_KM_encrypt_2 pp pt n s) ∧ frm (MR pct) t (F_ME_encrypt_2 pek nn at_ pms nm pct nc t) ∧ ∀ x, x < 1568 → (F_KM_encrypt_2 pp pt n s).1 pt x = (F_ME_encrypt_2 pek nn at_ pms nm pct nc t).1 pct x := by
  have hC' := hC
  unfold apC at hC'
  have hR' := hR
  unfold apR at hR'
  rw [E_ME_encrypt_2] at hE
  obtain ⟨a1, a2⟩ := ex4 (pp := pp) (n0 := 1568) (at0 := 1536) (B := fun j => t.1 pek (at_ + (1536 + j))) (by unfold MX; omega) (by omega) (fun x hx => by rw [Nat.add_assoc]) hE.1
  have hV : F_ME_encrypt_2 pek nn at_ pms nm pct nc t = F_ME_encrypt_2_L0 pek nn at_ pms nm pct nc 4 0 (F_ME_expand_4 pek nn (at_ + 1536) t) := by rw [F_ME_encrypt_2, bnd_eq]
  generalize F_ME_expand_4 pek nn (at_ + 1536) t = tA at a1 a2 hV
  have e1 : tA.1 pek = t.1 pek := a1 pek (by unfold MX; omega)
  have e2 : tA.1 220 = t.1 220 := a1 220 (by unfold MX; omega)
  have e3 : tA.1 pms = t.1 pms := a1 pms (by unfold MX; omega)
  obtain ⟨t1, b1, b2, b3, b4⟩ := enA2 (n := nn) (at_ := at_) (nm := nm) (nc := nc) (pp := pp) (n0 := 1568) (BK := fun j => t.1 pek (at_ + j)) (SD := fun j => t.1 220 (32 + j)) hR (by omega) 4 0 tA (by decide) (fun j hj => by rw [e1]) (fun j hj => by rw [e2]) (fun i' hi' => by omega)
  rw [b1] at hV
  have hU : F_KM_encrypt_2 pp pt n s = F_KM_encrypt_2_L0 pp pt n 4 0 s := by rw [F_KM_encrypt_2]
  obtain ⟨s1, c1, c2, c3⟩ := enB2 (pp := pp) (pt := pt) (n := n) (SD := fun j => t.1 220 (32 + j)) (r := fun i => t1.1 (203 + i)) (fun i hi => (b3 i hi).2.1) 4 0 s (by decide) hS (fun i' hi' => by omega)
  rw [c1] at hU
  have hI : IV 4 1568 1536 pp pms (fun j => t.1 pek (at_ + j)) (fun j => t.1 220 (32 + j)) (fun j => t.1 pms j) s1 t1 := by
    refine ⟨fun j hj => ?_, fun j hj => ?_, fun j hj => ?_, fun j hj => ?_, fun j hj => ?_, fun i hi => ⟨c3 i hi, (b3 i hi).1, (b3 i hi).2.2⟩, fun i x hi hx => ?_⟩
    · rw [c2 pp (by omega)]
      exact hK j hj
    · rw [c2 34 (by omega)]
      exact hS j hj
    · rw [c2 32 (by omega)]
      exact hM j hj
    · rw [b2 pms (by unfold MR; omega), e3]
    · rw [b2 220 (by unfold MR; omega), e2]
    · rw [b4 (186 + (4 * i + x)) (by omega) (by omega)]
      exact a2 i x hi hx
  obtain ⟨d1, d2, d3⟩ := enC2 (n := n) (pek := pek) (nm := nm) (nc := nc) hC hR 4 0 s1 t1 (by decide) hI (fun x hx => by omega)
  rw [hU, hV]
  exact ⟨ftr (fun k hk => c2 k (by unfold MC at hk; omega)) d1, ftr (ftr (fun k hk => a1 k (by unfold MR at hk; unfold MX; omega)) b2) d2, d3⟩
