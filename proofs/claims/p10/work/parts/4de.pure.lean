set_option linter.all false
/-- keys: what both sides hold behind it -/
theorem sZ_ne {s : Sto} {k k' : Nat} (h : k' ≠ k) : (sZ s k).1 k' = s.1 k' := uA_ne h
theorem keys_core {tl al pn c st hb : Nat} {s sB_ t2 : Sto} (h : SAME tl al pn s) (hp : pn < 8) (hc : c < 12) (hst : st = c % 6) (hhb : hb = if c < 6 then ksec c else 0)
    (hM : ∀ k, (k < 14 ∨ 148 ≤ k) → k ≠ 379 + 36 * pn + (3 * c + 1) → k ≠ 379 + 36 * pn + (3 * c + 2) → sB_.1 k = s.1 k)
    (hR : ∀ k, (k < 172 ∨ 379 ≤ k) → k ≠ 153 + pn → k ≠ 162 + pn → t2.1 k = (sI (sI (sI (sI sB_ 0 1 (nI 0)) 3 pn (nI (c + 1))) 0 5 (nI (pn + 1))) 148 0 (nI 0)).1 k)
    (h1 : ∀ x, x < kpub st → sB_.1 (379 + 36 * pn + (3 * c + 1)) x = t2.1 (153 + pn) x) (h2 : c < 6 → ∀ x, x < ksec c → sB_.1 (379 + 36 * pn + (3 * c + 2)) x = t2.1 (162 + pn) x) (h3 : c < 3 → ∀ x, x < kpub c → t2.1 (153 + pn) x = t2.1 (162 + pn) (384 * (c + 2) + x)) :
    SAME 0 al (pn + 1) (sI (sI (sI (sI t2 170 pn (nI st)) 171 pn (nI hb)) 148 3 (nI (pn + 1))) 148 1 (nI 0)) ∧ (sI (sI (sI (sI t2 170 pn (nI st)) 171 pn (nI hb)) 148 3 (nI (pn + 1))) 148 1 (nI 0)).1 148 0 = nI 0 := by
  obtain ⟨⟨a1, a2, a3⟩, ⟨b1, b2, b3⟩, ⟨c1, c2, c3⟩, d, e, f⟩ := id h
  have t0 := hR 0 (by omega) (by omega) (by omega)
  have t3 := hR 3 (by omega) (by omega) (by omega)
  have tM := hR 148 (by omega) (by omega) (by omega)
  have tK : ∀ k, k ≠ 0 → k ≠ 3 → k ≠ 148 → (k < 14 ∨ (148 ≤ k ∧ k < 172) ∨ 379 ≤ k) → k ≠ 153 + pn → k ≠ 162 + pn → t2.1 k = sB_.1 k := fun k u v w x y z => by
    rw [hR k (by omega) y z, th_ne w, th_ne u, th_ne v, th_ne u]
  generalize hT : sI (sI (sI (sI sB_ 0 1 (nI 0)) 3 pn (nI (c + 1))) 0 5 (nI (pn + 1))) 148 0 (nI 0) = t1 at t0 t3 tM
  have r01 : t1.1 0 1 = nI 0 := by rw [← hT, th_ne (by decide), th_off (by decide), th_ne (by decide)]; exact th_at
  have r05 : t1.1 0 5 = nI (pn + 1) := by rw [← hT, th_ne (by decide)]; exact th_at
  have r03 : t1.1 0 3 = nI al := by rw [← hT, th_ne (by decide), th_off (by decide), th_ne (by decide), th_off (by decide), hM 0 (by omega) (by omega) (by omega)]; exact b1
  have r3p : t1.1 3 pn = nI (c + 1) := by rw [← hT, th_ne (by decide), th_ne (by decide)]; exact th_at
  have r3o : ∀ i, i ≠ pn → t1.1 3 i = s.1 3 i := fun i hi => by rw [← hT, th_ne (by decide), th_ne (by decide), th_off hi, th_ne (by decide), hM 3 (by omega) (by omega) (by omega)]
  have rM0 : t1.1 148 0 = nI 0 := by rw [← hT]; exact th_at
  have rM2 : t1.1 148 2 = nI al := by rw [← hT, th_off (by decide), th_ne (by decide), th_ne (by decide), th_ne (by decide), hM 148 (by omega) (by omega) (by omega)]; exact b2
  have g : ∀ k, k ≠ 170 → k ≠ 171 → k ≠ 148 → (sI (sI (sI (sI t2 170 pn (nI st)) 171 pn (nI hb)) 148 3 (nI (pn + 1))) 148 1 (nI 0)).1 k = t2.1 k := fun k u v w => by rw [th_ne w, th_ne w, th_ne v, th_ne u]
  have gS : (sI (sI (sI (sI t2 170 pn (nI st)) 171 pn (nI hb)) 148 3 (nI (pn + 1))) 148 1 (nI 0)).1 170 = (sI t2 170 pn (nI st)).1 170 := by rw [th_ne (by decide), th_ne (by decide), th_ne (by decide)]
  have gH : (sI (sI (sI (sI t2 170 pn (nI st)) 171 pn (nI hb)) 148 3 (nI (pn + 1))) 148 1 (nI 0)).1 171 = (sI (sI t2 170 pn (nI st)) 171 pn (nI hb)).1 171 := by rw [th_ne (by decide), th_ne (by decide)]
  have gM : ∀ j, j ≠ 1 → j ≠ 3 → (sI (sI (sI (sI t2 170 pn (nI st)) 171 pn (nI hb)) 148 3 (nI (pn + 1))) 148 1 (nI 0)).1 148 j = t2.1 148 j := fun j u v => by rw [th_off u, th_off v, th_ne (by decide), th_ne (by decide)]
  have gM3 : (sI (sI (sI (sI t2 170 pn (nI st)) 171 pn (nI hb)) 148 3 (nI (pn + 1))) 148 1 (nI 0)).1 148 3 = nI (pn + 1) := by rw [th_off (by decide)]; exact th_at
  have gM1 : (sI (sI (sI (sI t2 170 pn (nI st)) 171 pn (nI hb)) 148 3 (nI (pn + 1))) 148 1 (nI 0)).1 148 1 = nI 0 := th_at
  have wS : (sI t2 170 pn (nI st)).1 170 pn = nI st := th_at
  have wSo : ∀ i, i ≠ pn → (sI t2 170 pn (nI st)).1 170 i = s.1 170 i := fun i hi => by rw [th_off hi, tK 170 (by omega) (by omega) (by omega) (by omega) (by omega) (by omega), hM 170 (by omega) (by omega) (by omega)]
  have wH : (sI (sI t2 170 pn (nI st)) 171 pn (nI hb)).1 171 pn = nI hb := th_at
  have wHo : ∀ i, i ≠ pn → (sI (sI t2 170 pn (nI st)) 171 pn (nI hb)).1 171 i = s.1 171 i := fun i hi => by rw [th_off hi, th_ne (by decide), tK 171 (by omega) (by omega) (by omega) (by omega) (by omega) (by omega), hM 171 (by omega) (by omega) (by omega)]
  generalize sI (sI (sI (sI t2 170 pn (nI st)) 171 pn (nI hb)) 148 3 (nI (pn + 1))) 148 1 (nI 0) = t9 at g gS gH gM gM3 gM1 ⊢
  have q0 : t9.1 0 = t1.1 0 := by rw [g 0 (by decide) (by decide) (by decide), t0]
  have q3 : t9.1 3 = t1.1 3 := by rw [g 3 (by decide) (by decide) (by decide), t3]
  refine ⟨⟨⟨by rw [q0]; exact r01, gM1, by omega⟩, ⟨by rw [q0]; exact r03, by rw [gM 2 (by decide) (by decide), tM]; exact rM2, b3⟩, ⟨by rw [q0]; exact r05, gM3, by omega⟩, fun j hj => absurd hj (by omega), fun j hj => ?_, fun i hi => ?_⟩, ?_⟩
  · rw [g 2 (by decide) (by decide) (by decide), g 150 (by decide) (by decide) (by decide), tK 2 (by omega) (by omega) (by omega) (by omega) (by omega) (by omega), tK 150 (by omega) (by omega) (by omega) (by omega) (by omega) (by omega), hM 2 (by omega) (by omega) (by omega), hM 150 (by omega) (by omega) (by omega)]
    exact e j hj
  · by_cases w : i = pn
    · subst w
      refine ⟨c, by omega, by rw [q3]; exact r3p, by rw [gS, ← hst]; exact wS, by rw [gH, ← hhb]; exact wH, fun j hj => ?_, fun hc6 j hj => ?_, fun hc3 j hj => ?_⟩
      · rw [← hst] at hj
        rw [g (379 + 36 * i + (3 * c + 1)) (by omega) (by omega) (by omega), g (153 + i) (by omega) (by omega) (by omega), tK (379 + 36 * i + (3 * c + 1)) (by omega) (by omega) (by omega) (by omega) (by omega) (by omega)]
        exact h1 j hj
      · rw [g (379 + 36 * i + (3 * c + 2)) (by omega) (by omega) (by omega), g (162 + i) (by omega) (by omega) (by omega), tK (379 + 36 * i + (3 * c + 2)) (by omega) (by omega) (by omega) (by omega) (by omega) (by omega)]
        exact h2 hc6 j hj
      · rw [g (153 + i) (by omega) (by omega) (by omega), g (162 + i) (by omega) (by omega) (by omega)]
        exact h3 hc3 j hj
    · obtain ⟨c', u1, u2, u3, u4, u5, u6⟩ := f i (by omega)
      refine ⟨c', u1, by rw [q3, r3o i w]; exact u2, by rw [gS, wSo i w]; exact u3, by rw [gH, wHo i w]; exact u4, ?_, ?_⟩
      · rw [g (379 + 36 * i + (3 * c' + 1)) (by omega) (by omega) (by omega), g (153 + i) (by omega) (by omega) (by omega), tK (379 + 36 * i + (3 * c' + 1)) (by omega) (by omega) (by omega) (by omega) (by omega) (by omega), tK (153 + i) (by omega) (by omega) (by omega) (by omega) (by omega) (by omega), hM (379 + 36 * i + (3 * c' + 1)) (by omega) (by omega) (by omega), hM (153 + i) (by omega) (by omega) (by omega)]
        exact u5
      · rw [g (379 + 36 * i + (3 * c' + 2)) (by omega) (by omega) (by omega), g (162 + i) (by omega) (by omega) (by omega), tK (379 + 36 * i + (3 * c' + 2)) (by omega) (by omega) (by omega) (by omega) (by omega) (by omega), tK (162 + i) (by omega) (by omega) (by omega) (by omega) (by omega) (by omega), hM (379 + 36 * i + (3 * c' + 2)) (by omega) (by omega) (by omega), hM (162 + i) (by omega) (by omega) (by omega)]
        rw [g (153 + i) (by omega) (by omega) (by omega), tK (153 + i) (by omega) (by omega) (by omega) (by omega) (by omega) (by omega), hM (153 + i) (by omega) (by omega) (by omega)]
        exact u6
  · rw [gM 0 (by decide) (by decide), tM]; exact rM0
theorem kkeep_eq {kc pn : Nat} {s : Sto} (h : s.1 0 5 = nI pn) (hp : pn < 8) : F_K_keep kc s = (nI pn, sI (sI s 3 pn (nI (kc + 1))) 0 5 (nI (pn + 1))) := by
  have h1 : (sI s 3 pn (nI (kc + 1))).1 0 5 = nI pn := by rw [th_ne (by decide)]; exact h
  rw [F_K_keep, bnd_eq, h, nI_clamp (by omega), bnd_eq, bnd_eq, h1, nI_clamp (by omega), bnd_eq, bnd_eq, th_at, nI_clamp (by omega), Nat.add_sub_cancel]
theorem mmade_eq {st hb_ pn : Nat} {s : Sto} (h : s.1 148 3 = nI pn) (hp : pn < 8) : F_M_madeP st hb_ s = (nI pn, sI (sI (sI (sI s 170 pn (nI st)) 171 pn (nI hb_)) 148 3 (nI (pn + 1))) 148 1 (nI 0)) := by
  have h1 : (sI s 170 pn (nI st)).1 148 3 = nI pn := by rw [th_ne (by decide)]; exact h
  have h2 : (sI (sI s 170 pn (nI st)) 171 pn (nI hb_)).1 148 3 = nI pn := by rw [th_ne (by decide)]; exact h1
  have h3 : (sI (sI (sI (sI s 170 pn (nI st)) 171 pn (nI hb_)) 148 3 (nI (pn + 1))) 148 1 (nI 0)).1 148 3 = nI (pn + 1) := by rw [th_off (by decide)]; exact th_at
  rw [F_M_madeP, bnd_eq, h, nI_clamp (by omega), bnd_eq, bnd_eq, h1, nI_clamp (by omega), bnd_eq, bnd_eq, h2, nI_clamp (by omega), bnd_eq, bnd_eq, bnd_eq, h3, nI_clamp (by omega), Nat.add_sub_cancel]
theorem kk0_a {pn tl : Nat} {s : Sto} (h : s.1 0 1 = nI tl) (ht : tl ≤ 16384) (hn : ¬ tl = 64) : F_K_keys (nI 0) pn s = (nI 1, nI 0, s) := by
  rw [F_K_keys, bnd_eq, show F_K_isSet (nI 0) s = (nI 1, s) by rw [F_K_isSet, if_neg (nI_nneg (by decide)), if_neg (show ¬ nI 6 ≤ nI 0 by decide), bnd_eq]]
  dsimp only
  rw [if_neg (show ¬ nI 1 = 0 by decide), bnd_eq, nI_clamp (show 0 < 2 ^ 31 by decide), if_pos (show (0 : Nat) = 0 from rfl), bnd_eq, h, nI_clamp (show tl < 2 ^ 31 by omega), bnd_eq, F_K_seedLength_0]
  dsimp only
  rw [bnd_eq, if_neg hn]
theorem kk0_b {pn : Nat} {s : Sto} (h : s.1 0 1 = nI 64) (h5 : s.1 0 5 = nI 8) : F_K_keys (nI 0) pn s = (nI 2, nI 0, s) := by
  rw [F_K_keys, bnd_eq, show F_K_isSet (nI 0) s = (nI 1, s) by rw [F_K_isSet, if_neg (nI_nneg (by decide)), if_neg (show ¬ nI 6 ≤ nI 0 by decide), bnd_eq]]
  dsimp only
  rw [if_neg (show ¬ nI 1 = 0 by decide), bnd_eq, nI_clamp (show 0 < 2 ^ 31 by decide), if_pos (show (0 : Nat) = 0 from rfl), bnd_eq, h, nI_clamp (show 64 < 2 ^ 31 by decide), bnd_eq, F_K_seedLength_0]
  dsimp only
  rw [bnd_eq, if_pos (show (64 : Nat) = 64 from rfl), bnd_eq, h5, nI_clamp (show 8 < 2 ^ 31 by decide), if_neg (show ¬ 8 < 8 by decide)]
theorem kk0_c {pn : Nat} {s : Sto} (h : s.1 0 1 = nI 64) (h5 : s.1 0 5 = nI pn) (hp : pn < 8) (hm : (F_KM_makePair_0 1 16384 (379 + 36 * pn + 1) (379 + 36 * pn + 2) (sZ (sZ s (379 + 36 * pn + 1)) (379 + 36 * pn + 2))).1 0 5 = nI pn) : F_K_keys (nI 0) pn s = (nI 0, nI pn, sI (sI (sI (F_KM_makePair_0 1 16384 (379 + 36 * pn + 1) (379 + 36 * pn + 2) (sZ (sZ s (379 + 36 * pn + 1)) (379 + 36 * pn + 2))) 0 1 (nI 0)) 3 pn (nI (0 + 1))) 0 5 (nI (pn + 1))) := by
  rw [F_K_keys, bnd_eq, show F_K_isSet (nI 0) s = (nI 1, s) by rw [F_K_isSet, if_neg (nI_nneg (by decide)), if_neg (show ¬ nI 6 ≤ nI 0 by decide), bnd_eq]]
  dsimp only
  rw [if_neg (show ¬ nI 1 = 0 by decide), bnd_eq, nI_clamp (show 0 < 2 ^ 31 by decide), if_pos (show (0 : Nat) = 0 from rfl), bnd_eq, h, nI_clamp (show 64 < 2 ^ 31 by decide), bnd_eq, F_K_seedLength_0]
  dsimp only
  rw [bnd_eq, if_pos (show (64 : Nat) = 64 from rfl), bnd_eq, h5, nI_clamp (show pn < 2 ^ 31 by omega), if_pos hp, bnd_eq, F_K_publicLength_0]
  dsimp only
  rw [bnd_eq, bnd_eq, bnd_eq, F_K_secretLength_0]
  dsimp only
  rw [bnd_eq, bnd_eq, bnd_eq, bnd_eq, bnd_eq, kkeep_eq (pn := pn) (by rw [th_off (by decide)]; exact hm) hp]
theorem mk0_a {tl : Nat} {s : Sto} (h : s.1 148 1 = nI tl) (ht : tl ≤ 16384) (hn : ¬ tl = 64) : F_M_keys (nI 0) s = (nI 0, sI (sI s 148 0 (nI 0)) 148 0 (nI 1)) := by
  have h1 : (sI s 148 0 (nI 0)).1 148 1 = nI tl := by rw [th_off (by decide)]; exact h
  rw [F_M_keys, bnd_eq, if_neg (nI_nneg (by decide)), if_neg (show ¬ nI 5 < nI 0 by decide), bnd_eq, nI_clamp (show 0 < 2 ^ 31 by decide), if_pos (show (0 : Nat) = 0 from rfl), bnd_eq, h1, nI_clamp (show tl < 2 ^ 31 by omega), if_neg hn, bnd_eq, mfail_eq]
theorem mk0_b {s : Sto} (h : s.1 148 1 = nI 64) (h3 : s.1 148 3 = nI 8) : F_M_keys (nI 0) s = (nI 0, sI (sI s 148 0 (nI 0)) 148 0 (nI 2)) := by
  have h1 : (sI s 148 0 (nI 0)).1 148 1 = nI 64 := by rw [th_off (by decide)]; exact h
  have h2 : (sI s 148 0 (nI 0)).1 148 3 = nI 8 := by rw [th_off (by decide)]; exact h3
  rw [F_M_keys, bnd_eq, if_neg (nI_nneg (by decide)), if_neg (show ¬ nI 5 < nI 0 by decide), bnd_eq, nI_clamp (show 0 < 2 ^ 31 by decide), if_pos (show (0 : Nat) = 0 from rfl), bnd_eq, h1, nI_clamp (show 64 < 2 ^ 31 by decide), if_pos (show (64 : Nat) = 64 from rfl), bnd_eq, h2, nI_clamp (show 8 < 2 ^ 31 by decide), if_pos (show (8 : Nat) = 8 from rfl), bnd_eq, mfail_eq]
theorem mk0_c {pn : Nat} {s : Sto} (h : s.1 148 1 = nI 64) (h3 : s.1 148 3 = nI pn) (hp : pn < 8) (hm : (F_ME_keys_0 149 16384 (153 + pn) (162 + pn) (sI s 148 0 (nI 0))).1 148 3 = nI pn) : F_M_keys (nI 0) s = (nI pn, sI (sI (sI (sI (F_ME_keys_0 149 16384 (153 + pn) (162 + pn) (sI s 148 0 (nI 0))) 170 pn (nI 0)) 171 pn (nI 1632)) 148 3 (nI (pn + 1))) 148 1 (nI 0)) := by
  have h1 : (sI s 148 0 (nI 0)).1 148 1 = nI 64 := by rw [th_off (by decide)]; exact h
  have h2 : (sI s 148 0 (nI 0)).1 148 3 = nI pn := by rw [th_off (by decide)]; exact h3
  rw [F_M_keys, bnd_eq, if_neg (nI_nneg (by decide)), if_neg (show ¬ nI 5 < nI 0 by decide), bnd_eq, nI_clamp (show 0 < 2 ^ 31 by decide), if_pos (show (0 : Nat) = 0 from rfl), bnd_eq, h1, nI_clamp (show 64 < 2 ^ 31 by decide), if_pos (show (64 : Nat) = 64 from rfl), bnd_eq, h2, nI_clamp (show pn < 2 ^ 31 by omega), if_neg (show ¬ pn = 8 by omega), bnd_eq, bnd_eq, bnd_eq, bnd_eq, show ∀ w : Sto, F_M_hiddenSize_0 w = (nI 1632, w) from fun w => by rw [F_M_hiddenSize_0, bnd_eq, F_ME_hiddenSize_0, bnd_eq]]
  dsimp only
  rw [bnd_eq, bnd_eq, mmade_eq hm hp]
theorem ek0 {pn : Nat} {s : Sto} (h : s.1 148 1 = nI 64) (h3 : s.1 148 3 = nI pn) (hp : pn < 8) (hE : E_M_keys (nI 0) s) : E_ME_keys_0 149 16384 (153 + pn) (162 + pn) (sI s 148 0 (nI 0)) := by
  have h1 : (sI s 148 0 (nI 0)).1 148 1 = nI 64 := by rw [th_off (by decide)]; exact h
  have h2 : (sI s 148 0 (nI 0)).1 148 3 = nI pn := by rw [th_off (by decide)]; exact h3
  rw [E_M_keys, bnd_eq, if_neg (nI_nneg (by decide)), if_neg (show ¬ nI 5 < nI 0 by decide), bnd_eq, nI_clamp (show 0 < 2 ^ 31 by decide), if_pos (show (0 : Nat) = 0 from rfl), bnd_eq, h1, nI_clamp (show 64 < 2 ^ 31 by decide), if_pos (show (64 : Nat) = 64 from rfl), bnd_eq, h2, nI_clamp (show pn < 2 ^ 31 by omega), if_neg (show ¬ pn = 8 by omega), bnd_eq, bnd_eq] at hE
  exact hE.1
theorem keys_c0 {tl al pn : Nat} {s : Sto} (h : SAME tl al pn s) (hN : NB s) (hT : NB (F_M_keys (nI 0) (F_K_keys (nI 0) pn s).2.2).2) (hF : frm M_K_keys s (F_K_keys (nI 0) pn s).2.2) (hE : E_M_keys (nI 0) (F_K_keys (nI 0) pn s).2.2) : ALIKE (F_K_keys (nI 0) pn s) (F_M_keys (nI 0)) := by
  obtain ⟨⟨a1, a2, a3⟩, ⟨b1, b2, b3⟩, ⟨c1, c2, c3⟩, d, e, f⟩ := id h
  by_cases ht : tl = 64
  · subst ht
    by_cases hp : pn = 8
    · subst hp
      rw [kk0_b a1 c1]
      exact alike_fail h (mk0_b a2 c2) (by decide)
    · have hp : pn < 8 := by omega
      have z1 : ∀ k, k ≠ 379 + 36 * pn + 1 → k ≠ 379 + 36 * pn + 2 → (sZ (sZ s (379 + 36 * pn + 1)) (379 + 36 * pn + 2)).1 k = s.1 k := fun k u v => by rw [sZ_ne v, sZ_ne u]
      have e1 := kk0_c (pn := pn) a1 c1 hp
      generalize sZ (sZ s (379 + 36 * pn + 1)) (379 + 36 * pn + 2) = sA at z1 e1
      obtain ⟨s1, hs1⟩ : ∃ x, x = (F_K_keys (nI 0) pn s).2.2 := ⟨_, rfl⟩
      rw [← hs1] at hE hF hT
      have f1 : s1.1 148 = s.1 148 := hF 148 (by unfold M_K_keys; omega)
      have f2 : s1.1 149 = s.1 149 := hF 149 (by unfold M_K_keys; omega)
      have hE1 := ek0 (pn := pn) (by rw [f1]; exact a2) (by rw [f1]; exact c2) hp hE
      have f3 : (sI s1 148 0 (nI 0)).1 149 = s.1 149 := by rw [th_ne (by decide)]; exact f2
      obtain ⟨g1, g2, g3, g4⟩ := keys0_same (pch := 1) (n := 16384) (pp := 379 + 36 * pn + 1) (psk := 379 + 36 * pn + 2) (psd := 149) (m := 16384) (pek := 153 + pn) (pdk := 162 + pn) (s := sA) (t := sI s1 148 0 (nI 0)) (by unfold apK; omega) (by unfold apL; omega) (fun j hj => by rw [z1 1 (by omega) (by omega), f3]; exact d j hj) (fun j hj => by rw [f3]; exact hN.1 j (by omega)) hE1
      have fM : ∀ k, (k < 14 ∨ 148 ≤ k) → k ≠ 379 + 36 * pn + 1 → k ≠ 379 + 36 * pn + 2 → (F_KM_makePair_0 1 16384 (379 + 36 * pn + 1) (379 + 36 * pn + 2) sA).1 k = s.1 k := fun k u v w => by rw [g1 k (by show ¬ (_ ∨ _); omega), z1 k v w]
      have e2 := e1 (by rw [fM 0 (by omega) (by omega) (by omega)]; exact c1)
      generalize F_KM_makePair_0 1 16384 (379 + 36 * pn + 1) (379 + 36 * pn + 2) sA = sB_ at g1 g3 g4 fM e2
      have hs : s1 = sI (sI (sI sB_ 0 1 (nI 0)) 3 pn (nI (0 + 1))) 0 5 (nI (pn + 1)) := by rw [hs1, e2]
      rw [e2]
      unfold ALIKE
      dsimp only
      rw [← hs]
      have m3 : (F_ME_keys_0 149 16384 (153 + pn) (162 + pn) (sI s1 148 0 (nI 0))).1 148 3 = nI pn := by rw [g2 148 (by show ¬ (_ ∨ _); omega), th_off (by decide), f1]; exact c2
      have kc := kcopy0 (psd := 149) (m := 16384) (pek := 153 + pn) (pdk := 162 + pn) (t := sI s1 148 0 (nI 0)) (by omega) (by omega) (by omega) (by omega) (by omega)
      have mE := mk0_c (pn := pn) (by rw [f1]; exact a2) (by rw [f1]; exact c2) hp m3
      rw [mE] at hT ⊢
      clear mE
      generalize F_ME_keys_0 149 16384 (153 + pn) (162 + pn) (sI s1 148 0 (nI 0)) = t2 at g2 g3 g4 m3 hT kc
      obtain ⟨k1, k2⟩ := keys_core (c := 0) (st := 0) (hb := 1632) (sB_ := sB_) (t2 := t2) h hp (by decide) (by decide) (by decide) fM (fun k u v w => by rw [← hs]; exact g2 k (by show ¬ (_ ∨ _); omega)) g3 (fun _ => g4) (fun _ x hx => by
          have hx : x < 800 := hx
          have u := (hT.2.2 pn (by omega)).1 x (by omega)
          dsimp only at u
          rw [th_ne (by omega), th_ne (by omega), th_ne (by omega), th_ne (by omega)] at u
          exact ((kc x hx).trans u).symm)
      exact ⟨⟨0, al, pn + 1, k1⟩, k2, fun _ => rfl⟩
  · rw [kk0_a a1 a3 ht]
    exact alike_fail h (mk0_a a2 a3 ht) (by decide)
theorem kk1_a {pn tl : Nat} {s : Sto} (h : s.1 0 1 = nI tl) (ht : tl ≤ 16384) (hn : ¬ tl = 64) : F_K_keys (nI 1) pn s = (nI 1, nI 0, s) := by
  rw [F_K_keys, bnd_eq, show F_K_isSet (nI 1) s = (nI 1, s) by rw [F_K_isSet, if_neg (nI_nneg (by decide)), if_neg (show ¬ nI 6 ≤ nI 1 by decide), bnd_eq]]
  dsimp only
  rw [if_neg (show ¬ nI 1 = 0 by decide), bnd_eq, nI_clamp (show 1 < 2 ^ 31 by decide), if_neg (show ¬ (1 : Nat) = 0 by decide), if_pos (show (1 : Nat) = 1 from rfl), bnd_eq, h, nI_clamp (show tl < 2 ^ 31 by omega), bnd_eq, F_K_seedLength_1]
  dsimp only
  rw [bnd_eq, if_neg hn]
theorem kk1_b {pn : Nat} {s : Sto} (h : s.1 0 1 = nI 64) (h5 : s.1 0 5 = nI 8) : F_K_keys (nI 1) pn s = (nI 2, nI 0, s) := by
  rw [F_K_keys, bnd_eq, show F_K_isSet (nI 1) s = (nI 1, s) by rw [F_K_isSet, if_neg (nI_nneg (by decide)), if_neg (show ¬ nI 6 ≤ nI 1 by decide), bnd_eq]]
  dsimp only
  rw [if_neg (show ¬ nI 1 = 0 by decide), bnd_eq, nI_clamp (show 1 < 2 ^ 31 by decide), if_neg (show ¬ (1 : Nat) = 0 by decide), if_pos (show (1 : Nat) = 1 from rfl), bnd_eq, h, nI_clamp (show 64 < 2 ^ 31 by decide), bnd_eq, F_K_seedLength_1]
  dsimp only
  rw [bnd_eq, if_pos (show (64 : Nat) = 64 from rfl), bnd_eq, h5, nI_clamp (show 8 < 2 ^ 31 by decide), if_neg (show ¬ 8 < 8 by decide)]
theorem kk1_c {pn : Nat} {s : Sto} (h : s.1 0 1 = nI 64) (h5 : s.1 0 5 = nI pn) (hp : pn < 8) (hm : (F_KM_makePair_1 1 16384 (379 + 36 * pn + 4) (379 + 36 * pn + 5) (sZ (sZ s (379 + 36 * pn + 4)) (379 + 36 * pn + 5))).1 0 5 = nI pn) : F_K_keys (nI 1) pn s = (nI 0, nI pn, sI (sI (sI (F_KM_makePair_1 1 16384 (379 + 36 * pn + 4) (379 + 36 * pn + 5) (sZ (sZ s (379 + 36 * pn + 4)) (379 + 36 * pn + 5))) 0 1 (nI 0)) 3 pn (nI (1 + 1))) 0 5 (nI (pn + 1))) := by
  rw [F_K_keys, bnd_eq, show F_K_isSet (nI 1) s = (nI 1, s) by rw [F_K_isSet, if_neg (nI_nneg (by decide)), if_neg (show ¬ nI 6 ≤ nI 1 by decide), bnd_eq]]
  dsimp only
  rw [if_neg (show ¬ nI 1 = 0 by decide), bnd_eq, nI_clamp (show 1 < 2 ^ 31 by decide), if_neg (show ¬ (1 : Nat) = 0 by decide), if_pos (show (1 : Nat) = 1 from rfl), bnd_eq, h, nI_clamp (show 64 < 2 ^ 31 by decide), bnd_eq, F_K_seedLength_1]
  dsimp only
  rw [bnd_eq, if_pos (show (64 : Nat) = 64 from rfl), bnd_eq, h5, nI_clamp (show pn < 2 ^ 31 by omega), if_pos hp, bnd_eq, F_K_publicLength_1]
  dsimp only
  rw [bnd_eq, bnd_eq, bnd_eq, F_K_secretLength_1]
  dsimp only
  rw [bnd_eq, bnd_eq, bnd_eq, bnd_eq, bnd_eq, kkeep_eq (pn := pn) (by rw [th_off (by decide)]; exact hm) hp]
theorem mk1_a {tl : Nat} {s : Sto} (h : s.1 148 1 = nI tl) (ht : tl ≤ 16384) (hn : ¬ tl = 64) : F_M_keys (nI 1) s = (nI 0, sI (sI s 148 0 (nI 0)) 148 0 (nI 1)) := by
  have h1 : (sI s 148 0 (nI 0)).1 148 1 = nI tl := by rw [th_off (by decide)]; exact h
  rw [F_M_keys, bnd_eq, if_neg (nI_nneg (by decide)), if_neg (show ¬ nI 5 < nI 1 by decide), bnd_eq, nI_clamp (show 1 < 2 ^ 31 by decide), if_neg (show ¬ (1 : Nat) = 0 by decide), if_pos (show (1 : Nat) = 1 from rfl), bnd_eq, h1, nI_clamp (show tl < 2 ^ 31 by omega), if_neg hn, bnd_eq, mfail_eq]
theorem mk1_b {s : Sto} (h : s.1 148 1 = nI 64) (h3 : s.1 148 3 = nI 8) : F_M_keys (nI 1) s = (nI 0, sI (sI s 148 0 (nI 0)) 148 0 (nI 2)) := by
  have h1 : (sI s 148 0 (nI 0)).1 148 1 = nI 64 := by rw [th_off (by decide)]; exact h
  have h2 : (sI s 148 0 (nI 0)).1 148 3 = nI 8 := by rw [th_off (by decide)]; exact h3
  rw [F_M_keys, bnd_eq, if_neg (nI_nneg (by decide)), if_neg (show ¬ nI 5 < nI 1 by decide), bnd_eq, nI_clamp (show 1 < 2 ^ 31 by decide), if_neg (show ¬ (1 : Nat) = 0 by decide), if_pos (show (1 : Nat) = 1 from rfl), bnd_eq, h1, nI_clamp (show 64 < 2 ^ 31 by decide), if_pos (show (64 : Nat) = 64 from rfl), bnd_eq, h2, nI_clamp (show 8 < 2 ^ 31 by decide), if_pos (show (8 : Nat) = 8 from rfl), bnd_eq, mfail_eq]
theorem mk1_c {pn : Nat} {s : Sto} (h : s.1 148 1 = nI 64) (h3 : s.1 148 3 = nI pn) (hp : pn < 8) (hm : (F_ME_keys_1 149 16384 (153 + pn) (162 + pn) (sI s 148 0 (nI 0))).1 148 3 = nI pn) : F_M_keys (nI 1) s = (nI pn, sI (sI (sI (sI (F_ME_keys_1 149 16384 (153 + pn) (162 + pn) (sI s 148 0 (nI 0))) 170 pn (nI 1)) 171 pn (nI 2400)) 148 3 (nI (pn + 1))) 148 1 (nI 0)) := by
  have h1 : (sI s 148 0 (nI 0)).1 148 1 = nI 64 := by rw [th_off (by decide)]; exact h
  have h2 : (sI s 148 0 (nI 0)).1 148 3 = nI pn := by rw [th_off (by decide)]; exact h3
  rw [F_M_keys, bnd_eq, if_neg (nI_nneg (by decide)), if_neg (show ¬ nI 5 < nI 1 by decide), bnd_eq, nI_clamp (show 1 < 2 ^ 31 by decide), if_neg (show ¬ (1 : Nat) = 0 by decide), if_pos (show (1 : Nat) = 1 from rfl), bnd_eq, h1, nI_clamp (show 64 < 2 ^ 31 by decide), if_pos (show (64 : Nat) = 64 from rfl), bnd_eq, h2, nI_clamp (show pn < 2 ^ 31 by omega), if_neg (show ¬ pn = 8 by omega), bnd_eq, bnd_eq, bnd_eq, bnd_eq, show ∀ w : Sto, F_M_hiddenSize_1 w = (nI 2400, w) from fun w => by rw [F_M_hiddenSize_1, bnd_eq, F_ME_hiddenSize_1, bnd_eq]]
  dsimp only
  rw [bnd_eq, bnd_eq, mmade_eq hm hp]
theorem ek1 {pn : Nat} {s : Sto} (h : s.1 148 1 = nI 64) (h3 : s.1 148 3 = nI pn) (hp : pn < 8) (hE : E_M_keys (nI 1) s) : E_ME_keys_1 149 16384 (153 + pn) (162 + pn) (sI s 148 0 (nI 0)) := by
  have h1 : (sI s 148 0 (nI 0)).1 148 1 = nI 64 := by rw [th_off (by decide)]; exact h
  have h2 : (sI s 148 0 (nI 0)).1 148 3 = nI pn := by rw [th_off (by decide)]; exact h3
  rw [E_M_keys, bnd_eq, if_neg (nI_nneg (by decide)), if_neg (show ¬ nI 5 < nI 1 by decide), bnd_eq, nI_clamp (show 1 < 2 ^ 31 by decide), if_neg (show ¬ (1 : Nat) = 0 by decide), if_pos (show (1 : Nat) = 1 from rfl), bnd_eq, h1, nI_clamp (show 64 < 2 ^ 31 by decide), if_pos (show (64 : Nat) = 64 from rfl), bnd_eq, h2, nI_clamp (show pn < 2 ^ 31 by omega), if_neg (show ¬ pn = 8 by omega), bnd_eq, bnd_eq] at hE
  exact hE.1
theorem keys_c1 {tl al pn : Nat} {s : Sto} (h : SAME tl al pn s) (hN : NB s) (hT : NB (F_M_keys (nI 1) (F_K_keys (nI 1) pn s).2.2).2) (hF : frm M_K_keys s (F_K_keys (nI 1) pn s).2.2) (hE : E_M_keys (nI 1) (F_K_keys (nI 1) pn s).2.2) : ALIKE (F_K_keys (nI 1) pn s) (F_M_keys (nI 1)) := by
  obtain ⟨⟨a1, a2, a3⟩, ⟨b1, b2, b3⟩, ⟨c1, c2, c3⟩, d, e, f⟩ := id h
  by_cases ht : tl = 64
  · subst ht
    by_cases hp : pn = 8
    · subst hp
      rw [kk1_b a1 c1]
      exact alike_fail h (mk1_b a2 c2) (by decide)
    · have hp : pn < 8 := by omega
      have z1 : ∀ k, k ≠ 379 + 36 * pn + 4 → k ≠ 379 + 36 * pn + 5 → (sZ (sZ s (379 + 36 * pn + 4)) (379 + 36 * pn + 5)).1 k = s.1 k := fun k u v => by rw [sZ_ne v, sZ_ne u]
      have e1 := kk1_c (pn := pn) a1 c1 hp
      generalize sZ (sZ s (379 + 36 * pn + 4)) (379 + 36 * pn + 5) = sA at z1 e1
      obtain ⟨s1, hs1⟩ : ∃ x, x = (F_K_keys (nI 1) pn s).2.2 := ⟨_, rfl⟩
      rw [← hs1] at hE hF hT
      have f1 : s1.1 148 = s.1 148 := hF 148 (by unfold M_K_keys; omega)
      have f2 : s1.1 149 = s.1 149 := hF 149 (by unfold M_K_keys; omega)
      have hE1 := ek1 (pn := pn) (by rw [f1]; exact a2) (by rw [f1]; exact c2) hp hE
      have f3 : (sI s1 148 0 (nI 0)).1 149 = s.1 149 := by rw [th_ne (by decide)]; exact f2
      obtain ⟨g1, g2, g3, g4⟩ := keys1_same (pch := 1) (n := 16384) (pp := 379 + 36 * pn + 4) (psk := 379 + 36 * pn + 5) (psd := 149) (m := 16384) (pek := 153 + pn) (pdk := 162 + pn) (s := sA) (t := sI s1 148 0 (nI 0)) (by unfold apK; omega) (by unfold apL; omega) (fun j hj => by rw [z1 1 (by omega) (by omega), f3]; exact d j hj) (fun j hj => by rw [f3]; exact hN.1 j (by omega)) hE1
      have fM : ∀ k, (k < 14 ∨ 148 ≤ k) → k ≠ 379 + 36 * pn + 4 → k ≠ 379 + 36 * pn + 5 → (F_KM_makePair_1 1 16384 (379 + 36 * pn + 4) (379 + 36 * pn + 5) sA).1 k = s.1 k := fun k u v w => by rw [g1 k (by show ¬ (_ ∨ _); omega), z1 k v w]
      have e2 := e1 (by rw [fM 0 (by omega) (by omega) (by omega)]; exact c1)
      generalize F_KM_makePair_1 1 16384 (379 + 36 * pn + 4) (379 + 36 * pn + 5) sA = sB_ at g1 g3 g4 fM e2
      have hs : s1 = sI (sI (sI sB_ 0 1 (nI 0)) 3 pn (nI (1 + 1))) 0 5 (nI (pn + 1)) := by rw [hs1, e2]
      rw [e2]
      unfold ALIKE
      dsimp only
      rw [← hs]
      have m3 : (F_ME_keys_1 149 16384 (153 + pn) (162 + pn) (sI s1 148 0 (nI 0))).1 148 3 = nI pn := by rw [g2 148 (by show ¬ (_ ∨ _); omega), th_off (by decide), f1]; exact c2
      have kc := kcopy1 (psd := 149) (m := 16384) (pek := 153 + pn) (pdk := 162 + pn) (t := sI s1 148 0 (nI 0)) (by omega) (by omega) (by omega) (by omega) (by omega)
      have mE := mk1_c (pn := pn) (by rw [f1]; exact a2) (by rw [f1]; exact c2) hp m3
      rw [mE] at hT ⊢
      clear mE
      generalize F_ME_keys_1 149 16384 (153 + pn) (162 + pn) (sI s1 148 0 (nI 0)) = t2 at g2 g3 g4 m3 hT kc
      obtain ⟨k1, k2⟩ := keys_core (c := 1) (st := 1) (hb := 2400) (sB_ := sB_) (t2 := t2) h hp (by decide) (by decide) (by decide) fM (fun k u v w => by rw [← hs]; exact g2 k (by show ¬ (_ ∨ _); omega)) g3 (fun _ => g4) (fun _ x hx => by
          have hx : x < 1184 := hx
          have u := (hT.2.2 pn (by omega)).1 x (by omega)
          dsimp only at u
          rw [th_ne (by omega), th_ne (by omega), th_ne (by omega), th_ne (by omega)] at u
          exact ((kc x hx).trans u).symm)
      exact ⟨⟨0, al, pn + 1, k1⟩, k2, fun _ => rfl⟩
  · rw [kk1_a a1 a3 ht]
    exact alike_fail h (mk1_a a2 a3 ht) (by decide)
theorem kk2_a {pn tl : Nat} {s : Sto} (h : s.1 0 1 = nI tl) (ht : tl ≤ 16384) (hn : ¬ tl = 64) : F_K_keys (nI 2) pn s = (nI 1, nI 0, s) := by
  rw [F_K_keys, bnd_eq, show F_K_isSet (nI 2) s = (nI 1, s) by rw [F_K_isSet, if_neg (nI_nneg (by decide)), if_neg (show ¬ nI 6 ≤ nI 2 by decide), bnd_eq]]
  dsimp only
  rw [if_neg (show ¬ nI 1 = 0 by decide), bnd_eq, nI_clamp (show 2 < 2 ^ 31 by decide), if_neg (show ¬ (2 : Nat) = 0 by decide), if_neg (show ¬ (2 : Nat) = 1 by decide), if_pos (show (2 : Nat) = 2 from rfl), bnd_eq, h, nI_clamp (show tl < 2 ^ 31 by omega), bnd_eq, F_K_seedLength_2]
  dsimp only
  rw [bnd_eq, if_neg hn]
theorem kk2_b {pn : Nat} {s : Sto} (h : s.1 0 1 = nI 64) (h5 : s.1 0 5 = nI 8) : F_K_keys (nI 2) pn s = (nI 2, nI 0, s) := by
  rw [F_K_keys, bnd_eq, show F_K_isSet (nI 2) s = (nI 1, s) by rw [F_K_isSet, if_neg (nI_nneg (by decide)), if_neg (show ¬ nI 6 ≤ nI 2 by decide), bnd_eq]]
  dsimp only
  rw [if_neg (show ¬ nI 1 = 0 by decide), bnd_eq, nI_clamp (show 2 < 2 ^ 31 by decide), if_neg (show ¬ (2 : Nat) = 0 by decide), if_neg (show ¬ (2 : Nat) = 1 by decide), if_pos (show (2 : Nat) = 2 from rfl), bnd_eq, h, nI_clamp (show 64 < 2 ^ 31 by decide), bnd_eq, F_K_seedLength_2]
  dsimp only
  rw [bnd_eq, if_pos (show (64 : Nat) = 64 from rfl), bnd_eq, h5, nI_clamp (show 8 < 2 ^ 31 by decide), if_neg (show ¬ 8 < 8 by decide)]
theorem kk2_c {pn : Nat} {s : Sto} (h : s.1 0 1 = nI 64) (h5 : s.1 0 5 = nI pn) (hp : pn < 8) (hm : (F_KM_makePair_2 1 16384 (379 + 36 * pn + 7) (379 + 36 * pn + 8) (sZ (sZ s (379 + 36 * pn + 7)) (379 + 36 * pn + 8))).1 0 5 = nI pn) : F_K_keys (nI 2) pn s = (nI 0, nI pn, sI (sI (sI (F_KM_makePair_2 1 16384 (379 + 36 * pn + 7) (379 + 36 * pn + 8) (sZ (sZ s (379 + 36 * pn + 7)) (379 + 36 * pn + 8))) 0 1 (nI 0)) 3 pn (nI (2 + 1))) 0 5 (nI (pn + 1))) := by
  rw [F_K_keys, bnd_eq, show F_K_isSet (nI 2) s = (nI 1, s) by rw [F_K_isSet, if_neg (nI_nneg (by decide)), if_neg (show ¬ nI 6 ≤ nI 2 by decide), bnd_eq]]
  dsimp only
  rw [if_neg (show ¬ nI 1 = 0 by decide), bnd_eq, nI_clamp (show 2 < 2 ^ 31 by decide), if_neg (show ¬ (2 : Nat) = 0 by decide), if_neg (show ¬ (2 : Nat) = 1 by decide), if_pos (show (2 : Nat) = 2 from rfl), bnd_eq, h, nI_clamp (show 64 < 2 ^ 31 by decide), bnd_eq, F_K_seedLength_2]
  dsimp only
  rw [bnd_eq, if_pos (show (64 : Nat) = 64 from rfl), bnd_eq, h5, nI_clamp (show pn < 2 ^ 31 by omega), if_pos hp, bnd_eq, F_K_publicLength_2]
  dsimp only
  rw [bnd_eq, bnd_eq, bnd_eq, F_K_secretLength_2]
  dsimp only
  rw [bnd_eq, bnd_eq, bnd_eq, bnd_eq, bnd_eq, kkeep_eq (pn := pn) (by rw [th_off (by decide)]; exact hm) hp]
theorem mk2_a {tl : Nat} {s : Sto} (h : s.1 148 1 = nI tl) (ht : tl ≤ 16384) (hn : ¬ tl = 64) : F_M_keys (nI 2) s = (nI 0, sI (sI s 148 0 (nI 0)) 148 0 (nI 1)) := by
  have h1 : (sI s 148 0 (nI 0)).1 148 1 = nI tl := by rw [th_off (by decide)]; exact h
  rw [F_M_keys, bnd_eq, if_neg (nI_nneg (by decide)), if_neg (show ¬ nI 5 < nI 2 by decide), bnd_eq, nI_clamp (show 2 < 2 ^ 31 by decide), if_neg (show ¬ (2 : Nat) = 0 by decide), if_neg (show ¬ (2 : Nat) = 1 by decide), if_pos (show (2 : Nat) = 2 from rfl), bnd_eq, h1, nI_clamp (show tl < 2 ^ 31 by omega), if_neg hn, bnd_eq, mfail_eq]
theorem mk2_b {s : Sto} (h : s.1 148 1 = nI 64) (h3 : s.1 148 3 = nI 8) : F_M_keys (nI 2) s = (nI 0, sI (sI s 148 0 (nI 0)) 148 0 (nI 2)) := by
  have h1 : (sI s 148 0 (nI 0)).1 148 1 = nI 64 := by rw [th_off (by decide)]; exact h
  have h2 : (sI s 148 0 (nI 0)).1 148 3 = nI 8 := by rw [th_off (by decide)]; exact h3
  rw [F_M_keys, bnd_eq, if_neg (nI_nneg (by decide)), if_neg (show ¬ nI 5 < nI 2 by decide), bnd_eq, nI_clamp (show 2 < 2 ^ 31 by decide), if_neg (show ¬ (2 : Nat) = 0 by decide), if_neg (show ¬ (2 : Nat) = 1 by decide), if_pos (show (2 : Nat) = 2 from rfl), bnd_eq, h1, nI_clamp (show 64 < 2 ^ 31 by decide), if_pos (show (64 : Nat) = 64 from rfl), bnd_eq, h2, nI_clamp (show 8 < 2 ^ 31 by decide), if_pos (show (8 : Nat) = 8 from rfl), bnd_eq, mfail_eq]
theorem mk2_c {pn : Nat} {s : Sto} (h : s.1 148 1 = nI 64) (h3 : s.1 148 3 = nI pn) (hp : pn < 8) (hm : (F_ME_keys_2 149 16384 (153 + pn) (162 + pn) (sI s 148 0 (nI 0))).1 148 3 = nI pn) : F_M_keys (nI 2) s = (nI pn, sI (sI (sI (sI (F_ME_keys_2 149 16384 (153 + pn) (162 + pn) (sI s 148 0 (nI 0))) 170 pn (nI 2)) 171 pn (nI 3168)) 148 3 (nI (pn + 1))) 148 1 (nI 0)) := by
  have h1 : (sI s 148 0 (nI 0)).1 148 1 = nI 64 := by rw [th_off (by decide)]; exact h
  have h2 : (sI s 148 0 (nI 0)).1 148 3 = nI pn := by rw [th_off (by decide)]; exact h3
  rw [F_M_keys, bnd_eq, if_neg (nI_nneg (by decide)), if_neg (show ¬ nI 5 < nI 2 by decide), bnd_eq, nI_clamp (show 2 < 2 ^ 31 by decide), if_neg (show ¬ (2 : Nat) = 0 by decide), if_neg (show ¬ (2 : Nat) = 1 by decide), if_pos (show (2 : Nat) = 2 from rfl), bnd_eq, h1, nI_clamp (show 64 < 2 ^ 31 by decide), if_pos (show (64 : Nat) = 64 from rfl), bnd_eq, h2, nI_clamp (show pn < 2 ^ 31 by omega), if_neg (show ¬ pn = 8 by omega), bnd_eq, bnd_eq, bnd_eq, bnd_eq, show ∀ w : Sto, F_M_hiddenSize_2 w = (nI 3168, w) from fun w => by rw [F_M_hiddenSize_2, bnd_eq, F_ME_hiddenSize_2, bnd_eq]]
  dsimp only
  rw [bnd_eq, bnd_eq, mmade_eq hm hp]
theorem ek2 {pn : Nat} {s : Sto} (h : s.1 148 1 = nI 64) (h3 : s.1 148 3 = nI pn) (hp : pn < 8) (hE : E_M_keys (nI 2) s) : E_ME_keys_2 149 16384 (153 + pn) (162 + pn) (sI s 148 0 (nI 0)) := by
  have h1 : (sI s 148 0 (nI 0)).1 148 1 = nI 64 := by rw [th_off (by decide)]; exact h
  have h2 : (sI s 148 0 (nI 0)).1 148 3 = nI pn := by rw [th_off (by decide)]; exact h3
  rw [E_M_keys, bnd_eq, if_neg (nI_nneg (by decide)), if_neg (show ¬ nI 5 < nI 2 by decide), bnd_eq, nI_clamp (show 2 < 2 ^ 31 by decide), if_neg (show ¬ (2 : Nat) = 0 by decide), if_neg (show ¬ (2 : Nat) = 1 by decide), if_pos (show (2 : Nat) = 2 from rfl), bnd_eq, h1, nI_clamp (show 64 < 2 ^ 31 by decide), if_pos (show (64 : Nat) = 64 from rfl), bnd_eq, h2, nI_clamp (show pn < 2 ^ 31 by omega), if_neg (show ¬ pn = 8 by omega), bnd_eq, bnd_eq] at hE
  exact hE.1
theorem keys_c2 {tl al pn : Nat} {s : Sto} (h : SAME tl al pn s) (hN : NB s) (hT : NB (F_M_keys (nI 2) (F_K_keys (nI 2) pn s).2.2).2) (hF : frm M_K_keys s (F_K_keys (nI 2) pn s).2.2) (hE : E_M_keys (nI 2) (F_K_keys (nI 2) pn s).2.2) : ALIKE (F_K_keys (nI 2) pn s) (F_M_keys (nI 2)) := by
  obtain ⟨⟨a1, a2, a3⟩, ⟨b1, b2, b3⟩, ⟨c1, c2, c3⟩, d, e, f⟩ := id h
  by_cases ht : tl = 64
  · subst ht
    by_cases hp : pn = 8
    · subst hp
      rw [kk2_b a1 c1]
      exact alike_fail h (mk2_b a2 c2) (by decide)
    · have hp : pn < 8 := by omega
      have z1 : ∀ k, k ≠ 379 + 36 * pn + 7 → k ≠ 379 + 36 * pn + 8 → (sZ (sZ s (379 + 36 * pn + 7)) (379 + 36 * pn + 8)).1 k = s.1 k := fun k u v => by rw [sZ_ne v, sZ_ne u]
      have e1 := kk2_c (pn := pn) a1 c1 hp
      generalize sZ (sZ s (379 + 36 * pn + 7)) (379 + 36 * pn + 8) = sA at z1 e1
      obtain ⟨s1, hs1⟩ : ∃ x, x = (F_K_keys (nI 2) pn s).2.2 := ⟨_, rfl⟩
      rw [← hs1] at hE hF hT
      have f1 : s1.1 148 = s.1 148 := hF 148 (by unfold M_K_keys; omega)
      have f2 : s1.1 149 = s.1 149 := hF 149 (by unfold M_K_keys; omega)
      have hE1 := ek2 (pn := pn) (by rw [f1]; exact a2) (by rw [f1]; exact c2) hp hE
      have f3 : (sI s1 148 0 (nI 0)).1 149 = s.1 149 := by rw [th_ne (by decide)]; exact f2
      obtain ⟨g1, g2, g3, g4⟩ := keys2_same (pch := 1) (n := 16384) (pp := 379 + 36 * pn + 7) (psk := 379 + 36 * pn + 8) (psd := 149) (m := 16384) (pek := 153 + pn) (pdk := 162 + pn) (s := sA) (t := sI s1 148 0 (nI 0)) (by unfold apK; omega) (by unfold apL; omega) (fun j hj => by rw [z1 1 (by omega) (by omega), f3]; exact d j hj) (fun j hj => by rw [f3]; exact hN.1 j (by omega)) hE1
      have fM : ∀ k, (k < 14 ∨ 148 ≤ k) → k ≠ 379 + 36 * pn + 7 → k ≠ 379 + 36 * pn + 8 → (F_KM_makePair_2 1 16384 (379 + 36 * pn + 7) (379 + 36 * pn + 8) sA).1 k = s.1 k := fun k u v w => by rw [g1 k (by show ¬ (_ ∨ _); omega), z1 k v w]
      have e2 := e1 (by rw [fM 0 (by omega) (by omega) (by omega)]; exact c1)
      generalize F_KM_makePair_2 1 16384 (379 + 36 * pn + 7) (379 + 36 * pn + 8) sA = sB_ at g1 g3 g4 fM e2
      have hs : s1 = sI (sI (sI sB_ 0 1 (nI 0)) 3 pn (nI (2 + 1))) 0 5 (nI (pn + 1)) := by rw [hs1, e2]
      rw [e2]
      unfold ALIKE
      dsimp only
      rw [← hs]
      have m3 : (F_ME_keys_2 149 16384 (153 + pn) (162 + pn) (sI s1 148 0 (nI 0))).1 148 3 = nI pn := by rw [g2 148 (by show ¬ (_ ∨ _); omega), th_off (by decide), f1]; exact c2
      have kc := kcopy2 (psd := 149) (m := 16384) (pek := 153 + pn) (pdk := 162 + pn) (t := sI s1 148 0 (nI 0)) (by omega) (by omega) (by omega) (by omega) (by omega)
      have mE := mk2_c (pn := pn) (by rw [f1]; exact a2) (by rw [f1]; exact c2) hp m3
      rw [mE] at hT ⊢
      clear mE
      generalize F_ME_keys_2 149 16384 (153 + pn) (162 + pn) (sI s1 148 0 (nI 0)) = t2 at g2 g3 g4 m3 hT kc
      obtain ⟨k1, k2⟩ := keys_core (c := 2) (st := 2) (hb := 3168) (sB_ := sB_) (t2 := t2) h hp (by decide) (by decide) (by decide) fM (fun k u v w => by rw [← hs]; exact g2 k (by show ¬ (_ ∨ _); omega)) g3 (fun _ => g4) (fun _ x hx => by
          have hx : x < 1568 := hx
          have u := (hT.2.2 pn (by omega)).1 x (by omega)
          dsimp only at u
          rw [th_ne (by omega), th_ne (by omega), th_ne (by omega), th_ne (by omega)] at u
          exact ((kc x hx).trans u).symm)
      exact ⟨⟨0, al, pn + 1, k1⟩, k2, fun _ => rfl⟩
  · rw [kk2_a a1 a3 ht]
    exact alike_fail h (mk2_a a2 a3 ht) (by decide)
theorem kk3_a {pn tl : Nat} {s : Sto} (h : s.1 0 1 = nI tl) (ht : tl ≤ 16384) (hn : ¬ tl = 32) : F_K_keys (nI 3) pn s = (nI 1, nI 0, s) := by
  rw [F_K_keys, bnd_eq, show F_K_isSet (nI 3) s = (nI 1, s) by rw [F_K_isSet, if_neg (nI_nneg (by decide)), if_neg (show ¬ nI 6 ≤ nI 3 by decide), bnd_eq]]
  dsimp only
  rw [if_neg (show ¬ nI 1 = 0 by decide), bnd_eq, nI_clamp (show 3 < 2 ^ 31 by decide), if_neg (show ¬ (3 : Nat) = 0 by decide), if_neg (show ¬ (3 : Nat) = 1 by decide), if_neg (show ¬ (3 : Nat) = 2 by decide), if_pos (show (3 : Nat) = 3 from rfl), bnd_eq, h, nI_clamp (show tl < 2 ^ 31 by omega), bnd_eq, F_K_seedLength_3]
  dsimp only
  rw [bnd_eq, if_neg hn]
theorem kk3_b {pn : Nat} {s : Sto} (h : s.1 0 1 = nI 32) (h5 : s.1 0 5 = nI 8) : F_K_keys (nI 3) pn s = (nI 2, nI 0, s) := by
  rw [F_K_keys, bnd_eq, show F_K_isSet (nI 3) s = (nI 1, s) by rw [F_K_isSet, if_neg (nI_nneg (by decide)), if_neg (show ¬ nI 6 ≤ nI 3 by decide), bnd_eq]]
  dsimp only
  rw [if_neg (show ¬ nI 1 = 0 by decide), bnd_eq, nI_clamp (show 3 < 2 ^ 31 by decide), if_neg (show ¬ (3 : Nat) = 0 by decide), if_neg (show ¬ (3 : Nat) = 1 by decide), if_neg (show ¬ (3 : Nat) = 2 by decide), if_pos (show (3 : Nat) = 3 from rfl), bnd_eq, h, nI_clamp (show 32 < 2 ^ 31 by decide), bnd_eq, F_K_seedLength_3]
  dsimp only
  rw [bnd_eq, if_pos (show (32 : Nat) = 32 from rfl), bnd_eq, h5, nI_clamp (show 8 < 2 ^ 31 by decide), if_neg (show ¬ 8 < 8 by decide)]
theorem kk3_c {pn : Nat} {s : Sto} (h : s.1 0 1 = nI 32) (h5 : s.1 0 5 = nI pn) (hp : pn < 8) (hm : (F_DA_makePair_0 1 16384 (379 + 36 * pn + 10) (379 + 36 * pn + 11) (sZ (sZ s (379 + 36 * pn + 10)) (379 + 36 * pn + 11))).1 0 5 = nI pn) : F_K_keys (nI 3) pn s = (nI 0, nI pn, sI (sI (sI (F_DA_makePair_0 1 16384 (379 + 36 * pn + 10) (379 + 36 * pn + 11) (sZ (sZ s (379 + 36 * pn + 10)) (379 + 36 * pn + 11))) 0 1 (nI 0)) 3 pn (nI (3 + 1))) 0 5 (nI (pn + 1))) := by
  rw [F_K_keys, bnd_eq, show F_K_isSet (nI 3) s = (nI 1, s) by rw [F_K_isSet, if_neg (nI_nneg (by decide)), if_neg (show ¬ nI 6 ≤ nI 3 by decide), bnd_eq]]
  dsimp only
  rw [if_neg (show ¬ nI 1 = 0 by decide), bnd_eq, nI_clamp (show 3 < 2 ^ 31 by decide), if_neg (show ¬ (3 : Nat) = 0 by decide), if_neg (show ¬ (3 : Nat) = 1 by decide), if_neg (show ¬ (3 : Nat) = 2 by decide), if_pos (show (3 : Nat) = 3 from rfl), bnd_eq, h, nI_clamp (show 32 < 2 ^ 31 by decide), bnd_eq, F_K_seedLength_3]
  dsimp only
  rw [bnd_eq, if_pos (show (32 : Nat) = 32 from rfl), bnd_eq, h5, nI_clamp (show pn < 2 ^ 31 by omega), if_pos hp, bnd_eq, F_K_publicLength_3]
  dsimp only
  rw [bnd_eq, bnd_eq, bnd_eq, F_K_secretLength_3]
  dsimp only
  rw [bnd_eq, bnd_eq, bnd_eq, bnd_eq, bnd_eq, kkeep_eq (pn := pn) (by rw [th_off (by decide)]; exact hm) hp]
theorem mk3_a {tl : Nat} {s : Sto} (h : s.1 148 1 = nI tl) (ht : tl ≤ 16384) (hn : ¬ tl = 32) : F_M_keys (nI 3) s = (nI 0, sI (sI s 148 0 (nI 0)) 148 0 (nI 1)) := by
  have h1 : (sI s 148 0 (nI 0)).1 148 1 = nI tl := by rw [th_off (by decide)]; exact h
  rw [F_M_keys, bnd_eq, if_neg (nI_nneg (by decide)), if_neg (show ¬ nI 5 < nI 3 by decide), bnd_eq, nI_clamp (show 3 < 2 ^ 31 by decide), if_neg (show ¬ (3 : Nat) = 0 by decide), if_neg (show ¬ (3 : Nat) = 1 by decide), if_neg (show ¬ (3 : Nat) = 2 by decide), if_pos (show (3 : Nat) = 3 from rfl), bnd_eq, h1, nI_clamp (show tl < 2 ^ 31 by omega), if_neg hn, bnd_eq, mfail_eq]
theorem mk3_b {s : Sto} (h : s.1 148 1 = nI 32) (h3 : s.1 148 3 = nI 8) : F_M_keys (nI 3) s = (nI 0, sI (sI s 148 0 (nI 0)) 148 0 (nI 2)) := by
  have h1 : (sI s 148 0 (nI 0)).1 148 1 = nI 32 := by rw [th_off (by decide)]; exact h
  have h2 : (sI s 148 0 (nI 0)).1 148 3 = nI 8 := by rw [th_off (by decide)]; exact h3
  rw [F_M_keys, bnd_eq, if_neg (nI_nneg (by decide)), if_neg (show ¬ nI 5 < nI 3 by decide), bnd_eq, nI_clamp (show 3 < 2 ^ 31 by decide), if_neg (show ¬ (3 : Nat) = 0 by decide), if_neg (show ¬ (3 : Nat) = 1 by decide), if_neg (show ¬ (3 : Nat) = 2 by decide), if_pos (show (3 : Nat) = 3 from rfl), bnd_eq, h1, nI_clamp (show 32 < 2 ^ 31 by decide), if_pos (show (32 : Nat) = 32 from rfl), bnd_eq, h2, nI_clamp (show 8 < 2 ^ 31 by decide), if_pos (show (8 : Nat) = 8 from rfl), bnd_eq, mfail_eq]
theorem mk3_c {pn : Nat} {s : Sto} (h : s.1 148 1 = nI 32) (h3 : s.1 148 3 = nI pn) (hp : pn < 8) (hm : (F_MH_keys_0 149 16384 (153 + pn) (162 + pn) (sI s 148 0 (nI 0))).1 148 3 = nI pn) : F_M_keys (nI 3) s = (nI pn, sI (sI (sI (sI (F_MH_keys_0 149 16384 (153 + pn) (162 + pn) (sI s 148 0 (nI 0))) 170 pn (nI 3)) 171 pn (nI 2560)) 148 3 (nI (pn + 1))) 148 1 (nI 0)) := by
  have h1 : (sI s 148 0 (nI 0)).1 148 1 = nI 32 := by rw [th_off (by decide)]; exact h
  have h2 : (sI s 148 0 (nI 0)).1 148 3 = nI pn := by rw [th_off (by decide)]; exact h3
  rw [F_M_keys, bnd_eq, if_neg (nI_nneg (by decide)), if_neg (show ¬ nI 5 < nI 3 by decide), bnd_eq, nI_clamp (show 3 < 2 ^ 31 by decide), if_neg (show ¬ (3 : Nat) = 0 by decide), if_neg (show ¬ (3 : Nat) = 1 by decide), if_neg (show ¬ (3 : Nat) = 2 by decide), if_pos (show (3 : Nat) = 3 from rfl), bnd_eq, h1, nI_clamp (show 32 < 2 ^ 31 by decide), if_pos (show (32 : Nat) = 32 from rfl), bnd_eq, h2, nI_clamp (show pn < 2 ^ 31 by omega), if_neg (show ¬ pn = 8 by omega), bnd_eq, bnd_eq, bnd_eq, bnd_eq, show ∀ w : Sto, F_M_hiddenSize_3 w = (nI 2560, w) from fun w => by rw [F_M_hiddenSize_3, bnd_eq, F_MH_hiddenSize_0, bnd_eq]]
  dsimp only
  rw [bnd_eq, bnd_eq, mmade_eq hm hp]
theorem ek3 {pn : Nat} {s : Sto} (h : s.1 148 1 = nI 32) (h3 : s.1 148 3 = nI pn) (hp : pn < 8) (hE : E_M_keys (nI 3) s) : E_MH_keys_0 149 16384 (153 + pn) (162 + pn) (sI s 148 0 (nI 0)) := by
  have h1 : (sI s 148 0 (nI 0)).1 148 1 = nI 32 := by rw [th_off (by decide)]; exact h
  have h2 : (sI s 148 0 (nI 0)).1 148 3 = nI pn := by rw [th_off (by decide)]; exact h3
  rw [E_M_keys, bnd_eq, if_neg (nI_nneg (by decide)), if_neg (show ¬ nI 5 < nI 3 by decide), bnd_eq, nI_clamp (show 3 < 2 ^ 31 by decide), if_neg (show ¬ (3 : Nat) = 0 by decide), if_neg (show ¬ (3 : Nat) = 1 by decide), if_neg (show ¬ (3 : Nat) = 2 by decide), if_pos (show (3 : Nat) = 3 from rfl), bnd_eq, h1, nI_clamp (show 32 < 2 ^ 31 by decide), if_pos (show (32 : Nat) = 32 from rfl), bnd_eq, h2, nI_clamp (show pn < 2 ^ 31 by omega), if_neg (show ¬ pn = 8 by omega), bnd_eq, bnd_eq] at hE
  exact hE.1
theorem keys_c3 {tl al pn : Nat} {s : Sto} (h : SAME tl al pn s) (hN : NB s) (hT : NB (F_M_keys (nI 3) (F_K_keys (nI 3) pn s).2.2).2) (hF : frm M_K_keys s (F_K_keys (nI 3) pn s).2.2) (hE : E_M_keys (nI 3) (F_K_keys (nI 3) pn s).2.2) : ALIKE (F_K_keys (nI 3) pn s) (F_M_keys (nI 3)) := by
  obtain ⟨⟨a1, a2, a3⟩, ⟨b1, b2, b3⟩, ⟨c1, c2, c3⟩, d, e, f⟩ := id h
  by_cases ht : tl = 32
  · subst ht
    by_cases hp : pn = 8
    · subst hp
      rw [kk3_b a1 c1]
      exact alike_fail h (mk3_b a2 c2) (by decide)
    · have hp : pn < 8 := by omega
      have z1 : ∀ k, k ≠ 379 + 36 * pn + 10 → k ≠ 379 + 36 * pn + 11 → (sZ (sZ s (379 + 36 * pn + 10)) (379 + 36 * pn + 11)).1 k = s.1 k := fun k u v => by rw [sZ_ne v, sZ_ne u]
      have e1 := kk3_c (pn := pn) a1 c1 hp
      generalize sZ (sZ s (379 + 36 * pn + 10)) (379 + 36 * pn + 11) = sA at z1 e1
      obtain ⟨s1, hs1⟩ : ∃ x, x = (F_K_keys (nI 3) pn s).2.2 := ⟨_, rfl⟩
      rw [← hs1] at hE hF hT
      have f1 : s1.1 148 = s.1 148 := hF 148 (by unfold M_K_keys; omega)
      have f2 : s1.1 149 = s.1 149 := hF 149 (by unfold M_K_keys; omega)
      have hE1 := ek3 (pn := pn) (by rw [f1]; exact a2) (by rw [f1]; exact c2) hp hE
      have f3 : (sI s1 148 0 (nI 0)).1 149 = s.1 149 := by rw [th_ne (by decide)]; exact f2
      obtain ⟨g1, g2, g3, g4⟩ := dkeys0_same (pch := 1) (n := 16384) (pp := 379 + 36 * pn + 10) (psk := 379 + 36 * pn + 11) (psd := 149) (m := 16384) (pek := 153 + pn) (pdk := 162 + pn) (s := sA) (t := sI s1 148 0 (nI 0)) (by unfold apK8; omega) (by unfold apL8; omega) (fun j hj => by rw [z1 1 (by omega) (by omega), f3]; exact d j hj) hE1
      have fM : ∀ k, (k < 14 ∨ 148 ≤ k) → k ≠ 379 + 36 * pn + 10 → k ≠ 379 + 36 * pn + 11 → (F_DA_makePair_0 1 16384 (379 + 36 * pn + 10) (379 + 36 * pn + 11) sA).1 k = s.1 k := fun k u v w => by rw [g1 k (by show ¬ (_ ∨ _); omega), z1 k v w]
      have e2 := e1 (by rw [fM 0 (by omega) (by omega) (by omega)]; exact c1)
      generalize F_DA_makePair_0 1 16384 (379 + 36 * pn + 10) (379 + 36 * pn + 11) sA = sB_ at g1 g3 g4 fM e2
      have hs : s1 = sI (sI (sI sB_ 0 1 (nI 0)) 3 pn (nI (3 + 1))) 0 5 (nI (pn + 1)) := by rw [hs1, e2]
      rw [e2]
      unfold ALIKE
      dsimp only
      rw [← hs]
      have m3 : (F_MH_keys_0 149 16384 (153 + pn) (162 + pn) (sI s1 148 0 (nI 0))).1 148 3 = nI pn := by rw [g2 148 (by show ¬ (_ ∨ _); omega), th_off (by decide), f1]; exact c2
      have mE := mk3_c (pn := pn) (by rw [f1]; exact a2) (by rw [f1]; exact c2) hp m3
      rw [mE] at hT ⊢
      clear mE
      generalize F_MH_keys_0 149 16384 (153 + pn) (162 + pn) (sI s1 148 0 (nI 0)) = t2 at g2 g3 g4 m3 hT
      obtain ⟨k1, k2⟩ := keys_core (c := 3) (st := 3) (hb := 2560) (sB_ := sB_) (t2 := t2) h hp (by decide) (by decide) (by decide) fM (fun k u v w => by rw [← hs]; exact g2 k (by show ¬ (_ ∨ _); omega)) g3 (fun _ => g4) (fun q => absurd q (by decide))
      exact ⟨⟨0, al, pn + 1, k1⟩, k2, fun _ => rfl⟩
  · rw [kk3_a a1 a3 ht]
    exact alike_fail h (mk3_a a2 a3 ht) (by decide)
theorem kk4_a {pn tl : Nat} {s : Sto} (h : s.1 0 1 = nI tl) (ht : tl ≤ 16384) (hn : ¬ tl = 32) : F_K_keys (nI 4) pn s = (nI 1, nI 0, s) := by
  rw [F_K_keys, bnd_eq, show F_K_isSet (nI 4) s = (nI 1, s) by rw [F_K_isSet, if_neg (nI_nneg (by decide)), if_neg (show ¬ nI 6 ≤ nI 4 by decide), bnd_eq]]
  dsimp only
  rw [if_neg (show ¬ nI 1 = 0 by decide), bnd_eq, nI_clamp (show 4 < 2 ^ 31 by decide), if_neg (show ¬ (4 : Nat) = 0 by decide), if_neg (show ¬ (4 : Nat) = 1 by decide), if_neg (show ¬ (4 : Nat) = 2 by decide), if_neg (show ¬ (4 : Nat) = 3 by decide), if_pos (show (4 : Nat) = 4 from rfl), bnd_eq, h, nI_clamp (show tl < 2 ^ 31 by omega), bnd_eq, F_K_seedLength_4]
  dsimp only
  rw [bnd_eq, if_neg hn]
theorem kk4_b {pn : Nat} {s : Sto} (h : s.1 0 1 = nI 32) (h5 : s.1 0 5 = nI 8) : F_K_keys (nI 4) pn s = (nI 2, nI 0, s) := by
  rw [F_K_keys, bnd_eq, show F_K_isSet (nI 4) s = (nI 1, s) by rw [F_K_isSet, if_neg (nI_nneg (by decide)), if_neg (show ¬ nI 6 ≤ nI 4 by decide), bnd_eq]]
  dsimp only
  rw [if_neg (show ¬ nI 1 = 0 by decide), bnd_eq, nI_clamp (show 4 < 2 ^ 31 by decide), if_neg (show ¬ (4 : Nat) = 0 by decide), if_neg (show ¬ (4 : Nat) = 1 by decide), if_neg (show ¬ (4 : Nat) = 2 by decide), if_neg (show ¬ (4 : Nat) = 3 by decide), if_pos (show (4 : Nat) = 4 from rfl), bnd_eq, h, nI_clamp (show 32 < 2 ^ 31 by decide), bnd_eq, F_K_seedLength_4]
  dsimp only
  rw [bnd_eq, if_pos (show (32 : Nat) = 32 from rfl), bnd_eq, h5, nI_clamp (show 8 < 2 ^ 31 by decide), if_neg (show ¬ 8 < 8 by decide)]
theorem kk4_c {pn : Nat} {s : Sto} (h : s.1 0 1 = nI 32) (h5 : s.1 0 5 = nI pn) (hp : pn < 8) (hm : (F_DA_makePair_1 1 16384 (379 + 36 * pn + 13) (379 + 36 * pn + 14) (sZ (sZ s (379 + 36 * pn + 13)) (379 + 36 * pn + 14))).1 0 5 = nI pn) : F_K_keys (nI 4) pn s = (nI 0, nI pn, sI (sI (sI (F_DA_makePair_1 1 16384 (379 + 36 * pn + 13) (379 + 36 * pn + 14) (sZ (sZ s (379 + 36 * pn + 13)) (379 + 36 * pn + 14))) 0 1 (nI 0)) 3 pn (nI (4 + 1))) 0 5 (nI (pn + 1))) := by
  rw [F_K_keys, bnd_eq, show F_K_isSet (nI 4) s = (nI 1, s) by rw [F_K_isSet, if_neg (nI_nneg (by decide)), if_neg (show ¬ nI 6 ≤ nI 4 by decide), bnd_eq]]
  dsimp only
  rw [if_neg (show ¬ nI 1 = 0 by decide), bnd_eq, nI_clamp (show 4 < 2 ^ 31 by decide), if_neg (show ¬ (4 : Nat) = 0 by decide), if_neg (show ¬ (4 : Nat) = 1 by decide), if_neg (show ¬ (4 : Nat) = 2 by decide), if_neg (show ¬ (4 : Nat) = 3 by decide), if_pos (show (4 : Nat) = 4 from rfl), bnd_eq, h, nI_clamp (show 32 < 2 ^ 31 by decide), bnd_eq, F_K_seedLength_4]
  dsimp only
  rw [bnd_eq, if_pos (show (32 : Nat) = 32 from rfl), bnd_eq, h5, nI_clamp (show pn < 2 ^ 31 by omega), if_pos hp, bnd_eq, F_K_publicLength_4]
  dsimp only
  rw [bnd_eq, bnd_eq, bnd_eq, F_K_secretLength_4]
  dsimp only
  rw [bnd_eq, bnd_eq, bnd_eq, bnd_eq, bnd_eq, kkeep_eq (pn := pn) (by rw [th_off (by decide)]; exact hm) hp]
theorem mk4_a {tl : Nat} {s : Sto} (h : s.1 148 1 = nI tl) (ht : tl ≤ 16384) (hn : ¬ tl = 32) : F_M_keys (nI 4) s = (nI 0, sI (sI s 148 0 (nI 0)) 148 0 (nI 1)) := by
  have h1 : (sI s 148 0 (nI 0)).1 148 1 = nI tl := by rw [th_off (by decide)]; exact h
  rw [F_M_keys, bnd_eq, if_neg (nI_nneg (by decide)), if_neg (show ¬ nI 5 < nI 4 by decide), bnd_eq, nI_clamp (show 4 < 2 ^ 31 by decide), if_neg (show ¬ (4 : Nat) = 0 by decide), if_neg (show ¬ (4 : Nat) = 1 by decide), if_neg (show ¬ (4 : Nat) = 2 by decide), if_neg (show ¬ (4 : Nat) = 3 by decide), if_pos (show (4 : Nat) = 4 from rfl), bnd_eq, h1, nI_clamp (show tl < 2 ^ 31 by omega), if_neg hn, bnd_eq, mfail_eq]
theorem mk4_b {s : Sto} (h : s.1 148 1 = nI 32) (h3 : s.1 148 3 = nI 8) : F_M_keys (nI 4) s = (nI 0, sI (sI s 148 0 (nI 0)) 148 0 (nI 2)) := by
  have h1 : (sI s 148 0 (nI 0)).1 148 1 = nI 32 := by rw [th_off (by decide)]; exact h
  have h2 : (sI s 148 0 (nI 0)).1 148 3 = nI 8 := by rw [th_off (by decide)]; exact h3
  rw [F_M_keys, bnd_eq, if_neg (nI_nneg (by decide)), if_neg (show ¬ nI 5 < nI 4 by decide), bnd_eq, nI_clamp (show 4 < 2 ^ 31 by decide), if_neg (show ¬ (4 : Nat) = 0 by decide), if_neg (show ¬ (4 : Nat) = 1 by decide), if_neg (show ¬ (4 : Nat) = 2 by decide), if_neg (show ¬ (4 : Nat) = 3 by decide), if_pos (show (4 : Nat) = 4 from rfl), bnd_eq, h1, nI_clamp (show 32 < 2 ^ 31 by decide), if_pos (show (32 : Nat) = 32 from rfl), bnd_eq, h2, nI_clamp (show 8 < 2 ^ 31 by decide), if_pos (show (8 : Nat) = 8 from rfl), bnd_eq, mfail_eq]
theorem mk4_c {pn : Nat} {s : Sto} (h : s.1 148 1 = nI 32) (h3 : s.1 148 3 = nI pn) (hp : pn < 8) (hm : (F_MH_keys_1 149 16384 (153 + pn) (162 + pn) (sI s 148 0 (nI 0))).1 148 3 = nI pn) : F_M_keys (nI 4) s = (nI pn, sI (sI (sI (sI (F_MH_keys_1 149 16384 (153 + pn) (162 + pn) (sI s 148 0 (nI 0))) 170 pn (nI 4)) 171 pn (nI 4032)) 148 3 (nI (pn + 1))) 148 1 (nI 0)) := by
  have h1 : (sI s 148 0 (nI 0)).1 148 1 = nI 32 := by rw [th_off (by decide)]; exact h
  have h2 : (sI s 148 0 (nI 0)).1 148 3 = nI pn := by rw [th_off (by decide)]; exact h3
  rw [F_M_keys, bnd_eq, if_neg (nI_nneg (by decide)), if_neg (show ¬ nI 5 < nI 4 by decide), bnd_eq, nI_clamp (show 4 < 2 ^ 31 by decide), if_neg (show ¬ (4 : Nat) = 0 by decide), if_neg (show ¬ (4 : Nat) = 1 by decide), if_neg (show ¬ (4 : Nat) = 2 by decide), if_neg (show ¬ (4 : Nat) = 3 by decide), if_pos (show (4 : Nat) = 4 from rfl), bnd_eq, h1, nI_clamp (show 32 < 2 ^ 31 by decide), if_pos (show (32 : Nat) = 32 from rfl), bnd_eq, h2, nI_clamp (show pn < 2 ^ 31 by omega), if_neg (show ¬ pn = 8 by omega), bnd_eq, bnd_eq, bnd_eq, bnd_eq, show ∀ w : Sto, F_M_hiddenSize_4 w = (nI 4032, w) from fun w => by rw [F_M_hiddenSize_4, bnd_eq, F_MH_hiddenSize_1, bnd_eq]]
  dsimp only
  rw [bnd_eq, bnd_eq, mmade_eq hm hp]
theorem ek4 {pn : Nat} {s : Sto} (h : s.1 148 1 = nI 32) (h3 : s.1 148 3 = nI pn) (hp : pn < 8) (hE : E_M_keys (nI 4) s) : E_MH_keys_1 149 16384 (153 + pn) (162 + pn) (sI s 148 0 (nI 0)) := by
  have h1 : (sI s 148 0 (nI 0)).1 148 1 = nI 32 := by rw [th_off (by decide)]; exact h
  have h2 : (sI s 148 0 (nI 0)).1 148 3 = nI pn := by rw [th_off (by decide)]; exact h3
  rw [E_M_keys, bnd_eq, if_neg (nI_nneg (by decide)), if_neg (show ¬ nI 5 < nI 4 by decide), bnd_eq, nI_clamp (show 4 < 2 ^ 31 by decide), if_neg (show ¬ (4 : Nat) = 0 by decide), if_neg (show ¬ (4 : Nat) = 1 by decide), if_neg (show ¬ (4 : Nat) = 2 by decide), if_neg (show ¬ (4 : Nat) = 3 by decide), if_pos (show (4 : Nat) = 4 from rfl), bnd_eq, h1, nI_clamp (show 32 < 2 ^ 31 by decide), if_pos (show (32 : Nat) = 32 from rfl), bnd_eq, h2, nI_clamp (show pn < 2 ^ 31 by omega), if_neg (show ¬ pn = 8 by omega), bnd_eq, bnd_eq] at hE
  exact hE.1
theorem keys_c4 {tl al pn : Nat} {s : Sto} (h : SAME tl al pn s) (hN : NB s) (hT : NB (F_M_keys (nI 4) (F_K_keys (nI 4) pn s).2.2).2) (hF : frm M_K_keys s (F_K_keys (nI 4) pn s).2.2) (hE : E_M_keys (nI 4) (F_K_keys (nI 4) pn s).2.2) : ALIKE (F_K_keys (nI 4) pn s) (F_M_keys (nI 4)) := by
  obtain ⟨⟨a1, a2, a3⟩, ⟨b1, b2, b3⟩, ⟨c1, c2, c3⟩, d, e, f⟩ := id h
  by_cases ht : tl = 32
  · subst ht
    by_cases hp : pn = 8
    · subst hp
      rw [kk4_b a1 c1]
      exact alike_fail h (mk4_b a2 c2) (by decide)
    · have hp : pn < 8 := by omega
      have z1 : ∀ k, k ≠ 379 + 36 * pn + 13 → k ≠ 379 + 36 * pn + 14 → (sZ (sZ s (379 + 36 * pn + 13)) (379 + 36 * pn + 14)).1 k = s.1 k := fun k u v => by rw [sZ_ne v, sZ_ne u]
      have e1 := kk4_c (pn := pn) a1 c1 hp
      generalize sZ (sZ s (379 + 36 * pn + 13)) (379 + 36 * pn + 14) = sA at z1 e1
      obtain ⟨s1, hs1⟩ : ∃ x, x = (F_K_keys (nI 4) pn s).2.2 := ⟨_, rfl⟩
      rw [← hs1] at hE hF hT
      have f1 : s1.1 148 = s.1 148 := hF 148 (by unfold M_K_keys; omega)
      have f2 : s1.1 149 = s.1 149 := hF 149 (by unfold M_K_keys; omega)
      have hE1 := ek4 (pn := pn) (by rw [f1]; exact a2) (by rw [f1]; exact c2) hp hE
      have f3 : (sI s1 148 0 (nI 0)).1 149 = s.1 149 := by rw [th_ne (by decide)]; exact f2
      obtain ⟨g1, g2, g3, g4⟩ := dkeys1_same (pch := 1) (n := 16384) (pp := 379 + 36 * pn + 13) (psk := 379 + 36 * pn + 14) (psd := 149) (m := 16384) (pek := 153 + pn) (pdk := 162 + pn) (s := sA) (t := sI s1 148 0 (nI 0)) (by unfold apK8; omega) (by unfold apL8; omega) (fun j hj => by rw [z1 1 (by omega) (by omega), f3]; exact d j hj) hE1
      have fM : ∀ k, (k < 14 ∨ 148 ≤ k) → k ≠ 379 + 36 * pn + 13 → k ≠ 379 + 36 * pn + 14 → (F_DA_makePair_1 1 16384 (379 + 36 * pn + 13) (379 + 36 * pn + 14) sA).1 k = s.1 k := fun k u v w => by rw [g1 k (by show ¬ (_ ∨ _); omega), z1 k v w]
      have e2 := e1 (by rw [fM 0 (by omega) (by omega) (by omega)]; exact c1)
      generalize F_DA_makePair_1 1 16384 (379 + 36 * pn + 13) (379 + 36 * pn + 14) sA = sB_ at g1 g3 g4 fM e2
      have hs : s1 = sI (sI (sI sB_ 0 1 (nI 0)) 3 pn (nI (4 + 1))) 0 5 (nI (pn + 1)) := by rw [hs1, e2]
      rw [e2]
      unfold ALIKE
      dsimp only
      rw [← hs]
      have m3 : (F_MH_keys_1 149 16384 (153 + pn) (162 + pn) (sI s1 148 0 (nI 0))).1 148 3 = nI pn := by rw [g2 148 (by show ¬ (_ ∨ _); omega), th_off (by decide), f1]; exact c2
      have mE := mk4_c (pn := pn) (by rw [f1]; exact a2) (by rw [f1]; exact c2) hp m3
      rw [mE] at hT ⊢
      clear mE
      generalize F_MH_keys_1 149 16384 (153 + pn) (162 + pn) (sI s1 148 0 (nI 0)) = t2 at g2 g3 g4 m3 hT
      obtain ⟨k1, k2⟩ := keys_core (c := 4) (st := 4) (hb := 4032) (sB_ := sB_) (t2 := t2) h hp (by decide) (by decide) (by decide) fM (fun k u v w => by rw [← hs]; exact g2 k (by show ¬ (_ ∨ _); omega)) g3 (fun _ => g4) (fun q => absurd q (by decide))
      exact ⟨⟨0, al, pn + 1, k1⟩, k2, fun _ => rfl⟩
  · rw [kk4_a a1 a3 ht]
    exact alike_fail h (mk4_a a2 a3 ht) (by decide)
theorem kk5_a {pn tl : Nat} {s : Sto} (h : s.1 0 1 = nI tl) (ht : tl ≤ 16384) (hn : ¬ tl = 32) : F_K_keys (nI 5) pn s = (nI 1, nI 0, s) := by
  rw [F_K_keys, bnd_eq, show F_K_isSet (nI 5) s = (nI 1, s) by rw [F_K_isSet, if_neg (nI_nneg (by decide)), if_neg (show ¬ nI 6 ≤ nI 5 by decide), bnd_eq]]
  dsimp only
  rw [if_neg (show ¬ nI 1 = 0 by decide), bnd_eq, nI_clamp (show 5 < 2 ^ 31 by decide), if_neg (show ¬ (5 : Nat) = 0 by decide), if_neg (show ¬ (5 : Nat) = 1 by decide), if_neg (show ¬ (5 : Nat) = 2 by decide), if_neg (show ¬ (5 : Nat) = 3 by decide), if_neg (show ¬ (5 : Nat) = 4 by decide), bnd_eq, h, nI_clamp (show tl < 2 ^ 31 by omega), bnd_eq, F_K_seedLength_5]
  dsimp only
  rw [bnd_eq, if_neg hn]
theorem kk5_b {pn : Nat} {s : Sto} (h : s.1 0 1 = nI 32) (h5 : s.1 0 5 = nI 8) : F_K_keys (nI 5) pn s = (nI 2, nI 0, s) := by
  rw [F_K_keys, bnd_eq, show F_K_isSet (nI 5) s = (nI 1, s) by rw [F_K_isSet, if_neg (nI_nneg (by decide)), if_neg (show ¬ nI 6 ≤ nI 5 by decide), bnd_eq]]
  dsimp only
  rw [if_neg (show ¬ nI 1 = 0 by decide), bnd_eq, nI_clamp (show 5 < 2 ^ 31 by decide), if_neg (show ¬ (5 : Nat) = 0 by decide), if_neg (show ¬ (5 : Nat) = 1 by decide), if_neg (show ¬ (5 : Nat) = 2 by decide), if_neg (show ¬ (5 : Nat) = 3 by decide), if_neg (show ¬ (5 : Nat) = 4 by decide), bnd_eq, h, nI_clamp (show 32 < 2 ^ 31 by decide), bnd_eq, F_K_seedLength_5]
  dsimp only
  rw [bnd_eq, if_pos (show (32 : Nat) = 32 from rfl), bnd_eq, h5, nI_clamp (show 8 < 2 ^ 31 by decide), if_neg (show ¬ 8 < 8 by decide)]
theorem kk5_c {pn : Nat} {s : Sto} (h : s.1 0 1 = nI 32) (h5 : s.1 0 5 = nI pn) (hp : pn < 8) (hm : (F_DA_makePair_2 1 16384 (379 + 36 * pn + 16) (379 + 36 * pn + 17) (sZ (sZ s (379 + 36 * pn + 16)) (379 + 36 * pn + 17))).1 0 5 = nI pn) : F_K_keys (nI 5) pn s = (nI 0, nI pn, sI (sI (sI (F_DA_makePair_2 1 16384 (379 + 36 * pn + 16) (379 + 36 * pn + 17) (sZ (sZ s (379 + 36 * pn + 16)) (379 + 36 * pn + 17))) 0 1 (nI 0)) 3 pn (nI (5 + 1))) 0 5 (nI (pn + 1))) := by
  rw [F_K_keys, bnd_eq, show F_K_isSet (nI 5) s = (nI 1, s) by rw [F_K_isSet, if_neg (nI_nneg (by decide)), if_neg (show ¬ nI 6 ≤ nI 5 by decide), bnd_eq]]
  dsimp only
  rw [if_neg (show ¬ nI 1 = 0 by decide), bnd_eq, nI_clamp (show 5 < 2 ^ 31 by decide), if_neg (show ¬ (5 : Nat) = 0 by decide), if_neg (show ¬ (5 : Nat) = 1 by decide), if_neg (show ¬ (5 : Nat) = 2 by decide), if_neg (show ¬ (5 : Nat) = 3 by decide), if_neg (show ¬ (5 : Nat) = 4 by decide), bnd_eq, h, nI_clamp (show 32 < 2 ^ 31 by decide), bnd_eq, F_K_seedLength_5]
  dsimp only
  rw [bnd_eq, if_pos (show (32 : Nat) = 32 from rfl), bnd_eq, h5, nI_clamp (show pn < 2 ^ 31 by omega), if_pos hp, bnd_eq, F_K_publicLength_5]
  dsimp only
  rw [bnd_eq, bnd_eq, bnd_eq, F_K_secretLength_5]
  dsimp only
  rw [bnd_eq, bnd_eq, bnd_eq, bnd_eq, bnd_eq, kkeep_eq (pn := pn) (by rw [th_off (by decide)]; exact hm) hp]
theorem mk5_a {tl : Nat} {s : Sto} (h : s.1 148 1 = nI tl) (ht : tl ≤ 16384) (hn : ¬ tl = 32) : F_M_keys (nI 5) s = (nI 0, sI (sI s 148 0 (nI 0)) 148 0 (nI 1)) := by
  have h1 : (sI s 148 0 (nI 0)).1 148 1 = nI tl := by rw [th_off (by decide)]; exact h
  rw [F_M_keys, bnd_eq, if_neg (nI_nneg (by decide)), if_neg (show ¬ nI 5 < nI 5 by decide), bnd_eq, nI_clamp (show 5 < 2 ^ 31 by decide), if_neg (show ¬ (5 : Nat) = 0 by decide), if_neg (show ¬ (5 : Nat) = 1 by decide), if_neg (show ¬ (5 : Nat) = 2 by decide), if_neg (show ¬ (5 : Nat) = 3 by decide), if_neg (show ¬ (5 : Nat) = 4 by decide), bnd_eq, h1, nI_clamp (show tl < 2 ^ 31 by omega), if_neg hn, bnd_eq, mfail_eq]
theorem mk5_b {s : Sto} (h : s.1 148 1 = nI 32) (h3 : s.1 148 3 = nI 8) : F_M_keys (nI 5) s = (nI 0, sI (sI s 148 0 (nI 0)) 148 0 (nI 2)) := by
  have h1 : (sI s 148 0 (nI 0)).1 148 1 = nI 32 := by rw [th_off (by decide)]; exact h
  have h2 : (sI s 148 0 (nI 0)).1 148 3 = nI 8 := by rw [th_off (by decide)]; exact h3
  rw [F_M_keys, bnd_eq, if_neg (nI_nneg (by decide)), if_neg (show ¬ nI 5 < nI 5 by decide), bnd_eq, nI_clamp (show 5 < 2 ^ 31 by decide), if_neg (show ¬ (5 : Nat) = 0 by decide), if_neg (show ¬ (5 : Nat) = 1 by decide), if_neg (show ¬ (5 : Nat) = 2 by decide), if_neg (show ¬ (5 : Nat) = 3 by decide), if_neg (show ¬ (5 : Nat) = 4 by decide), bnd_eq, h1, nI_clamp (show 32 < 2 ^ 31 by decide), if_pos (show (32 : Nat) = 32 from rfl), bnd_eq, h2, nI_clamp (show 8 < 2 ^ 31 by decide), if_pos (show (8 : Nat) = 8 from rfl), bnd_eq, mfail_eq]
theorem mk5_c {pn : Nat} {s : Sto} (h : s.1 148 1 = nI 32) (h3 : s.1 148 3 = nI pn) (hp : pn < 8) (hm : (F_MH_keys_2 149 16384 (153 + pn) (162 + pn) (sI s 148 0 (nI 0))).1 148 3 = nI pn) : F_M_keys (nI 5) s = (nI pn, sI (sI (sI (sI (F_MH_keys_2 149 16384 (153 + pn) (162 + pn) (sI s 148 0 (nI 0))) 170 pn (nI 5)) 171 pn (nI 4896)) 148 3 (nI (pn + 1))) 148 1 (nI 0)) := by
  have h1 : (sI s 148 0 (nI 0)).1 148 1 = nI 32 := by rw [th_off (by decide)]; exact h
  have h2 : (sI s 148 0 (nI 0)).1 148 3 = nI pn := by rw [th_off (by decide)]; exact h3
  rw [F_M_keys, bnd_eq, if_neg (nI_nneg (by decide)), if_neg (show ¬ nI 5 < nI 5 by decide), bnd_eq, nI_clamp (show 5 < 2 ^ 31 by decide), if_neg (show ¬ (5 : Nat) = 0 by decide), if_neg (show ¬ (5 : Nat) = 1 by decide), if_neg (show ¬ (5 : Nat) = 2 by decide), if_neg (show ¬ (5 : Nat) = 3 by decide), if_neg (show ¬ (5 : Nat) = 4 by decide), bnd_eq, h1, nI_clamp (show 32 < 2 ^ 31 by decide), if_pos (show (32 : Nat) = 32 from rfl), bnd_eq, h2, nI_clamp (show pn < 2 ^ 31 by omega), if_neg (show ¬ pn = 8 by omega), bnd_eq, bnd_eq, bnd_eq, bnd_eq, show ∀ w : Sto, F_M_hiddenSize_5 w = (nI 4896, w) from fun w => by rw [F_M_hiddenSize_5, bnd_eq, F_MH_hiddenSize_2, bnd_eq]]
  dsimp only
  rw [bnd_eq, bnd_eq, mmade_eq hm hp]
theorem ek5 {pn : Nat} {s : Sto} (h : s.1 148 1 = nI 32) (h3 : s.1 148 3 = nI pn) (hp : pn < 8) (hE : E_M_keys (nI 5) s) : E_MH_keys_2 149 16384 (153 + pn) (162 + pn) (sI s 148 0 (nI 0)) := by
  have h1 : (sI s 148 0 (nI 0)).1 148 1 = nI 32 := by rw [th_off (by decide)]; exact h
  have h2 : (sI s 148 0 (nI 0)).1 148 3 = nI pn := by rw [th_off (by decide)]; exact h3
  rw [E_M_keys, bnd_eq, if_neg (nI_nneg (by decide)), if_neg (show ¬ nI 5 < nI 5 by decide), bnd_eq, nI_clamp (show 5 < 2 ^ 31 by decide), if_neg (show ¬ (5 : Nat) = 0 by decide), if_neg (show ¬ (5 : Nat) = 1 by decide), if_neg (show ¬ (5 : Nat) = 2 by decide), if_neg (show ¬ (5 : Nat) = 3 by decide), if_neg (show ¬ (5 : Nat) = 4 by decide), bnd_eq, h1, nI_clamp (show 32 < 2 ^ 31 by decide), if_pos (show (32 : Nat) = 32 from rfl), bnd_eq, h2, nI_clamp (show pn < 2 ^ 31 by omega), if_neg (show ¬ pn = 8 by omega), bnd_eq, bnd_eq] at hE
  exact hE.1
theorem keys_c5 {tl al pn : Nat} {s : Sto} (h : SAME tl al pn s) (hN : NB s) (hT : NB (F_M_keys (nI 5) (F_K_keys (nI 5) pn s).2.2).2) (hF : frm M_K_keys s (F_K_keys (nI 5) pn s).2.2) (hE : E_M_keys (nI 5) (F_K_keys (nI 5) pn s).2.2) : ALIKE (F_K_keys (nI 5) pn s) (F_M_keys (nI 5)) := by
  obtain ⟨⟨a1, a2, a3⟩, ⟨b1, b2, b3⟩, ⟨c1, c2, c3⟩, d, e, f⟩ := id h
  by_cases ht : tl = 32
  · subst ht
    by_cases hp : pn = 8
    · subst hp
      rw [kk5_b a1 c1]
      exact alike_fail h (mk5_b a2 c2) (by decide)
    · have hp : pn < 8 := by omega
      have z1 : ∀ k, k ≠ 379 + 36 * pn + 16 → k ≠ 379 + 36 * pn + 17 → (sZ (sZ s (379 + 36 * pn + 16)) (379 + 36 * pn + 17)).1 k = s.1 k := fun k u v => by rw [sZ_ne v, sZ_ne u]
      have e1 := kk5_c (pn := pn) a1 c1 hp
      generalize sZ (sZ s (379 + 36 * pn + 16)) (379 + 36 * pn + 17) = sA at z1 e1
      obtain ⟨s1, hs1⟩ : ∃ x, x = (F_K_keys (nI 5) pn s).2.2 := ⟨_, rfl⟩
      rw [← hs1] at hE hF hT
      have f1 : s1.1 148 = s.1 148 := hF 148 (by unfold M_K_keys; omega)
      have f2 : s1.1 149 = s.1 149 := hF 149 (by unfold M_K_keys; omega)
      have hE1 := ek5 (pn := pn) (by rw [f1]; exact a2) (by rw [f1]; exact c2) hp hE
      have f3 : (sI s1 148 0 (nI 0)).1 149 = s.1 149 := by rw [th_ne (by decide)]; exact f2
      obtain ⟨g1, g2, g3, g4⟩ := dkeys2_same (pch := 1) (n := 16384) (pp := 379 + 36 * pn + 16) (psk := 379 + 36 * pn + 17) (psd := 149) (m := 16384) (pek := 153 + pn) (pdk := 162 + pn) (s := sA) (t := sI s1 148 0 (nI 0)) (by unfold apK8; omega) (by unfold apL8; omega) (fun j hj => by rw [z1 1 (by omega) (by omega), f3]; exact d j hj) hE1
      have fM : ∀ k, (k < 14 ∨ 148 ≤ k) → k ≠ 379 + 36 * pn + 16 → k ≠ 379 + 36 * pn + 17 → (F_DA_makePair_2 1 16384 (379 + 36 * pn + 16) (379 + 36 * pn + 17) sA).1 k = s.1 k := fun k u v w => by rw [g1 k (by show ¬ (_ ∨ _); omega), z1 k v w]
      have e2 := e1 (by rw [fM 0 (by omega) (by omega) (by omega)]; exact c1)
      generalize F_DA_makePair_2 1 16384 (379 + 36 * pn + 16) (379 + 36 * pn + 17) sA = sB_ at g1 g3 g4 fM e2
      have hs : s1 = sI (sI (sI sB_ 0 1 (nI 0)) 3 pn (nI (5 + 1))) 0 5 (nI (pn + 1)) := by rw [hs1, e2]
      rw [e2]
      unfold ALIKE
      dsimp only
      rw [← hs]
      have m3 : (F_MH_keys_2 149 16384 (153 + pn) (162 + pn) (sI s1 148 0 (nI 0))).1 148 3 = nI pn := by rw [g2 148 (by show ¬ (_ ∨ _); omega), th_off (by decide), f1]; exact c2
      have mE := mk5_c (pn := pn) (by rw [f1]; exact a2) (by rw [f1]; exact c2) hp m3
      rw [mE] at hT ⊢
      clear mE
      generalize F_MH_keys_2 149 16384 (153 + pn) (162 + pn) (sI s1 148 0 (nI 0)) = t2 at g2 g3 g4 m3 hT
      obtain ⟨k1, k2⟩ := keys_core (c := 5) (st := 5) (hb := 4896) (sB_ := sB_) (t2 := t2) h hp (by decide) (by decide) (by decide) fM (fun k u v w => by rw [← hs]; exact g2 k (by show ¬ (_ ∨ _); omega)) g3 (fun _ => g4) (fun q => absurd q (by decide))
      exact ⟨⟨0, al, pn + 1, k1⟩, k2, fun _ => rfl⟩
  · rw [kk5_a a1 a3 ht]
    exact alike_fail h (mk5_a a2 a3 ht) (by decide)
theorem keys_alike {tl al pn : Nat} {v : Int32} {s : Sto} (h : SAME tl al pn s) (hN : NB s) (hT : NB (F_M_keys v (F_K_keys v pn s).2.2).2) (hF : frm M_K_keys s (F_K_keys v pn s).2.2) (hE : E_M_keys v (F_K_keys v pn s).2.2) : ALIKE (F_K_keys v pn s) (F_M_keys v) := by
  by_cases hv : v < 0 ∨ nI 5 < v
  · have k1 : F_K_keys v pn s = (nI 1, nI 0, s) := by
      have hi : F_K_isSet v s = (nI 0, s) := by
        rw [F_K_isSet]
        by_cases q : v < 0
        · rw [if_pos q]
        · have h5 := hv.resolve_left q
          obtain ⟨z, hz, rfl⟩ := i32_nat q
          have h6 := (nI_ltI (by decide) hz).mp h5
          rw [if_neg q, if_pos (show nI 6 ≤ nI z from nI_le (by omega) hz)]
      rw [F_K_keys, bnd_eq, hi]
      dsimp only
      rw [if_pos (show nI 0 = 0 by decide)]
    rw [k1]
    refine alike_fail h ?_ (by decide)
    rw [F_M_keys, bnd_eq]
    by_cases q : v < 0
    · rw [if_pos q, bnd_eq, mfail_eq]
    · rw [if_neg q, if_pos (hv.resolve_left q), bnd_eq, mfail_eq]
  · have q0 : ¬ v < 0 := fun q => hv (Or.inl q)
    obtain ⟨c, hc, rfl⟩ := i32_lex q0 (by decide) (fun q => hv (Or.inr q))
    have h9 : c = 0 ∨ c = 1 ∨ c = 2 ∨ c = 3 ∨ c = 4 ∨ c = 5 := by omega
    rcases h9 with rfl | rfl | rfl | rfl | rfl | rfl
    · exact keys_c0 h hN hT hF hE
    · exact keys_c1 h hN hT hF hE
    · exact keys_c2 h hN hT hF hE
    · exact keys_c3 h hN hT hF hE
    · exact keys_c4 h hN hT hF hE
    · exact keys_c5 h hN hT hF hE
