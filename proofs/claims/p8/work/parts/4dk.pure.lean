/-! open -/
/-- the public part of a pair of ML-KEM with a secret part is the copy in that part -/
def COPY (pn : Nat) (s : Sto) : Prop := ∀ i, i < pn → ∀ c, c < 3 → s.1 3 i = nI (c + 1) → ∀ j, j < kpub c → s.1 (153 + i) j = s.1 (162 + i) (384 * (c + 2) + j)
theorem COPY_c {pn : Nat} {s t : Sto} (hp : pn ≤ 8) (o : ∀ k, isP k → t.1 k = s.1 k) (h : COPY pn s) : COPY pn t := by
  intro i hi c hc e
  rw [o 3 (by unfold isP; omega)] at e
  rw [o (153 + i) (by unfold isP; omega), o (162 + i) (by unfold isP; omega)]
  exact h i hi c hc e
theorem kL5x0 {pek pdk i : Nat} {kk : Nat → Sto → Sto} : ∀ (n j : Nat) (t : Sto), ∃ t', F_ME_keys_0_L5 pek pdk i kk n j t = kk (i + 1) t'
  | 0, j, t => ⟨_, by rw [F_ME_keys_0_L5, bnd_eq, bnd_eq]⟩
  | n + 1, j, t => by
    rw [F_ME_keys_0_L5, bnd_eq]
    exact kL5x0 n _ _
theorem kL1x0 {psd pek pdk : Nat} : ∀ (m i : Nat) (t : Sto), ∃ t', F_ME_keys_0_L1 psd pek pdk m i t = F_ME_keys_0_L2 psd pek pdk 32 0 t'
  | 0, i, t => ⟨t, by rw [F_ME_keys_0_L1]⟩
  | m + 1, i, t => by
    rw [F_ME_keys_0_L1]
    obtain ⟨t1, e⟩ := kL5x0 (pek := pek) (pdk := pdk) (i := i) (kk := F_ME_keys_0_L1 psd pek pdk m) 2 0 t
    rw [e]
    exact kL1x0 m _ t1
theorem kL0x0 {psd pek pdk : Nat} : ∀ (m i : Nat) (t : Sto), ∃ t', F_ME_keys_0_L0 psd pek pdk m i t = F_ME_keys_0_L1 psd pek pdk 2 0 t'
  | 0, i, t => ⟨t, by rw [F_ME_keys_0_L0]⟩
  | m + 1, i, t => by
    rw [F_ME_keys_0_L0, bnd_eq, bnd_eq, bnd_eq, bnd_eq]
    exact kL0x0 m _ _
theorem kL2x0 {psd pek pdk : Nat} : ∀ (m i : Nat) (t : Sto), ∃ t', F_ME_keys_0_L2 psd pek pdk m i t = F_ME_keys_0_L3 psd pek pdk 800 0 t'
  | 0, i, t => ⟨t, by rw [F_ME_keys_0_L2]⟩
  | m + 1, i, t => by
    rw [F_ME_keys_0_L2, bnd_eq]
    exact kL2x0 m _ _
/-- the reference's KeyGen puts a copy of the public part into the secret one -/
theorem kcopy0 {psd m pek pdk : Nat} {t : Sto} (h1 : pek ≠ pdk) (h2 : pdk ≠ 172) (h3 : pek ≠ 172) (h4 : psd ≠ pdk) (h5 : pek ≠ 14) : ∀ x, x < 800 → (F_ME_keys_0 psd m pek pdk t).1 pdk (768 + x) = vp_nar .byte ((F_ME_keys_0 psd m pek pdk t).1 pek x) := by
  have hop : ∀ w : Sto, F_ME_openSize_0 w = (nI 800, w) := fun w => by rw [F_ME_openSize_0]
  have hV : ∃ t', F_ME_keys_0 psd m pek pdk t = F_ME_keys_0_L3 psd pek pdk 800 0 t' := by
    rw [F_ME_keys_0, bnd_eq, bnd_eq, bnd_eq, bnd_eq, bnd_eq, bnd_eq]
    obtain ⟨t1, e1⟩ := kL0x0 (psd := psd) (pek := pek) (pdk := pdk) 2 0 (F_ME_expand_2 220 64 0 (F_MS_take 220 64 0 64 (F_MS_end (F_MS_put (nI 2) (F_MS_puts psd m 0 32 (F_MS_begin 72 (nI 6) t))))))
    obtain ⟨t2, e2⟩ := kL1x0 (psd := psd) (pek := pek) (pdk := pdk) 2 0 t1
    obtain ⟨t3, e3⟩ := kL2x0 (psd := psd) (pek := pek) (pdk := pdk) 32 0 t2
    exact ⟨t3, e1.trans (e2.trans e3)⟩
  obtain ⟨t4, hV⟩ := hV
  rw [hV]
  obtain ⟨s5, a, b, c, -⟩ := cp_loop (pt := pdk) (pr_ := pek) (o := 768) (r := 0) (G := F_ME_keys_0_L3 psd pek pdk) (K := fun w => F_ME_keys_0_L4 psd pdk 32 0 (F_ME_hash pek 2592 0 800 pdk 4896 1568 w)) h1 (fun i w => by
    rw [F_ME_keys_0_L3, bnd_eq, hop]
    dsimp only
    rw [bnd_eq, bnd_eq, hop]
    dsimp only
    rw [bnd_eq, bnd_eq]) (fun n i w => by
    rw [F_ME_keys_0_L3, bnd_eq, hop]
    dsimp only
    rw [bnd_eq, bnd_eq, Nat.zero_add]) 800 0 t4
  rw [a]
  obtain ⟨-, d1, -, -, d2⟩ := digest_same (pb := pek) (n := 2592) (at_ := 0) (len := 800) (qb := pek) (m := 2592) (bt := 0) (qt := pdk) (nt := 4896) (wh := 1568) (s := s5) (t := s5) h5 h3 h2 (fun _ _ => rfl)
  generalize F_ME_hash pek 2592 0 800 pdk 4896 1568 s5 = s6 at d1 d2
  obtain ⟨s7, a', b', -, d'⟩ := cp_loop (pt := pdk) (pr_ := psd) (o := 1600) (r := 32) (G := F_ME_keys_0_L4 psd pdk) (K := fun w => w) h4 (fun i w => by rw [F_ME_keys_0_L4]) (fun n i w => by rw [F_ME_keys_0_L4, bnd_eq]) 32 0 s6
  rw [a']
  intro x hx
  have u := c x (Nat.zero_le _) (by omega)
  rw [Nat.zero_add] at u
  rw [d' (768 + x) (Or.inl (by omega)), d2 (768 + x) (Or.inl (by omega)), u, b'.1 pek h1, d1.1 pek h3 h1, b.1 pek h1]
/-- a name for 'the reference's Decaps ends in time' that nothing unrolls -/
noncomputable def EMO0 (a b c : Nat) (t : Sto) : Prop := Classical.choose (show ∃ p : Prop, p = E_ME_open_0 a b c t from ⟨_, rfl⟩)
theorem EMO0_eq (a b c : Nat) (t : Sto) : EMO0 a b c t = E_ME_open_0 a b c t := Classical.choose_spec (show ∃ p : Prop, p = E_ME_open_0 a b c t from ⟨_, rfl⟩)
theorem open0_sameO {kn pp psn pc_ n pt pdk pct qt : Nat} {s t : Sto} (hD : apD psn pc_) (hT : apT pdk pct) (hC : apC pp 36) (hpt : pt ≠ 14 ∧ ¬ (26 ≤ pt ∧ pt ≤ 36)) (hqt : qt ≠ 172 ∧ ¬ (186 ≤ qt ∧ qt ≤ 224) ∧ qt ≠ pdk ∧ qt ≠ pct) (h1 : ∀ j, j < 768 → s.1 pc_ j = t.1 pct j) (h3 : ∀ j, j < 1632 → s.1 psn j = t.1 pdk j) (h4 : ∀ j, j < 800 → s.1 pp j = t.1 pdk (768 + j)) (hN : ∀ j, j < 1632 → vp_nar .byte (t.1 pdk j) = t.1 pdk j) (hE : EMO0 pdk pct qt t) : frm (fun k => k = 14 ∨ (26 ≤ k ∧ k ≤ 36) ∨ k = pt) s (F_KM_decapsulate_0 kn pp psn pc_ n pt s) ∧ frm (fun k => k = 172 ∨ (186 ≤ k ∧ k ≤ 224) ∨ k = qt) t (F_ME_open_0 pdk pct qt t) ∧ ∀ x, x < 32 → (F_KM_decapsulate_0 kn pp psn pc_ n pt s).1 pt x = (F_ME_open_0 pdk pct qt t).1 qt x := by
  exact open0_same hD hT hC hpt hqt h1 h3 h4 hN (by rw [← EMO0_eq]; exact hE)
theorem kL5x1 {pek pdk i : Nat} {kk : Nat → Sto → Sto} : ∀ (n j : Nat) (t : Sto), ∃ t', F_ME_keys_1_L5 pek pdk i kk n j t = kk (i + 1) t'
  | 0, j, t => ⟨_, by rw [F_ME_keys_1_L5, bnd_eq, bnd_eq]⟩
  | n + 1, j, t => by
    rw [F_ME_keys_1_L5, bnd_eq]
    exact kL5x1 n _ _
theorem kL1x1 {psd pek pdk : Nat} : ∀ (m i : Nat) (t : Sto), ∃ t', F_ME_keys_1_L1 psd pek pdk m i t = F_ME_keys_1_L2 psd pek pdk 32 0 t'
  | 0, i, t => ⟨t, by rw [F_ME_keys_1_L1]⟩
  | m + 1, i, t => by
    rw [F_ME_keys_1_L1]
    obtain ⟨t1, e⟩ := kL5x1 (pek := pek) (pdk := pdk) (i := i) (kk := F_ME_keys_1_L1 psd pek pdk m) 3 0 t
    rw [e]
    exact kL1x1 m _ t1
theorem kL0x1 {psd pek pdk : Nat} : ∀ (m i : Nat) (t : Sto), ∃ t', F_ME_keys_1_L0 psd pek pdk m i t = F_ME_keys_1_L1 psd pek pdk 3 0 t'
  | 0, i, t => ⟨t, by rw [F_ME_keys_1_L0]⟩
  | m + 1, i, t => by
    rw [F_ME_keys_1_L0, bnd_eq, bnd_eq, bnd_eq, bnd_eq]
    exact kL0x1 m _ _
theorem kL2x1 {psd pek pdk : Nat} : ∀ (m i : Nat) (t : Sto), ∃ t', F_ME_keys_1_L2 psd pek pdk m i t = F_ME_keys_1_L3 psd pek pdk 1184 0 t'
  | 0, i, t => ⟨t, by rw [F_ME_keys_1_L2]⟩
  | m + 1, i, t => by
    rw [F_ME_keys_1_L2, bnd_eq]
    exact kL2x1 m _ _
/-- the reference's KeyGen puts a copy of the public part into the secret one -/
theorem kcopy1 {psd m pek pdk : Nat} {t : Sto} (h1 : pek ≠ pdk) (h2 : pdk ≠ 172) (h3 : pek ≠ 172) (h4 : psd ≠ pdk) (h5 : pek ≠ 14) : ∀ x, x < 1184 → (F_ME_keys_1 psd m pek pdk t).1 pdk (1152 + x) = vp_nar .byte ((F_ME_keys_1 psd m pek pdk t).1 pek x) := by
  have hop : ∀ w : Sto, F_ME_openSize_1 w = (nI 1184, w) := fun w => by rw [F_ME_openSize_1]
  have hV : ∃ t', F_ME_keys_1 psd m pek pdk t = F_ME_keys_1_L3 psd pek pdk 1184 0 t' := by
    rw [F_ME_keys_1, bnd_eq, bnd_eq, bnd_eq, bnd_eq, bnd_eq, bnd_eq]
    obtain ⟨t1, e1⟩ := kL0x1 (psd := psd) (pek := pek) (pdk := pdk) 3 0 (F_ME_expand_3 220 64 0 (F_MS_take 220 64 0 64 (F_MS_end (F_MS_put (nI 3) (F_MS_puts psd m 0 32 (F_MS_begin 72 (nI 6) t))))))
    obtain ⟨t2, e2⟩ := kL1x1 (psd := psd) (pek := pek) (pdk := pdk) 3 0 t1
    obtain ⟨t3, e3⟩ := kL2x1 (psd := psd) (pek := pek) (pdk := pdk) 32 0 t2
    exact ⟨t3, e1.trans (e2.trans e3)⟩
  obtain ⟨t4, hV⟩ := hV
  rw [hV]
  obtain ⟨s5, a, b, c, -⟩ := cp_loop (pt := pdk) (pr_ := pek) (o := 1152) (r := 0) (G := F_ME_keys_1_L3 psd pek pdk) (K := fun w => F_ME_keys_1_L4 psd pdk 32 0 (F_ME_hash pek 2592 0 1184 pdk 4896 2336 w)) h1 (fun i w => by
    rw [F_ME_keys_1_L3, bnd_eq, hop]
    dsimp only
    rw [bnd_eq, bnd_eq, hop]
    dsimp only
    rw [bnd_eq, bnd_eq]) (fun n i w => by
    rw [F_ME_keys_1_L3, bnd_eq, hop]
    dsimp only
    rw [bnd_eq, bnd_eq, Nat.zero_add]) 1184 0 t4
  rw [a]
  obtain ⟨-, d1, -, -, d2⟩ := digest_same (pb := pek) (n := 2592) (at_ := 0) (len := 1184) (qb := pek) (m := 2592) (bt := 0) (qt := pdk) (nt := 4896) (wh := 2336) (s := s5) (t := s5) h5 h3 h2 (fun _ _ => rfl)
  generalize F_ME_hash pek 2592 0 1184 pdk 4896 2336 s5 = s6 at d1 d2
  obtain ⟨s7, a', b', -, d'⟩ := cp_loop (pt := pdk) (pr_ := psd) (o := 2368) (r := 32) (G := F_ME_keys_1_L4 psd pdk) (K := fun w => w) h4 (fun i w => by rw [F_ME_keys_1_L4]) (fun n i w => by rw [F_ME_keys_1_L4, bnd_eq]) 32 0 s6
  rw [a']
  intro x hx
  have u := c x (Nat.zero_le _) (by omega)
  rw [Nat.zero_add] at u
  rw [d' (1152 + x) (Or.inl (by omega)), d2 (1152 + x) (Or.inl (by omega)), u, b'.1 pek h1, d1.1 pek h3 h1, b.1 pek h1]
/-- a name for 'the reference's Decaps ends in time' that nothing unrolls -/
noncomputable def EMO1 (a b c : Nat) (t : Sto) : Prop := Classical.choose (show ∃ p : Prop, p = E_ME_open_1 a b c t from ⟨_, rfl⟩)
theorem EMO1_eq (a b c : Nat) (t : Sto) : EMO1 a b c t = E_ME_open_1 a b c t := Classical.choose_spec (show ∃ p : Prop, p = E_ME_open_1 a b c t from ⟨_, rfl⟩)
theorem open1_sameO {kn pp psn pc_ n pt pdk pct qt : Nat} {s t : Sto} (hD : apD psn pc_) (hT : apT pdk pct) (hC : apC pp 36) (hpt : pt ≠ 14 ∧ ¬ (26 ≤ pt ∧ pt ≤ 36)) (hqt : qt ≠ 172 ∧ ¬ (186 ≤ qt ∧ qt ≤ 224) ∧ qt ≠ pdk ∧ qt ≠ pct) (h1 : ∀ j, j < 1088 → s.1 pc_ j = t.1 pct j) (h3 : ∀ j, j < 2400 → s.1 psn j = t.1 pdk j) (h4 : ∀ j, j < 1184 → s.1 pp j = t.1 pdk (1152 + j)) (hN : ∀ j, j < 2400 → vp_nar .byte (t.1 pdk j) = t.1 pdk j) (hE : EMO1 pdk pct qt t) : frm (fun k => k = 14 ∨ (26 ≤ k ∧ k ≤ 36) ∨ k = pt) s (F_KM_decapsulate_1 kn pp psn pc_ n pt s) ∧ frm (fun k => k = 172 ∨ (186 ≤ k ∧ k ≤ 224) ∨ k = qt) t (F_ME_open_1 pdk pct qt t) ∧ ∀ x, x < 32 → (F_KM_decapsulate_1 kn pp psn pc_ n pt s).1 pt x = (F_ME_open_1 pdk pct qt t).1 qt x := by
  exact open1_same hD hT hC hpt hqt h1 h3 h4 hN (by rw [← EMO1_eq]; exact hE)
theorem kL5x2 {pek pdk i : Nat} {kk : Nat → Sto → Sto} : ∀ (n j : Nat) (t : Sto), ∃ t', F_ME_keys_2_L5 pek pdk i kk n j t = kk (i + 1) t'
  | 0, j, t => ⟨_, by rw [F_ME_keys_2_L5, bnd_eq, bnd_eq]⟩
  | n + 1, j, t => by
    rw [F_ME_keys_2_L5, bnd_eq]
    exact kL5x2 n _ _
theorem kL1x2 {psd pek pdk : Nat} : ∀ (m i : Nat) (t : Sto), ∃ t', F_ME_keys_2_L1 psd pek pdk m i t = F_ME_keys_2_L2 psd pek pdk 32 0 t'
  | 0, i, t => ⟨t, by rw [F_ME_keys_2_L1]⟩
  | m + 1, i, t => by
    rw [F_ME_keys_2_L1]
    obtain ⟨t1, e⟩ := kL5x2 (pek := pek) (pdk := pdk) (i := i) (kk := F_ME_keys_2_L1 psd pek pdk m) 4 0 t
    rw [e]
    exact kL1x2 m _ t1
theorem kL0x2 {psd pek pdk : Nat} : ∀ (m i : Nat) (t : Sto), ∃ t', F_ME_keys_2_L0 psd pek pdk m i t = F_ME_keys_2_L1 psd pek pdk 4 0 t'
  | 0, i, t => ⟨t, by rw [F_ME_keys_2_L0]⟩
  | m + 1, i, t => by
    rw [F_ME_keys_2_L0, bnd_eq, bnd_eq, bnd_eq, bnd_eq]
    exact kL0x2 m _ _
theorem kL2x2 {psd pek pdk : Nat} : ∀ (m i : Nat) (t : Sto), ∃ t', F_ME_keys_2_L2 psd pek pdk m i t = F_ME_keys_2_L3 psd pek pdk 1568 0 t'
  | 0, i, t => ⟨t, by rw [F_ME_keys_2_L2]⟩
  | m + 1, i, t => by
    rw [F_ME_keys_2_L2, bnd_eq]
    exact kL2x2 m _ _
/-- the reference's KeyGen puts a copy of the public part into the secret one -/
theorem kcopy2 {psd m pek pdk : Nat} {t : Sto} (h1 : pek ≠ pdk) (h2 : pdk ≠ 172) (h3 : pek ≠ 172) (h4 : psd ≠ pdk) (h5 : pek ≠ 14) : ∀ x, x < 1568 → (F_ME_keys_2 psd m pek pdk t).1 pdk (1536 + x) = vp_nar .byte ((F_ME_keys_2 psd m pek pdk t).1 pek x) := by
  have hop : ∀ w : Sto, F_ME_openSize_2 w = (nI 1568, w) := fun w => by rw [F_ME_openSize_2]
  have hV : ∃ t', F_ME_keys_2 psd m pek pdk t = F_ME_keys_2_L3 psd pek pdk 1568 0 t' := by
    rw [F_ME_keys_2, bnd_eq, bnd_eq, bnd_eq, bnd_eq, bnd_eq, bnd_eq]
    obtain ⟨t1, e1⟩ := kL0x2 (psd := psd) (pek := pek) (pdk := pdk) 4 0 (F_ME_expand_4 220 64 0 (F_MS_take 220 64 0 64 (F_MS_end (F_MS_put (nI 4) (F_MS_puts psd m 0 32 (F_MS_begin 72 (nI 6) t))))))
    obtain ⟨t2, e2⟩ := kL1x2 (psd := psd) (pek := pek) (pdk := pdk) 4 0 t1
    obtain ⟨t3, e3⟩ := kL2x2 (psd := psd) (pek := pek) (pdk := pdk) 32 0 t2
    exact ⟨t3, e1.trans (e2.trans e3)⟩
  obtain ⟨t4, hV⟩ := hV
  rw [hV]
  obtain ⟨s5, a, b, c, -⟩ := cp_loop (pt := pdk) (pr_ := pek) (o := 1536) (r := 0) (G := F_ME_keys_2_L3 psd pek pdk) (K := fun w => F_ME_keys_2_L4 psd pdk 32 0 (F_ME_hash pek 2592 0 1568 pdk 4896 3104 w)) h1 (fun i w => by
    rw [F_ME_keys_2_L3, bnd_eq, hop]
    dsimp only
    rw [bnd_eq, bnd_eq, hop]
    dsimp only
    rw [bnd_eq, bnd_eq]) (fun n i w => by
    rw [F_ME_keys_2_L3, bnd_eq, hop]
    dsimp only
    rw [bnd_eq, bnd_eq, Nat.zero_add]) 1568 0 t4
  rw [a]
  obtain ⟨-, d1, -, -, d2⟩ := digest_same (pb := pek) (n := 2592) (at_ := 0) (len := 1568) (qb := pek) (m := 2592) (bt := 0) (qt := pdk) (nt := 4896) (wh := 3104) (s := s5) (t := s5) h5 h3 h2 (fun _ _ => rfl)
  generalize F_ME_hash pek 2592 0 1568 pdk 4896 3104 s5 = s6 at d1 d2
  obtain ⟨s7, a', b', -, d'⟩ := cp_loop (pt := pdk) (pr_ := psd) (o := 3136) (r := 32) (G := F_ME_keys_2_L4 psd pdk) (K := fun w => w) h4 (fun i w => by rw [F_ME_keys_2_L4]) (fun n i w => by rw [F_ME_keys_2_L4, bnd_eq]) 32 0 s6
  rw [a']
  intro x hx
  have u := c x (Nat.zero_le _) (by omega)
  rw [Nat.zero_add] at u
  rw [d' (1536 + x) (Or.inl (by omega)), d2 (1536 + x) (Or.inl (by omega)), u, b'.1 pek h1, d1.1 pek h3 h1, b.1 pek h1]
/-- a name for 'the reference's Decaps ends in time' that nothing unrolls -/
noncomputable def EMO2 (a b c : Nat) (t : Sto) : Prop := Classical.choose (show ∃ p : Prop, p = E_ME_open_2 a b c t from ⟨_, rfl⟩)
theorem EMO2_eq (a b c : Nat) (t : Sto) : EMO2 a b c t = E_ME_open_2 a b c t := Classical.choose_spec (show ∃ p : Prop, p = E_ME_open_2 a b c t from ⟨_, rfl⟩)
theorem open2_sameO {kn pp psn pc_ n pt pdk pct qt : Nat} {s t : Sto} (hD : apD psn pc_) (hT : apT pdk pct) (hC : apC pp 36) (hpt : pt ≠ 14 ∧ ¬ (26 ≤ pt ∧ pt ≤ 36)) (hqt : qt ≠ 172 ∧ ¬ (186 ≤ qt ∧ qt ≤ 224) ∧ qt ≠ pdk ∧ qt ≠ pct) (h1 : ∀ j, j < 1568 → s.1 pc_ j = t.1 pct j) (h3 : ∀ j, j < 3168 → s.1 psn j = t.1 pdk j) (h4 : ∀ j, j < 1568 → s.1 pp j = t.1 pdk (1536 + j)) (hN : ∀ j, j < 3168 → vp_nar .byte (t.1 pdk j) = t.1 pdk j) (hE : EMO2 pdk pct qt t) : frm (fun k => k = 14 ∨ (26 ≤ k ∧ k ≤ 36) ∨ k = pt) s (F_KM_decapsulate_2 kn pp psn pc_ n pt s) ∧ frm (fun k => k = 172 ∨ (186 ≤ k ∧ k ≤ 224) ∨ k = qt) t (F_ME_open_2 pdk pct qt t) ∧ ∀ x, x < 32 → (F_KM_decapsulate_2 kn pp psn pc_ n pt s).1 pt x = (F_ME_open_2 pdk pct qt t).1 qt x := by
  exact open2_same hD hT hC hpt hqt h1 h3 h4 hN (by rw [← EMO2_eq]; exact hE)
/-- no pair stands in what it compares: the kernel would unroll the second one -/
theorem alike_mk {tl al pn : Nat} {a b x : Int32} {X t : Sto} {f : Sto → Int32 × Sto} (e : f X = (x, t)) (h1 : SAME tl al pn t) (h2 : t.1 148 0 = a) (h3 : a = nI 0 → x = b) : ALIKE (a, b, X) f := by
  unfold ALIKE
  dsimp only
  rw [e]
  exact ⟨⟨tl, al, pn, h1⟩, h2, h3⟩
theorem kopenN {v : Int32} {s : Sto} (h : F_K_findKem v s = (nI 0, s)) : F_K_open v s = (nI 1, nI 0, s) := by
  rw [F_K_open, bnd_eq, h]
  dsimp only
  rw [if_pos (show nI 0 = nI 0 from rfl)]
theorem open_core {tl al pn : Nat} {s sB_ t2 : Sto} (h : SAME tl al pn s)
    (hM : ∀ k, (k < 14 ∨ 148 ≤ k) → k ≠ 2 → sB_.1 k = s.1 k)
    (hR : ∀ k, (k < 172 ∨ 379 ≤ k) → k ≠ 150 → t2.1 k = (sI (sI (sI (sI (sI sB_ 0 1 (nI 0)) 0 3 (nI 32)) 148 0 (nI 0)) 148 1 (nI 0)) 148 2 (nI 32)).1 k)
    (h1 : ∀ x, x < 32 → sB_.1 2 x = t2.1 150 x) : SAME 0 32 pn t2 ∧ t2.1 148 0 = nI 0 := by
  obtain ⟨⟨a1, a2, a3⟩, ⟨b1, b2, b3⟩, ⟨c1, c2, c3⟩, d, e, f⟩ := id h
  have t0 := hR 0 (by omega) (by omega)
  have tM := hR 148 (by omega) (by omega)
  have tK : ∀ k, k ≠ 0 → k ≠ 148 → (k < 14 ∨ (148 ≤ k ∧ k < 172) ∨ 379 ≤ k) → k ≠ 150 → t2.1 k = sB_.1 k := fun k u v w x => by
    rw [hR k (by omega) x, th_ne v, th_ne v, th_ne v, th_ne u, th_ne u]
  have r01 : t2.1 0 1 = nI 0 := by rw [t0, th_ne (by decide), th_ne (by decide), th_ne (by decide), th_off (by decide)]; exact th_at
  have r03 : t2.1 0 3 = nI 32 := by rw [t0, th_ne (by decide), th_ne (by decide), th_ne (by decide)]; exact th_at
  have r05 : t2.1 0 5 = nI pn := by rw [t0, th_ne (by decide), th_ne (by decide), th_ne (by decide), th_off (by decide), th_off (by decide), hM 0 (by omega) (by omega)]; exact c1
  have rM0 : t2.1 148 0 = nI 0 := by rw [tM, th_off (by decide), th_off (by decide)]; exact th_at
  have rM1 : t2.1 148 1 = nI 0 := by rw [tM, th_off (by decide)]; exact th_at
  have rM2 : t2.1 148 2 = nI 32 := by rw [tM]; exact th_at
  have rM3 : t2.1 148 3 = nI pn := by rw [tM, th_off (by decide), th_off (by decide), th_off (by decide), th_ne (by decide), th_ne (by decide), hM 148 (by omega) (by omega)]; exact c2
  refine ⟨⟨⟨r01, rM1, by omega⟩, ⟨r03, rM2, by omega⟩, ⟨r05, rM3, c3⟩, fun j hj => absurd hj (by omega), fun j hj => ?_, fun i hi => PAIR_c (by omega) (fun k hk => ?_) (f i hi)⟩, rM0⟩
  · rw [tK 2 (by omega) (by omega) (by omega) (by omega)]
    exact h1 j hj
  · unfold isP at hk
    rw [tK k (by omega) (by omega) (by omega) (by omega), hM k (by omega) (by omega)]
theorem mopen_n {s : Sto} {pn : Nat} {v : Int32} (h : s.1 148 3 = nI pn) (hp : pn ≤ 8) (hv : v < 0 ∨ ¬ v < nI pn) : F_M_open v s = (nI 0, sI (sI s 148 0 (nI 0)) 148 0 (nI 1)) := by
  have h1 : (sI s 148 0 (nI 0)).1 148 3 = nI pn := by rw [th_off (by decide)]; exact h
  rw [F_M_open, bnd_eq]
  generalize sI s 148 0 (nI 0) = s1 at h1 ⊢
  rw [bnd_eq, mnone_no h1 hp hv]
  dsimp only
  rw [if_neg (show ¬ nI 1 = 0 by decide), bnd_eq, mfail_eq]
theorem mopen_d {J : Nat} {s : Sto} {pn z : Nat} (h : s.1 148 3 = nI pn) (hp : pn ≤ 8) (hz : z < pn) (e : s.1 170 z = nI J) (hJ : 3 ≤ J ∧ J < 6) : F_M_open (nI z) s = (nI 0, sI (sI s 148 0 (nI 0)) 148 0 (nI 1)) := by
  have h1 : (sI s 148 0 (nI 0)).1 148 3 = nI pn := by rw [th_off (by decide)]; exact h
  have h3 : (sI s 148 0 (nI 0)).1 170 z = nI J := by rw [th_ne (by decide)]; exact e
  have hzc : (nI z).toNatClampNeg = z := nI_clamp (by omega)
  rw [F_M_open, bnd_eq]
  generalize sI s 148 0 (nI 0) = s1 at h1 h3 ⊢
  rw [bnd_eq, mnone_at h1 hp hz]
  dsimp only
  rw [if_pos (show nI 0 = 0 by decide), bnd_eq, hzc, h3]
  have h9 : J = 3 ∨ J = 4 ∨ J = 5 := by omega
  rcases h9 with rfl | rfl | rfl
  · rw [if_neg (show ¬ nI 3 = nI 0 by decide), if_neg (show ¬ nI 3 = nI 1 by decide), if_neg (show ¬ nI 3 = nI 2 by decide), if_pos (show nI 3 = nI 3 from rfl), bnd_eq, mfail_eq]
  · rw [if_neg (show ¬ nI 4 = nI 0 by decide), if_neg (show ¬ nI 4 = nI 1 by decide), if_neg (show ¬ nI 4 = nI 2 by decide), if_neg (show ¬ nI 4 = nI 3 by decide), if_pos (show nI 4 = nI 4 from rfl), bnd_eq, mfail_eq]
  · rw [if_neg (show ¬ nI 5 = nI 0 by decide), if_neg (show ¬ nI 5 = nI 1 by decide), if_neg (show ¬ nI 5 = nI 2 by decide), if_neg (show ¬ nI 5 = nI 3 by decide), if_neg (show ¬ nI 5 = nI 4 by decide), bnd_eq, mfail_eq]
theorem mopen_0_a {s : Sto} {pn z tl : Nat} (h : s.1 148 3 = nI pn) (hp : pn ≤ 8) (hz : z < pn) (ht : s.1 148 1 = nI tl) (htl : tl ≤ 16384) (e : s.1 170 z = nI 0) (eh : s.1 171 z = nI 1632) (hn : ¬ tl = 768) : F_M_open (nI z) s = (nI 0, sI (sI s 148 0 (nI 0)) 148 0 (nI 2)) := by
  have h1 : (sI s 148 0 (nI 0)).1 148 3 = nI pn := by rw [th_off (by decide)]; exact h
  have h2 : (sI s 148 0 (nI 0)).1 148 1 = nI tl := by rw [th_off (by decide)]; exact ht
  have h3 : (sI s 148 0 (nI 0)).1 170 z = nI 0 := by rw [th_ne (by decide)]; exact e
  have h4 : (sI s 148 0 (nI 0)).1 171 z = nI 1632 := by rw [th_ne (by decide)]; exact eh
  have hzc : (nI z).toNatClampNeg = z := nI_clamp (by omega)
  rw [F_M_open, bnd_eq]
  generalize sI s 148 0 (nI 0) = s1 at h1 h2 h3 h4 ⊢
  rw [bnd_eq, mnone_at h1 hp hz]
  dsimp only
  rw [if_pos (show nI 0 = 0 by decide), bnd_eq, hzc, h3, if_pos (show nI 0 = nI 0 from rfl), bnd_eq, h4, nI_clamp (show 1632 < 2 ^ 31 by decide), if_neg (show ¬ nI 1632 = 0 by decide), bnd_eq, h2, nI_clamp (show tl < 2 ^ 31 by omega), bnd_eq, F_ME_sealedSize_0]
  dsimp only
  rw [bnd_eq, if_neg hn, bnd_eq, mfail_eq]
theorem mopen_0_z {s : Sto} {pn z : Nat} (h : s.1 148 3 = nI pn) (hp : pn ≤ 8) (hz : z < pn) (e : s.1 170 z = nI 0) (eh : s.1 171 z = nI 0) : F_M_open (nI z) s = (nI 0, sI (sI s 148 0 (nI 0)) 148 0 (nI 1)) := by
  have h1 : (sI s 148 0 (nI 0)).1 148 3 = nI pn := by rw [th_off (by decide)]; exact h
  have h3 : (sI s 148 0 (nI 0)).1 170 z = nI 0 := by rw [th_ne (by decide)]; exact e
  have h4 : (sI s 148 0 (nI 0)).1 171 z = nI 0 := by rw [th_ne (by decide)]; exact eh
  have hzc : (nI z).toNatClampNeg = z := nI_clamp (by omega)
  rw [F_M_open, bnd_eq]
  generalize sI s 148 0 (nI 0) = s1 at h1 h3 h4 ⊢
  rw [bnd_eq, mnone_at h1 hp hz]
  dsimp only
  rw [if_pos (show nI 0 = 0 by decide), bnd_eq, hzc, h3, if_pos (show nI 0 = nI 0 from rfl), bnd_eq, h4, nI_clamp (show 0 < 2 ^ 31 by decide), if_pos (show nI 0 = 0 by decide), bnd_eq, mfail_eq]
theorem mopen_0 {s : Sto} {pn z : Nat} (h : s.1 148 3 = nI pn) (hp : pn ≤ 8) (hz : z < pn) (ht : s.1 148 1 = nI 768) (e : s.1 170 z = nI 0) (eh : s.1 171 z = nI 1632) :
    ((F_ME_open_0 (162 + z) 149 150 (sI (sI (sI s 148 0 (nI 0)) 148 1 (nI 0)) 148 2 (nI 32))).1 148 2 = nI 32 → F_M_open (nI z) s = (nI 32, F_ME_open_0 (162 + z) 149 150 (sI (sI (sI s 148 0 (nI 0)) 148 1 (nI 0)) 148 2 (nI 32)))) ∧ (E_M_open (nI z) s → EMO0 (162 + z) 149 150 (sI (sI (sI s 148 0 (nI 0)) 148 1 (nI 0)) 148 2 (nI 32))) := by
  have h1 : (sI s 148 0 (nI 0)).1 148 3 = nI pn := by rw [th_off (by decide)]; exact h
  have h2 : (sI s 148 0 (nI 0)).1 148 1 = nI 768 := by rw [th_off (by decide)]; exact ht
  have h3 : (sI s 148 0 (nI 0)).1 170 z = nI 0 := by rw [th_ne (by decide)]; exact e
  have h4 : (sI s 148 0 (nI 0)).1 171 z = nI 1632 := by rw [th_ne (by decide)]; exact eh
  have hzc : (nI z).toNatClampNeg = z := nI_clamp (by omega)
  have eE : ∃ R : Prop, E_M_open (nI z) s = (E_ME_open_0 (162 + z) 149 150 (sI (sI (sI s 148 0 (nI 0)) 148 1 (nI 0)) 148 2 (nI 32)) ∧ R) := by
    rw [E_M_open, bnd_eq]
    generalize sI s 148 0 (nI 0) = s1 at h1 h2 h3 h4 ⊢
    rw [bnd_eq, mnone_at h1 hp hz]
    dsimp only
    rw [if_pos (show nI 0 = 0 by decide), bnd_eq, hzc, h3, if_pos (show nI 0 = nI 0 from rfl), bnd_eq, h4, nI_clamp (show 1632 < 2 ^ 31 by decide), if_neg (show ¬ nI 1632 = 0 by decide), bnd_eq, h2, nI_clamp (show 768 < 2 ^ 31 by decide), bnd_eq, F_ME_sealedSize_0]
    dsimp only
    rw [bnd_eq, if_pos (show (768 : Nat) = 768 from rfl), bnd_eq, bnd_eq]
    exact ⟨_, rfl⟩
  obtain ⟨R, eE⟩ := eE
  rw [← EMO0_eq] at eE
  refine ⟨fun g => ?_, fun g => (Eq.mp eE g).1⟩
  rw [F_M_open, bnd_eq]
  generalize sI s 148 0 (nI 0) = s1 at h1 h2 h3 h4 g ⊢
  rw [bnd_eq, mnone_at h1 hp hz]
  dsimp only
  rw [if_pos (show nI 0 = 0 by decide), bnd_eq, hzc, h3, if_pos (show nI 0 = nI 0 from rfl), bnd_eq, h4, nI_clamp (show 1632 < 2 ^ 31 by decide), if_neg (show ¬ nI 1632 = 0 by decide), bnd_eq, h2, nI_clamp (show 768 < 2 ^ 31 by decide), bnd_eq, F_ME_sealedSize_0]
  dsimp only
  rw [bnd_eq, if_pos (show (768 : Nat) = 768 from rfl), bnd_eq, bnd_eq, bnd_eq, bnd_eq, g, nI_clamp (show 32 < 2 ^ 31 by decide)]
theorem mopen_1_a {s : Sto} {pn z tl : Nat} (h : s.1 148 3 = nI pn) (hp : pn ≤ 8) (hz : z < pn) (ht : s.1 148 1 = nI tl) (htl : tl ≤ 16384) (e : s.1 170 z = nI 1) (eh : s.1 171 z = nI 2400) (hn : ¬ tl = 1088) : F_M_open (nI z) s = (nI 0, sI (sI s 148 0 (nI 0)) 148 0 (nI 2)) := by
  have h1 : (sI s 148 0 (nI 0)).1 148 3 = nI pn := by rw [th_off (by decide)]; exact h
  have h2 : (sI s 148 0 (nI 0)).1 148 1 = nI tl := by rw [th_off (by decide)]; exact ht
  have h3 : (sI s 148 0 (nI 0)).1 170 z = nI 1 := by rw [th_ne (by decide)]; exact e
  have h4 : (sI s 148 0 (nI 0)).1 171 z = nI 2400 := by rw [th_ne (by decide)]; exact eh
  have hzc : (nI z).toNatClampNeg = z := nI_clamp (by omega)
  rw [F_M_open, bnd_eq]
  generalize sI s 148 0 (nI 0) = s1 at h1 h2 h3 h4 ⊢
  rw [bnd_eq, mnone_at h1 hp hz]
  dsimp only
  rw [if_pos (show nI 0 = 0 by decide), bnd_eq, hzc, h3, if_neg (show ¬ nI 1 = nI 0 by decide), if_pos (show nI 1 = nI 1 from rfl), bnd_eq, h4, nI_clamp (show 2400 < 2 ^ 31 by decide), if_neg (show ¬ nI 2400 = 0 by decide), bnd_eq, h2, nI_clamp (show tl < 2 ^ 31 by omega), bnd_eq, F_ME_sealedSize_1]
  dsimp only
  rw [bnd_eq, if_neg hn, bnd_eq, mfail_eq]
theorem mopen_1_z {s : Sto} {pn z : Nat} (h : s.1 148 3 = nI pn) (hp : pn ≤ 8) (hz : z < pn) (e : s.1 170 z = nI 1) (eh : s.1 171 z = nI 0) : F_M_open (nI z) s = (nI 0, sI (sI s 148 0 (nI 0)) 148 0 (nI 1)) := by
  have h1 : (sI s 148 0 (nI 0)).1 148 3 = nI pn := by rw [th_off (by decide)]; exact h
  have h3 : (sI s 148 0 (nI 0)).1 170 z = nI 1 := by rw [th_ne (by decide)]; exact e
  have h4 : (sI s 148 0 (nI 0)).1 171 z = nI 0 := by rw [th_ne (by decide)]; exact eh
  have hzc : (nI z).toNatClampNeg = z := nI_clamp (by omega)
  rw [F_M_open, bnd_eq]
  generalize sI s 148 0 (nI 0) = s1 at h1 h3 h4 ⊢
  rw [bnd_eq, mnone_at h1 hp hz]
  dsimp only
  rw [if_pos (show nI 0 = 0 by decide), bnd_eq, hzc, h3, if_neg (show ¬ nI 1 = nI 0 by decide), if_pos (show nI 1 = nI 1 from rfl), bnd_eq, h4, nI_clamp (show 0 < 2 ^ 31 by decide), if_pos (show nI 0 = 0 by decide), bnd_eq, mfail_eq]
theorem mopen_1 {s : Sto} {pn z : Nat} (h : s.1 148 3 = nI pn) (hp : pn ≤ 8) (hz : z < pn) (ht : s.1 148 1 = nI 1088) (e : s.1 170 z = nI 1) (eh : s.1 171 z = nI 2400) :
    ((F_ME_open_1 (162 + z) 149 150 (sI (sI (sI s 148 0 (nI 0)) 148 1 (nI 0)) 148 2 (nI 32))).1 148 2 = nI 32 → F_M_open (nI z) s = (nI 32, F_ME_open_1 (162 + z) 149 150 (sI (sI (sI s 148 0 (nI 0)) 148 1 (nI 0)) 148 2 (nI 32)))) ∧ (E_M_open (nI z) s → EMO1 (162 + z) 149 150 (sI (sI (sI s 148 0 (nI 0)) 148 1 (nI 0)) 148 2 (nI 32))) := by
  have h1 : (sI s 148 0 (nI 0)).1 148 3 = nI pn := by rw [th_off (by decide)]; exact h
  have h2 : (sI s 148 0 (nI 0)).1 148 1 = nI 1088 := by rw [th_off (by decide)]; exact ht
  have h3 : (sI s 148 0 (nI 0)).1 170 z = nI 1 := by rw [th_ne (by decide)]; exact e
  have h4 : (sI s 148 0 (nI 0)).1 171 z = nI 2400 := by rw [th_ne (by decide)]; exact eh
  have hzc : (nI z).toNatClampNeg = z := nI_clamp (by omega)
  have eE : ∃ R : Prop, E_M_open (nI z) s = (E_ME_open_1 (162 + z) 149 150 (sI (sI (sI s 148 0 (nI 0)) 148 1 (nI 0)) 148 2 (nI 32)) ∧ R) := by
    rw [E_M_open, bnd_eq]
    generalize sI s 148 0 (nI 0) = s1 at h1 h2 h3 h4 ⊢
    rw [bnd_eq, mnone_at h1 hp hz]
    dsimp only
    rw [if_pos (show nI 0 = 0 by decide), bnd_eq, hzc, h3, if_neg (show ¬ nI 1 = nI 0 by decide), if_pos (show nI 1 = nI 1 from rfl), bnd_eq, h4, nI_clamp (show 2400 < 2 ^ 31 by decide), if_neg (show ¬ nI 2400 = 0 by decide), bnd_eq, h2, nI_clamp (show 1088 < 2 ^ 31 by decide), bnd_eq, F_ME_sealedSize_1]
    dsimp only
    rw [bnd_eq, if_pos (show (1088 : Nat) = 1088 from rfl), bnd_eq, bnd_eq]
    exact ⟨_, rfl⟩
  obtain ⟨R, eE⟩ := eE
  rw [← EMO1_eq] at eE
  refine ⟨fun g => ?_, fun g => (Eq.mp eE g).1⟩
  rw [F_M_open, bnd_eq]
  generalize sI s 148 0 (nI 0) = s1 at h1 h2 h3 h4 g ⊢
  rw [bnd_eq, mnone_at h1 hp hz]
  dsimp only
  rw [if_pos (show nI 0 = 0 by decide), bnd_eq, hzc, h3, if_neg (show ¬ nI 1 = nI 0 by decide), if_pos (show nI 1 = nI 1 from rfl), bnd_eq, h4, nI_clamp (show 2400 < 2 ^ 31 by decide), if_neg (show ¬ nI 2400 = 0 by decide), bnd_eq, h2, nI_clamp (show 1088 < 2 ^ 31 by decide), bnd_eq, F_ME_sealedSize_1]
  dsimp only
  rw [bnd_eq, if_pos (show (1088 : Nat) = 1088 from rfl), bnd_eq, bnd_eq, bnd_eq, bnd_eq, g, nI_clamp (show 32 < 2 ^ 31 by decide)]
theorem mopen_2_a {s : Sto} {pn z tl : Nat} (h : s.1 148 3 = nI pn) (hp : pn ≤ 8) (hz : z < pn) (ht : s.1 148 1 = nI tl) (htl : tl ≤ 16384) (e : s.1 170 z = nI 2) (eh : s.1 171 z = nI 3168) (hn : ¬ tl = 1568) : F_M_open (nI z) s = (nI 0, sI (sI s 148 0 (nI 0)) 148 0 (nI 2)) := by
  have h1 : (sI s 148 0 (nI 0)).1 148 3 = nI pn := by rw [th_off (by decide)]; exact h
  have h2 : (sI s 148 0 (nI 0)).1 148 1 = nI tl := by rw [th_off (by decide)]; exact ht
  have h3 : (sI s 148 0 (nI 0)).1 170 z = nI 2 := by rw [th_ne (by decide)]; exact e
  have h4 : (sI s 148 0 (nI 0)).1 171 z = nI 3168 := by rw [th_ne (by decide)]; exact eh
  have hzc : (nI z).toNatClampNeg = z := nI_clamp (by omega)
  rw [F_M_open, bnd_eq]
  generalize sI s 148 0 (nI 0) = s1 at h1 h2 h3 h4 ⊢
  rw [bnd_eq, mnone_at h1 hp hz]
  dsimp only
  rw [if_pos (show nI 0 = 0 by decide), bnd_eq, hzc, h3, if_neg (show ¬ nI 2 = nI 0 by decide), if_neg (show ¬ nI 2 = nI 1 by decide), if_pos (show nI 2 = nI 2 from rfl), bnd_eq, h4, nI_clamp (show 3168 < 2 ^ 31 by decide), if_neg (show ¬ nI 3168 = 0 by decide), bnd_eq, h2, nI_clamp (show tl < 2 ^ 31 by omega), bnd_eq, F_ME_sealedSize_2]
  dsimp only
  rw [bnd_eq, if_neg hn, bnd_eq, mfail_eq]
theorem mopen_2_z {s : Sto} {pn z : Nat} (h : s.1 148 3 = nI pn) (hp : pn ≤ 8) (hz : z < pn) (e : s.1 170 z = nI 2) (eh : s.1 171 z = nI 0) : F_M_open (nI z) s = (nI 0, sI (sI s 148 0 (nI 0)) 148 0 (nI 1)) := by
  have h1 : (sI s 148 0 (nI 0)).1 148 3 = nI pn := by rw [th_off (by decide)]; exact h
  have h3 : (sI s 148 0 (nI 0)).1 170 z = nI 2 := by rw [th_ne (by decide)]; exact e
  have h4 : (sI s 148 0 (nI 0)).1 171 z = nI 0 := by rw [th_ne (by decide)]; exact eh
  have hzc : (nI z).toNatClampNeg = z := nI_clamp (by omega)
  rw [F_M_open, bnd_eq]
  generalize sI s 148 0 (nI 0) = s1 at h1 h3 h4 ⊢
  rw [bnd_eq, mnone_at h1 hp hz]
  dsimp only
  rw [if_pos (show nI 0 = 0 by decide), bnd_eq, hzc, h3, if_neg (show ¬ nI 2 = nI 0 by decide), if_neg (show ¬ nI 2 = nI 1 by decide), if_pos (show nI 2 = nI 2 from rfl), bnd_eq, h4, nI_clamp (show 0 < 2 ^ 31 by decide), if_pos (show nI 0 = 0 by decide), bnd_eq, mfail_eq]
theorem mopen_2 {s : Sto} {pn z : Nat} (h : s.1 148 3 = nI pn) (hp : pn ≤ 8) (hz : z < pn) (ht : s.1 148 1 = nI 1568) (e : s.1 170 z = nI 2) (eh : s.1 171 z = nI 3168) :
    ((F_ME_open_2 (162 + z) 149 150 (sI (sI (sI s 148 0 (nI 0)) 148 1 (nI 0)) 148 2 (nI 32))).1 148 2 = nI 32 → F_M_open (nI z) s = (nI 32, F_ME_open_2 (162 + z) 149 150 (sI (sI (sI s 148 0 (nI 0)) 148 1 (nI 0)) 148 2 (nI 32)))) ∧ (E_M_open (nI z) s → EMO2 (162 + z) 149 150 (sI (sI (sI s 148 0 (nI 0)) 148 1 (nI 0)) 148 2 (nI 32))) := by
  have h1 : (sI s 148 0 (nI 0)).1 148 3 = nI pn := by rw [th_off (by decide)]; exact h
  have h2 : (sI s 148 0 (nI 0)).1 148 1 = nI 1568 := by rw [th_off (by decide)]; exact ht
  have h3 : (sI s 148 0 (nI 0)).1 170 z = nI 2 := by rw [th_ne (by decide)]; exact e
  have h4 : (sI s 148 0 (nI 0)).1 171 z = nI 3168 := by rw [th_ne (by decide)]; exact eh
  have hzc : (nI z).toNatClampNeg = z := nI_clamp (by omega)
  have eE : ∃ R : Prop, E_M_open (nI z) s = (E_ME_open_2 (162 + z) 149 150 (sI (sI (sI s 148 0 (nI 0)) 148 1 (nI 0)) 148 2 (nI 32)) ∧ R) := by
    rw [E_M_open, bnd_eq]
    generalize sI s 148 0 (nI 0) = s1 at h1 h2 h3 h4 ⊢
    rw [bnd_eq, mnone_at h1 hp hz]
    dsimp only
    rw [if_pos (show nI 0 = 0 by decide), bnd_eq, hzc, h3, if_neg (show ¬ nI 2 = nI 0 by decide), if_neg (show ¬ nI 2 = nI 1 by decide), if_pos (show nI 2 = nI 2 from rfl), bnd_eq, h4, nI_clamp (show 3168 < 2 ^ 31 by decide), if_neg (show ¬ nI 3168 = 0 by decide), bnd_eq, h2, nI_clamp (show 1568 < 2 ^ 31 by decide), bnd_eq, F_ME_sealedSize_2]
    dsimp only
    rw [bnd_eq, if_pos (show (1568 : Nat) = 1568 from rfl), bnd_eq, bnd_eq]
    exact ⟨_, rfl⟩
  obtain ⟨R, eE⟩ := eE
  rw [← EMO2_eq] at eE
  refine ⟨fun g => ?_, fun g => (Eq.mp eE g).1⟩
  rw [F_M_open, bnd_eq]
  generalize sI s 148 0 (nI 0) = s1 at h1 h2 h3 h4 g ⊢
  rw [bnd_eq, mnone_at h1 hp hz]
  dsimp only
  rw [if_pos (show nI 0 = 0 by decide), bnd_eq, hzc, h3, if_neg (show ¬ nI 2 = nI 0 by decide), if_neg (show ¬ nI 2 = nI 1 by decide), if_pos (show nI 2 = nI 2 from rfl), bnd_eq, h4, nI_clamp (show 3168 < 2 ^ 31 by decide), if_neg (show ¬ nI 3168 = 0 by decide), bnd_eq, h2, nI_clamp (show 1568 < 2 ^ 31 by decide), bnd_eq, F_ME_sealedSize_2]
  dsimp only
  rw [bnd_eq, if_pos (show (1568 : Nat) = 1568 from rfl), bnd_eq, bnd_eq, bnd_eq, bnd_eq, g, nI_clamp (show 32 < 2 ^ 31 by decide)]
