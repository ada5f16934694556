set_option linter.all false
theorem kL5x0 {pek pdk i : Nat} {kk : Nat → Sto → Sto} : ∀ (n j : Nat) (t : Sto), ∃ t', F_ME_keys_0_L5 pek pdk i kk n j t = kk (i + 1) t'
  | 0, j, t => ⟨_, by rw [F_ME_keys_0_L5, bnd_eq, bnd_eq]⟩
  | n + 1, j, t => by
    rw [F_ME_keys_0_L5, bnd_eq]
    exact kL5x0 n _ _
theorem kL1x0 {psd pek pdk : Nat} : ∀ (m i : Nat) (t : Sto), ∃ t', F_ME_keys_0_L1 psd pek pdk m i t = F_ME_keys_0_L2 psd pek pdk 32 0 t'
  | 0, i, t => ⟨t, by rw [F_ME_keys_0_L1]⟩
  | m + 1, i, t => by
    rw [F_ME_keys_0_L1]
    obtain ⟨t1, e⟩ := kL5x0 (pek := pek) (pdk := pdk) (i := i) (kk := F_ME_keys_0_L1 psd pek pdk m) 2 0 t
    rw [e]
    exact kL1x0 m _ t1
theorem kL0x0 {psd pek pdk : Nat} : ∀ (m i : Nat) (t : Sto), ∃ t', F_ME_keys_0_L0 psd pek pdk m i t = F_ME_keys_0_L1 psd pek pdk 2 0 t'
  | 0, i, t => ⟨t, by rw [F_ME_keys_0_L0]⟩
  | m + 1, i, t => by
    rw [F_ME_keys_0_L0, bnd_eq, bnd_eq, bnd_eq, bnd_eq]
    exact kL0x0 m _ _
theorem kL2x0 {psd pek pdk : Nat} : ∀ (m i : Nat) (t : Sto), ∃ t', F_ME_keys_0_L2 psd pek pdk m i t = F_ME_keys_0_L3 psd pek pdk 800 0 t'
  | 0, i, t => ⟨t, by rw [F_ME_keys_0_L2]⟩
  | m + 1, i, t => by
    rw [F_ME_keys_0_L2, bnd_eq]
    exact kL2x0 m _ _
/-- the reference's KeyGen puts a copy of the public part into the secret one -/
theorem kcopy0 {psd m pek pdk : Nat} {t : Sto} (h1 : pek ≠ pdk) (h2 : pdk ≠ 172) (h3 : pek ≠ 172) (h4 : psd ≠ pdk) (h5 : pek ≠ 14) : ∀ x, x < 800 → (F_ME_keys_0 psd m pek pdk t).1 pdk (768 + x) = vp_nar .byte ((F_ME_keys_0 psd m pek pdk t).1 pek x) := by
  have hop : ∀ w : Sto, F_ME_openSize_0 w = (nI 800, w) := fun w => by rw [F_ME_openSize_0]
  have hV : ∃ t', F_ME_keys_0 psd m pek pdk t = F_ME_keys_0_L3 psd pek pdk 800 0 t' := by
    rw [F_ME_keys_0, bnd_eq, bnd_eq, bnd_eq, bnd_eq, bnd_eq, bnd_eq]
    obtain ⟨t1, e1⟩ := kL0x0 (psd := psd) (pek := pek) (pdk := pdk) 2 0 (F_ME_expand_2 220 64 0 (F_MS_take 220 64 0 64 (F_MS_end (F_MS_put (nI 2) (F_MS_puts psd m 0 32 (F_MS_begin 72 (nI 6) t))))))
    obtain ⟨t2, e2⟩ := kL1x0 (psd := psd) (pek := pek) (pdk := pdk) 2 0 t1
    obtain ⟨t3, e3⟩ := kL2x0 (psd := psd) (pek := pek) (pdk := pdk) 32 0 t2
    exact ⟨t3, e1.trans (e2.trans e3)⟩
  obtain ⟨t4, hV⟩ := hV
  rw [hV]
  obtain ⟨s5, a, b, c, -⟩ := cp_loop (pt := pdk) (pr_ := pek) (o := 768) (r := 0) (G := F_ME_keys_0_L3 psd pek pdk) (K := fun w => F_ME_keys_0_L4 psd pdk 32 0 (F_ME_hash pek 2592 0 800 pdk 4896 1568 w)) h1 (fun i w => by
    rw [F_ME_keys_0_L3, bnd_eq, hop]
    dsimp only
    rw [bnd_eq, bnd_eq, hop]
    dsimp only
    rw [bnd_eq, bnd_eq]) (fun n i w => by
    rw [F_ME_keys_0_L3, bnd_eq, hop]
    dsimp only
    rw [bnd_eq, bnd_eq, Nat.zero_add]) 800 0 t4
  rw [a]
  obtain ⟨-, d1, -, -, d2⟩ := digest_same (pb := pek) (n := 2592) (at_ := 0) (len := 800) (qb := pek) (m := 2592) (bt := 0) (qt := pdk) (nt := 4896) (wh := 1568) (s := s5) (t := s5) h5 h3 h2 (fun _ _ => rfl)
  generalize F_ME_hash pek 2592 0 800 pdk 4896 1568 s5 = s6 at d1 d2
  obtain ⟨s7, a', b', -, d'⟩ := cp_loop (pt := pdk) (pr_ := psd) (o := 1600) (r := 32) (G := F_ME_keys_0_L4 psd pdk) (K := fun w => w) h4 (fun i w => by rw [F_ME_keys_0_L4]) (fun n i w => by rw [F_ME_keys_0_L4, bnd_eq]) 32 0 s6
  rw [a']
  intro x hx
  have u := c x (Nat.zero_le _) (by omega)
  rw [Nat.zero_add] at u
  rw [d' (768 + x) (Or.inl (by omega)), d2 (768 + x) (Or.inl (by omega)), u, b'.1 pek h1, d1.1 pek h3 h1, b.1 pek h1]
/-- a name for 'the reference's Decaps ends in time' that nothing unrolls -/
noncomputable def EMO0 (a b c : Nat) (t : Sto) : Prop := Classical.choose (show ∃ p : Prop, p = E_ME_open_0 a b c t from ⟨_, rfl⟩)
theorem EMO0_eq (a b c : Nat) (t : Sto) : EMO0 a b c t = E_ME_open_0 a b c t := Classical.choose_spec (show ∃ p : Prop, p = E_ME_open_0 a b c t from ⟨_, rfl⟩)
theorem open0_sameO {kn pp psn pc_ n pt pdk pct qt : Nat} {s t : Sto} (hD : apD psn pc_) (hT : apT pdk pct) (hC : apC pp 36) (hpt : pt ≠ 14 ∧ ¬ (26 ≤ pt ∧ pt ≤ 36)) (hqt : qt ≠ 172 ∧ ¬ (186 ≤ qt ∧ qt ≤ 224) ∧ qt ≠ pdk ∧ qt ≠ pct) (h1 : ∀ j, j < 768 → s.1 pc_ j = t.1 pct j) (h3 : ∀ j, j < 1632 → s.1 psn j = t.1 pdk j) (h4 : ∀ j, j < 800 → s.1 pp j = t.1 pdk (768 + j)) (hN : ∀ j, j < 1632 → vp_nar .byte (t.1 pdk j) = t.1 pdk j) (hE : EMO0 pdk pct qt t) : frm (fun k => k = 14 ∨ (26 ≤ k ∧ k ≤ 36) ∨ k = pt) s (F_KM_decapsulate_0 kn pp psn pc_ n pt s) ∧ frm (fun k => k = 172 ∨ (186 ≤ k ∧ k ≤ 224) ∨ k = qt) t (F_ME_open_0 pdk pct qt t) ∧ ∀ x, x < 32 → (F_KM_decapsulate_0 kn pp psn pc_ n pt s).1 pt x = (F_ME_open_0 pdk pct qt t).1 qt x := by
  exact open0_same hD hT hC hpt hqt h1 h3 h4 hN (by rw [← EMO0_eq]; exact hE)
theorem kL5x1 {pek pdk i : Nat} {kk : Nat → Sto → Sto} : ∀ (n j : Nat) (t : Sto), ∃ t', F_ME_keys_1_L5 pek pdk i kk n j t = kk (i + 1) t'
  | 0, j, t => ⟨_, by rw [F_ME_keys_1_L5, bnd_eq, bnd_eq]⟩
  | n + 1, j, t => by
    rw [F_ME_keys_1_L5, bnd_eq]
    exact kL5x1 n _ _
theorem kL1x1 {psd pek pdk : Nat} : ∀ (m i : Nat) (t : Sto), ∃ t', F_ME_keys_1_L1 psd pek pdk m i t = F_ME_keys_1_L2 psd pek pdk 32 0 t'
  | 0, i, t => ⟨t, by rw [F_ME_keys_1_L1]⟩
  | m + 1, i, t => by
    rw [F_ME_keys_1_L1]
    obtain ⟨t1, e⟩ := kL5x1 (pek := pek) (pdk := pdk) (i := i) (kk := F_ME_keys_1_L1 psd pek pdk m) 3 0 t
    rw [e]
    exact kL1x1 m _ t1
theorem kL0x1 {psd pek pdk : Nat} : ∀ (m i : Nat) (t : Sto), ∃ t', F_ME_keys_1_L0 psd pek pdk m i t = F_ME_keys_1_L1 psd pek pdk 3 0 t'
  | 0, i, t => ⟨t, by rw [F_ME_keys_1_L0]⟩
  | m + 1, i, t => by
    rw [F_ME_keys_1_L0, bnd_eq, bnd_eq, bnd_eq, bnd_eq]
    exact kL0x1 m _ _
theorem kL2x1 {psd pek pdk : Nat} : ∀ (m i : Nat) (t : Sto), ∃ t', F_ME_keys_1_L2 psd pek pdk m i t = F_ME_keys_1_L3 psd pek pdk 1184 0 t'
  | 0, i, t => ⟨t, by rw [F_ME_keys_1_L2]⟩
  | m + 1, i, t => by
    rw [F_ME_keys_1_L2, bnd_eq]
    exact kL2x1 m _ _
/-- the reference's KeyGen puts a copy of the public part into the secret one -/
theorem kcopy1 {psd m pek pdk : Nat} {t : Sto} (h1 : pek ≠ pdk) (h2 : pdk ≠ 172) (h3 : pek ≠ 172) (h4 : psd ≠ pdk) (h5 : pek ≠ 14) : ∀ x, x < 1184 → (F_ME_keys_1 psd m pek pdk t).1 pdk (1152 + x) = vp_nar .byte ((F_ME_keys_1 psd m pek pdk t).1 pek x) := by
  have hop : ∀ w : Sto, F_ME_openSize_1 w = (nI 1184, w) := fun w => by rw [F_ME_openSize_1]
  have hV : ∃ t', F_ME_keys_1 psd m pek pdk t = F_ME_keys_1_L3 psd pek pdk 1184 0 t' := by
    rw [F_ME_keys_1, bnd_eq, bnd_eq, bnd_eq, bnd_eq, bnd_eq, bnd_eq]
    obtain ⟨t1, e1⟩ := kL0x1 (psd := psd) (pek := pek) (pdk := pdk) 3 0 (F_ME_expand_3 220 64 0 (F_MS_take 220 64 0 64 (F_MS_end (F_MS_put (nI 3) (F_MS_puts psd m 0 32 (F_MS_begin 72 (nI 6) t))))))
    obtain ⟨t2, e2⟩ := kL1x1 (psd := psd) (pek := pek) (pdk := pdk) 3 0 t1
    obtain ⟨t3, e3⟩ := kL2x1 (psd := psd) (pek := pek) (pdk := pdk) 32 0 t2
    exact ⟨t3, e1.trans (e2.trans e3)⟩
  obtain ⟨t4, hV⟩ := hV
  rw [hV]
  obtain ⟨s5, a, b, c, -⟩ := cp_loop (pt := pdk) (pr_ := pek) (o := 1152) (r := 0) (G := F_ME_keys_1_L3 psd pek pdk) (K := fun w => F_ME_keys_1_L4 psd pdk 32 0 (F_ME_hash pek 2592 0 1184 pdk 4896 2336 w)) h1 (fun i w => by
    rw [F_ME_keys_1_L3, bnd_eq, hop]
    dsimp only
    rw [bnd_eq, bnd_eq, hop]
    dsimp only
    rw [bnd_eq, bnd_eq]) (fun n i w => by
    rw [F_ME_keys_1_L3, bnd_eq, hop]
    dsimp only
    rw [bnd_eq, bnd_eq, Nat.zero_add]) 1184 0 t4
  rw [a]
  obtain ⟨-, d1, -, -, d2⟩ := digest_same (pb := pek) (n := 2592) (at_ := 0) (len := 1184) (qb := pek) (m := 2592) (bt := 0) (qt := pdk) (nt := 4896) (wh := 2336) (s := s5) (t := s5) h5 h3 h2 (fun _ _ => rfl)
  generalize F_ME_hash pek 2592 0 1184 pdk 4896 2336 s5 = s6 at d1 d2
  obtain ⟨s7, a', b', -, d'⟩ := cp_loop (pt := pdk) (pr_ := psd) (o := 2368) (r := 32) (G := F_ME_keys_1_L4 psd pdk) (K := fun w => w) h4 (fun i w => by rw [F_ME_keys_1_L4]) (fun n i w => by rw [F_ME_keys_1_L4, bnd_eq]) 32 0 s6
  rw [a']
  intro x hx
  have u := c x (Nat.zero_le _) (by omega)
  rw [Nat.zero_add] at u
  rw [d' (1152 + x) (Or.inl (by omega)), d2 (1152 + x) (Or.inl (by omega)), u, b'.1 pek h1, d1.1 pek h3 h1, b.1 pek h1]
/-- a name for 'the reference's Decaps ends in time' that nothing unrolls -/
noncomputable def EMO1 (a b c : Nat) (t : Sto) : Prop := Classical.choose (show ∃ p : Prop, p = E_ME_open_1 a b c t from ⟨_, rfl⟩)
theorem EMO1_eq (a b c : Nat) (t : Sto) : EMO1 a b c t = E_ME_open_1 a b c t := Classical.choose_spec (show ∃ p : Prop, p = E_ME_open_1 a b c t from ⟨_, rfl⟩)
theorem open1_sameO {kn pp psn pc_ n pt pdk pct qt : Nat} {s t : Sto} (hD : apD psn pc_) (hT : apT pdk pct) (hC : apC pp 36) (hpt : pt ≠ 14 ∧ ¬ (26 ≤ pt ∧ pt ≤ 36)) (hqt : qt ≠ 172 ∧ ¬ (186 ≤ qt ∧ qt ≤ 224) ∧ qt ≠ pdk ∧ qt ≠ pct) (h1 : ∀ j, j < 1088 → s.1 pc_ j = t.1 pct j) (h3 : ∀ j, j < 2400 → s.1 psn j = t.1 pdk j) (h4 : ∀ j, j < 1184 → s.1 pp j = t.1 pdk (1152 + j)) (hN : ∀ j, j < 2400 → vp_nar .byte (t.1 pdk j) = t.1 pdk j) (hE : EMO1 pdk pct qt t) : frm (fun k => k = 14 ∨ (26 ≤ k ∧ k ≤ 36) ∨ k = pt) s (F_KM_decapsulate_1 kn pp psn pc_ n pt s) ∧ frm (fun k => k = 172 ∨ (186 ≤ k ∧ k ≤ 224) ∨ k = qt) t (F_ME_open_1 pdk pct qt t) ∧ ∀ x, x < 32 → (F_KM_decapsulate_1 kn pp psn pc_ n pt s).1 pt x = (F_ME_open_1 pdk pct qt t).1 qt x := by
  exact open1_same hD hT hC hpt hqt h1 h3 h4 hN (by rw [← EMO1_eq]; exact hE)
theorem kL5x2 {pek pdk i : Nat} {kk : Nat → Sto → Sto} : ∀ (n j : Nat) (t : Sto), ∃ t', F_ME_keys_2_L5 pek pdk i kk n j t = kk (i + 1) t'
  | 0, j, t => ⟨_, by rw [F_ME_keys_2_L5, bnd_eq, bnd_eq]⟩
  | n + 1, j, t => by
    rw [F_ME_keys_2_L5, bnd_eq]
    exact kL5x2 n _ _
theorem kL1x2 {psd pek pdk : Nat} : ∀ (m i : Nat) (t : Sto), ∃ t', F_ME_keys_2_L1 psd pek pdk m i t = F_ME_keys_2_L2 psd pek pdk 32 0 t'
  | 0, i, t => ⟨t, by rw [F_ME_keys_2_L1]⟩
  | m + 1, i, t => by
    rw [F_ME_keys_2_L1]
    obtain ⟨t1, e⟩ := kL5x2 (pek := pek) (pdk := pdk) (i := i) (kk := F_ME_keys_2_L1 psd pek pdk m) 4 0 t
    rw [e]
    exact kL1x2 m _ t1
theorem kL0x2 {psd pek pdk : Nat} : ∀ (m i : Nat) (t : Sto), ∃ t', F_ME_keys_2_L0 psd pek pdk m i t = F_ME_keys_2_L1 psd pek pdk 4 0 t'
  | 0, i, t => ⟨t, by rw [F_ME_keys_2_L0]⟩
  | m + 1, i, t => by
    rw [F_ME_keys_2_L0, bnd_eq, bnd_eq, bnd_eq, bnd_eq]
    exact kL0x2 m _ _
theorem kL2x2 {psd pek pdk : Nat} : ∀ (m i : Nat) (t : Sto), ∃ t', F_ME_keys_2_L2 psd pek pdk m i t = F_ME_keys_2_L3 psd pek pdk 1568 0 t'
  | 0, i, t => ⟨t, by rw [F_ME_keys_2_L2]⟩
  | m + 1, i, t => by
    rw [F_ME_keys_2_L2, bnd_eq]
    exact kL2x2 m _ _
/-- the reference's KeyGen puts a copy of the public part into the secret one -/
theorem kcopy2 {psd m pek pdk : Nat} {t : Sto} (h1 : pek ≠ pdk) (h2 : pdk ≠ 172) (h3 : pek ≠ 172) (h4 : psd ≠ pdk) (h5 : pek ≠ 14) : ∀ x, x < 1568 → (F_ME_keys_2 psd m pek pdk t).1 pdk (1536 + x) = vp_nar .byte ((F_ME_keys_2 psd m pek pdk t).1 pek x) := by
  have hop : ∀ w : Sto, F_ME_openSize_2 w = (nI 1568, w) := fun w => by rw [F_ME_openSize_2]
  have hV : ∃ t', F_ME_keys_2 psd m pek pdk t = F_ME_keys_2_L3 psd pek pdk 1568 0 t' := by
    rw [F_ME_keys_2, bnd_eq, bnd_eq, bnd_eq, bnd_eq, bnd_eq, bnd_eq]
    obtain ⟨t1, e1⟩ := kL0x2 (psd := psd) (pek := pek) (pdk := pdk) 4 0 (F_ME_expand_4 220 64 0 (F_MS_take 220 64 0 64 (F_MS_end (F_MS_put (nI 4) (F_MS_puts psd m 0 32 (F_MS_begin 72 (nI 6) t))))))
    obtain ⟨t2, e2⟩ := kL1x2 (psd := psd) (pek := pek) (pdk := pdk) 4 0 t1
    obtain ⟨t3, e3⟩ := kL2x2 (psd := psd) (pek := pek) (pdk := pdk) 32 0 t2
    exact ⟨t3, e1.trans (e2.trans e3)⟩
  obtain ⟨t4, hV⟩ := hV
  rw [hV]
  obtain ⟨s5, a, b, c, -⟩ := cp_loop (pt := pdk) (pr_ := pek) (o := 1536) (r := 0) (G := F_ME_keys_2_L3 psd pek pdk) (K := fun w => F_ME_keys_2_L4 psd pdk 32 0 (F_ME_hash pek 2592 0 1568 pdk 4896 3104 w)) h1 (fun i w => by
    rw [F_ME_keys_2_L3, bnd_eq, hop]
    dsimp only
    rw [bnd_eq, bnd_eq, hop]
    dsimp only
    rw [bnd_eq, bnd_eq]) (fun n i w => by
    rw [F_ME_keys_2_L3, bnd_eq, hop]
    dsimp only
    rw [bnd_eq, bnd_eq, Nat.zero_add]) 1568 0 t4
  rw [a]
  obtain ⟨-, d1, -, -, d2⟩ := digest_same (pb := pek) (n := 2592) (at_ := 0) (len := 1568) (qb := pek) (m := 2592) (bt := 0) (qt := pdk) (nt := 4896) (wh := 3104) (s := s5) (t := s5) h5 h3 h2 (fun _ _ => rfl)
  generalize F_ME_hash pek 2592 0 1568 pdk 4896 3104 s5 = s6 at d1 d2
  obtain ⟨s7, a', b', -, d'⟩ := cp_loop (pt := pdk) (pr_ := psd) (o := 3136) (r := 32) (G := F_ME_keys_2_L4 psd pdk) (K := fun w => w) h4 (fun i w => by rw [F_ME_keys_2_L4]) (fun n i w => by rw [F_ME_keys_2_L4, bnd_eq]) 32 0 s6
  rw [a']
  intro x hx
  have u := c x (Nat.zero_le _) (by omega)
  rw [Nat.zero_add] at u
  rw [d' (1536 + x) (Or.inl (by omega)), d2 (1536 + x) (Or.inl (by omega)), u, b'.1 pek h1, d1.1 pek h3 h1, b.1 pek h1]
/-- a name for 'the reference's Decaps ends in time' that nothing unrolls -/
noncomputable def EMO2 (a b c : Nat) (t : Sto) : Prop := Classical.choose (show ∃ p : Prop, p = E_ME_open_2 a b c t from ⟨_, rfl⟩)
theorem EMO2_eq (a b c : Nat) (t : Sto) : EMO2 a b c t = E_ME_open_2 a b c t := Classical.choose_spec (show ∃ p : Prop, p = E_ME_open_2 a b c t from ⟨_, rfl⟩)
theorem open2_sameO {kn pp psn pc_ n pt pdk pct qt : Nat} {s t : Sto} (hD : apD psn pc_) (hT : apT pdk pct) (hC : apC pp 36) (hpt : pt ≠ 14 ∧ ¬ (26 ≤ pt ∧ pt ≤ 36)) (hqt : qt ≠ 172 ∧ ¬ (186 ≤ qt ∧ qt ≤ 224) ∧ qt ≠ pdk ∧ qt ≠ pct) (h1 : ∀ j, j < 1568 → s.1 pc_ j = t.1 pct j) (h3 : ∀ j, j < 3168 → s.1 psn j = t.1 pdk j) (h4 : ∀ j, j < 1568 → s.1 pp j = t.1 pdk (1536 + j)) (hN : ∀ j, j < 3168 → vp_nar .byte (t.1 pdk j) = t.1 pdk j) (hE : EMO2 pdk pct qt t) : frm (fun k => k = 14 ∨ (26 ≤ k ∧ k ≤ 36) ∨ k = pt) s (F_KM_decapsulate_2 kn pp psn pc_ n pt s) ∧ frm (fun k => k = 172 ∨ (186 ≤ k ∧ k ≤ 224) ∨ k = qt) t (F_ME_open_2 pdk pct qt t) ∧ ∀ x, x < 32 → (F_KM_decapsulate_2 kn pp psn pc_ n pt s).1 pt x = (F_ME_open_2 pdk pct qt t).1 qt x := by
  exact open2_same hD hT hC hpt hqt h1 h3 h4 hN (by rw [← EMO2_eq]; exact hE)
