set_option linter.all false
/-! the checks of a loaded key -/
theorem cmpL {G : Nat → Nat → Sto → Int32 × Sto} {c : Nat → Sto → Prop} [dc : ∀ i s, Decidable (c i s)] (h0 : ∀ i s, G 0 i s = (nI 1, s)) (h1 : ∀ n i s, G (n + 1) i s = if c i s then G n (i + 1) s else (nI 0, s)) : ∀ (n i : Nat) (s : Sto), (G n i s).2 = s ∧ ((∀ k, i ≤ k → k < i + n → c k s) → (G n i s).1 = nI 1) ∧ ((¬ ∀ k, i ≤ k → k < i + n → c k s) → (G n i s).1 = nI 0)
  | 0, i, s => by
    rw [h0]
    exact ⟨rfl, fun _ => rfl, fun h => absurd (fun k h1 h2 => by omega) h⟩
  | n + 1, i, s => by
    obtain ⟨a, b, d⟩ := cmpL h0 h1 n (i + 1) s
    rw [h1]
    by_cases q : c i s
    · rw [if_pos q]
      refine ⟨a, fun h => b fun k u v => h k (by omega) (by omega), fun h => d fun h2 => h fun k u v => ?_⟩
      by_cases w : k = i
      · subst w
        exact q
      · exact h2 k (by omega) (by omega)
    · rw [if_neg q]
      exact ⟨rfl, fun h => absurd (h i (Nat.le_refl _) (by omega)) q, fun _ => rfl⟩
theorem same01 {P Q : Prop} {x y : Int32} (h : P ↔ Q) (a1 : P → x = nI 1) (a2 : ¬ P → x = nI 0) (b1 : Q → y = nI 1) (b2 : ¬ Q → y = nI 0) : x = y := by
  by_cases p : P
  · rw [a1 p, b1 (h.mp p)]
  · rw [a2 p, b2 (fun q => p (h.mpr q))]
theorem nfI0 {i : Nat} {kk : Nat → Sto → Int32 × Sto} {s : Sto} : ∀ (m j : Nat), ((∀ k, j ≤ k → k < j + m → s.1 31 k < nI 3329) → F_KM_numbersFit_0_L1 i kk m j s = kk (i + 1) s) ∧ ((¬ ∀ k, j ≤ k → k < j + m → s.1 31 k < nI 3329) → F_KM_numbersFit_0_L1 i kk m j s = (nI 0, s))
  | 0, j => ⟨fun _ => by rw [F_KM_numbersFit_0_L1], fun h => absurd (fun k h1 h2 => by omega) h⟩
  | m + 1, j => by
    obtain ⟨a, b⟩ := nfI0 (i := i) (kk := kk) (s := s) m (j + 1)
    rw [F_KM_numbersFit_0_L1]
    by_cases q : s.1 31 j < nI 3329
    · rw [if_pos q]
      refine ⟨fun h => a fun k u v => h k (by omega) (by omega), fun h => b fun h2 => h fun k u v => ?_⟩
      by_cases w : k = j
      · subst w
        exact q
      · exact h2 k (by omega) (by omega)
    · rw [if_neg q]
      exact ⟨fun h => absurd (h j (Nat.le_refl _) (by omega)) q, fun _ => rfl⟩
theorem nfA0 {pp n : Nat} (hp : pp ≠ 31) : ∀ (m i : Nat) (s : Sto), i + m = 2 → onl 31 s (F_KM_numbersFit_0_L0 pp n m i s).2 ∧ ((∀ g, 256 * i ≤ g → g < 512 → bv (rb (s.1 pp)) (12 * g) 12 < 3329) → (F_KM_numbersFit_0_L0 pp n m i s).1 = nI 1) ∧ ((¬ ∀ g, 256 * i ≤ g → g < 512 → bv (rb (s.1 pp)) (12 * g) 12 < 3329) → (F_KM_numbersFit_0_L0 pp n m i s).1 = nI 0)
  | 0, i, s, hi => by
    obtain rfl : i = 2 := by omega
    rw [F_KM_numbersFit_0_L0]
    exact ⟨onl_rf, fun _ => rfl, fun h => absurd (fun k h1 h2 => by omega) h⟩
  | m + 1, i, s, hi => by
    have hU : F_KM_numbersFit_0_L0 pp n (m + 1) i s = F_KM_numbersFit_0_L1 i (F_KM_numbersFit_0_L0 pp n m) 256 0 (F_BT_unpack 31 12 pp n (384 * i) s) := by rw [F_KM_numbersFit_0_L0, bnd_eq]
    obtain ⟨a1, a2⟩ := P_unpack (pf := 31) (b := 12) (pr_ := pp) (n := n) (at_ := 384 * i) (s := s) hp (by decide) (by decide)
    generalize F_BT_unpack 31 12 pp n (384 * i) s = s1 at a1 a2 hU
    obtain ⟨b1, b2⟩ := nfI0 (i := i) (kk := F_KM_numbersFit_0_L0 pp n m) (s := s1) 256 0
    have hv : ∀ k, k < 256 → (s1.1 31 k < nI 3329 ↔ bv (rb (s.1 pp)) (12 * (256 * i + k)) 12 < 3329) := fun k hk => by
      have hl := bv_lt (P := 12 * (256 * i + k)) (rb_lt (r := s.1 pp)) 12
      rw [a2 k hk, show 8 * (384 * i) + 12 * k = 12 * (256 * i + k) by omega]
      exact nI_ltI (by omega) (by decide)
    obtain ⟨c1, c2, c3⟩ := nfA0 (n := n) hp m (i + 1) s1 (by omega)
    rw [a1.1 pp hp] at c2 c3
    rw [hU]
    by_cases q : ∀ k, 0 ≤ k → k < 0 + 256 → s1.1 31 k < nI 3329
    · rw [b1 q]
      refine ⟨onl_tr a1 c1, fun h => c2 fun g u v => h g (by omega) v, fun h => c3 fun h2 => h fun g u v => ?_⟩
      by_cases w : g < 256 * i + 256
      · have := (hv (g - 256 * i) (by omega)).mp (q (g - 256 * i) (Nat.zero_le _) (by omega))
        rw [show 256 * i + (g - 256 * i) = g by omega] at this
        exact this
      · exact h2 g (by omega) v
    · rw [b2 q]
      exact ⟨a1, fun h => absurd (fun k _ u => (hv k (by omega)).mpr (h (256 * i + k) (by omega) (by omega))) q, fun _ => rfl⟩
/-- the check of a public part, set 0 -/
theorem fit0_same {pp n pek : Nat} {s t : Sto} (hp : pp ≠ 31) (hB : ∀ j, j < 768 → s.1 pp j = t.1 pek j) : onl 31 s (F_KM_numbersFit_0 pp n s).2 ∧ (F_ME_goodOpen_0 pek t).2 = t ∧ (F_KM_numbersFit_0 pp n s).1 = (F_ME_goodOpen_0 pek t).1 := by
  obtain ⟨a1, a2, a3⟩ := nfA0 (n := n) (s := s) hp 2 0 (by decide)
  obtain ⟨b1, b2, b3⟩ := cmpL (G := F_ME_goodOpen_0_L0 pek) (c := fun i s => nI (bv (rb (s.1 pek)) (12 * i) 12) < nI 3329) (fun i s => by rw [F_ME_goodOpen_0_L0]) (fun n i s => by rw [F_ME_goodOpen_0_L0, Q_unpack (by decide), bnd_eq]) 512 0 t
  rw [F_KM_numbersFit_0, F_ME_goodOpen_0]
  refine ⟨a1, b1, same01 ?_ a2 a3 b2 b3⟩
  have e : ∀ g, g < 512 → bv (rb (s.1 pp)) (12 * g) 12 = bv (rb (t.1 pek)) (12 * g) 12 := fun g hg => bv_c 12 fun j hj => by
    have := rb_c (r := s.1 pp) (r' := t.1 pek) (a := 0) (a' := 0) (n := 8 * 768) (fun m hm => by rw [Nat.zero_add]; exact hB m (by omega)) (k := 12 * g + j) (by omega)
    rw [Nat.mul_zero, Nat.zero_add] at this
    exact this
  have l : ∀ g, bv (rb (t.1 pek)) (12 * g) 12 < 2 ^ 12 := fun g => bv_lt rb_lt 12
  constructor
  · intro h g u v
    have l1 := l g
    show nI (bv (rb (t.1 pek)) (12 * g) 12) < nI 3329
    rw [nI_ltI (by omega) (by decide), ← e g (by omega)]
    exact h g (by omega) (by omega)
  · intro h g u v
    have l1 := l g
    have h1 : nI (bv (rb (t.1 pek)) (12 * g) 12) < nI 3329 := h g (Nat.zero_le _) (by omega)
    rw [nI_ltI (by omega) (by decide), ← e g (by omega)] at h1
    exact h1
/-- the check of a secret part, set 0 -/
theorem hash0_fits {psk n pdk : Nat} {s t : Sto} (h1 : psk ≠ 14) (h2 : psk ≠ 33) (h3 : pdk ≠ 172) (h4 : pdk ≠ 222) (hB : ∀ j, j < 1632 → s.1 psk j = t.1 pdk j) : (∀ k, k ≠ 14 → k ≠ 33 → (F_KM_hashFits_0 psk n s).2.1 k = s.1 k) ∧ (∀ k, k ≠ 172 → k ≠ 222 → (F_ME_goodHidden_0 pdk t).2.1 k = t.1 k) ∧ (F_KM_hashFits_0 psk n s).1 = (F_ME_goodHidden_0 pdk t).1 := by
  have o2 : ∀ w : Sto, (F_ME_openSize_0 w).2 = w := fun w => by rw [F_ME_openSize_0]
  have hU : F_KM_hashFits_0 psk n s = F_KM_hashFits_0_L0 psk 32 0 (F_KM_digestOf psk n 768 800 s) := by rw [F_KM_hashFits_0, bnd_eq]
  have hV : F_ME_goodHidden_0 pdk t = F_ME_goodHidden_0_L0 pdk 32 0 (F_ME_hash pdk 16384 768 800 222 32 0 t) := by
    rw [F_ME_goodHidden_0]
    repeat rw [bnd_eq]
    rw [o2]
  obtain ⟨a1, a2, a3, -, -⟩ := digest_same (pb := psk) (n := n) (at_ := 768) (len := 800) (qb := pdk) (m := 16384) (bt := 768) (qt := 222) (nt := 32) (wh := 0) (s := s) (t := t) h1 h3 (by decide) (fun j hj => hB _ (by omega))
  generalize F_KM_digestOf psk n 768 800 s = s1 at a1 a3 hU
  generalize F_ME_hash pdk 16384 768 800 222 32 0 t = t1 at a2 a3 hV
  obtain ⟨b1, b2, b3⟩ := cmpL (G := F_KM_hashFits_0_L0 psk) (c := fun i s => s.1 33 i = s.1 psk (1568 + i)) (fun i s => by rw [F_KM_hashFits_0_L0]) (fun n i s => by rw [F_KM_hashFits_0_L0]) 32 0 s1
  obtain ⟨c1, c2, c3⟩ := cmpL (G := F_ME_goodHidden_0_L0 pdk) (c := fun i s => s.1 222 i = s.1 pdk (1568 + i)) (fun i s => by rw [F_ME_goodHidden_0_L0]) (fun n i s => by rw [F_ME_goodHidden_0_L0]) 32 0 t1
  rw [hU, hV]
  refine ⟨fun k u v => by rw [b1]; exact a1.1 k u v, fun k u v => by rw [c1]; exact a2.1 k u v, same01 ?_ b2 b3 c2 c3⟩
  have p1 : s1.1 psk = s.1 psk := a1.1 psk h1 h2
  have p2 : t1.1 pdk = t.1 pdk := a2.1 pdk h3 h4
  have key : ∀ k, k < 32 → (s1.1 33 k = s1.1 psk (1568 + k) ↔ t1.1 222 k = t1.1 pdk (1568 + k)) := fun k hk => by
    have := a3 k hk
    rw [Nat.zero_add] at this
    rw [p1, p2, this, hB _ (by omega)]
  exact ⟨fun h k u v => (key k (by omega)).mp (h k u v), fun h k u v => (key k (by omega)).mpr (h k u v)⟩
theorem nfI1 {i : Nat} {kk : Nat → Sto → Int32 × Sto} {s : Sto} : ∀ (m j : Nat), ((∀ k, j ≤ k → k < j + m → s.1 31 k < nI 3329) → F_KM_numbersFit_1_L1 i kk m j s = kk (i + 1) s) ∧ ((¬ ∀ k, j ≤ k → k < j + m → s.1 31 k < nI 3329) → F_KM_numbersFit_1_L1 i kk m j s = (nI 0, s))
  | 0, j => ⟨fun _ => by rw [F_KM_numbersFit_1_L1], fun h => absurd (fun k h1 h2 => by omega) h⟩
  | m + 1, j => by
    obtain ⟨a, b⟩ := nfI1 (i := i) (kk := kk) (s := s) m (j + 1)
    rw [F_KM_numbersFit_1_L1]
    by_cases q : s.1 31 j < nI 3329
    · rw [if_pos q]
      refine ⟨fun h => a fun k u v => h k (by omega) (by omega), fun h => b fun h2 => h fun k u v => ?_⟩
      by_cases w : k = j
      · subst w
        exact q
      · exact h2 k (by omega) (by omega)
    · rw [if_neg q]
      exact ⟨fun h => absurd (h j (Nat.le_refl _) (by omega)) q, fun _ => rfl⟩
theorem nfA1 {pp n : Nat} (hp : pp ≠ 31) : ∀ (m i : Nat) (s : Sto), i + m = 3 → onl 31 s (F_KM_numbersFit_1_L0 pp n m i s).2 ∧ ((∀ g, 256 * i ≤ g → g < 768 → bv (rb (s.1 pp)) (12 * g) 12 < 3329) → (F_KM_numbersFit_1_L0 pp n m i s).1 = nI 1) ∧ ((¬ ∀ g, 256 * i ≤ g → g < 768 → bv (rb (s.1 pp)) (12 * g) 12 < 3329) → (F_KM_numbersFit_1_L0 pp n m i s).1 = nI 0)
  | 0, i, s, hi => by
    obtain rfl : i = 3 := by omega
    rw [F_KM_numbersFit_1_L0]
    exact ⟨onl_rf, fun _ => rfl, fun h => absurd (fun k h1 h2 => by omega) h⟩
  | m + 1, i, s, hi => by
    have hU : F_KM_numbersFit_1_L0 pp n (m + 1) i s = F_KM_numbersFit_1_L1 i (F_KM_numbersFit_1_L0 pp n m) 256 0 (F_BT_unpack 31 12 pp n (384 * i) s) := by rw [F_KM_numbersFit_1_L0, bnd_eq]
    obtain ⟨a1, a2⟩ := P_unpack (pf := 31) (b := 12) (pr_ := pp) (n := n) (at_ := 384 * i) (s := s) hp (by decide) (by decide)
    generalize F_BT_unpack 31 12 pp n (384 * i) s = s1 at a1 a2 hU
    obtain ⟨b1, b2⟩ := nfI1 (i := i) (kk := F_KM_numbersFit_1_L0 pp n m) (s := s1) 256 0
    have hv : ∀ k, k < 256 → (s1.1 31 k < nI 3329 ↔ bv (rb (s.1 pp)) (12 * (256 * i + k)) 12 < 3329) := fun k hk => by
      have hl := bv_lt (P := 12 * (256 * i + k)) (rb_lt (r := s.1 pp)) 12
      rw [a2 k hk, show 8 * (384 * i) + 12 * k = 12 * (256 * i + k) by omega]
      exact nI_ltI (by omega) (by decide)
    obtain ⟨c1, c2, c3⟩ := nfA1 (n := n) hp m (i + 1) s1 (by omega)
    rw [a1.1 pp hp] at c2 c3
    rw [hU]
    by_cases q : ∀ k, 0 ≤ k → k < 0 + 256 → s1.1 31 k < nI 3329
    · rw [b1 q]
      refine ⟨onl_tr a1 c1, fun h => c2 fun g u v => h g (by omega) v, fun h => c3 fun h2 => h fun g u v => ?_⟩
      by_cases w : g < 256 * i + 256
      · have := (hv (g - 256 * i) (by omega)).mp (q (g - 256 * i) (Nat.zero_le _) (by omega))
        rw [show 256 * i + (g - 256 * i) = g by omega] at this
        exact this
      · exact h2 g (by omega) v
    · rw [b2 q]
      exact ⟨a1, fun h => absurd (fun k _ u => (hv k (by omega)).mpr (h (256 * i + k) (by omega) (by omega))) q, fun _ => rfl⟩
/-- the check of a public part, set 1 -/
theorem fit1_same {pp n pek : Nat} {s t : Sto} (hp : pp ≠ 31) (hB : ∀ j, j < 1152 → s.1 pp j = t.1 pek j) : onl 31 s (F_KM_numbersFit_1 pp n s).2 ∧ (F_ME_goodOpen_1 pek t).2 = t ∧ (F_KM_numbersFit_1 pp n s).1 = (F_ME_goodOpen_1 pek t).1 := by
  obtain ⟨a1, a2, a3⟩ := nfA1 (n := n) (s := s) hp 3 0 (by decide)
  obtain ⟨b1, b2, b3⟩ := cmpL (G := F_ME_goodOpen_1_L0 pek) (c := fun i s => nI (bv (rb (s.1 pek)) (12 * i) 12) < nI 3329) (fun i s => by rw [F_ME_goodOpen_1_L0]) (fun n i s => by rw [F_ME_goodOpen_1_L0, Q_unpack (by decide), bnd_eq]) 768 0 t
  rw [F_KM_numbersFit_1, F_ME_goodOpen_1]
  refine ⟨a1, b1, same01 ?_ a2 a3 b2 b3⟩
  have e : ∀ g, g < 768 → bv (rb (s.1 pp)) (12 * g) 12 = bv (rb (t.1 pek)) (12 * g) 12 := fun g hg => bv_c 12 fun j hj => by
    have := rb_c (r := s.1 pp) (r' := t.1 pek) (a := 0) (a' := 0) (n := 8 * 1152) (fun m hm => by rw [Nat.zero_add]; exact hB m (by omega)) (k := 12 * g + j) (by omega)
    rw [Nat.mul_zero, Nat.zero_add] at this
    exact this
  have l : ∀ g, bv (rb (t.1 pek)) (12 * g) 12 < 2 ^ 12 := fun g => bv_lt rb_lt 12
  constructor
  · intro h g u v
    have l1 := l g
    show nI (bv (rb (t.1 pek)) (12 * g) 12) < nI 3329
    rw [nI_ltI (by omega) (by decide), ← e g (by omega)]
    exact h g (by omega) (by omega)
  · intro h g u v
    have l1 := l g
    have h1 : nI (bv (rb (t.1 pek)) (12 * g) 12) < nI 3329 := h g (Nat.zero_le _) (by omega)
    rw [nI_ltI (by omega) (by decide), ← e g (by omega)] at h1
    exact h1
/-- the check of a secret part, set 1 -/
theorem hash1_fits {psk n pdk : Nat} {s t : Sto} (h1 : psk ≠ 14) (h2 : psk ≠ 33) (h3 : pdk ≠ 172) (h4 : pdk ≠ 222) (hB : ∀ j, j < 2400 → s.1 psk j = t.1 pdk j) : (∀ k, k ≠ 14 → k ≠ 33 → (F_KM_hashFits_1 psk n s).2.1 k = s.1 k) ∧ (∀ k, k ≠ 172 → k ≠ 222 → (F_ME_goodHidden_1 pdk t).2.1 k = t.1 k) ∧ (F_KM_hashFits_1 psk n s).1 = (F_ME_goodHidden_1 pdk t).1 := by
  have o2 : ∀ w : Sto, (F_ME_openSize_1 w).2 = w := fun w => by rw [F_ME_openSize_1]
  have hU : F_KM_hashFits_1 psk n s = F_KM_hashFits_1_L0 psk 32 0 (F_KM_digestOf psk n 1152 1184 s) := by rw [F_KM_hashFits_1, bnd_eq]
  have hV : F_ME_goodHidden_1 pdk t = F_ME_goodHidden_1_L0 pdk 32 0 (F_ME_hash pdk 16384 1152 1184 222 32 0 t) := by
    rw [F_ME_goodHidden_1]
    repeat rw [bnd_eq]
    rw [o2]
  obtain ⟨a1, a2, a3, -, -⟩ := digest_same (pb := psk) (n := n) (at_ := 1152) (len := 1184) (qb := pdk) (m := 16384) (bt := 1152) (qt := 222) (nt := 32) (wh := 0) (s := s) (t := t) h1 h3 (by decide) (fun j hj => hB _ (by omega))
  generalize F_KM_digestOf psk n 1152 1184 s = s1 at a1 a3 hU
  generalize F_ME_hash pdk 16384 1152 1184 222 32 0 t = t1 at a2 a3 hV
  obtain ⟨b1, b2, b3⟩ := cmpL (G := F_KM_hashFits_1_L0 psk) (c := fun i s => s.1 33 i = s.1 psk (2336 + i)) (fun i s => by rw [F_KM_hashFits_1_L0]) (fun n i s => by rw [F_KM_hashFits_1_L0]) 32 0 s1
  obtain ⟨c1, c2, c3⟩ := cmpL (G := F_ME_goodHidden_1_L0 pdk) (c := fun i s => s.1 222 i = s.1 pdk (2336 + i)) (fun i s => by rw [F_ME_goodHidden_1_L0]) (fun n i s => by rw [F_ME_goodHidden_1_L0]) 32 0 t1
  rw [hU, hV]
  refine ⟨fun k u v => by rw [b1]; exact a1.1 k u v, fun k u v => by rw [c1]; exact a2.1 k u v, same01 ?_ b2 b3 c2 c3⟩
  have p1 : s1.1 psk = s.1 psk := a1.1 psk h1 h2
  have p2 : t1.1 pdk = t.1 pdk := a2.1 pdk h3 h4
  have key : ∀ k, k < 32 → (s1.1 33 k = s1.1 psk (2336 + k) ↔ t1.1 222 k = t1.1 pdk (2336 + k)) := fun k hk => by
    have := a3 k hk
    rw [Nat.zero_add] at this
    rw [p1, p2, this, hB _ (by omega)]
  exact ⟨fun h k u v => (key k (by omega)).mp (h k u v), fun h k u v => (key k (by omega)).mpr (h k u v)⟩
theorem nfI2 {i : Nat} {kk : Nat → Sto → Int32 × Sto} {s : Sto} : ∀ (m j : Nat), ((∀ k, j ≤ k → k < j + m → s.1 31 k < nI 3329) → F_KM_numbersFit_2_L1 i kk m j s = kk (i + 1) s) ∧ ((¬ ∀ k, j ≤ k → k < j + m → s.1 31 k < nI 3329) → F_KM_numbersFit_2_L1 i kk m j s = (nI 0, s))
  | 0, j => ⟨fun _ => by rw [F_KM_numbersFit_2_L1], fun h => absurd (fun k h1 h2 => by omega) h⟩
  | m + 1, j => by
    obtain ⟨a, b⟩ := nfI2 (i := i) (kk := kk) (s := s) m (j + 1)
    rw [F_KM_numbersFit_2_L1]
    by_cases q : s.1 31 j < nI 3329
    · rw [if_pos q]
      refine ⟨fun h => a fun k u v => h k (by omega) (by omega), fun h => b fun h2 => h fun k u v => ?_⟩
      by_cases w : k = j
      · subst w
        exact q
      · exact h2 k (by omega) (by omega)
    · rw [if_neg q]
      exact ⟨fun h => absurd (h j (Nat.le_refl _) (by omega)) q, fun _ => rfl⟩
theorem nfA2 {pp n : Nat} (hp : pp ≠ 31) : ∀ (m i : Nat) (s : Sto), i + m = 4 → onl 31 s (F_KM_numbersFit_2_L0 pp n m i s).2 ∧ ((∀ g, 256 * i ≤ g → g < 1024 → bv (rb (s.1 pp)) (12 * g) 12 < 3329) → (F_KM_numbersFit_2_L0 pp n m i s).1 = nI 1) ∧ ((¬ ∀ g, 256 * i ≤ g → g < 1024 → bv (rb (s.1 pp)) (12 * g) 12 < 3329) → (F_KM_numbersFit_2_L0 pp n m i s).1 = nI 0)
  | 0, i, s, hi => by
    obtain rfl : i = 4 := by omega
    rw [F_KM_numbersFit_2_L0]
    exact ⟨onl_rf, fun _ => rfl, fun h => absurd (fun k h1 h2 => by omega) h⟩
  | m + 1, i, s, hi => by
    have hU : F_KM_numbersFit_2_L0 pp n (m + 1) i s = F_KM_numbersFit_2_L1 i (F_KM_numbersFit_2_L0 pp n m) 256 0 (F_BT_unpack 31 12 pp n (384 * i) s) := by rw [F_KM_numbersFit_2_L0, bnd_eq]
    obtain ⟨a1, a2⟩ := P_unpack (pf := 31) (b := 12) (pr_ := pp) (n := n) (at_ := 384 * i) (s := s) hp (by decide) (by decide)
    generalize F_BT_unpack 31 12 pp n (384 * i) s = s1 at a1 a2 hU
    obtain ⟨b1, b2⟩ := nfI2 (i := i) (kk := F_KM_numbersFit_2_L0 pp n m) (s := s1) 256 0
    have hv : ∀ k, k < 256 → (s1.1 31 k < nI 3329 ↔ bv (rb (s.1 pp)) (12 * (256 * i + k)) 12 < 3329) := fun k hk => by
      have hl := bv_lt (P := 12 * (256 * i + k)) (rb_lt (r := s.1 pp)) 12
      rw [a2 k hk, show 8 * (384 * i) + 12 * k = 12 * (256 * i + k) by omega]
      exact nI_ltI (by omega) (by decide)
    obtain ⟨c1, c2, c3⟩ := nfA2 (n := n) hp m (i + 1) s1 (by omega)
    rw [a1.1 pp hp] at c2 c3
    rw [hU]
    by_cases q : ∀ k, 0 ≤ k → k < 0 + 256 → s1.1 31 k < nI 3329
    · rw [b1 q]
      refine ⟨onl_tr a1 c1, fun h => c2 fun g u v => h g (by omega) v, fun h => c3 fun h2 => h fun g u v => ?_⟩
      by_cases w : g < 256 * i + 256
      · have := (hv (g - 256 * i) (by omega)).mp (q (g - 256 * i) (Nat.zero_le _) (by omega))
        rw [show 256 * i + (g - 256 * i) = g by omega] at this
        exact this
      · exact h2 g (by omega) v
    · rw [b2 q]
      exact ⟨a1, fun h => absurd (fun k _ u => (hv k (by omega)).mpr (h (256 * i + k) (by omega) (by omega))) q, fun _ => rfl⟩
/-- the check of a public part, set 2 -/
theorem fit2_same {pp n pek : Nat} {s t : Sto} (hp : pp ≠ 31) (hB : ∀ j, j < 1536 → s.1 pp j = t.1 pek j) : onl 31 s (F_KM_numbersFit_2 pp n s).2 ∧ (F_ME_goodOpen_2 pek t).2 = t ∧ (F_KM_numbersFit_2 pp n s).1 = (F_ME_goodOpen_2 pek t).1 := by
  obtain ⟨a1, a2, a3⟩ := nfA2 (n := n) (s := s) hp 4 0 (by decide)
  obtain ⟨b1, b2, b3⟩ := cmpL (G := F_ME_goodOpen_2_L0 pek) (c := fun i s => nI (bv (rb (s.1 pek)) (12 * i) 12) < nI 3329) (fun i s => by rw [F_ME_goodOpen_2_L0]) (fun n i s => by rw [F_ME_goodOpen_2_L0, Q_unpack (by decide), bnd_eq]) 1024 0 t
  rw [F_KM_numbersFit_2, F_ME_goodOpen_2]
  refine ⟨a1, b1, same01 ?_ a2 a3 b2 b3⟩
  have e : ∀ g, g < 1024 → bv (rb (s.1 pp)) (12 * g) 12 = bv (rb (t.1 pek)) (12 * g) 12 := fun g hg => bv_c 12 fun j hj => by
    have := rb_c (r := s.1 pp) (r' := t.1 pek) (a := 0) (a' := 0) (n := 8 * 1536) (fun m hm => by rw [Nat.zero_add]; exact hB m (by omega)) (k := 12 * g + j) (by omega)
    rw [Nat.mul_zero, Nat.zero_add] at this
    exact this
  have l : ∀ g, bv (rb (t.1 pek)) (12 * g) 12 < 2 ^ 12 := fun g => bv_lt rb_lt 12
  constructor
  · intro h g u v
    have l1 := l g
    show nI (bv (rb (t.1 pek)) (12 * g) 12) < nI 3329
    rw [nI_ltI (by omega) (by decide), ← e g (by omega)]
    exact h g (by omega) (by omega)
  · intro h g u v
    have l1 := l g
    have h1 : nI (bv (rb (t.1 pek)) (12 * g) 12) < nI 3329 := h g (Nat.zero_le _) (by omega)
    rw [nI_ltI (by omega) (by decide), ← e g (by omega)] at h1
    exact h1
/-- the check of a secret part, set 2 -/
theorem hash2_fits {psk n pdk : Nat} {s t : Sto} (h1 : psk ≠ 14) (h2 : psk ≠ 33) (h3 : pdk ≠ 172) (h4 : pdk ≠ 222) (hB : ∀ j, j < 3168 → s.1 psk j = t.1 pdk j) : (∀ k, k ≠ 14 → k ≠ 33 → (F_KM_hashFits_2 psk n s).2.1 k = s.1 k) ∧ (∀ k, k ≠ 172 → k ≠ 222 → (F_ME_goodHidden_2 pdk t).2.1 k = t.1 k) ∧ (F_KM_hashFits_2 psk n s).1 = (F_ME_goodHidden_2 pdk t).1 := by
  have o2 : ∀ w : Sto, (F_ME_openSize_2 w).2 = w := fun w => by rw [F_ME_openSize_2]
  have hU : F_KM_hashFits_2 psk n s = F_KM_hashFits_2_L0 psk 32 0 (F_KM_digestOf psk n 1536 1568 s) := by rw [F_KM_hashFits_2, bnd_eq]
  have hV : F_ME_goodHidden_2 pdk t = F_ME_goodHidden_2_L0 pdk 32 0 (F_ME_hash pdk 16384 1536 1568 222 32 0 t) := by
    rw [F_ME_goodHidden_2]
    repeat rw [bnd_eq]
    rw [o2]
  obtain ⟨a1, a2, a3, -, -⟩ := digest_same (pb := psk) (n := n) (at_ := 1536) (len := 1568) (qb := pdk) (m := 16384) (bt := 1536) (qt := 222) (nt := 32) (wh := 0) (s := s) (t := t) h1 h3 (by decide) (fun j hj => hB _ (by omega))
  generalize F_KM_digestOf psk n 1536 1568 s = s1 at a1 a3 hU
  generalize F_ME_hash pdk 16384 1536 1568 222 32 0 t = t1 at a2 a3 hV
  obtain ⟨b1, b2, b3⟩ := cmpL (G := F_KM_hashFits_2_L0 psk) (c := fun i s => s.1 33 i = s.1 psk (3104 + i)) (fun i s => by rw [F_KM_hashFits_2_L0]) (fun n i s => by rw [F_KM_hashFits_2_L0]) 32 0 s1
  obtain ⟨c1, c2, c3⟩ := cmpL (G := F_ME_goodHidden_2_L0 pdk) (c := fun i s => s.1 222 i = s.1 pdk (3104 + i)) (fun i s => by rw [F_ME_goodHidden_2_L0]) (fun n i s => by rw [F_ME_goodHidden_2_L0]) 32 0 t1
  rw [hU, hV]
  refine ⟨fun k u v => by rw [b1]; exact a1.1 k u v, fun k u v => by rw [c1]; exact a2.1 k u v, same01 ?_ b2 b3 c2 c3⟩
  have p1 : s1.1 psk = s.1 psk := a1.1 psk h1 h2
  have p2 : t1.1 pdk = t.1 pdk := a2.1 pdk h3 h4
  have key : ∀ k, k < 32 → (s1.1 33 k = s1.1 psk (3104 + k) ↔ t1.1 222 k = t1.1 pdk (3104 + k)) := fun k hk => by
    have := a3 k hk
    rw [Nat.zero_add] at this
    rw [p1, p2, this, hB _ (by omega)]
  exact ⟨fun h k u v => (key k (by omega)).mp (h k u v), fun h k u v => (key k (by omega)).mpr (h k u v)⟩
