set_option linter.all false
/-! ML-DSA: a signature is written -/
theorem P_fillB {pf : Nat} : ∀ (n i : Nat) (s : Sto), onl pf s (F_AR_fillB_L0 pf (nI 0) n i s) ∧ (∀ k, i ≤ k → k < i + n → (F_AR_fillB_L0 pf (nI 0) n i s).1 pf k = nI 0) ∧ ∀ k, k < i → (F_AR_fillB_L0 pf (nI 0) n i s).1 pf k = s.1 pf k
  | 0, i, s => by
    rw [F_AR_fillB_L0]
    exact ⟨onl_rf, fun k h1 h2 => by omega, fun _ _ => rfl⟩
  | n + 1, i, s => by
    have hU : F_AR_fillB_L0 pf (nI 0) (n + 1) i s = F_AR_fillB_L0 pf (nI 0) n (i + 1) (sB s pf i (nI 0)) := by rw [F_AR_fillB_L0, bnd_eq]
    have o1 : onl pf s (sB s pf i (nI 0)) := ⟨fun k hk => sB_off hk, rfl⟩
    have r1 : (sB s pf i (nI 0)).1 pf = upd (s.1 pf) i (nI 0) := by
      rw [sB_at]
      exact congrArg (upd (s.1 pf) i) (by decide)
    generalize sB s pf i (nI 0) = s1 at hU o1 r1
    obtain ⟨a, b, c⟩ := P_fillB (pf := pf) n (i + 1) s1
    rw [hU]
    refine ⟨onl_tr o1 a, fun k h1 h2 => ?_, fun k hk => ?_⟩
    · by_cases w : k = i
      · subst w
        rw [c k (by omega), r1, upd_s]
      · exact b k (by omega) (by omega)
    · rw [c k (by omega), r1, upd_n (by omega)]
theorem shr_p {G1 B z : Nat} (hG : G1 ≤ 524288) (hB : B ≤ G1) (hz : z < 8380417) (h : (if z ≤ 4190208 then z else 8380417 - z) < B) : (8380417 + G1 - z) % 8380417 < 2 * G1 := by
  by_cases q : z ≤ 4190208
  · rw [if_pos q] at h
    omega
  · rw [if_neg q] at h
    omega
theorem ws00 {pt : Nat} {W : Nat → Nat → Nat} {CB HB : Nat → Int32} (hp : ¬ (16 ≤ pt ∧ pt ≤ 18) ∧ ¬ (41 ≤ pt ∧ pt ≤ 147)) : ∀ (m i : Nat) (s : Sto), i + m = 4 → (∀ x k, x < 4 → k < 256 → ∃ z : Nat, z < 8380417 ∧ s.1 (124 + x) k = nI z ∧ W x k = (8380417 + 131072 - z) % 8380417 ∧ W x k < 2 ^ 18) → (∀ x, x < 32 → s.1 pt x = CB x) → (∀ x, x < 84 → s.1 146 x = HB x) → (∀ r j, r < i → j < 576 → s.1 pt (32 + 576 * r + j) = pkb 18 (W r) j) →
    ∃ s1, F_DA_writeSignature_0_L0 pt m i s = s1 ∧ frm (fun k => k = 141 ∨ k = pt) s s1 ∧ (∀ x, x < 32 → s1.1 pt x = CB x) ∧ (∀ r j, r < 4 → j < 576 → s1.1 pt (32 + 576 * r + j) = pkb 18 (W r) j) ∧ ∀ x, x < 84 → s1.1 pt (2336 + x) = HB x
  | 0, i, s, hi, _, h2, h3, h4 => by
    obtain rfl : i = 4 := by omega
    refine ⟨sC s 146 pt 0 2336 84, by rw [F_DA_writeSignature_0_L0, bnd_eq], fun k hk => sC_o.1 k (by omega), fun x hx => ?_, fun r j hr hj => ?_, fun x hx => ?_⟩
    · rw [sC_out (Or.inl (by omega))]
      exact h2 x hx
    · rw [sC_out (Or.inl (by omega))]
      exact h4 r j hr hj
    · rw [sC_in hx, Nat.zero_add]
      exact h3 x hx
  | m + 1, i, s, hi, h1, h2, h3, h4 => by
    have hU : F_DA_writeSignature_0_L0 pt (m + 1) i s = F_DA_writeSignature_0_L0 pt m (i + 1) (F_BT_pack 141 18 pt 8192 (32 + 576 * i) (F_RG_flip_8 (124 + i) (nI 131072) 141 s)) := by
      rw [F_DA_writeSignature_0_L0]
      repeat rw [bnd_eq]
    obtain ⟨b1, b2⟩ := P_flip8 (pf := 124 + i) (pg := 141) (tp := nI 131072) (s := s)
    generalize F_RG_flip_8 (124 + i) (nI 131072) 141 s = s2 at b1 b2 hU
    obtain ⟨c1, c2, c3⟩ := P_packW (pf := 141) (b := 18) (pt := pt) (n := 8192) (at_ := 32 + 576 * i) (W := W i) (s := s2) (by omega) (by decide) (by decide) (fun k hk => by
      obtain ⟨z, z1, z2, z3, z4⟩ := h1 i k (by omega) hk
      refine ⟨z4, ?_⟩
      rw [b2 k hk, z2, tk_C (by decide) z1, z3])
    generalize F_BT_pack 141 18 pt 8192 (32 + 576 * i) s2 = s3 at c1 c2 c3 hU
    have g : ∀ y, y ≠ 141 → y ≠ pt → s3.1 y = s.1 y := fun y u v => by rw [c1.1 y v, b1.1 y u]
    have gp : s2.1 pt = s.1 pt := b1.1 pt (by omega)
    obtain ⟨s4, d1, d2, d3⟩ := ws00 (W := W) (CB := CB) (HB := HB) hp m (i + 1) s3 (by omega) (fun x k hx hk => by rw [g _ (by omega) (by omega)]; exact h1 x k hx hk) (fun x hx => by rw [c3 x (Or.inl (by omega)), gp]; exact h2 x hx) (fun x hx => by rw [g 146 (by omega) (by omega)]; exact h3 x hx) (fun r j hr hj => by
      by_cases w : r = i
      · subst w
        exact c2 j (by omega)
      · rw [c3 _ (Or.inl (by omega)), gp]
        exact h4 r j (by omega) hj)
    exact ⟨s4, hU.trans d1, fun k hk => by rw [d2 k hk, g k (by omega) (by omega)], d3⟩
/-- the reference's hints -/
theorem wh40 {pt r : Nat} {kk : Nat → Nat → Sto → Sto} {h : Nat → Nat} (hp : ¬ (225 ≤ pt ∧ pt ≤ 378)) (hr : r < 4) (hh : ∀ k, k < 256 → h k ≤ 1) : ∀ (n i c : Nat) (t : Sto), i + n = 256 → (∀ k, k < 256 → t.1 (360 + r) k = nI (h k)) →
    ∃ t1, F_MH_written_0_L4 pt (8 * 2336) r kk n i c t = kk (r + 1) (c + hs h n i) t1 ∧ onl pt t t1 ∧ (∀ x, t1.1 pt (2336 + x) = upd (hwL h n i c (fun x => t.1 pt (2336 + x))) (80 + r) (by8 (c + hs h n i)) x) ∧ ∀ x, x < 2336 → t1.1 pt x = t.1 pt x
  | 0, i, c, t, hi, _ => by
    have r1 : (sB t pt (2336 + 80 + r) ((nI c).toInt8.toInt32)).1 pt = upd (t.1 pt) (2336 + 80 + r) (by8 c) := by
      rw [sB_at]
      exact congrArg (upd (t.1 pt) (2336 + 80 + r)) (pk_vb (nI c))
    refine ⟨sB t pt (2336 + 80 + r) ((nI c).toInt8.toInt32), by rw [F_MH_written_0_L4, bnd_eq, bnd_eq, hs, Nat.add_zero c, show 8 * 2336 / 8 = 2336 by decide], ⟨fun k hk => sB_off hk, rfl⟩, fun x => ?_, fun x hx => ?_⟩
    · rw [r1, hs, hwL, Nat.add_zero c]
      by_cases w : x = 80 + r
      · subst w
        rw [upd_s, show 2336 + (80 + r) = 2336 + 80 + r by omega, upd_s]
      · rw [upd_n w, upd_n (by omega)]
    · rw [r1, upd_n (by omega)]
  | n + 1, i, c, t, hi, e1 => by
    have ei := e1 i (by omega)
    have hi1 := hh i (by omega)
    by_cases q : h i = 0
    · have hU : F_MH_written_0_L4 pt (8 * 2336) r kk (n + 1) i c t = F_MH_written_0_L4 pt (8 * 2336) r kk n (i + 1) c t := by
        rw [F_MH_written_0_L4, ei, q, if_pos (by decide)]
      obtain ⟨t1, a1, a2, a3, a4⟩ := wh40 (kk := kk) hp hr hh n (i + 1) c t (by omega) e1
      rw [hU, hs, hwL, if_pos q, q, Nat.zero_add]
      exact ⟨t1, a1, a2, a3, a4⟩
    · have hq : h i = 1 := by omega
      have hU : F_MH_written_0_L4 pt (8 * 2336) r kk (n + 1) i c t = F_MH_written_0_L4 pt (8 * 2336) r kk n (i + 1) (c + 1) (sB t pt (2336 + c) ((nI i).toInt8.toInt32)) := by
        rw [F_MH_written_0_L4, ei, hq, if_neg (by decide), bnd_eq, show 8 * 2336 / 8 = 2336 by decide]
      have o1 : onl pt t (sB t pt (2336 + c) ((nI i).toInt8.toInt32)) := ⟨fun k hk => sB_off hk, rfl⟩
      have r1 : (sB t pt (2336 + c) ((nI i).toInt8.toInt32)).1 pt = upd (t.1 pt) (2336 + c) (by8 i) := by
        rw [sB_at]
        exact congrArg (upd (t.1 pt) (2336 + c)) (pk_vb (nI i))
      generalize sB t pt (2336 + c) ((nI i).toInt8.toInt32) = t0 at hU o1 r1
      obtain ⟨t1, a1, a2, a3, a4⟩ := wh40 (kk := kk) hp hr hh n (i + 1) (c + 1) t0 (by omega) (fun k hk => by rw [o1.1 _ (by omega)]; exact e1 k hk)
      have eA : (fun x => t0.1 pt (2336 + x)) = upd (fun x => t.1 pt (2336 + x)) c (by8 i) := funext fun x => by
        rw [r1]
        by_cases w : x = c
        · subst w
          rw [upd_s, upd_s]
        · rw [upd_n w, upd_n (by omega)]
      rw [eA] at a3
      rw [hU, hs, hwL, if_neg q, hq, ← Nat.add_assoc]
      exact ⟨t1, a1, onl_tr o1 a2, a3, fun x hx => by rw [a4 x hx, r1, upd_n (by omega)]⟩
theorem wh30 {pt : Nat} {HB : Nat → Nat → Nat} (hp : ¬ (225 ≤ pt ∧ pt ≤ 378)) (hh : ∀ x k, x < 4 → k < 256 → HB x k ≤ 1) : ∀ (m i c : Nat) (t : Sto), i + m = 4 → (∀ x, x < 4 → ∀ k, k < 256 → t.1 (360 + x) k = nI (HB x k)) →
    ∃ t1, F_MH_written_0_L3 pt (8 * 2336) m i c t = t1 ∧ onl pt t t1 ∧ (∀ x, t1.1 pt (2336 + x) = hwR 80 HB m i c (fun x => t.1 pt (2336 + x)) x) ∧ ∀ x, x < 2336 → t1.1 pt x = t.1 pt x
  | 0, i, c, t, hi, _ => ⟨t, by rw [F_MH_written_0_L3, bnd_eq], onl_rf, fun x => rfl, fun _ _ => rfl⟩
  | m + 1, i, c, t, hi, h1 => by
    have hV : F_MH_written_0_L3 pt (8 * 2336) (m + 1) i c t = F_MH_written_0_L4 pt (8 * 2336) i (F_MH_written_0_L3 pt (8 * 2336) m) 256 0 c t := by rw [F_MH_written_0_L3, bnd_eq]
    obtain ⟨t1, a1, a2, a3, a4⟩ := wh40 (r := i) (kk := F_MH_written_0_L3 pt (8 * 2336) m) (h := HB i) hp (by omega) (fun k hk => hh i k (by omega) hk) 256 0 c t rfl (h1 i (by omega))
    obtain ⟨t2, b1, b2, b3, b4⟩ := wh30 hp hh m (i + 1) (c + hs (HB i) 256 0) t1 (by omega) (fun x hx k hk => by rw [a2.1 _ (by omega)]; exact h1 x hx k hk)
    rw [show (fun x => t1.1 pt (2336 + x)) = _ from funext a3] at b3
    exact ⟨t2, (hV.trans a1).trans b1, onl_tr a2 b2, b3, fun x hx => by rw [b4 x hx, a4 x hx]⟩
theorem wh20 {pt : Nat} : ∀ (m i : Nat) (t : Sto), i + m = 84 → (∀ x, x < i → t.1 pt (2336 + x) = nI 0) → ∃ t1, F_MH_written_0_L2 pt (8 * 2336) m i t = F_MH_written_0_L3 pt (8 * 2336) 4 0 0 t1 ∧ onl pt t t1 ∧ (∀ x, x < 84 → t1.1 pt (2336 + x) = nI 0) ∧ ∀ x, x < 2336 → t1.1 pt x = t.1 pt x
  | 0, i, t, hi, h => by
    obtain rfl : i = 84 := by omega
    exact ⟨t, by rw [F_MH_written_0_L2, bnd_eq, bnd_eq], onl_rf, h, fun _ _ => rfl⟩
  | m + 1, i, t, hi, h => by
    have hV : F_MH_written_0_L2 pt (8 * 2336) (m + 1) i t = F_MH_written_0_L2 pt (8 * 2336) m (i + 1) (sB t pt (2336 + i) (nI 0)) := by
      rw [F_MH_written_0_L2]
      repeat rw [bnd_eq]
    have o1 : onl pt t (sB t pt (2336 + i) (nI 0)) := ⟨fun k hk => sB_off hk, rfl⟩
    have r1 : (sB t pt (2336 + i) (nI 0)).1 pt = upd (t.1 pt) (2336 + i) (nI 0) := by
      rw [sB_at]
      exact congrArg (upd (t.1 pt) (2336 + i)) (by decide)
    generalize sB t pt (2336 + i) (nI 0) = t0 at hV o1 r1
    obtain ⟨t1, a1, a2, a3, a4⟩ := wh20 (pt := pt) m (i + 1) t0 (by omega) (fun x hx => by
      rw [r1]
      by_cases w : x = i
      · subst w
        rw [upd_s]
      · rw [upd_n (by omega)]
        exact h x (by omega))
    exact ⟨t1, hV.trans a1, onl_tr o1 a2, a3, fun x hx => by rw [a4 x hx, r1, upd_n (by omega)]⟩
theorem wh10 {pt : Nat} {W : Nat → Nat → Nat} {CB : Nat → Int32} (hp : ¬ (225 ≤ pt ∧ pt ≤ 378)) : ∀ (m i az : Nat) (t : Sto), i + m = 4 → az = 8 * (32 + 576 * i) → (∀ x k, x < 4 → k < 256 → ∃ z : Nat, z < 8380417 ∧ t.1 (335 + x) k = nI z ∧ W x k = (8380417 + 131072 - z) % 8380417 ∧ W x k < 2 ^ 18) → (∀ x, x < 32 → t.1 pt x = CB x) → (∀ r j, r < i → j < 576 → t.1 pt (32 + 576 * r + j) = pkb 18 (W r) j) →
    ∃ t1, F_MH_written_0_L1 pt m i az t = F_MH_written_0_L2 pt (8 * 2336) 84 0 t1 ∧ onl pt t t1 ∧ (∀ x, x < 32 → t1.1 pt x = CB x) ∧ ∀ r j, r < 4 → j < 576 → t1.1 pt (32 + 576 * r + j) = pkb 18 (W r) j
  | 0, i, az, t, hi, ha, _, h2, h3 => by
    obtain rfl : i = 4 := by omega
    exact ⟨t, by rw [F_MH_written_0_L1, bnd_eq, show az = 8 * 2336 by omega], onl_rf, h2, h3⟩
  | m + 1, i, az, t, hi, ha, h1, h2, h3 => by
    have hV : F_MH_written_0_L1 pt (m + 1) i az t = F_MH_written_0_L5 pt i (F_MH_written_0_L1 pt m) 256 0 (8 * (32 + 576 * i) + 18 * 0) t := by
      rw [F_MH_written_0_L1, bnd_eq, show az = 8 * (32 + 576 * i) + 18 * 0 by omega]
    obtain ⟨t1, a1, a2, a3, a4⟩ := rpk_row (pt := pt) (N := 8192) (b := 18) (at_ := 32 + 576 * i) (G := fun n k s => F_MH_written_0_L5 pt i (F_MH_written_0_L1 pt m) n k (8 * (32 + 576 * i) + 18 * k) s) (K := fun s => F_MH_written_0_L1 pt m (i + 1) (8 * (32 + 576 * i) + 18 * 256) s) (v := fun k _ => nI (W i k)) (W := W i) (s0 := t) (by decide) (by decide) (fun s => by
      show F_MH_written_0_L5 pt i (F_MH_written_0_L1 pt m) 0 256 (8 * (32 + 576 * i) + 18 * 256) s = _
      rw [F_MH_written_0_L5]) (fun n k s hk o => by
      obtain ⟨z, z1, z2, z3, z4⟩ := h1 i k (by omega) hk
      show F_MH_written_0_L5 pt i (F_MH_written_0_L1 pt m) (n + 1) k (8 * (32 + 576 * i) + 18 * k) s = F_MH_written_0_L5 pt i (F_MH_written_0_L1 pt m) n (k + 1) (8 * (32 + 576 * i) + 18 * (k + 1)) (F_M_pack pt 8192 (8 * (32 + 576 * i) + 18 * k) 18 (nI (W i k)) s)
      rw [show 8 * (32 + 576 * i) + 18 * (k + 1) = 8 * (32 + 576 * i) + 18 * k + 18 by omega]
      generalize 8 * (32 + 576 * i) + 18 * k = y
      rw [F_MH_written_0_L5, bnd_eq, o.1 (335 + i) (by omega), z2, Q_minus, tk_R (by decide) z1, z3]
      repeat rw [bnd_eq]) (fun k s hk o => rfl) (fun k hk => by
      obtain ⟨z, z1, z2, z3, z4⟩ := h1 i k (by omega) hk
      exact z4)
    have a1' : F_MH_written_0_L5 pt i (F_MH_written_0_L1 pt m) 256 0 (8 * (32 + 576 * i) + 18 * 0) t = F_MH_written_0_L1 pt m (i + 1) (8 * (32 + 576 * i) + 18 * 256) t1 := a1
    obtain ⟨t2, b1, b2, b3⟩ := wh10 (W := W) (CB := CB) hp m (i + 1) (8 * (32 + 576 * i) + 18 * 256) t1 (by omega) (by omega) (fun x k hx hk => by rw [a2.1 _ (by omega)]; exact h1 x k hx hk) (fun x hx => by rw [a4 x (Or.inl (by omega))]; exact h2 x hx) (fun r j hr hj => by
      by_cases w : r = i
      · subst w
        exact a3 j (by omega)
      · rw [a4 _ (Or.inl (by omega))]
        exact h3 r j (by omega) hj)
    exact ⟨t2, (hV.trans a1').trans b1, onl_tr a2 b2, b3⟩
theorem wh00 {pt : Nat} {CB : Nat → Int32} (hp : ¬ (225 ≤ pt ∧ pt ≤ 378)) (hN : ∀ x, x < 32 → vp_nar .byte (CB x) = CB x) : ∀ (m i : Nat) (t : Sto), i + m = 32 → (∀ x, x < 32 → t.1 376 x = CB x) → (∀ x, x < i → t.1 pt x = CB x) → ∃ t1, F_MH_written_0_L0 pt m i t = F_MH_written_0_L1 pt 4 0 256 t1 ∧ onl pt t t1 ∧ ∀ x, x < 32 → t1.1 pt x = CB x
  | 0, i, t, hi, _, h => by
    obtain rfl : i = 32 := by omega
    exact ⟨t, by rw [F_MH_written_0_L0, bnd_eq, bnd_eq, bnd_eq], onl_rf, h⟩
  | m + 1, i, t, hi, h1, h => by
    have hV : F_MH_written_0_L0 pt (m + 1) i t = F_MH_written_0_L0 pt m (i + 1) (sB t pt i (CB i)) := by
      rw [F_MH_written_0_L0, h1 i (by omega)]
      repeat rw [bnd_eq]
    have o1 : onl pt t (sB t pt i (CB i)) := ⟨fun k hk => sB_off hk, rfl⟩
    have r1 : (sB t pt i (CB i)).1 pt = upd (t.1 pt) i (CB i) := by rw [sB_at, hN i (by omega)]
    generalize sB t pt i (CB i) = t0 at hV o1 r1
    obtain ⟨t1, a1, a2, a3⟩ := wh00 hp hN m (i + 1) t0 (by omega) (fun x hx => by rw [o1.1 376 (by omega)]; exact h1 x hx) (fun x hx => by
      rw [r1]
      by_cases w : x = i
      · subst w
        rw [upd_s]
      · rw [upd_n w]
        exact h x (by omega))
    exact ⟨t1, hV.trans a1, onl_tr o1 a2, a3⟩
/-- sigEncode: both sides -/
theorem sig0_same {pt qt : Nat} {HB : Nat → Nat → Nat} {s t : Sto} (hp : ¬ (16 ≤ pt ∧ pt ≤ 18) ∧ ¬ (41 ≤ pt ∧ pt ≤ 147)) (hq : ¬ (225 ≤ qt ∧ qt ≤ 378)) (hC : ∀ x, x < 32 → s.1 144 x = t.1 376 x) (hN : ∀ x, x < 32 → vp_nar .byte (t.1 376 x) = t.1 376 x) (hz : ∀ x, x < 4 → sr 8380417 (s.1 (124 + x)) (t.1 (335 + x)) ∧ shr 130994 (t.1 (335 + x))) (hh : ∀ x k, x < 4 → k < 256 → HB x k ≤ 1) (hR : ∀ x, x < 4 → ∀ k, k < 256 → t.1 (360 + x) k = nI (HB x k)) (hH : ∀ x, x < 84 → s.1 146 x = hwR 80 HB 4 0 0 (fun _ => nI 0) x) : frm (fun k => k = 141 ∨ k = pt) s (F_DA_writeSignature_0 pt s) ∧ onl qt t (F_MH_written_0 qt t) ∧ ∀ x, x < 2420 → (F_DA_writeSignature_0 pt s).1 pt x = (F_MH_written_0 qt t).1 qt x := by
  have hU : F_DA_writeSignature_0 pt s = F_DA_writeSignature_0_L0 pt 4 0 (sC s 144 pt 0 0 32) := by rw [F_DA_writeSignature_0, bnd_eq]
  have hV : F_MH_written_0 qt t = F_MH_written_0_L0 qt 32 0 t := by rw [F_MH_written_0]
  have k1 : onl pt s (sC s 144 pt 0 0 32) := sC_o
  have k2 : ∀ x, x < 32 → (sC s 144 pt 0 0 32).1 pt x = t.1 376 x := fun x hx => by
    have := sC_in (s := s) (k0 := 144) (k1 := pt) (sp := 0) (dp := 0) hx
    rw [Nat.zero_add] at this
    rw [this]
    exact hC x hx
  generalize sC s 144 pt 0 0 32 = s1 at k1 k2 hU
  have hW : ∀ x k, x < 4 → k < 256 → ∃ z : Nat, z < 8380417 ∧ s.1 (124 + x) k = nI z ∧ t.1 (335 + x) k = nI z ∧ (8380417 + 131072 - vn (t.1 (335 + x)) k) % 8380417 = (8380417 + 131072 - z) % 8380417 ∧ (8380417 + 131072 - vn (t.1 (335 + x)) k) % 8380417 < 2 ^ 18 := fun x k hx hk => by
    obtain ⟨z, z1, z2, z3⟩ := (hz x hx).1 k hk
    have e := vn_n z3 (by omega)
    have g := (hz x hx).2 k hk
    rw [e] at g
    refine ⟨z, z1, z2, z3, by rw [e], ?_⟩
    rw [e]
    exact shr_p (G1 := 131072) (by decide) (by decide) z1 g
  obtain ⟨s2, a1, a2, a3, a4, a5⟩ := ws00 (pt := pt) (W := fun x k => (8380417 + 131072 - vn (t.1 (335 + x)) k) % 8380417) (CB := t.1 376) (HB := hwR 80 HB 4 0 0 (fun _ => nI 0)) hp 4 0 s1 (by decide) (fun x k hx hk => by
    obtain ⟨z, z1, z2, z3, z4, z5⟩ := hW x k hx hk
    exact ⟨z, z1, by rw [k1.1 _ (by omega)]; exact z2, z4, z5⟩) k2 (fun x hx => by rw [k1.1 146 (by omega)]; exact hH x hx) (fun r j hr => absurd hr (Nat.not_lt_zero _))
  obtain ⟨t1, b1, b2, b3⟩ := wh00 (pt := qt) (CB := t.1 376) hq hN 32 0 t (by decide) (fun _ _ => rfl) (fun x hx => absurd hx (Nat.not_lt_zero _))
  obtain ⟨t2, c1, c2, c3, c4⟩ := wh10 (pt := qt) (W := fun x k => (8380417 + 131072 - vn (t.1 (335 + x)) k) % 8380417) (CB := t.1 376) hq 4 0 256 t1 (by decide) (by decide) (fun x k hx hk => by
    obtain ⟨z, z1, z2, z3, z4, z5⟩ := hW x k hx hk
    exact ⟨z, z1, by rw [b2.1 _ (by omega)]; exact z3, z4, z5⟩) b3 (fun r j hr => absurd hr (Nat.not_lt_zero _))
  obtain ⟨t3, d1, d2, d3, d4⟩ := wh20 (pt := qt) 84 0 t2 (by decide) (fun x hx => absurd hx (Nat.not_lt_zero _))
  obtain ⟨t4, e1, e2, e3, e4⟩ := wh30 (pt := qt) (HB := HB) hq hh 4 0 0 t3 (by decide) (fun x hx k hk => by rw [d2.1 _ (by omega), c2.1 _ (by omega), b2.1 _ (by omega)]; exact hR x hx k hk)
  rw [hU, a1, hV, b1, c1, d1, e1]
  refine ⟨fun k hk => by rw [a2 k hk, k1.1 k (by omega)], onl_tr (onl_tr (onl_tr b2 c2) d2) e2, fun x hx => ?_⟩
  by_cases w1 : x < 2336
  · rw [e4 x w1, d4 x w1]
    by_cases w2 : x < 32
    · rw [a3 x w2, c3 x w2]
    · have u1 := a4 ((x - 32) / 576) ((x - 32) % 576) (by omega) (Nat.mod_lt _ (by decide))
      have u2 := c4 ((x - 32) / 576) ((x - 32) % 576) (by omega) (Nat.mod_lt _ (by decide))
      rw [show 32 + 576 * ((x - 32) / 576) + (x - 32) % 576 = x by omega] at u1 u2
      rw [u1, u2]
  · have u1 := a5 (x - 2336) (by omega)
    have u2 := e3 (x - 2336)
    rw [show 2336 + (x - 2336) = x by omega] at u1 u2
    rw [u1, u2]
    exact hwR_c 4 0 0 _ _ (fun y hy => (d3 y hy).symm) (x - 2336) (by omega)
