set_option linter.all false
theorem tn2 {pf qf pt : Nat} {s t : Sto} (hpf : pf ≠ 141) (hB : BALL (s.1 140) (t.1 368)) (hT : tr8 (s.1 pf) (t.1 qf)) : onl 141 s (F_DA_multiplyBall pf s) ∧ (∀ k, k ≠ pt → (F_MH_turned_2 qf pt t).1 k = t.1 k) ∧ sr 8380417 ((F_DA_multiplyBall pf s).1 141) ((F_MH_turned_2 qf pt t).1 pt) := by
  obtain ⟨sc, pc, b1, b2⟩ := hB
  obtain ⟨sd, pd, t1, t2, t3⟩ := hT
  exact turn2_same (C := fun i => (t.1 368 i).toInt) hpf (tern_r b2) t1 b1 t2 (fun i hi => ⟨rfl, (tern_C b2 hi).2⟩) (fun i hi => by
    obtain ⟨⟨n, h1, h2, h3⟩, -, -⟩ := tern_C b2 hi
    rw [vl_n h2 (by omega)]
    exact h3) t3
theorem lob2 {v : Nat} (hv : v < 8380417) {s t : Sto} : ∃ x : Int32, F_DS_low_2 (nI v) s = (x, s) ∧ F_MH_low_2 (nI v) t = (x, t) ∧ -1073741824 ≤ x.toInt ∧ x.toInt ≤ 1073741824 := by
  obtain ⟨x, h1, h2⟩ := lo2 hv (s := s) (t := t)
  refine ⟨x, h1, h2, ?_⟩
  have e2 : nI v - nI v / nI 523776 * nI 523776 = nI (v % 523776) := pk_rem (by omega) (by decide) (by decide)
  have hr : v % 523776 < 523776 := Nat.mod_lt _ (by decide)
  have k1 : (nI (v % 523776)).toInt = ((v % 523776 : Nat) : Int) := nI_toInt (by omega)
  have k2 : (nI (v % 523776) - nI 1).toInt = ((v % 523776 : Nat) : Int) - 1 := pk_sub_toInt (by omega) (by decide)
  have k3 : (nI (v % 523776) - nI 523776).toInt = ((v % 523776 : Nat) : Int) - 523776 := pk_sub_toInt (by omega) (by decide)
  have k4 : (nI (v % 523776) - nI 523776 - nI 1).toInt = ((v % 523776 : Nat) : Int) - (1 + 523776 : Nat) := by
    rw [sub2n]
    exact pk_sub_toInt (by omega) (by decide)
  rw [F_MH_low_2, bnd_eq, e2, bnd_eq, bnd_eq] at h2
  by_cases w : nI (v % 523776) ≤ nI 261888
  · rw [if_pos w] at h2
    by_cases u : nI v - nI (v % 523776) = nI 8380416
    · rw [if_pos u] at h2
      have e : nI (v % 523776) - nI 1 = x := congrArg Prod.fst h2
      rw [← e, k2]
      omega
    · rw [if_neg u] at h2
      have e : nI (v % 523776) = x := congrArg Prod.fst h2
      rw [← e, k1]
      omega
  · rw [if_neg w, bnd_eq, bnd_eq] at h2
    by_cases u : nI v - (nI (v % 523776) - nI 523776) = nI 8380416
    · rw [if_pos u] at h2
      have e : nI (v % 523776) - nI 523776 - nI 1 = x := congrArg Prod.fst h2
      rw [← e, k4]
      omega
    · rw [if_neg u] at h2
      have e : nI (v % 523776) - nI 523776 = x := congrArg Prod.fst h2
      rw [← e, k3]
      omega
/-- one row of the answer: the reference's loop -/
theorem f52 {r : Nat} {kk : Nat → Sto → Int32 × Sto} {A P : Nat → Int32} (hr : r < 7) (hA : rdc 8380417 A) (hP : rdc 8380417 P) : ∀ (m i : Nat) (t : Sto), i + m = 256 → t.1 (327 + r) = A → t.1 369 = P → (∀ k, k < i → t.1 (335 + r) k = nI ((vn A k + vn P k) % 8380417)) →
    ((∀ k, i ≤ k → k < 256 → (if (vn A k + vn P k) % 8380417 ≤ 4190208 then (vn A k + vn P k) % 8380417 else 8380417 - (vn A k + vn P k) % 8380417) < 524168) → ∃ t1, F_MH_fits_2_L5 r kk m i t = kk (r + 1) t1 ∧ onl (335 + r) t t1 ∧ ∀ k, k < 256 → t1.1 (335 + r) k = nI ((vn A k + vn P k) % 8380417)) ∧ ((¬ ∀ k, i ≤ k → k < 256 → (if (vn A k + vn P k) % 8380417 ≤ 4190208 then (vn A k + vn P k) % 8380417 else 8380417 - (vn A k + vn P k) % 8380417) < 524168) → ∃ t1, F_MH_fits_2_L5 r kk m i t = (nI 0, t1) ∧ onl (335 + r) t t1)
  | 0, i, t, hi, _, _, h => by
    obtain rfl : i = 256 := by omega
    exact ⟨fun _ => ⟨t, by rw [F_MH_fits_2_L5], onl_rf, h⟩, fun g => absurd (fun k h1 h2 => by omega) g⟩
  | m + 1, i, t, hi, e1, e2, h => by
    obtain ⟨a, ha, ea⟩ := hA i (by omega)
    obtain ⟨b, hb, eb⟩ := hP i (by omega)
    have va : vn A i = a := vn_n ea (by omega)
    have vb : vn P i = b := vn_n eb (by omega)
    have hv : (a + b) % 8380417 < 8380417 := Nat.mod_lt _ (by decide)
    have z1 : (t.1 (327 + r) i + t.1 369 i) - (t.1 (327 + r) i + t.1 369 i) / nI 8380417 * nI 8380417 = nI ((a + b) % 8380417) := by
      rw [e1, e2, ea, eb, nI_add]
      exact pk_rem (by omega) (by decide) (by decide)
    have o1 : onl (335 + r) t (sI t (335 + r) i (nI ((a + b) % 8380417))) := onl_sI
    have r1 : (sI t (335 + r) i (nI ((a + b) % 8380417))).1 (335 + r) = upd (t.1 (335 + r)) i (nI ((a + b) % 8380417)) := sI_row
    have hU : F_MH_fits_2_L5 r kk (m + 1) i t = if nI (if (a + b) % 8380417 ≤ 4190208 then (a + b) % 8380417 else 8380417 - (a + b) % 8380417) < nI 524168 then F_MH_fits_2_L5 r kk m (i + 1) (sI t (335 + r) i (nI ((a + b) % 8380417))) else (nI 0, sI t (335 + r) i (nI ((a + b) % 8380417))) := by
      rw [F_MH_fits_2_L5, z1, bnd_eq, sI_at, Q_norm hv]
      repeat rw [bnd_eq]
    generalize sI t (335 + r) i (nI ((a + b) % 8380417)) = t0 at o1 r1 hU
    have hw : (if (a + b) % 8380417 ≤ 4190208 then (a + b) % 8380417 else 8380417 - (a + b) % 8380417) < 2 ^ 31 := by
      split <;> omega
    obtain ⟨c1, c2⟩ := f52 (kk := kk) hr hA hP m (i + 1) t0 (by omega) (by rw [o1.1 _ (by omega)]; exact e1) (by rw [o1.1 _ (by omega)]; exact e2) (fun k hk => by
      rw [r1]
      by_cases w : k = i
      · subst w
        rw [upd_s, va, vb]
      · rw [upd_n w]
        exact h k (by omega))
    by_cases q : (if (a + b) % 8380417 ≤ 4190208 then (a + b) % 8380417 else 8380417 - (a + b) % 8380417) < 524168
    · rw [if_pos ((nI_ltI hw (by decide)).mpr q)] at hU
      rw [hU]
      refine ⟨fun g => ?_, fun g => ?_⟩
      · obtain ⟨t1, d1, d2, d3⟩ := c1 fun k h1 h2 => g k (by omega) h2
        exact ⟨t1, d1, onl_tr o1 d2, d3⟩
      · obtain ⟨t1, d1, d2⟩ := c2 fun g2 => g fun k h1 h2 => by
          by_cases w : k = i
          · subst w
            rw [va, vb]
            exact q
          · exact g2 k (by omega) h2
        exact ⟨t1, d1, onl_tr o1 d2⟩
    · rw [if_neg (fun z => q ((nI_ltI hw (by decide)).mp z))] at hU
      rw [hU]
      refine ⟨fun g => absurd (g i (Nat.le_refl _) (by omega)) (by rw [va, vb]; exact q), fun _ => ⟨t0, rfl, o1⟩⟩
/-- the answer: both sides -/
theorem an2 : ∀ (m i : Nat) (s t : Sto), i + m = 7 → BALL (s.1 140) (t.1 368) → (∀ x, x < 7 → tr8 (s.1 (98 + x)) (t.1 (292 + x))) → (∀ x, i ≤ x → x < 7 → sr 8380417 (s.1 (124 + x)) (t.1 (327 + x))) → (∀ x, x < i → sr 8380417 (s.1 (124 + x)) (t.1 (335 + x)) ∧ shr 524168 (t.1 (335 + x))) →
    ∃ s1 t1, frm (fun k => (124 ≤ k ∧ k ≤ 130) ∨ k = 141) s s1 ∧ frm (fun k => (335 ≤ k ∧ k ≤ 341) ∨ k = 369) t t1 ∧ ((F_DA_answerIsShort_2_L0 m i s = (nI 1, s1) ∧ F_MH_fits_2_L0 m i t = F_MH_fits_2_L1 8 0 t1 ∧ ∀ x, x < 7 → sr 8380417 (s1.1 (124 + x)) (t1.1 (335 + x)) ∧ shr 524168 (t1.1 (335 + x))) ∨ (F_DA_answerIsShort_2_L0 m i s = (nI 0, s1) ∧ F_MH_fits_2_L0 m i t = (nI 0, t1)))
  | 0, i, s, t, hi, _, _, _, h4 => by
    obtain rfl : i = 7 := by omega
    exact ⟨s, t, frm_rf, frm_rf, Or.inl ⟨by rw [F_DA_answerIsShort_2_L0], by rw [F_MH_fits_2_L0, bnd_eq], h4⟩⟩
  | m + 1, i, s, t, hi, hB, h2, h3, h4 => by
    obtain ⟨a1, a2, a3⟩ := tn2 (pf := 98 + i) (qf := 292 + i) (pt := 369) (s := s) (t := t) (by omega) hB (h2 i (by omega))
    have hU : F_DA_answerIsShort_2_L0 (m + 1) i s = (if (F_RG_isShort_8 (124 + i) (nI 524168) (F_RG_add_8 (124 + i) 141 (F_DA_multiplyBall (98 + i) s))).1 = 0 then (nI 0, (F_RG_isShort_8 (124 + i) (nI 524168) (F_RG_add_8 (124 + i) 141 (F_DA_multiplyBall (98 + i) s))).2) else F_DA_answerIsShort_2_L0 m (i + 1) (F_RG_isShort_8 (124 + i) (nI 524168) (F_RG_add_8 (124 + i) 141 (F_DA_multiplyBall (98 + i) s))).2) := by
      rw [F_DA_answerIsShort_2_L0]
      repeat rw [bnd_eq]
    have hV : F_MH_fits_2_L0 (m + 1) i t = F_MH_fits_2_L5 i (F_MH_fits_2_L0 m) 256 0 (F_MH_turned_2 (292 + i) 369 t) := by
      rw [F_MH_fits_2_L0]
      repeat rw [bnd_eq]
    generalize F_DA_multiplyBall (98 + i) s = s1 at a1 a3 hU
    generalize F_MH_turned_2 (292 + i) 369 t = t1 at a2 a3 hV
    have hY := h3 i (Nat.le_refl _) (by omega)
    have p1 : s1.1 (124 + i) = s.1 (124 + i) := a1.1 _ (by omega)
    have p2 : t1.1 (327 + i) = t.1 (327 + i) := a2 _ (by omega)
    have b1 := (P_add8 (pf := 124 + i) (pg := 141) (s := s1) (by omega)).1
    have b2 : ∀ k, k < 256 → (F_RG_add_8 (124 + i) 141 s1).1 (124 + i) k = nI ((vn (t.1 (327 + i)) k + vn (t1.1 369) k) % 8380417) := fun k hk => by
      obtain ⟨x, x1, x2, x3⟩ := hY k hk
      obtain ⟨y, y1, y2, y3⟩ := a3 k hk
      rw [P_add8n (a := x) (b := y) (by omega) hk x1 y1 (by rw [p1]; exact x2) y2, vn_n x3 (by omega), vn_n y3 (by omega)]
    generalize F_RG_add_8 (124 + i) 141 s1 = s2 at b1 b2 hU
    have hr : rdc 8380417 (s2.1 (124 + i)) := fun k hk => ⟨_, Nat.mod_lt _ (by decide), b2 k hk⟩
    have e : ∀ k, k < 256 → vn (s2.1 (124 + i)) k = (vn (t.1 (327 + i)) k + vn (t1.1 369) k) % 8380417 := fun k hk => vn_n (b2 k hk) (by have := Nat.mod_lt (vn (t.1 (327 + i)) k + vn (t1.1 369) k) (show 0 < 8380417 by decide); omega)
    obtain ⟨c1, c2⟩ := P_isShortL (pf := 124 + i) (B := 524168) (s := s2) (by decide) hr 256 0 rfl
    rw [← F_RG_isShort_8] at c1 c2
    obtain ⟨d1, d2⟩ := f52 (r := i) (kk := F_MH_fits_2_L0 m) (A := t.1 (327 + i)) (P := t1.1 369) (by omega) (sr_r hY) (sr_r a3) 256 0 t1 rfl p2 rfl (fun k hk => absurd hk (Nat.not_lt_zero _))
    have g1 : ∀ y, y ≠ 124 + i → y ≠ 141 → s2.1 y = s.1 y := fun y u v => by rw [b1.1 y u, a1.1 y v]
    by_cases q : ∀ k, 0 ≤ k → k < 256 → (if (vn (t.1 (327 + i)) k + vn (t1.1 369) k) % 8380417 ≤ 4190208 then (vn (t.1 (327 + i)) k + vn (t1.1 369) k) % 8380417 else 8380417 - (vn (t.1 (327 + i)) k + vn (t1.1 369) k) % 8380417) < 524168
    · rw [c1 (fun k h1 hk => by rw [e k hk]; exact q k h1 hk)] at hU
      have hU' : F_DA_answerIsShort_2_L0 (m + 1) i s = F_DA_answerIsShort_2_L0 m (i + 1) s2 := hU.trans (if_neg (show ¬ nI 1 = 0 by decide))
      obtain ⟨t2, f1, f2, f3⟩ := d1 q
      have g2 : ∀ y, y ≠ 335 + i → y ≠ 369 → t2.1 y = t.1 y := fun y u v => by rw [f2.1 y u, a2 y v]
      obtain ⟨s3, t3, l1, l2, l3⟩ := an2 m (i + 1) s2 t2 (by omega) (by rw [g1 140 (by omega) (by omega), g2 368 (by omega) (by omega)]; exact hB) (fun x hx => by rw [g1 _ (by omega) (by omega), g2 _ (by omega) (by omega)]; exact h2 x hx) (fun x hx1 hx2 => by rw [g1 _ (by omega) (by omega), g2 _ (by omega) (by omega)]; exact h3 x (by omega) hx2) (fun x hx => by
        by_cases w : x = i
        · subst w
          exact ⟨fun k hk => ⟨_, Nat.mod_lt _ (by decide), b2 k hk, f3 k hk⟩, fun k hk => by rw [vn_n (f3 k hk) (by have := Nat.mod_lt (vn (t.1 (327 + x)) k + vn (t1.1 369) k) (show 0 < 8380417 by decide); omega)]; exact q k (Nat.zero_le _) hk⟩
        · rw [g1 _ (by omega) (by omega), g2 _ (by omega) (by omega)]
          exact h4 x (by omega))
      refine ⟨s3, t3, fun k hk => by rw [l1 k hk, g1 k (by omega) (by omega)], fun k hk => by rw [l2 k hk, g2 k (by omega) (by omega)], ?_⟩
      rw [hU', hV, f1]
      exact l3
    · rw [c2 (fun g => q fun k h1 hk => by rw [← e k hk]; exact g k h1 hk)] at hU
      have hU' : F_DA_answerIsShort_2_L0 (m + 1) i s = (nI 0, s2) := hU.trans (if_pos (show nI 0 = 0 by decide))
      obtain ⟨t2, f1, f2⟩ := d2 q
      refine ⟨s2, t2, fun k hk => g1 k (by omega) (by omega), fun k hk => by rw [f2.1 k (by omega), a2 k (by omega)], Or.inr ⟨hU', hV.trans f1⟩⟩
noncomputable def lX2 (v : Nat) : Int32 := (F_MH_low_2 (nI v) z0S).1
def OKs2 (v : Nat) : Prop := (if 0 ≤ lX2 v then lX2 v else 0 - lX2 v) < nI 261768
theorem lX2_e {v : Nat} (hv : v < 8380417) : (∀ s, F_DS_low_2 (nI v) s = (lX2 v, s)) ∧ (∀ t, F_MH_low_2 (nI v) t = (lX2 v, t)) ∧ -1073741824 ≤ (lX2 v).toInt ∧ (lX2 v).toInt ≤ 1073741824 := by
  obtain ⟨x, h1, h2, h3⟩ := lob2 hv (s := z0S) (t := z0S)
  have ex : lX2 v = x := congrArg Prod.fst h2
  refine ⟨fun s => ?_, fun t => ?_, by rw [ex]; exact h3⟩
  · obtain ⟨y, g1, g2, -⟩ := lob2 hv (s := s) (t := z0S)
    have ey : lX2 v = y := congrArg Prod.fst g2
    rw [ey]
    exact g1
  · obtain ⟨y, g1, g2, -⟩ := lob2 hv (s := z0S) (t := t)
    have ey : x = y := congrArg Prod.fst (h1.symm.trans g1)
    rw [ex, ey]
    exact g2
theorem rl12 {r : Nat} {kk : Nat → Sto → Int32 × Sto} {s : Sto} (hr : rdc 8380417 (s.1 (132 + r))) : ∀ (n i : Nat), i + n = 256 → ((∀ k, i ≤ k → k < 256 → OKs2 (vn (s.1 (132 + r)) k)) → F_DA_restIsShort_2_L1 r kk n i s = kk (r + 1) s) ∧ ((¬ ∀ k, i ≤ k → k < 256 → OKs2 (vn (s.1 (132 + r)) k)) → F_DA_restIsShort_2_L1 r kk n i s = (nI 0, s))
  | 0, i, hi => ⟨fun _ => by rw [F_DA_restIsShort_2_L1], fun h => absurd (fun k h1 h2 => by omega) h⟩
  | n + 1, i, hi => by
    obtain ⟨v, hv, ev⟩ := hr i (by omega)
    have en : vn (s.1 (132 + r)) i = v := vn_n ev (by omega)
    obtain ⟨a, b⟩ := rl12 (kk := kk) hr n (i + 1) (by omega)
    obtain ⟨l1, -, l3, l4⟩ := lX2_e hv
    have hc : OKs2 v ↔ (¬ nI 261768 ≤ lX2 v ∧ -(nI 261768) < lX2 v) := sh_iff (by decide) l3 l4
    have hU : F_DA_restIsShort_2_L1 r kk (n + 1) i s = if nI 261768 ≤ lX2 v then (nI 0, s) else if -(nI 261768) < lX2 v then F_DA_restIsShort_2_L1 r kk n (i + 1) s else (nI 0, s) := by
      rw [F_DA_restIsShort_2_L1, ev, l1 s]
      repeat rw [bnd_eq]
    by_cases q : OKs2 v
    · rw [if_neg (hc.mp q).1, if_pos (hc.mp q).2] at hU
      rw [hU]
      refine ⟨fun h => a fun k h1 h2 => h k (by omega) h2, fun h => b fun g => h fun k h1 h2 => ?_⟩
      by_cases w : k = i
      · subst w
        rw [en]
        exact q
      · exact g k (by omega) h2
    · have hU' : F_DA_restIsShort_2_L1 r kk (n + 1) i s = (nI 0, s) := by
        rw [hU]
        by_cases w : nI 261768 ≤ lX2 v
        · rw [if_pos w]
        · rw [if_neg w, if_neg (fun z => q (hc.mpr ⟨w, z⟩))]
      rw [hU']
      refine ⟨fun h => absurd (h i (Nat.le_refl _) (by omega)) (by rw [en]; exact q), fun _ => rfl⟩
theorem f42 {r : Nat} {kk : Nat → Sto → Int32 × Sto} {A P : Nat → Int32} (hr : r < 8) (hA : rdc 8380417 A) (hP : rdc 8380417 P) : ∀ (m i : Nat) (t : Sto), i + m = 256 → (∀ k, i ≤ k → k < 256 → t.1 (351 + r) k = A k) → t.1 369 = P → (∀ k, k < i → t.1 (351 + r) k = nI ((8380417 + vn A k - vn P k) % 8380417)) →
    ((∀ k, i ≤ k → k < 256 → OKs2 ((8380417 + vn A k - vn P k) % 8380417)) → ∃ t1, F_MH_fits_2_L4 r kk m i t = kk (r + 1) t1 ∧ onl (351 + r) t t1 ∧ ∀ k, k < 256 → t1.1 (351 + r) k = nI ((8380417 + vn A k - vn P k) % 8380417)) ∧ ((¬ ∀ k, i ≤ k → k < 256 → OKs2 ((8380417 + vn A k - vn P k) % 8380417)) → ∃ t1, F_MH_fits_2_L4 r kk m i t = (nI 0, t1) ∧ onl (351 + r) t t1)
  | 0, i, t, hi, _, _, h => by
    obtain rfl : i = 256 := by omega
    exact ⟨fun _ => ⟨t, by rw [F_MH_fits_2_L4], onl_rf, h⟩, fun g => absurd (fun k h1 h2 => by omega) g⟩
  | m + 1, i, t, hi, e1, e2, h => by
    obtain ⟨a, ha, ea⟩ := hA i (by omega)
    obtain ⟨b, hb, eb⟩ := hP i (by omega)
    have va : vn A i = a := vn_n ea (by omega)
    have vb : vn P i = b := vn_n eb (by omega)
    have hv : (8380417 + a - b) % 8380417 < 8380417 := Nat.mod_lt _ (by decide)
    have z1 : F_MH_minus (t.1 (351 + r) i) (t.1 369 i) t = (nI ((8380417 + a - b) % 8380417), t) := by
      rw [e1 i (Nat.le_refl _) (by omega), e2, ea, eb, Q_minus, tk_R ha hb]
    have o1 : onl (351 + r) t (sI t (351 + r) i (nI ((8380417 + a - b) % 8380417))) := onl_sI
    have r1 : (sI t (351 + r) i (nI ((8380417 + a - b) % 8380417))).1 (351 + r) = upd (t.1 (351 + r)) i (nI ((8380417 + a - b) % 8380417)) := sI_row
    have hU : F_MH_fits_2_L4 r kk (m + 1) i t = if (if 0 ≤ lX2 ((8380417 + a - b) % 8380417) then lX2 ((8380417 + a - b) % 8380417) else 0 - lX2 ((8380417 + a - b) % 8380417)) < nI 261768 then F_MH_fits_2_L4 r kk m (i + 1) (sI t (351 + r) i (nI ((8380417 + a - b) % 8380417))) else (nI 0, sI t (351 + r) i (nI ((8380417 + a - b) % 8380417))) := by
      rw [F_MH_fits_2_L4, z1, bnd_eq, bnd_eq, sI_at, (lX2_e hv).2.1]
      repeat rw [bnd_eq]
    generalize sI t (351 + r) i (nI ((8380417 + a - b) % 8380417)) = t0 at o1 r1 hU
    obtain ⟨c1, c2⟩ := f42 (kk := kk) hr hA hP m (i + 1) t0 (by omega) (fun k h1 h2 => by rw [r1, upd_n (by omega)]; exact e1 k (by omega) h2) (by rw [o1.1 _ (by omega)]; exact e2) (fun k hk => by
      rw [r1]
      by_cases w : k = i
      · subst w
        rw [upd_s, va, vb]
      · rw [upd_n w]
        exact h k (by omega))
    by_cases q : OKs2 ((8380417 + a - b) % 8380417)
    · have q' : (if 0 ≤ lX2 ((8380417 + a - b) % 8380417) then lX2 ((8380417 + a - b) % 8380417) else 0 - lX2 ((8380417 + a - b) % 8380417)) < nI 261768 := q
      rw [if_pos q'] at hU
      rw [hU]
      refine ⟨fun g => ?_, fun g => ?_⟩
      · obtain ⟨t1, d1, d2, d3⟩ := c1 fun k h1 h2 => g k (by omega) h2
        exact ⟨t1, d1, onl_tr o1 d2, d3⟩
      · obtain ⟨t1, d1, d2⟩ := c2 fun g2 => g fun k h1 h2 => by
          by_cases w : k = i
          · subst w
            rw [va, vb]
            exact q
          · exact g2 k (by omega) h2
        exact ⟨t1, d1, onl_tr o1 d2⟩
    · have q' : ¬ (if 0 ≤ lX2 ((8380417 + a - b) % 8380417) then lX2 ((8380417 + a - b) % 8380417) else 0 - lX2 ((8380417 + a - b) % 8380417)) < nI 261768 := q
      rw [if_neg q'] at hU
      rw [hU]
      refine ⟨fun g => absurd (g i (Nat.le_refl _) (by omega)) (by rw [va, vb]; exact q), fun _ => ⟨t0, rfl, o1⟩⟩
/-- the rest: both sides -/
theorem re2 : ∀ (m i : Nat) (s t : Sto), i + m = 8 → BALL (s.1 140) (t.1 368) → (∀ x, x < 8 → tr8 (s.1 (106 + x)) (t.1 (300 + x))) → (∀ x, x < 8 → sr 8380417 (s.1 (132 + x)) (t.1 (351 + x))) →
    ∃ s1 t1, frm (fun k => (132 ≤ k ∧ k ≤ 139) ∨ k = 141) s s1 ∧ frm (fun k => (351 ≤ k ∧ k ≤ 358) ∨ k = 369) t t1 ∧ ((F_DA_restIsShort_2_L0 m i s = (nI 1, s1) ∧ F_MH_fits_2_L1 m i t = F_MH_fits_2_L2 8 0 (nI 0) t1 ∧ ∀ x, x < 8 → sr 8380417 (s1.1 (132 + x)) (t1.1 (351 + x))) ∨ (F_DA_restIsShort_2_L0 m i s = (nI 0, s1) ∧ F_MH_fits_2_L1 m i t = (nI 0, t1)))
  | 0, i, s, t, hi, _, _, h3 => by
    obtain rfl : i = 8 := by omega
    exact ⟨s, t, frm_rf, frm_rf, Or.inl ⟨by rw [F_DA_restIsShort_2_L0], by rw [F_MH_fits_2_L1, bnd_eq], h3⟩⟩
  | m + 1, i, s, t, hi, hB, h2, h3 => by
    obtain ⟨a1, a2, a3⟩ := tn2 (pf := 106 + i) (qf := 300 + i) (pt := 369) (s := s) (t := t) (by omega) hB (h2 i (by omega))
    have hU : F_DA_restIsShort_2_L0 (m + 1) i s = F_DA_restIsShort_2_L1 i (F_DA_restIsShort_2_L0 m) 256 0 (F_RG_subtract_8 (132 + i) 141 (F_DA_multiplyBall (106 + i) s)) := by
      rw [F_DA_restIsShort_2_L0]
      repeat rw [bnd_eq]
    have hV : F_MH_fits_2_L1 (m + 1) i t = F_MH_fits_2_L4 i (F_MH_fits_2_L1 m) 256 0 (F_MH_turned_2 (300 + i) 369 t) := by
      rw [F_MH_fits_2_L1]
      repeat rw [bnd_eq]
    generalize F_DA_multiplyBall (106 + i) s = s1 at a1 a3 hU
    generalize F_MH_turned_2 (300 + i) 369 t = t1 at a2 a3 hV
    have hY := h3 i (by omega)
    have p1 : s1.1 (132 + i) = s.1 (132 + i) := a1.1 _ (by omega)
    have p2 : t1.1 (351 + i) = t.1 (351 + i) := a2 _ (by omega)
    obtain ⟨b1, b0⟩ := P_sub8 (pf := 132 + i) (pg := 141) (s := s1) (by omega)
    have b2 : ∀ k, k < 256 → (F_RG_subtract_8 (132 + i) 141 s1).1 (132 + i) k = nI ((8380417 + vn (t.1 (351 + i)) k - vn (t1.1 369) k) % 8380417) := fun k hk => by
      obtain ⟨x, x1, x2, x3⟩ := hY k hk
      obtain ⟨y, y1, y2, y3⟩ := a3 k hk
      rw [b0 k hk, p1, x2, y2, tk_C x1 y1, vn_n x3 (by omega), vn_n y3 (by omega)]
    generalize F_RG_subtract_8 (132 + i) 141 s1 = s2 at b1 b2 hU
    have hr : rdc 8380417 (s2.1 (132 + i)) := fun k hk => ⟨_, Nat.mod_lt _ (by decide), b2 k hk⟩
    have e : ∀ k, k < 256 → vn (s2.1 (132 + i)) k = (8380417 + vn (t.1 (351 + i)) k - vn (t1.1 369) k) % 8380417 := fun k hk => vn_n (b2 k hk) (by have := Nat.mod_lt (8380417 + vn (t.1 (351 + i)) k - vn (t1.1 369) k) (show 0 < 8380417 by decide); omega)
    obtain ⟨c1, c2⟩ := rl12 (r := i) (kk := F_DA_restIsShort_2_L0 m) (s := s2) hr 256 0 rfl
    obtain ⟨d1, d2⟩ := f42 (r := i) (kk := F_MH_fits_2_L1 m) (A := t.1 (351 + i)) (P := t1.1 369) (by omega) (sr_r hY) (sr_r a3) 256 0 t1 rfl (fun k _ _ => by rw [p2]) rfl (fun k hk => absurd hk (Nat.not_lt_zero _))
    have g1 : ∀ y, y ≠ 132 + i → y ≠ 141 → s2.1 y = s.1 y := fun y u v => by rw [b1.1 y u, a1.1 y v]
    by_cases q : ∀ k, 0 ≤ k → k < 256 → OKs2 ((8380417 + vn (t.1 (351 + i)) k - vn (t1.1 369) k) % 8380417)
    · have hU' : F_DA_restIsShort_2_L0 (m + 1) i s = F_DA_restIsShort_2_L0 m (i + 1) s2 := hU.trans (c1 (fun k h1 hk => by rw [e k hk]; exact q k h1 hk))
      obtain ⟨t2, f1, f2, f3⟩ := d1 q
      have g2 : ∀ y, y ≠ 351 + i → y ≠ 369 → t2.1 y = t.1 y := fun y u v => by rw [f2.1 y u, a2 y v]
      obtain ⟨s3, t3, l1, l2, l3⟩ := re2 m (i + 1) s2 t2 (by omega) (by rw [g1 140 (by omega) (by omega), g2 368 (by omega) (by omega)]; exact hB) (fun x hx => by rw [g1 _ (by omega) (by omega), g2 _ (by omega) (by omega)]; exact h2 x hx) (fun x hx => by
        by_cases w : x = i
        · subst w
          exact fun k hk => ⟨_, Nat.mod_lt _ (by decide), b2 k hk, f3 k hk⟩
        · rw [g1 _ (by omega) (by omega), g2 _ (by omega) (by omega)]
          exact h3 x hx)
      refine ⟨s3, t3, fun k hk => by rw [l1 k hk, g1 k (by omega) (by omega)], fun k hk => by rw [l2 k hk, g2 k (by omega) (by omega)], ?_⟩
      rw [hU', hV, f1]
      exact l3
    · have hU' : F_DA_restIsShort_2_L0 (m + 1) i s = (nI 0, s2) := hU.trans (c2 (fun g => q fun k h1 hk => by rw [← e k hk]; exact g k h1 hk))
      obtain ⟨t2, f1, f2⟩ := d2 q
      exact ⟨s2, t2, fun k hk => g1 k (by omega) (by omega), fun k hk => by rw [f2.1 k (by omega), a2 k (by omega)], Or.inr ⟨hU', hV.trans f1⟩⟩
