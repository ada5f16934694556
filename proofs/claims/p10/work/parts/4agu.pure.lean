set_option linter.all false
/-! ML-DSA: the hints -/
/-- how many of the row's places from j on bear a hint -/
def hs (h : Nat → Nat) : Nat → Nat → Nat
  | 0, _ => 0
  | n + 1, j => h j + hs h n (j + 1)
theorem hs_le {h : Nat → Nat} (hh : ∀ k, h k ≤ 1) : ∀ n j, hs h n j ≤ n
  | 0, _ => Nat.le_refl _
  | n + 1, j => by
    have a := hs_le hh n (j + 1)
    have b := hh j
    show h j + hs h n (j + 1) ≤ n + 1
    omega
/-- the places of a row's hints, written one behind the other -/
def hwL (h : Nat → Nat) : Nat → Nat → Nat → (Nat → Int32) → Nat → Int32
  | 0, _, _, A => A
  | n + 1, j, c, A => if h j = 0 then hwL h n (j + 1) c A else hwL h n (j + 1) (c + 1) (upd A c (by8 j))
/-- all rows -/
def hwR (OM : Nat) (HB : Nat → Nat → Nat) : Nat → Nat → Nat → (Nat → Int32) → Nat → Int32
  | 0, _, _, A => A
  | m + 1, r, c, A => hwR OM HB m (r + 1) (c + hs (HB r) 256 0) (upd (hwL (HB r) 256 0 c A) (OM + r) (by8 (c + hs (HB r) 256 0)))
theorem hwL_c {h : Nat → Nat} {N : Nat} : ∀ (n j c : Nat) (A A' : Nat → Int32), (∀ k, k < N → A k = A' k) → ∀ k, k < N → hwL h n j c A k = hwL h n j c A' k
  | 0, _, _, _, _, hA => hA
  | n + 1, j, c, A, A', hA => fun k hk => by
    rw [hwL, hwL]
    by_cases q : h j = 0
    · rw [if_pos q, if_pos q]
      exact hwL_c n (j + 1) c A A' hA k hk
    · rw [if_neg q, if_neg q]
      refine hwL_c n (j + 1) (c + 1) _ _ (fun x hx => ?_) k hk
      by_cases w : x = c
      · subst w
        rw [upd_s, upd_s]
      · rw [upd_n w, upd_n w]
        exact hA x hx
theorem hwR_c {OM N : Nat} {HB : Nat → Nat → Nat} : ∀ (m r c : Nat) (A A' : Nat → Int32), (∀ k, k < N → A k = A' k) → ∀ k, k < N → hwR OM HB m r c A k = hwR OM HB m r c A' k
  | 0, _, _, _, _, hA => hA
  | m + 1, r, c, A, A', hA => fun k hk => by
    rw [hwR, hwR]
    refine hwR_c m (r + 1) _ _ _ (fun x hx => ?_) k hk
    by_cases w : x = OM + r
    · subst w
      rw [upd_s, upd_s]
    · rw [upd_n w, upd_n w]
      exact hwL_c 256 0 c A A' hA x hx
theorem tr8_r {a r : Nat → Int32} (h : tr8 a r) : rdc 8380417 r := by
  obtain ⟨sd, pd, h1, -, h3⟩ := h
  exact rdc_c h1 fun k hk => (h3 k hk).symm
/-- the hint of a place -/
noncomputable def hb0 (W P : Nat → Int32) (k : Nat) : Nat := if hN0 ((vn W k + vn P k) % 8380417) = hN0 (vn W k) then 0 else 1
theorem hb0_le {W P : Nat → Int32} (k : Nat) : hb0 W P k ≤ 1 := by
  unfold hb0
  split <;> omega
/-- the program's row of hints -/
theorem hc10 {r : Nat} {kk : Nat → Nat → Sto → Int32 × Sto} {W P : Nat → Int32} (hr : r < 4) (hW : rdc 8380417 W) (hP : rdc 8380417 P) : ∀ (n j c : Nat) (s : Sto), j + n = 256 → c ≤ 80 → s.1 (132 + r) = W → (∀ k, k < 256 → s.1 141 k = nI ((vn W k + vn P k) % 8380417)) →
    (c + hs (hb0 W P) n j ≤ 80 → ∃ s1, F_DA_makeHints_0_L1 r kk n j c s = kk (r + 1) (c + hs (hb0 W P) n j) s1 ∧ onl 146 s s1 ∧ s1.1 146 = upd (hwL (hb0 W P) n j c (s.1 146)) (80 + r) (by8 (c + hs (hb0 W P) n j))) ∧ (¬ c + hs (hb0 W P) n j ≤ 80 → ∃ s1, F_DA_makeHints_0_L1 r kk n j c s = (nI 0, s1) ∧ onl 146 s s1)
  | 0, j, c, s, hj, hc, _, _ => by
    refine ⟨fun _ => ⟨sB s 146 (80 + r) ((nI c).toInt8.toInt32), by rw [F_DA_makeHints_0_L1, bnd_eq, hs, Nat.add_zero c], ⟨fun k hk => sB_off hk, rfl⟩, ?_⟩, fun h => absurd (by rw [hs, Nat.add_zero c]; exact hc) h⟩
    rw [sB_at, hs, hwL, Nat.add_zero c]
    exact congrArg (upd (s.1 146) (80 + r)) (pk_vb (nI c))
  | n + 1, j, c, s, hj, hc, e1, e2 => by
    obtain ⟨w, hw, ew⟩ := hW j (by omega)
    obtain ⟨p, hp, ep⟩ := hP j (by omega)
    have vw : vn W j = w := vn_n ew (by omega)
    have vp : vn P j = p := vn_n ep (by omega)
    have hv : (w + p) % 8380417 < 8380417 := Nat.mod_lt _ (by decide)
    have e3 := e2 j (by omega)
    rw [vw, vp] at e3
    have l1 := (hN0_e hv).1
    have l2 := (hN0_e hw).1
    have hU : F_DA_makeHints_0_L1 r kk (n + 1) j c s = if nI (hN0 ((w + p) % 8380417)) = nI (hN0 w) then F_DA_makeHints_0_L1 r kk n (j + 1) c s else if c < 80 then F_DA_makeHints_0_L1 r kk n (j + 1) (c + 1) (sB s 146 c ((nI j).toInt8.toInt32)) else (nI 0, s) := by
      rw [F_DA_makeHints_0_L1, e3, (hN0_e hv).2.1 s, bnd_eq, e1, ew, (hN0_e hw).2.1 s]
      repeat rw [bnd_eq]
    have eh : hb0 W P j = if hN0 ((w + p) % 8380417) = hN0 w then 0 else 1 := by
      unfold hb0
      rw [vw, vp]
    by_cases q : hN0 ((w + p) % 8380417) = hN0 w
    · rw [if_pos (congrArg nI q)] at hU
      rw [if_pos q] at eh
      obtain ⟨a, b⟩ := hc10 (kk := kk) hr hW hP n (j + 1) c s (by omega) hc e1 e2
      rw [hU, hs, hwL, if_pos eh, eh, Nat.zero_add]
      exact ⟨a, b⟩
    · rw [if_neg (fun z => q ((nI_eq (by omega) (by omega)).mp z))] at hU
      rw [if_neg q] at eh
      by_cases u : c < 80
      · rw [if_pos u] at hU
        have o1 : onl 146 s (sB s 146 c ((nI j).toInt8.toInt32)) := ⟨fun k hk => sB_off hk, rfl⟩
        have r1 : (sB s 146 c ((nI j).toInt8.toInt32)).1 146 = upd (s.1 146) c (by8 j) := by
          rw [sB_at]
          exact congrArg (upd (s.1 146) c) (pk_vb (nI j))
        generalize sB s 146 c ((nI j).toInt8.toInt32) = s0 at hU o1 r1
        obtain ⟨a, b⟩ := hc10 (kk := kk) hr hW hP n (j + 1) (c + 1) s0 (by omega) (by omega) (by rw [o1.1 _ (by omega)]; exact e1) (fun k hk => by rw [o1.1 141 (by decide)]; exact e2 k hk)
        rw [hU, hs, hwL, if_neg (by omega), eh, ← Nat.add_assoc]
        refine ⟨fun g => ?_, fun g => ?_⟩
        · obtain ⟨s1, d1, d2, d3⟩ := a g
          rw [r1] at d3
          exact ⟨s1, d1, onl_tr o1 d2, d3⟩
        · obtain ⟨s1, d1, d2⟩ := b g
          exact ⟨s1, d1, onl_tr o1 d2⟩
      · rw [if_neg u] at hU
        rw [hU, hs, eh]
        exact ⟨fun g => by omega, fun _ => ⟨s, rfl, onl_rf⟩⟩
/-- the reference's row of hints -/
theorem hr30 {r : Nat} {kk : Nat → Int32 → Sto → Int32 × Sto} {W P : Nat → Int32} (hr : r < 4) (hW : rdc 8380417 W) (hP : rdc 8380417 P) : ∀ (n i z : Nat) (t : Sto), i + n = 256 → t.1 (351 + r) = W → t.1 369 = P → (∀ k, k < i → t.1 (360 + r) k = nI (hb0 W P k)) →
    ((∀ k, i ≤ k → k < 256 → (if vn P k ≤ 4190208 then vn P k else 8380417 - vn P k) < 95232) → ∃ t1, F_MH_fits_0_L3 r kk n i (nI z) t = kk (r + 1) (nI (z + hs (hb0 W P) n i)) t1 ∧ onl (360 + r) t t1 ∧ ∀ k, k < 256 → t1.1 (360 + r) k = nI (hb0 W P k)) ∧ ((¬ ∀ k, i ≤ k → k < 256 → (if vn P k ≤ 4190208 then vn P k else 8380417 - vn P k) < 95232) → ∃ t1, F_MH_fits_0_L3 r kk n i (nI z) t = (nI 0, t1) ∧ onl (360 + r) t t1)
  | 0, i, z, t, hi, _, _, h => by
    obtain rfl : i = 256 := by omega
    exact ⟨fun _ => ⟨t, by rw [F_MH_fits_0_L3, hs, Nat.add_zero z], onl_rf, h⟩, fun g => absurd (fun k h1 h2 => by omega) g⟩
  | n + 1, i, z, t, hi, e1, e2, h => by
    obtain ⟨w, hw, ew⟩ := hW i (by omega)
    obtain ⟨p, hp, ep⟩ := hP i (by omega)
    have vw : vn W i = w := vn_n ew (by omega)
    have vp : vn P i = p := vn_n ep (by omega)
    have hv : (w + p) % 8380417 < 8380417 := Nat.mod_lt _ (by decide)
    have z1 : (t.1 (351 + r) i + t.1 369 i) - (t.1 (351 + r) i + t.1 369 i) / nI 8380417 * nI 8380417 = nI ((w + p) % 8380417) := by
      rw [e1, e2, ew, ep, nI_add]
      exact pk_rem (by omega) (by decide) (by decide)
    have l1 := (hN0_e hv).1
    have l2 := (hN0_e hw).1
    have hpw : (if p ≤ 4190208 then p else 8380417 - p) < 2 ^ 31 := by
      split <;> omega
    have eh : hb0 W P i = if hN0 ((w + p) % 8380417) = hN0 w then 0 else 1 := by
      unfold hb0
      rw [vw, vp]
    have hU : F_MH_fits_0_L3 r kk (n + 1) i (nI z) t = if nI (if p ≤ 4190208 then p else 8380417 - p) < nI 95232 then F_MH_fits_0_L3 r kk n (i + 1) (nI (z + hb0 W P i)) (sI t (360 + r) i (nI (hb0 W P i))) else (nI 0, t) := by
      rw [F_MH_fits_0_L3, show t.1 369 i = nI p by rw [e2]; exact ep, Q_norm hp, bnd_eq, bnd_eq]
      by_cases q : nI (if p ≤ 4190208 then p else 8380417 - p) < nI 95232
      · rw [if_pos q, if_pos q]
        dsimp only
        rw [z1, (hN0_e hv).2.2 t, bnd_eq]
        dsimp only
        rw [e1, ew, (hN0_e hw).2.2 t, bnd_eq]
        dsimp only
        by_cases u : hN0 ((w + p) % 8380417) = hN0 w
        · rw [if_pos u] at eh
          rw [if_pos (congrArg nI u), bnd_eq, sI_at, bnd_eq, nI_add, eh]
        · rw [if_neg u] at eh
          rw [if_neg (fun c => u ((nI_eq (by omega) (by omega)).mp c)), bnd_eq, sI_at, bnd_eq, nI_add, eh]
      · rw [if_neg q, if_neg q]
    have o1 : onl (360 + r) t (sI t (360 + r) i (nI (hb0 W P i))) := onl_sI
    have r1 : (sI t (360 + r) i (nI (hb0 W P i))).1 (360 + r) = upd (t.1 (360 + r)) i (nI (hb0 W P i)) := sI_row
    generalize sI t (360 + r) i (nI (hb0 W P i)) = t0 at o1 r1 hU
    obtain ⟨c1, c2⟩ := hr30 (kk := kk) hr hW hP n (i + 1) (z + hb0 W P i) t0 (by omega) (by rw [o1.1 _ (by omega)]; exact e1) (by rw [o1.1 _ (by omega)]; exact e2) (fun k hk => by
      rw [r1]
      by_cases x : k = i
      · subst x
        rw [upd_s]
      · rw [upd_n x]
        exact h k (by omega))
    by_cases q : (if p ≤ 4190208 then p else 8380417 - p) < 95232
    · rw [if_pos ((nI_ltI hpw (by decide)).mpr q)] at hU
      rw [hU, hs, ← Nat.add_assoc]
      refine ⟨fun g => ?_, fun g => ?_⟩
      · obtain ⟨t1, d1, d2, d3⟩ := c1 fun k h1 h2 => g k (by omega) h2
        exact ⟨t1, d1, onl_tr o1 d2, d3⟩
      · obtain ⟨t1, d1, d2⟩ := c2 fun g2 => g fun k h1 h2 => by
          by_cases x : k = i
          · subst x
            rw [vp]
            exact q
          · exact g2 k (by omega) h2
        exact ⟨t1, d1, onl_tr o1 d2⟩
    · rw [if_neg (fun c => q ((nI_ltI hpw (by decide)).mp c))] at hU
      rw [hU]
      refine ⟨fun g => absurd (g i (Nat.le_refl _) (by omega)) (by rw [vp]; exact q), fun _ => ⟨t, rfl, onl_rf⟩⟩
/-- too many hints: the reference says no in the end, whatever comes -/
theorem hx0 : ∀ (m i z : Nat) (t : Sto), i + m = 4 → 80 < z → z ≤ 100000 + 256 * i → (∃ a, tern a (t.1 368)) → (∀ x, x < 4 → rdc 8380417 (t.1 (309 + x)) ∧ rdc 8380417 (t.1 (351 + x))) →
    ∃ t1, F_MH_fits_0_L2 m i (nI z) t = (nI 0, t1) ∧ frm (fun k => (360 + i ≤ k ∧ k ≤ 367) ∨ k = 369) t t1
  | 0, i, z, t, hi, hz, hz2, _, _ => by
    refine ⟨t, ?_, frm_rf⟩
    rw [F_MH_fits_0_L2, bnd_eq, bnd_eq, if_pos ((nI_ltI (by decide) (by omega)).mpr hz)]
  | m + 1, i, z, t, hi, hz, hz2, hB, h2 => by
    have hV : F_MH_fits_0_L2 (m + 1) i (nI z) t = F_MH_fits_0_L3 i (F_MH_fits_0_L2 m) 256 0 (nI z) (F_MH_turned_0 (309 + i) 369 t) := by
      rw [F_MH_fits_0_L2]
      repeat rw [bnd_eq]
    obtain ⟨a, ha⟩ := hB
    obtain ⟨b1, b2, -⟩ := Q_turned0 (pf := 309 + i) (pt := 369) (s := t) (C := fun k => (t.1 368 k).toInt) (fun k hk => ⟨rfl, (tern_C ha hk).2⟩) (h2 i (by omega)).1
    generalize F_MH_turned_0 (309 + i) 369 t = t1 at b1 b2 hV
    obtain ⟨c1, c2⟩ := hr30 (r := i) (kk := F_MH_fits_0_L2 m) (W := t.1 (351 + i)) (P := t1.1 369) (by omega) (h2 i (by omega)).2 b2 256 0 z t1 rfl (b1 _ (by omega)) rfl (fun k hk => absurd hk (Nat.not_lt_zero _))
    by_cases q : ∀ k, 0 ≤ k → k < 256 → (if vn (t1.1 369) k ≤ 4190208 then vn (t1.1 369) k else 8380417 - vn (t1.1 369) k) < 95232
    · obtain ⟨t2, d1, d2, -⟩ := c1 q
      have hl := hs_le (h := hb0 (t.1 (351 + i)) (t1.1 369)) (fun k => hb0_le k) 256 0
      have g : ∀ y, y ≠ 360 + i → y ≠ 369 → t2.1 y = t.1 y := fun y u v => by rw [d2.1 y u, b1 y v]
      obtain ⟨t3, e1, e2⟩ := hx0 m (i + 1) (z + hs (hb0 (t.1 (351 + i)) (t1.1 369)) 256 0) t2 (by omega) (by omega) (by omega) ⟨a, by rw [g 368 (by omega) (by omega)]; exact ha⟩ (fun x hx => by rw [g _ (by omega) (by omega), g _ (by omega) (by omega)]; exact h2 x hx)
      exact ⟨t3, (hV.trans d1).trans e1, fun k hk => by rw [e2 k (by omega), g k (by omega) (by omega)]⟩
    · obtain ⟨t2, d1, d2⟩ := c2 q
      exact ⟨t2, hV.trans d1, fun k hk => by rw [d2.1 k (by omega), b1 k (by omega)]⟩
/-- the hints: both sides -/
theorem hi_same0 : ∀ (m i c : Nat) (s t : Sto), i + m = 4 → c ≤ 80 → BALL (s.1 140) (t.1 368) → (∀ x, x < 4 → tr8 (s.1 (115 + x)) (t.1 (309 + x))) → (∀ x, x < 4 → sr 8380417 (s.1 (132 + x)) (t.1 (351 + x))) →
    ∃ s1 t1, frm (fun k => k = 141 ∨ k = 146) s s1 ∧ frm (fun k => (360 + i ≤ k ∧ k ≤ 367) ∨ k = 369) t t1 ∧ ((∃ HB : Nat → Nat → Nat, F_DA_makeHints_0_L0 m i c s = (nI 1, s1) ∧ F_MH_fits_0_L2 m i (nI c) t = (nI 1, t1) ∧ s1.1 146 = hwR 80 HB m i c (s.1 146) ∧ ∀ x, i ≤ x → x < 4 → ∀ k, k < 256 → HB x k ≤ 1 ∧ t1.1 (360 + x) k = nI (HB x k)) ∨ (F_DA_makeHints_0_L0 m i c s = (nI 0, s1) ∧ F_MH_fits_0_L2 m i (nI c) t = (nI 0, t1)))
  | 0, i, c, s, t, hi, hc, _, _, _ => by
    refine ⟨s, t, frm_rf, frm_rf, Or.inl ⟨fun _ _ => 0, by rw [F_DA_makeHints_0_L0], ?_, rfl, fun x h1 h2 => by omega⟩⟩
    rw [F_MH_fits_0_L2, bnd_eq, bnd_eq, if_neg (fun z => by have := (nI_ltI (by decide) (by omega)).mp z; omega)]
  | m + 1, i, c, s, t, hi, hc, hB, h2, h3 => by
    obtain ⟨a1, a2, a3⟩ := tn0 (pf := 115 + i) (qf := 309 + i) (pt := 369) (s := s) (t := t) (by omega) hB (h2 i (by omega))
    have hU : F_DA_makeHints_0_L0 (m + 1) i c s = if (F_RG_isShort_8 141 (nI 95232) (F_DA_multiplyBall (115 + i) s)).1 = 0 then (nI 0, (F_RG_isShort_8 141 (nI 95232) (F_DA_multiplyBall (115 + i) s)).2) else F_DA_makeHints_0_L1 i (F_DA_makeHints_0_L0 m) 256 0 c (F_RG_add_8 141 (132 + i) (F_RG_isShort_8 141 (nI 95232) (F_DA_multiplyBall (115 + i) s)).2) := by
      rw [F_DA_makeHints_0_L0]
      repeat rw [bnd_eq]
    have hV : F_MH_fits_0_L2 (m + 1) i (nI c) t = F_MH_fits_0_L3 i (F_MH_fits_0_L2 m) 256 0 (nI c) (F_MH_turned_0 (309 + i) 369 t) := by
      rw [F_MH_fits_0_L2]
      repeat rw [bnd_eq]
    generalize F_DA_multiplyBall (115 + i) s = s1 at a1 a3 hU
    generalize F_MH_turned_0 (309 + i) 369 t = t1 at a2 a3 hV
    have hY := h3 i (by omega)
    have e : ∀ k, k < 256 → vn (s1.1 141) k = vn (t1.1 369) k := fun k hk => by
      obtain ⟨y, y1, y2, y3⟩ := a3 k hk
      rw [vn_n y2 (by omega), vn_n y3 (by omega)]
    obtain ⟨c1, c2⟩ := P_isShortL (pf := 141) (B := 95232) (s := s1) (by decide) (sr_l a3) 256 0 rfl
    rw [← F_RG_isShort_8] at c1 c2
    obtain ⟨d1, d2⟩ := hr30 (r := i) (kk := F_MH_fits_0_L2 m) (W := t.1 (351 + i)) (P := t1.1 369) (by omega) (sr_r hY) (sr_r a3) 256 0 c t1 rfl (a2 _ (by omega)) rfl (fun k hk => absurd hk (Nat.not_lt_zero _))
    by_cases q : ∀ k, 0 ≤ k → k < 256 → (if vn (t1.1 369) k ≤ 4190208 then vn (t1.1 369) k else 8380417 - vn (t1.1 369) k) < 95232
    · rw [c1 (fun k h1 hk => by rw [e k hk]; exact q k h1 hk)] at hU
      have hU' : F_DA_makeHints_0_L0 (m + 1) i c s = F_DA_makeHints_0_L1 i (F_DA_makeHints_0_L0 m) 256 0 c (F_RG_add_8 141 (132 + i) s1) := hU.trans (if_neg (show ¬ nI 1 = 0 by decide))
      have p1 : s1.1 (132 + i) = s.1 (132 + i) := a1.1 _ (by omega)
      have b1 := (P_add8 (pf := 141) (pg := 132 + i) (s := s1) (by omega)).1
      have b2 : ∀ k, k < 256 → (F_RG_add_8 141 (132 + i) s1).1 141 k = nI ((vn (t.1 (351 + i)) k + vn (t1.1 369) k) % 8380417) := fun k hk => by
        obtain ⟨x, x1, x2, x3⟩ := hY k hk
        obtain ⟨y, y1, y2, y3⟩ := a3 k hk
        rw [P_add8n (a := y) (b := x) (by omega) hk y1 x1 y2 (by rw [p1]; exact x2), vn_n x3 (by omega), vn_n y3 (by omega), Nat.add_comm y x]
      generalize F_RG_add_8 141 (132 + i) s1 = s2 at b1 b2 hU'
      have eW : ∀ k, k < 256 → vn (s.1 (132 + i)) k = vn (t.1 (351 + i)) k := fun k hk => by
        obtain ⟨x, x1, x2, x3⟩ := hY k hk
        rw [vn_n x2 (by omega), vn_n x3 (by omega)]
      have eS : ∀ n j, j + n = 256 → hs (hb0 (s.1 (132 + i)) (t1.1 369)) n j = hs (hb0 (t.1 (351 + i)) (t1.1 369)) n j := by
        intro n
        induction n with
        | zero =>
          intro j _
          rw [hs, hs]
        | succ n ih =>
          intro j hj
          show hb0 (s.1 (132 + i)) (t1.1 369) j + hs _ n (j + 1) = hb0 (t.1 (351 + i)) (t1.1 369) j + hs _ n (j + 1)
          rw [ih (j + 1) (by omega)]
          unfold hb0
          rw [eW j (by omega)]
      have eL : ∀ n j c A, j + n = 256 → hwL (hb0 (s.1 (132 + i)) (t1.1 369)) n j c A = hwL (hb0 (t.1 (351 + i)) (t1.1 369)) n j c A := by
        intro n
        induction n with
        | zero =>
          intro j c A _
          rw [hwL, hwL]
        | succ n ih =>
          intro j c A hj
          rw [hwL, hwL, ih (j + 1) c A (by omega), ih (j + 1) (c + 1) _ (by omega)]
          unfold hb0
          rw [eW j (by omega)]
      obtain ⟨f1, f2⟩ := hc10 (r := i) (kk := F_DA_makeHints_0_L0 m) (W := s.1 (132 + i)) (P := t1.1 369) (by omega) (sr_l hY) (sr_r a3) 256 0 c s2 rfl hc (by rw [b1.1 _ (by omega)]; exact p1) (fun k hk => by rw [b2 k hk, eW k hk])
      rw [eS 256 0 rfl] at f1 f2
      obtain ⟨t2, g1, g2, g3⟩ := d1 q
      have k2 : ∀ y, y ≠ 360 + i → y ≠ 369 → t2.1 y = t.1 y := fun y u v => by rw [g2.1 y u, a2 y v]
      by_cases w : c + hs (hb0 (t.1 (351 + i)) (t1.1 369)) 256 0 ≤ 80
      · obtain ⟨s3, l1, l2, l3⟩ := f1 w
        rw [eL 256 0 c _ rfl] at l3
        have k1 : ∀ y, y ≠ 141 → y ≠ 146 → s3.1 y = s.1 y := fun y u v => by rw [l2.1 y v, b1.1 y u, a1.1 y u]
        have k3 : s2.1 146 = s.1 146 := by rw [b1.1 146 (by decide), a1.1 146 (by decide)]
        rw [k3] at l3
        obtain ⟨s4, t4, m1, m2, m3⟩ := hi_same0 m (i + 1) (c + hs (hb0 (t.1 (351 + i)) (t1.1 369)) 256 0) s3 t2 (by omega) w (by rw [k1 140 (by decide) (by decide), k2 368 (by omega) (by omega)]; exact hB) (fun x hx => by rw [k1 _ (by omega) (by omega), k2 _ (by omega) (by omega)]; exact h2 x hx) (fun x hx => by rw [k1 _ (by omega) (by omega), k2 _ (by omega) (by omega)]; exact h3 x hx)
        refine ⟨s4, t4, fun k hk => by rw [m1 k hk, k1 k (by omega) (by omega)], fun k hk => by rw [m2 k (by omega), k2 k (by omega) (by omega)], ?_⟩
        rw [hU', l1, hV, g1]
        rcases m3 with ⟨HB, n1, n2, n3, n4⟩ | ⟨n1, n2⟩
        · obtain ⟨HX, x1, x2⟩ : ∃ HX : Nat → Nat → Nat, HX i = hb0 (t.1 (351 + i)) (t1.1 369) ∧ ∀ x, x ≠ i → HX x = HB x := ⟨fun x => if x = i then hb0 (t.1 (351 + i)) (t1.1 369) else HB x, if_pos rfl, fun x hx => if_neg hx⟩
          refine Or.inl ⟨HX, n1, n2, ?_, fun x h1 hx k hk => ?_⟩
          · have eR : ∀ m r c A, i < r → hwR 80 HX m r c A = hwR 80 HB m r c A := by
              intro m
              induction m with
              | zero =>
                intro r c A _
                rw [hwR, hwR]
              | succ m ih =>
                intro r c A hr
                rw [hwR, hwR, x2 r (by omega), ih (r + 1) _ _ (by omega)]
            rw [hwR, x1, eR m (i + 1) _ _ (by omega), ← l3]
            exact n3
          · by_cases v : x = i
            · subst v
              rw [x1]
              refine ⟨hb0_le k, ?_⟩
              rw [m2 _ (by omega)]
              exact g3 k hk
            · rw [x2 x v]
              exact n4 x (by omega) hx k hk
        · exact Or.inr ⟨n1, n2⟩
      · obtain ⟨s3, l1, l2⟩ := f2 w
        have hl := hs_le (h := hb0 (t.1 (351 + i)) (t1.1 369)) (fun k => hb0_le k) 256 0
        obtain ⟨t3, n1, n2⟩ := hx0 m (i + 1) (c + hs (hb0 (t.1 (351 + i)) (t1.1 369)) 256 0) t2 (by omega) (by omega) (by omega) (by
          obtain ⟨sc, pc, -, v2⟩ := hB
          exact ⟨_, by rw [k2 368 (by omega) (by omega)]; exact v2⟩) (fun x hx => by
          rw [k2 _ (by omega) (by omega), k2 _ (by omega) (by omega)]
          exact ⟨tr8_r (h2 x hx), sr_r (h3 x hx)⟩)
        exact ⟨s3, t3, fun k hk => by rw [l2.1 k (by omega), b1.1 k (by omega), a1.1 k (by omega)], fun k hk => by rw [n2 k (by omega), k2 k (by omega) (by omega)], Or.inr ⟨hU'.trans l1, (hV.trans g1).trans n1⟩⟩
    · rw [c2 (fun g => q fun k h1 hk => by rw [← e k hk]; exact g k h1 hk)] at hU
      have hU' : F_DA_makeHints_0_L0 (m + 1) i c s = (nI 0, s1) := hU.trans (if_pos (show nI 0 = 0 by decide))
      obtain ⟨t2, g1, g2⟩ := d2 q
      exact ⟨s1, t2, fun k hk => a1.1 k (by omega), fun k hk => by rw [g2.1 k (by omega), a2 k (by omega)], Or.inr ⟨hU', hV.trans g1⟩⟩
