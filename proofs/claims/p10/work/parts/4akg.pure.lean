set_option linter.all false
noncomputable def uN0 (v : Nat) : Nat := (F_MH_used_0 (nI 1) (nI v) z0S).1.toNatClampNeg
theorem uN0_e {v : Nat} (hv : v < 8380417) : uN0 v < 44 ∧ (∀ s, F_DS_hintedHigh_0 (nI v) s = (nI (uN0 v), s)) ∧ ∀ t, F_MH_used_0 (nI 1) (nI v) t = (nI (uN0 v), t) := by
  have n1 : nI 1 ≠ 0 := by decide
  have e : ∀ (h : Nat), h < 44 → F_MH_used_0 (nI 1) (nI v) z0S = (nI h, z0S) → uN0 v = h := fun h h1 h2 => by
    unfold uN0
    rw [h2]
    exact nI_clamp (by omega)
  obtain ⟨h, h1, h2, h3⟩ := used0_same hv n1 (s := z0S) (t := z0S)
  refine ⟨by rw [e h h1 h3]; exact h1, fun s => ?_, fun t => ?_⟩
  · obtain ⟨h', g1, g2, g3⟩ := used0_same hv n1 (s := s) (t := z0S)
    rw [e h' g1 g3]
    exact g2
  · obtain ⟨h', g1, g2, g3⟩ := used0_same hv n1 (s := z0S) (t := t)
    have q : h' = h := (nI_eq (by omega) (by omega)).mp (congrArg Prod.fst (g2.symm.trans h2))
    rw [e h h1 h3, ← q]
    exact g3
theorem us00 {v : Nat} (hv : v < 8380417) (t : Sto) : F_MH_used_0 (nI 0) (nI v) t = (nI (hN0 v), t) := by
  rw [F_MH_used_0, bnd_eq, if_pos (show nI 0 = 0 by decide), (hN0_e hv).2.2 t, bnd_eq]
/-- UseHint of a place -/
noncomputable def vN0 (h w : Nat → Int32) (k : Nat) : Nat := if h k = nI 0 then hN0 (vn w k) else uN0 (vn w k)
theorem vN0_lt {h w : Nat → Int32} {k : Nat} (hw : rdc 8380417 w) (hk : k < 256) : vN0 h w k < 44 := by
  obtain ⟨v, hv, e⟩ := hw k hk
  unfold vN0
  rw [vn_n e (by omega)]
  by_cases q : h k = nI 0
  · rw [if_pos q]
    exact (hN0_e hv).1
  · rw [if_neg q]
    exact (uN0_e hv).1
theorem uh10 {pf : Nat} {A w : Nat → Int32} (hne : pf ≠ 141) (hw : rdc 8380417 w) : ∀ (n j : Nat) (s : Sto) (h : Nat → Int32), s.1 pf = w → (∀ x, j ≤ x → x < j + n → s.1 146 x = A x) → (∀ k, k < 256 → (h k = nI 0 ∨ h k = nI 1) ∧ s.1 141 k = nI (vN0 h w k)) →
    ∃ s1, F_DA_useHints_0_L1 pf n j s = s1 ∧ onl 141 s s1 ∧ ∀ k, k < 256 → (setH A n j h k = nI 0 ∨ setH A n j h k = nI 1) ∧ s1.1 141 k = nI (vN0 (setH A n j h) w k)
  | 0, j, s, h, _, _, g => ⟨s, by rw [F_DA_useHints_0_L1], onl_rf, g⟩
  | n + 1, j, s, h, e1, e2, g => by
    have l := u8_lt (A j)
    have ez : (s.1 146 j &&& nI 255).toNatClampNeg = u8 (A j) := by
      rw [e2 j (Nat.le_refl _) (by omega), u8_and]
      exact nI_clamp (by omega)
    obtain ⟨v, hv, ev⟩ := hw (u8 (A j)) l
    have hU : F_DA_useHints_0_L1 pf (n + 1) j s = F_DA_useHints_0_L1 pf n (j + 1) (sI s 141 (u8 (A j)) (nI (uN0 v))) := by
      rw [F_DA_useHints_0_L1, ez, bnd_eq, e1, ev, (uN0_e hv).2.1 s]
      repeat rw [bnd_eq]
    have o1 : onl 141 s (sI s 141 (u8 (A j)) (nI (uN0 v))) := onl_sI
    have r1 : (sI s 141 (u8 (A j)) (nI (uN0 v))).1 141 = upd (s.1 141) (u8 (A j)) (nI (uN0 v)) := sI_row
    generalize sI s 141 (u8 (A j)) (nI (uN0 v)) = s0 at hU o1 r1
    obtain ⟨s1, a1, a2, a3⟩ := uh10 (A := A) (w := w) hne hw n (j + 1) s0 (upd h (u8 (A j)) (nI 1)) (by rw [o1.1 pf hne]; exact e1) (fun x h1 h2 => by rw [o1.1 146 (by decide)]; exact e2 x (by omega) (by omega)) (fun k hk => by
      rw [r1]
      by_cases q : k = u8 (A j)
      · subst q
        unfold vN0
        rw [upd_s, upd_s, if_neg (by decide), vn_n ev (by omega)]
        exact ⟨Or.inr rfl, rfl⟩
      · have := g k hk
        unfold vN0 at this ⊢
        rw [upd_n q, upd_n q]
        exact this)
    exact ⟨s1, hU.trans a1, onl_tr o1 a2, by rw [setH]; exact a3⟩
/-- the program uses a row's hints and takes them up: set 0 -/
theorem uh00 {pf f e : Nat} {A w r0 : Nat → Int32} {s : Sto} {st : Sp} (hpf : 132 ≤ pf ∧ pf ≤ 139) (hw : rdc 8380417 w) (e1 : s.1 pf = w) (e2 : ∀ x, x < 84 → s.1 146 x = A x) (hfe : f ≤ e) (he : e ≤ 80) (h0 : ∀ k, k < 256 → r0 k = nI 0) (hS : spA 16 17 st 136 (nI 31) s) (hst : st.2 < 136) : frm (fun k => k = 16 ∨ k = 141 ∨ k = 147) s (F_DA_absorbHigh_0 (F_DA_useHints_0 pf f e s)) ∧ spA 16 17 (abN 136 st (pkb 6 (vN0 (setH A (e - f) f r0) w)) 0 192) 136 (nI 31) (F_DA_absorbHigh_0 (F_DA_useHints_0 pf f e s)) := by
  obtain ⟨s1, a1, a2, a3, -⟩ := el_loopC (pf := 141) (s0 := s) (G := F_DA_useHints_0_L0 pf f e) (K := F_DA_useHints_0_L1 pf (e - f) f) (e := fun k _ => nI (hN0 (vn w k))) (fun s => by rw [F_DA_useHints_0_L0]) (fun n k s hk o => by
    obtain ⟨v, hv, ev⟩ := hw k hk
    show F_DA_useHints_0_L0 pf f e (n + 1) k s = F_DA_useHints_0_L0 pf f e n (k + 1) (sI s 141 k (nI (hN0 (vn w k))))
    rw [F_DA_useHints_0_L0, o.1 pf (by omega), e1, ev, (hN0_e hv).2.1 s, bnd_eq, bnd_eq, vn_n ev (by omega)]) 256 0 s rfl onl_rf
  obtain ⟨s2, b1, b2, b3⟩ := uh10 (pf := pf) (A := A) (w := w) (by omega) hw (e - f) f s1 r0 (by rw [a2.1 pf (by omega)]; exact e1) (fun x h1 h2 => by rw [a2.1 146 (by decide)]; exact e2 x (by omega)) (fun k hk => by
    refine ⟨Or.inl (h0 k hk), ?_⟩
    unfold vN0
    rw [if_pos (h0 k hk)]
    exact a3 k (Nat.zero_le _) hk)
  have hU : F_DA_useHints_0 pf f e s = s2 := by
    rw [F_DA_useHints_0]
    exact a1.trans b1
  rw [hU]
  have hX : F_DA_absorbHigh_0 s2 = F_SP_absorb 16 17 147 192 0 192 (F_BT_pack 141 6 147 192 0 s2) := by
    rw [F_DA_absorbHigh_0]
    repeat rw [bnd_eq]
  have hS2 := spA_o (pf := 141) (by decide) (onl_tr a2 b2) hS
  obtain ⟨c1, c2, -⟩ := P_packW (pf := 141) (b := 6) (pt := 147) (n := 192) (at_ := 0) (W := vN0 (setH A (e - f) f r0) w) (s := s2) (by decide) (by decide) (by decide) (fun k hk => by
    have := vN0_lt (h := setH A (e - f) f r0) hw hk
    exact ⟨by omega, (b3 k hk).2⟩)
  generalize F_BT_pack 141 6 147 192 0 s2 = s3 at c1 c2 hX
  have hS3 := spA_o (pf := 147) (by decide) c1 hS2
  obtain ⟨d1, d2⟩ := P_absorb (pb := 147) (nb := 192) (at_ := 0) (len := 192) hS3 (by decide) hst (by decide)
  rw [abN_ext (c := pkb 6 (vN0 (setH A (e - f) f r0) w)) 192 (fun j hj => by rw [c2 j (by omega), Nat.zero_add])] at d1
  rw [hX]
  exact ⟨fun k hk => by rw [d2.1 k (by omega), c1.1 k (by omega), b2.1 k (by omega), a2.1 k (by omega)], d1⟩
/-- all rows of the verifier, the program's: set 0 -/
theorem va10 {pp : Nat} {A MU c : Nat → Int32} {EN : Nat → Nat} {MM : Nat → Nat → Nat → Int32} {HH W0 P R0 : Nat → Nat → Int32} (hp : ¬ (16 ≤ pp ∧ pp ≤ 18) ∧ ¬ (41 ≤ pp ∧ pp ≤ 147)) {BP : Nat → Int32} (hEN : ∀ x, x < 4 → EN (x + 1) = hen0 A x ∧ EN x ≤ EN (x + 1) ∧ EN (x + 1) ≤ 80) (hR0 : ∀ x, x < 4 → ∀ k, k < 256 → R0 x k = nI 0) (hW0 : ∀ y, y < 4 → ∀ s' : Sto, (∀ x, x < 4 → sr 8380417 (s'.1 (41 + (4 * y + x))) (MM y x)) → (∀ x, x < 4 → sr 8380417 (s'.1 (124 + x)) (HH x)) → sr 8380417 ((F_RG_restore_8 (132 + y) (F_DA_multiplyRow_mask_0 y s')).1 (132 + y)) (W0 y)) (hP : ∀ y, y < 4 → rdc 8380417 (P y) ∧ ∀ k, k < 256 → cg ((8380417 : Nat) : Int) (vl (P y) k) (sm 256 fun i => (c i).toInt * shf (fun j => ((t1N BP (32 + 320 * y) j : Nat) : Int)) i k)) : ∀ (m i : Nat) (s : Sto), i + m = 4 → s.1 pp = BP → (∀ x, x < 84 → s.1 146 x = A x) → BALL (s.1 140) c → (∀ y x, y < 4 → x < 4 → sr 8380417 (s.1 (41 + (4 * y + x))) (MM y x)) → (∀ x, x < 4 → sr 8380417 (s.1 (124 + x)) (HH x)) → spA 16 17 (chS 6 192 MU (fun y => vN0 (setH A (EN (y + 1) - EN y) (EN y) (R0 y)) (fun k => nI ((8380417 + vn (W0 y) k - vn (P y) k) % 8380417))) i) 136 (nI 31) s →
    ∃ s1, F_DA_accepts_0_L1 pp m i (EN i) s = F_DA_accepts_0_L1 pp 0 4 (EN 4) s1 ∧ frm (fun k => k = 16 ∨ (115 ≤ k ∧ k ≤ 122) ∨ (132 ≤ k ∧ k ≤ 139) ∨ k = 141 ∨ k = 147) s s1 ∧ spA 16 17 (chS 6 192 MU (fun y => vN0 (setH A (EN (y + 1) - EN y) (EN y) (R0 y)) (fun k => nI ((8380417 + vn (W0 y) k - vn (P y) k) % 8380417))) 4) 136 (nI 31) s1
  | 0, i, s, hi, _, _, _, _, _, h => by
    obtain rfl : i = 4 := by omega
    exact ⟨s, rfl, frm_rf, h⟩
  | m + 1, i, s, hi, hBP, hA, hB, hM, hH, hS => by
    obtain ⟨n1, n2, n3⟩ := hEN i (by omega)
    have l := u8_lt (A (80 + i))
    have ez : (s.1 146 (80 + i) &&& nI 255).toNatClampNeg = EN (i + 1) := by
      rw [n1, hA _ (by omega), u8_and]
      exact nI_clamp (by omega)
    have hU : F_DA_accepts_0_L1 pp (m + 1) i (EN i) s = F_DA_accepts_0_L1 pp m (i + 1) (EN (i + 1)) (F_DA_absorbHigh_0 (F_DA_useHints_0 (132 + i) (EN i) (EN (i + 1)) (F_DA_rebuildRow_0 pp i s))) := by
      rw [F_DA_accepts_0_L1, ez]
      repeat rw [bnd_eq]
    obtain ⟨a1, a0, a2⟩ := reb0 (pp := pp) (rw := i) (s := s) (c := c) (W := W0 i) (P := P i) hp.2 (by omega) hB (fun j hj => sr_l (hM i j (by omega) hj)) (fun j hj => sr_l (hH j hj)) (hW0 i (by omega) s (fun x hx => hM i x (by omega) hx) hH) (hP i (by omega)).1 (by rw [hBP]; exact (hP i (by omega)).2)
    generalize F_DA_rebuildRow_0 pp i s = s1 at a1 a0 a2 hU
    have hw : rdc 8380417 (s1.1 (132 + i)) := fun k hk => ⟨_, Nat.mod_lt _ (by decide), a2 k hk⟩
    have w16 : s1.1 16 = s.1 16 := a1 16 (by omega)
    obtain ⟨v1, v2, v3, v4⟩ := hS
    obtain ⟨b1, b2⟩ := uh00 (pf := 132 + i) (f := EN i) (e := EN (i + 1)) (A := A) (w := s1.1 (132 + i)) (r0 := R0 i) (s := s1) (by omega) hw rfl (fun x hx => by rw [a1 146 (by omega)]; exact hA x hx) n2 n3 (hR0 i (by omega)) (st := chS 6 192 MU (fun y => vN0 (setH A (EN (y + 1) - EN y) (EN y) (R0 y)) (fun k => nI ((8380417 + vn (W0 y) k - vn (P y) k) % 8380417))) i) ⟨by rw [a0]; exact v1, by rw [w16]; exact v2, by rw [w16]; exact v3, by rw [w16]; exact v4⟩ (chS_lt i)
    generalize F_DA_absorbHigh_0 (F_DA_useHints_0 (132 + i) (EN i) (EN (i + 1)) s1) = s2 at b1 b2 hU
    have eP : ∀ j, j < 192 → pkb 6 (vN0 (setH A (EN (i + 1) - EN i) (EN i) (R0 i)) (s1.1 (132 + i))) j = pkb 6 (vN0 (setH A (EN (i + 1) - EN i) (EN i) (R0 i)) (fun k => nI ((8380417 + vn (W0 i) k - vn (P i) k) % 8380417))) j := fun j hj => pkb_c (by decide) (fun k hk => by
      have e : vn (s1.1 (132 + i)) k = vn (fun k => nI ((8380417 + vn (W0 i) k - vn (P i) k) % 8380417)) k := congrArg Int32.toNatClampNeg (a2 k hk)
      unfold vN0
      rw [e]) (by omega)
    rw [abN_ext (c := pkb 6 (vN0 (setH A (EN (i + 1) - EN i) (EN i) (R0 i)) (fun k => nI ((8380417 + vn (W0 i) k - vn (P i) k) % 8380417)))) 192 (fun j hj => by rw [Nat.zero_add]; exact eP j hj)] at b2
    have g : ∀ k, k ≠ 16 → k ≠ 132 + i → k ≠ 115 + i → k ≠ 141 → k ≠ 147 → s2.1 k = s.1 k := fun k u1 u2 u3 u4 u5 => by rw [b1 k (by omega), a1 k (by omega)]
    obtain ⟨s3, c1, c2, c3⟩ := va10 (MU := MU) (c := c) (R0 := R0) hp (BP := BP) hEN hR0 hW0 hP m (i + 1) s2 (by omega) (by rw [g pp (by omega) (by omega) (by omega) (by omega) (by omega)]; exact hBP) (fun x hx => by rw [g 146 (by omega) (by omega) (by omega) (by omega) (by omega)]; exact hA x hx) (by rw [g 140 (by omega) (by omega) (by omega) (by omega) (by omega)]; exact hB) (fun y x hy hx => by rw [g _ (by omega) (by omega) (by omega) (by omega) (by omega)]; exact hM y x hy hx) (fun x hx => by rw [g _ (by omega) (by omega) (by omega) (by omega) (by omega)]; exact hH x hx) b2
    exact ⟨s3, hU.trans c1, fun k hk => by rw [c2 k hk, g k (by omega) (by omega) (by omega) (by omega) (by omega)], c3⟩
/-- the challenge of the verifier, the reference's: set 0 -/
theorem mv00 {pt : Nat} {MU : Nat → Int32} {h WW : Nat → Nat → Int32} (hR : ∀ y, y < 4 → rdc 8380417 (WW y)) (hh : ∀ y, y < 4 → ∀ k, k < 256 → h y k = nI 0 ∨ h y k = nI 1) : ∀ (m i : Nat) (t : Sto), i + m = 4 → spM (chS 6 192 MU (fun y => vN0 (h y) (WW y)) i) 136 (nI 31) t → (∀ y, y < 4 → t.1 (351 + y) = WW y ∧ t.1 (360 + y) = h y) →
    ∃ t1, F_MH_marked_0_L0 (nI 1) pt m i t = F_MS_take pt 64 0 32 (F_MS_end t1) ∧ frm (fun k => k = 172 ∨ k = 375) t t1 ∧ spM (chS 6 192 MU (fun y => vN0 (h y) (WW y)) 4) 136 (nI 31) t1
  | 0, i, t, hi, h1, _ => by
    obtain rfl : i = 4 := by omega
    refine ⟨t, ?_, frm_rf, h1⟩
    rw [F_MH_marked_0_L0]
    repeat rw [bnd_eq]
  | m + 1, i, t, hi, h1, h2 => by
    have hV : F_MH_marked_0_L0 (nI 1) pt (m + 1) i t = F_MH_marked_0_L1 (nI 1) i (F_MH_marked_0_L0 (nI 1) pt m) 256 0 t := by rw [F_MH_marked_0_L0, bnd_eq]
    have n1 : ¬ nI 1 = 0 := by decide
    obtain ⟨t1, a1, a2, a3, -⟩ := rpk_row (pt := 375) (N := 640) (b := 6) (at_ := 0) (G := F_MH_marked_0_L1 (nI 1) i (F_MH_marked_0_L0 (nI 1) pt m)) (K := fun s => F_MH_marked_0_L0 (nI 1) pt m (i + 1) (F_MS_puts 375 640 0 192 s)) (v := fun k _ => nI (vN0 (h i) (WW i) k)) (W := vN0 (h i) (WW i)) (s0 := t) (by decide) (by decide) (fun s => by rw [F_MH_marked_0_L1, bnd_eq]) (fun n k s hk o => by
      obtain ⟨v, hv, e⟩ := hR i (by omega) k hk
      show F_MH_marked_0_L1 (nI 1) i (F_MH_marked_0_L0 (nI 1) pt m) (n + 1) k s = F_MH_marked_0_L1 (nI 1) i (F_MH_marked_0_L0 (nI 1) pt m) n (k + 1) (F_M_pack 375 640 (8 * 0 + 6 * k) 6 (nI (vN0 (h i) (WW i) k)) s)
      rw [F_MH_marked_0_L1, if_neg n1, o.1 (351 + i) (by omega), o.1 (360 + i) (by omega), (h2 i (by omega)).1, (h2 i (by omega)).2, e]
      unfold vN0
      rw [vn_n e (by omega), Nat.mul_zero, Nat.zero_add]
      rcases hh i (by omega) k hk with q | q
      · rw [q, us00 hv s, if_pos rfl]
        repeat rw [bnd_eq]
      · rw [q, (uN0_e hv).2.2 s, if_neg (by decide)]
        repeat rw [bnd_eq]) (fun k s hk o => rfl) (fun k hk => by
      have := vN0_lt (h := h i) (hR i (by omega)) hk
      omega)
    have a1' : F_MH_marked_0_L1 (nI 1) i (F_MH_marked_0_L0 (nI 1) pt m) 256 0 t = F_MH_marked_0_L0 (nI 1) pt m (i + 1) (F_MS_puts 375 640 0 192 t1) := a1
    have hM1 := spM_o (pf := 375) (by decide) a2 h1
    obtain ⟨d1, d2⟩ := Q_puts (pb := 375) (nb := 640) (at_ := 0) (len := 192) hM1 (by decide) (chS_lt i) (by decide)
    rw [abN_ext (c := pkb 6 (vN0 (h i) (WW i))) 192 (fun j hj => by rw [a3 j (by omega), Nat.zero_add])] at d1
    generalize F_MS_puts 375 640 0 192 t1 = t2 at a1' d1 d2
    obtain ⟨t3, e1, e2, e3⟩ := mv00 (pt := pt) (MU := MU) hR hh m (i + 1) t2 (by omega) d1 (fun y hy => by rw [d2.1 _ (by omega), a2.1 _ (by omega), d2.1 _ (by omega), a2.1 _ (by omega)]; exact h2 y hy)
    exact ⟨t3, (hV.trans a1').trans e1, fun k hk => by rw [e2 k hk, d2.1 k (by omega), a2.1 k (by omega)], e3⟩
