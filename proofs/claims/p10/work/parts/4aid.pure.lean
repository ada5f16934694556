set_option linter.all false
theorem sq10 {pt i : Nat} {kk : Nat → Sto → Int32 × Sto} {ke : Nat → Sto → Prop} : ∀ (m j : Nat) (t : Sto), j + m = 4 → (∀ x, x < 4 → rdc 8380417 (t.1 (327 + x))) → (∀ x, x < j → isF8 (t.1 (327 + x)) (t.1 (343 + x)) ∧ rdc 8380417 (t.1 (343 + x))) →
    ∃ t1, F_MH_sign_0_L1 pt i kk m j t = F_MH_sign_0_L2 pt i kk 4 0 t1 ∧ E_MH_sign_0_L1 pt i ke m j t = E_MH_sign_0_L2 pt i ke 4 0 t1 ∧ frm (fun k => 343 ≤ k ∧ k ≤ 349) t t1 ∧ ∀ x, x < 4 → isF8 (t1.1 (327 + x)) (t1.1 (343 + x)) ∧ rdc 8380417 (t1.1 (343 + x))
  | 0, j, t, hj, _, h => by
    obtain rfl : j = 4 := by omega
    exact ⟨t, by rw [F_MH_sign_0_L1, bnd_eq], by rw [E_MH_sign_0_L1, bnd_eq], frm_rf, h⟩
  | m + 1, j, t, hj, h1, h => by
    have hV : F_MH_sign_0_L1 pt i kk (m + 1) j t = F_MH_sign_0_L1 pt i kk m (j + 1) (F_MR_forth_8_0 (327 + j) (343 + j) t) := by rw [F_MH_sign_0_L1, bnd_eq, bnd_eq]
    have hW : E_MH_sign_0_L1 pt i ke (m + 1) j t = E_MH_sign_0_L1 pt i ke m (j + 1) (F_MR_forth_8_0 (327 + j) (343 + j) t) := by rw [E_MH_sign_0_L1, bnd_eq, bnd_eq]
    obtain ⟨-, b1, b2⟩ := forth8_sr (pf := 327 + j) (pg := 327 + j) (pt := 343 + j) (s := t) (t := t) (by omega) (sr_of (h1 j (by omega)) fun _ _ => rfl)
    have b3 : isF8 (t.1 (327 + j)) ((F_MR_forth_8_0 (327 + j) (343 + j) t).1 (343 + j)) := fun s pf u => (forth8_sr (pg := 327 + j) (pt := 343 + j) (t := t) (by omega) u).2.2
    generalize F_MR_forth_8_0 (327 + j) (343 + j) t = t2 at b1 b2 b3 hV hW
    obtain ⟨t3, c1, c2, c3, c4⟩ := sq10 (pt := pt) (i := i) (kk := kk) (ke := ke) m (j + 1) t2 (by omega) (fun x hx => by rw [b1.1 _ (by omega)]; exact h1 x hx) (fun x hx => by
      by_cases w : x = j
      · subst w
        rw [b1.1 (327 + x) (by omega)]
        exact ⟨b3, sr_r b2⟩
      · rw [b1.1 (327 + x) (by omega), b1.1 (343 + x) (by omega)]
        exact h x (by omega))
    exact ⟨t3, hV.trans c1, hW.trans c2, fun k hk => by rw [c3 k hk, b1.1 k (by omega)], c4⟩
theorem sq20 {pt i : Nat} {kk : Nat → Sto → Int32 × Sto} {ke : Nat → Sto → Prop} {MM : Nat → Nat → Nat → Int32} {HH : Nat → Nat → Int32} (hM : ∀ y x, y < 4 → x < 4 → rdc 8380417 (MM y x)) (hH : ∀ x, x < 4 → rdc 8380417 (HH x)) : ∀ (m y : Nat) (t : Sto), y + m = 4 → (∀ y x, y < 4 → x < 4 → t.1 (227 + (8 * y + x)) = MM y x) → (∀ x, x < 4 → t.1 (343 + x) = HH x) → (∀ v, v < y → rdc 8380417 (t.1 (351 + v)) ∧ ∀ s : Sto, rdc 8380417 (s.1 (132 + v)) → (∀ k, k < 256 → cg ((8380417 : Nat) : Int) (vl (s.1 (132 + v)) k) (sm 4 fun x => vl (MM v x) k * vl (HH x) k)) → sr 8380417 ((F_RG_restore_8 (132 + v) s).1 (132 + v)) (t.1 (351 + v))) →
    ∃ t1, F_MH_sign_0_L2 pt i kk m y t = F_MH_sign_0_L2 pt i kk 0 4 t1 ∧ E_MH_sign_0_L2 pt i ke m y t = E_MH_sign_0_L2 pt i ke 0 4 t1 ∧ frm (fun k => (351 ≤ k ∧ k ≤ 358) ∨ k = 370) t t1 ∧ ∀ v, v < 4 → rdc 8380417 (t1.1 (351 + v)) ∧ ∀ s : Sto, rdc 8380417 (s.1 (132 + v)) → (∀ k, k < 256 → cg ((8380417 : Nat) : Int) (vl (s.1 (132 + v)) k) (sm 4 fun x => vl (MM v x) k * vl (HH x) k)) → sr 8380417 ((F_RG_restore_8 (132 + v) s).1 (132 + v)) (t1.1 (351 + v))
  | 0, y, t, hy, _, _, h => by
    obtain rfl : y = 4 := by omega
    exact ⟨t, rfl, rfl, frm_rf, h⟩
  | m + 1, y, t, hy, h1, h2, h => by
    have hV : F_MH_sign_0_L2 pt i kk (m + 1) y t = F_MH_sign_0_L2 pt i kk m (y + 1) (F_MH_rowBy_0 y (351 + y) t) := by rw [F_MH_sign_0_L2, bnd_eq, bnd_eq]
    have hW : E_MH_sign_0_L2 pt i ke (m + 1) y t = E_MH_sign_0_L2 pt i ke m (y + 1) (F_MH_rowBy_0 y (351 + y) t) := by rw [E_MH_sign_0_L2, bnd_eq, bnd_eq]
    obtain ⟨a1, a2, a3⟩ := rbF0 (rw := y) (pt := 351 + y) (t := t) (by omega) (by omega) (fun x hx => by rw [h1 y x (by omega) hx]; exact hM y x (by omega) hx) (fun x hx => by rw [h2 x hx]; exact hH x hx)
    have a4 : ∀ s : Sto, rdc 8380417 (s.1 (132 + y)) → (∀ k, k < 256 → cg ((8380417 : Nat) : Int) (vl (s.1 (132 + y)) k) (sm 4 fun x => vl (MM y x) k * vl (HH x) k)) → sr 8380417 ((F_RG_restore_8 (132 + y) s).1 (132 + y)) ((F_MH_rowBy_0 y (351 + y) t).1 (351 + y)) := fun s u1 u2 => a3 s u1 fun k hk => by
      refine cg_tr (u2 k hk) (cg_of (sm_ext 4 fun x hx => ?_))
      show vl (MM y x) k * vl (HH x) k = vl (t.1 (227 + (8 * y + x))) k * vl (t.1 (343 + x)) k
      rw [h1 y x (by omega) hx, h2 x hx]
    generalize F_MH_rowBy_0 y (351 + y) t = t2 at a1 a2 a4 hV hW
    obtain ⟨t3, c1, c2, c3, c4⟩ := sq20 (pt := pt) (i := i) (kk := kk) (ke := ke) hM hH m (y + 1) t2 (by omega) (fun v x hv hx => by rw [a1 _ (by omega) (by omega)]; exact h1 v x hv hx) (fun x hx => by rw [a1 _ (by omega) (by omega)]; exact h2 x hx) (fun v hv => by
      by_cases w : v = y
      · subst w
        exact ⟨a2, a4⟩
      · rw [a1 (351 + v) (by omega) (by omega)]
        exact h v (by omega))
    exact ⟨t3, hV.trans c1, hW.trans c2, fun k hk => by rw [c3 k hk, a1 k (by omega) (by omega)], c4⟩
set_option maxRecDepth 100000 in
/-- a pass of signing: both sides, set 0 -/
theorem pas0 {pt qt m i : Nat} {s t : Sto} (hp : ¬ (16 ≤ pt ∧ pt ≤ 18) ∧ ¬ (41 ≤ pt ∧ pt ≤ 147)) (hq : ¬ (225 ≤ qt ∧ qt ≤ 378)) (hI : INV0 s t) (hE : E_MH_sign_0_L0 qt (m + 1) i t) : ∃ s1 t1, frm (MCs pt) s s1 ∧ frm (MRs qt) t t1 ∧ ((F_DA_makeSignature_0_L0 pt (m + 1) i s = F_DA_makeSignature_0_L0 pt m (i + 1) s1 ∧ F_MH_sign_0_L0 qt (m + 1) i t = F_MH_sign_0_L0 qt m (i + 1) t1 ∧ E_MH_sign_0_L0 qt m (i + 1) t1) ∨ (F_DA_makeSignature_0_L0 pt (m + 1) i s = (nI i, s1) ∧ F_MH_sign_0_L0 qt (m + 1) i t = (nI i, t1) ∧ ∀ x, x < 2420 → s1.1 pt x = t1.1 qt x)) := by
  obtain ⟨i1, i2, i3, i4, i5, i6⟩ := hI
  have hV : F_MH_sign_0_L0 qt (m + 1) i t = F_MH_sign_0_L1 qt i (F_MH_sign_0_L0 qt m) 4 0 (F_MH_mask_0_L0 (nI ((i - 1) * 4)) 4 0 t) := by rw [F_MH_sign_0_L0, bnd_eq, bnd_eq, F_MH_mask_0, bnd_eq]
  rw [E_MH_sign_0_L0, bnd_eq, bnd_eq, F_MH_mask_0, bnd_eq] at hE
  obtain ⟨t1, a1, a2, a3⟩ := mq0 (fr := nI ((i - 1) * 4)) (CH := t.1 374) 4 0 t (by decide) (fun _ _ => rfl) (fun r hr => absurd hr (Nat.not_lt_zero _))
  rw [a1] at hV hE
  obtain ⟨t2, b1, b2, b3, b4⟩ := sq10 (pt := qt) (i := i) (kk := F_MH_sign_0_L0 qt m) (ke := E_MH_sign_0_L0 qt m) 4 0 t1 (by decide) (fun x hx => (a3 x hx).2) (fun r hr => absurd hr (Nat.not_lt_zero _))
  rw [b1] at hV
  rw [b2] at hE
  have hMM : ∀ y x, y < 4 → x < 4 → t2.1 (227 + (8 * y + x)) = t.1 (227 + (8 * y + x)) := fun y x hy hx => by rw [b3 _ (by omega), a2 _ (by omega)]
  obtain ⟨t3, c1, c2, c3, c4⟩ := sq20 (pt := qt) (i := i) (kk := F_MH_sign_0_L0 qt m) (ke := E_MH_sign_0_L0 qt m) (MM := fun y x => t.1 (227 + (8 * y + x))) (HH := fun x => t2.1 (343 + x)) (fun y x hy hx => sr_r (i1 y x hy hx)) (fun x hx => (b4 x hx).2) 4 0 t2 (by decide) hMM (fun _ _ => rfl) (fun v hv => absurd hv (Nat.not_lt_zero _))
  rw [c1] at hV
  rw [c2] at hE
  have g : ∀ k, k ≠ 172 → k ≠ 375 → ¬ (327 ≤ k ∧ k ≤ 333) → ¬ (343 ≤ k ∧ k ≤ 349) → ¬ (351 ≤ k ∧ k ≤ 358) → k ≠ 370 → t3.1 k = t.1 k := fun k u1 u2 u3 u4 u5 u6 => by rw [c3 k (by omega), b3 k (by omega), a2 k (by omega)]
  have gY : ∀ x, x < 4 → t3.1 (327 + x) = t1.1 (327 + x) := fun x hx => by rw [c3 _ (by omega), b3 _ (by omega)]
  have gH : ∀ x, x < 4 → t3.1 (343 + x) = t2.1 (343 + x) := fun x hx => c3 _ (by omega)
  have gM : ∀ y x, y < 4 → x < 4 → t3.1 (227 + (8 * y + x)) = t.1 (227 + (8 * y + x)) := fun y x hy hx => g _ (by omega) (by omega) (by omega) (by omega) (by omega) (by omega)
  have g374 : t3.1 374 = t.1 374 := g 374 (by decide) (by decide) (by omega) (by omega) (by omega) (by decide)
  have g373 : t3.1 373 = t.1 373 := g 373 (by decide) (by decide) (by omega) (by omega) (by omega) (by decide)
  obtain ⟨s1, d1, d2, d3, d4, d5⟩ := com0 (cn := nI (4 * (i - 1))) (s := s) (t := t3) (WW := fun y => t3.1 (351 + y)) (fun x hx => by
    rw [g374, gY x hx, Nat.mul_comm 4 (i - 1)]
    exact (a3 x hx).1) (fun x hx => by
    have := (b4 x hx).1
    rw [b3 (327 + x) (by omega)] at this
    rw [gY x hx, gH x hx]
    exact this) (fun y x hy hx => by rw [gM y x hy hx]; exact i1 y x hy hx) (fun y hy s' u1 u2 => (c4 y hy).2 s' u1 fun k hk => by
    have := u2 k hk
    refine cg_tr this (cg_of (sm_ext 4 fun x hx => ?_))
    show vl (t3.1 (227 + (8 * y + x))) k * vl (t3.1 (343 + x)) k = vl (t.1 (227 + (8 * y + x))) k * vl (t2.1 (343 + x)) k
    rw [gM y x hy hx, gH x hx]) (fun x hx => by rw [g374]; exact i5 x hx)
  have hV2 : F_MH_sign_0_L2 qt i (F_MH_sign_0_L0 qt m) 0 4 t3 = if (F_MH_fits_0 (F_MH_ball_0 376 (F_MH_marked_0 (nI 0) 376 t3))).1 = 0 then F_MH_sign_0_L0 qt m (i + 1) (F_MH_fits_0 (F_MH_ball_0 376 (F_MH_marked_0 (nI 0) 376 t3))).2 else (nI i, F_MH_written_0 qt (F_MH_fits_0 (F_MH_ball_0 376 (F_MH_marked_0 (nI 0) 376 t3))).2) := by
    rw [F_MH_sign_0_L2]
    repeat rw [bnd_eq]
  rw [hV2] at hV
  rw [E_MH_sign_0_L2] at hE
  repeat rw [bnd_eq] at hE
  obtain ⟨e1, e2, e3, e4, e5⟩ := chl0 (s1 := s1) (t3 := t3) (s := s) (WW := fun y => t3.1 (351 + y)) (fun y hy => (c4 y hy).1) (fun _ _ => rfl) (fun x hx => by rw [g373]; exact i6 x hx) d5 hE.1
  rw [and_iff_right hE.1] at hE
  have hU : F_DA_makeSignature_0_L0 pt (m + 1) i s = if (F_DA_answerIsShort_0 (F_DA_commit_0_L2 0 4 s1)).1 = 0 then F_DA_makeSignature_0_L0 pt m (i + 1) (F_DA_answerIsShort_0 (F_DA_commit_0_L2 0 4 s1)).2 else if (F_DA_restIsShort_0 (F_DA_answerIsShort_0 (F_DA_commit_0_L2 0 4 s1)).2).1 = 0 then F_DA_makeSignature_0_L0 pt m (i + 1) (F_DA_restIsShort_0 (F_DA_answerIsShort_0 (F_DA_commit_0_L2 0 4 s1)).2).2 else if (F_DA_makeHints_0 (F_DA_restIsShort_0 (F_DA_answerIsShort_0 (F_DA_commit_0_L2 0 4 s1)).2).2).1 = 0 then F_DA_makeSignature_0_L0 pt m (i + 1) (F_DA_makeHints_0 (F_DA_restIsShort_0 (F_DA_answerIsShort_0 (F_DA_commit_0_L2 0 4 s1)).2).2).2 else (nI i, F_DA_writeSignature_0 pt (F_DA_makeHints_0 (F_DA_restIsShort_0 (F_DA_answerIsShort_0 (F_DA_commit_0_L2 0 4 s1)).2).2).2) := by
    rw [F_DA_makeSignature_0_L0, d1]
    repeat rw [bnd_eq]
  generalize F_DA_commit_0_L2 0 4 s1 = s2 at e1 e3 e5 hU
  generalize F_MH_ball_0 376 (F_MH_marked_0 (nI 0) 376 t3) = t4 at e2 e3 e4 e5 hV hE
  have f1 : ∀ k, ¬ MCs pt k → s2.1 k = s.1 k := fun k hk => by
    unfold MCs at hk
    rw [e1 k (by omega) (by omega) (by omega) (by omega), d2 k (by omega)]
  have f2 : ∀ k, ¬ MRs qt k → t4.1 k = t.1 k := fun k hk => by
    unfold MRs at hk
    rw [e2 k (by omega) (by omega) (by omega) (by omega), g k (by omega) (by omega) (by omega) (by omega) (by omega) (by omega)]
  obtain ⟨s3, t5, l1, l2, l3⟩ := fin0 (pt := pt) (qt := qt) (i := i) (s := s2) (t := t4) (kk := F_DA_makeSignature_0_L0 pt m (i + 1)) hp hq e5 (fun x hx => by rw [f1 _ (by unfold MCs; omega), f2 _ (by unfold MRs; omega)]; exact i2 x hx) (fun x hx => by rw [f1 _ (by unfold MCs; omega), f2 _ (by unfold MRs; omega)]; exact i3 x hx) (fun x hx => by rw [f1 _ (by unfold MCs; omega), f2 _ (by unfold MRs; omega)]; exact i4 x hx) (fun x hx => by rw [e1 _ (by omega) (by omega) (by omega) (by omega), e2 _ (by omega) (by omega) (by omega) (by omega)]; exact d3 x hx) (fun x hx => by rw [e1 _ (by omega) (by omega) (by omega) (by omega), e2 _ (by omega) (by omega) (by omega) (by omega)]; exact d4 x hx) e3 e4 hU
  refine ⟨s3, t5, fun k hk => (l1 k hk).trans (f1 k hk), fun k hk => (l2 k hk).trans (f2 k hk), ?_⟩
  rcases l3 with ⟨n1, n2⟩ | ⟨t6, n1, n2, n3, n4⟩
  · rw [n2] at hV hE
    dsimp only at hV hE
    rw [if_pos (show nI 0 = 0 by decide)] at hV hE
    exact Or.inl ⟨n1, hV, hE⟩
  · rw [n2] at hV
    dsimp only at hV
    rw [if_neg (show ¬ nI 1 = 0 by decide), n3] at hV
    exact Or.inr ⟨n1, hV, n4⟩
set_option maxRecDepth 100000 in
theorem lps0 {pt qt : Nat} (hp : ¬ (16 ≤ pt ∧ pt ≤ 18) ∧ ¬ (41 ≤ pt ∧ pt ≤ 147)) (hq : ¬ (225 ≤ qt ∧ qt ≤ 378)) : ∀ (m i : Nat) (s t : Sto), INV0 s t → E_MH_sign_0_L0 qt m i t → ∃ (z : Int32) (s1 t1 : Sto), F_DA_makeSignature_0_L0 pt m i s = (z, s1) ∧ F_MH_sign_0_L0 qt m i t = (z, t1) ∧ frm (MCs pt) s s1 ∧ frm (MRs qt) t t1 ∧ (z = nI 0 ∨ ∀ x, x < 2420 → s1.1 pt x = t1.1 qt x)
  | 0, i, s, t, _, _ => ⟨nI 0, s, t, by rw [F_DA_makeSignature_0_L0], by rw [F_MH_sign_0_L0], frm_rf, frm_rf, Or.inl rfl⟩
  | m + 1, i, s, t, hI, hE => by
    obtain ⟨s1, t1, a1, a2, a3⟩ := pas0 (pt := pt) (qt := qt) hp hq hI hE
    rcases a3 with ⟨b1, b2, b3⟩ | ⟨b1, b2, b3⟩
    · obtain ⟨z, s2, t2, c1, c2, c3, c4, c5⟩ := lps0 hp hq m (i + 1) s1 t1 (INV0_f hp.2 hq a1 a2 hI) b3
      exact ⟨z, s2, t2, b1.trans c1, b2.trans c2, ftr a1 c3, ftr a2 c4, c5⟩
    · exact ⟨nI i, s1, t1, b1, b2, a1, a2, Or.inr b3⟩
/-- names of the caller, for signing -/
def apS0 (psk ptp pt : Nat) : Prop := ¬ (16 ≤ psk ∧ psk ≤ 18) ∧ ¬ (38 ≤ psk ∧ psk ≤ 147) ∧ ¬ (16 ≤ ptp ∧ ptp ≤ 18) ∧ ¬ (38 ≤ ptp ∧ ptp ≤ 147) ∧ ¬ (16 ≤ pt ∧ pt ≤ 18) ∧ ¬ (38 ≤ pt ∧ pt ≤ 147)
set_option maxRecDepth 100000 in
/-- ML-DSA.Sign, set 0: where the reference's draws end in time, both sides go through the loop as often, and write the same signature -/
theorem dsign0_same {psk ptp n len pt qsk qb n3 qt : Nat} {cl_ : Int32} {s t : Sto} (hP : apS0 psk ptp pt) (hQ : qsk ≠ 172 ∧ ¬ (225 ≤ qsk ∧ qsk ≤ 378) ∧ qb ≠ 172 ∧ ¬ (225 ≤ qb ∧ qb ≤ 378) ∧ ¬ (225 ≤ qt ∧ qt ≤ 378)) (hl : 32 ≤ len) (hK : ∀ x, x < 2560 → s.1 psk x = t.1 qsk x) (hB : ∀ x, x < len → s.1 ptp x = t.1 qb x) (hE : E_MH_sign_0 qsk qb n3 cl_ len qt t) : ∃ (z : Int32) (s1 t1 : Sto), F_DA_makeSignature_0 psk ptp n len cl_ pt s = (z, s1) ∧ F_MH_sign_0 qsk qb n3 cl_ len qt t = (z, t1) ∧ frm (fun k => (16 ≤ k ∧ k ≤ 18) ∨ (38 ≤ k ∧ k ≤ 147) ∨ k = pt) s s1 ∧ frm (fun k => k = 172 ∨ (225 ≤ k ∧ k ≤ 378) ∨ k = qt) t t1 ∧ (z = nI 0 ∨ ∀ x, x < 2420 → s1.1 pt x = t1.1 qt x) := by
  unfold apS0 at hP
  have hU : F_DA_makeSignature_0 psk ptp n len cl_ pt s = F_DA_makeSignature_0_L0 pt (201 - 1) 1 (F_SP_squeeze 16 17 142 128 0 64 (F_SP_finish 16 17 (F_SP_absorb 16 17 143 64 0 64 (F_SP_absorb 16 17 ptp n 0 32 (F_SP_absorb 16 17 psk 2560 32 32 (F_SP_start_3 16 17 (F_SP_squeeze 16 17 143 64 0 64 (F_SP_finish 16 17 (F_SP_absorb 16 17 ptp n 32 (len - 32) (F_SP_absorbByte 16 17 cl_ (F_SP_absorbByte 16 17 (nI 0) (F_SP_absorb 16 17 143 64 0 64 (F_SP_start_3 16 17 (sC (F_DA_readSecret_0 psk s) psk 143 64 0 64)))))))))))))) := by
    rw [F_DA_makeSignature_0]
    repeat rw [bnd_eq]
    rw [F_DA_digestMessage]
    repeat rw [bnd_eq]
  have hV : F_MH_sign_0 qsk qb n3 cl_ len qt t = F_MH_sign_0_L0 qt (201 - 1) 1 (F_MS_take 374 64 0 64 (F_MS_end (F_MS_puts 373 64 0 64 (F_MS_puts qb n3 0 32 (F_MS_puts qsk 4896 32 32 (F_MS_begin 136 (nI 31) (F_MS_take 373 64 0 64 (F_MS_end (F_MS_puts qb n3 32 (len - 32) (F_MS_put cl_ (F_MS_put (nI 0) (F_MS_puts qsk 4896 64 64 (F_MS_begin 136 (nI 31) (F_MH_expand_0 qsk 4896 (F_MH_readHidden_0 qsk (F_MH_as_0 t)))))))))))))))) := by
    rw [F_MH_sign_0]
    repeat rw [bnd_eq]
    rw [F_MH_message_0]
    repeat rw [bnd_eq]
    rw [shM, shM]
  rw [E_MH_sign_0] at hE
  repeat rw [bnd_eq] at hE
  rw [F_MH_message_0] at hE
  repeat rw [bnd_eq] at hE
  rw [shM, shM] at hE
  have hA : ∀ k, k ≠ 225 → (F_MH_as_0 t).1 k = t.1 k := fun k hk => Q_as0 hk
  generalize F_MH_as_0 t = ta at hA hV hE
  obtain ⟨a1, a2, a3, a4⟩ := rhid0 (psk := qsk) (t := ta) hQ.2.1
  have eq : ta.1 qsk = t.1 qsk := hA qsk (by omega)
  rw [eq] at a2 a3 a4
  generalize F_MH_readHidden_0 qsk ta = tb at a1 a2 a3 a4 hV hE
  have eb : ∀ k, k ≠ 225 → ¬ (292 ≤ k ∧ k ≤ 316) → tb.1 k = t.1 k := fun k u v => by rw [a1 k (by omega), hA k u]
  obtain ⟨b1, b2, b3⟩ := exp0_same (pb := psk) (np := 2560) (qb := qsk) (nq := 4896) (s := s) (t := tb) (by omega) (by omega) (fun x hx => by rw [eb qsk (by omega) (by omega)]; exact hK x (by omega)) hE.1
  obtain ⟨c1, c2, c3, c4⟩ := rsec0 (psk := psk) (s := s) (by omega) (b1 psk (by omega))
  rw [and_iff_right hE.1] at hE
  generalize F_MH_expand_0 qsk 4896 tb = tc at b2 b3 hV hE
  generalize F_SA_expandMatrix_0 psk 2560 s = sa at b1 b3 c1
  generalize F_DA_readSecret_0 psk s = sb at c1 c2 c3 c4 hU
  have ec : ∀ k, k ≠ 172 → ¬ (225 ≤ k ∧ k ≤ 316) → tc.1 k = t.1 k := fun k u v => by rw [b2 k (by omega), eb k (by omega) (by omega)]
  have es : ∀ k, k ≠ 18 → ¬ (41 ≤ k ∧ k ≤ 122) → sb.1 k = s.1 k := fun k u v => by rw [c1 k (by omega), b1 k (by omega)]
  have d1 : onl 143 sb (sC sb psk 143 64 0 64) := sC_o
  have d2 : ∀ x, x < 64 → (sC sb psk 143 64 0 64).1 143 x = tc.1 qsk (64 + x) := fun x hx => by
    have := sC_in (s := sb) (k0 := psk) (k1 := 143) (sp := 64) (dp := 0) hx
    rw [Nat.zero_add] at this
    rw [this, es psk (by omega) (by omega), ec qsk (by omega) (by omega)]
    exact hK _ (by omega)
  generalize sC sb psk 143 64 0 64 = sc at d1 d2 hU
  obtain ⟨f1, f2, f3⟩ := msg8_same (pb := ptp) (n := n) (fr := 32) (len := len - 32) (phs := qsk) (nh := 4896) (ha := 64) (qb := qb) (nb := n3) (at_ := 32) (cl_ := cl_) (s := sc) (t := tc) (by omega) (by omega) (by omega) d2 (fun j hj => by rw [d1.1 ptp (by omega), es ptp (by omega) (by omega), ec qb (by omega) (by omega)]; exact hB _ (by omega))
  generalize F_SP_squeeze 16 17 143 64 0 64 (F_SP_finish 16 17 (F_SP_absorb 16 17 ptp n 32 (len - 32) (F_SP_absorbByte 16 17 cl_ (F_SP_absorbByte 16 17 (nI 0) (F_SP_absorb 16 17 143 64 0 64 (F_SP_start_3 16 17 sc)))))) = sd at f1 f3 hU
  generalize F_MS_take 373 64 0 64 (F_MS_end (F_MS_puts qb n3 32 (len - 32) (F_MS_put cl_ (F_MS_put (nI 0) (F_MS_puts qsk 4896 64 64 (F_MS_begin 136 (nI 31) tc)))))) = td at f2 f3 hV hE
  obtain ⟨g1, g2, g3⟩ := chn8_same (psk := psk) (n1 := 2560) (ptp := ptp) (n2 := n) (qsk := qsk) (qb := qb) (n3 := n3) (s := sd) (t := td) (by omega) (by omega) (by omega) (by omega) (fun j hj => by rw [f1.1 psk (by omega) (by omega), d1.1 psk (by omega), es psk (by omega) (by omega), f2.1 qsk (by omega) (by omega), ec qsk (by omega) (by omega)]; exact hK _ (by omega)) (fun j hj => by rw [f1.1 ptp (by omega) (by omega), d1.1 ptp (by omega), es ptp (by omega) (by omega), f2.1 qb (by omega) (by omega), ec qb (by omega) (by omega)]; exact hB _ (by omega)) f3
  generalize F_SP_squeeze 16 17 142 128 0 64 (F_SP_finish 16 17 (F_SP_absorb 16 17 143 64 0 64 (F_SP_absorb 16 17 ptp n 0 32 (F_SP_absorb 16 17 psk 2560 32 32 (F_SP_start_3 16 17 sd))))) = se at g1 g3 hU
  generalize F_MS_take 374 64 0 64 (F_MS_end (F_MS_puts 373 64 0 64 (F_MS_puts qb n3 0 32 (F_MS_puts qsk 4896 32 32 (F_MS_begin 136 (nI 31) td))))) = te at g2 g3 hV hE
  have k1 : ∀ k, k ≠ 16 → k ≠ 142 → k ≠ 143 → se.1 k = sb.1 k := fun k u v w => by rw [g1.1 k u v, f1.1 k u w, d1.1 k w]
  have k2 : ∀ k, k ≠ 172 → k ≠ 373 → k ≠ 374 → te.1 k = tc.1 k := fun k u v w => by rw [g2.1 k u w, f2.1 k u v]
  have rw1 : ∀ {T b at_ : Nat} {r : Nat → Int32} {a : Nat → Int32}, at_ + 32 * b ≤ 2560 → tr8 a (rwN T b (s.1 psk) at_) → (∀ k, k < 256 → r k = rwN T b (t.1 qsk) at_ k) → tr8 a r := fun h1 h2 h3 => tr8_c h2 fun k hk => by
    rw [h3 k hk]
    exact rwN_c (fun j hj => hK _ (by omega)) hk
  have hI : INV0 se te := by
    refine ⟨fun y x hy hx => ?_, fun x hx => ?_, fun x hx => ?_, fun x hx => ?_, g3, fun x hx => ?_⟩
    · rw [k1 _ (by omega) (by omega) (by omega), k2 _ (by omega) (by omega) (by omega), c1 _ (by omega)]
      exact b3 y x hy hx
    · rw [k1 _ (by omega) (by omega) (by omega), k2 _ (by omega) (by omega) (by omega), b2 _ (by omega)]
      exact rw1 (by omega) (c2 x hx) (a2 x hx)
    · rw [k1 _ (by omega) (by omega) (by omega), k2 _ (by omega) (by omega) (by omega), b2 _ (by omega)]
      exact rw1 (by omega) (c3 x hx) (a3 x hx)
    · rw [k1 _ (by omega) (by omega) (by omega), k2 _ (by omega) (by omega) (by omega), b2 _ (by omega)]
      exact rw1 (by omega) (c4 x hx) (a4 x hx)
    · rw [g1.1 143 (by decide) (by decide), g2.1 373 (by decide) (by decide)]
      exact f3 x hx
  obtain ⟨z, s1, t1, l1, l2, l3, l4, l5⟩ := lps0 (pt := pt) (qt := qt) (by omega) hQ.2.2.2.2 (201 - 1) 1 se te hI hE
  refine ⟨z, s1, t1, hU.trans l1, hV.trans l2, fun k hk => ?_, fun k hk => ?_, l5⟩
  · rw [l3 k (by unfold MCs; omega), k1 k (by omega) (by omega) (by omega), es k (by omega) (by omega)]
  · rw [l4 k (by unfold MRs; omega), k2 k (by omega) (by omega) (by omega), ec k (by omega) (by omega)]
