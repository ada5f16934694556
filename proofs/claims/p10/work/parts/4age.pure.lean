set_option linter.all false
/-! ML-DSA.KeyGen -/
def isF8 (a b : Nat → Int32) : Prop := ∀ (s : Sto) (pf : Nat), sr 8380417 (s.1 pf) a → sr 8380417 ((F_RG_transform_8 pf s).1 pf) b
/-- a small number as it is packed -/
def wS (e : Nat) (x : Int32) : Nat := if x.toNatClampNeg ≤ e then e - x.toNatClampNeg else e + 8380417 - x.toNatClampNeg
theorem wS_e {e w : Nat} (he : e ≤ 4) (hw : w ≤ 2 * e) : wS e (nI ((8380417 + e - w) % 8380417)) = w := by
  unfold wS
  rw [nI_clamp (by omega)]
  by_cases q : w ≤ e
  · rw [show (8380417 + e - w) % 8380417 = e - w by omega, if_pos (by omega)]
    omega
  · rw [show (8380417 + e - w) % 8380417 = 8380417 + e - w by omega, if_neg (by omega)]
    omega
theorem sk_of {α : Type} (d : α) {n : Nat} {P : Nat → α → Prop} (h : ∀ r, r < n → ∃ v, P r v) : ∃ f : Nat → α, ∀ r, r < n → P r (f r) := by
  refine ⟨fun r => if q : r < n then Classical.choose (h r q) else d, fun r q => ?_⟩
  show P r (if q : r < n then Classical.choose (h r q) else d)
  rw [dif_pos q]
  exact Classical.choose_spec (h r q)
/-- names of the caller, for key generation -/
def apK8 (pch pp psk : Nat) : Prop := ¬ (16 ≤ pch ∧ pch ≤ 18) ∧ ¬ (41 ≤ pch ∧ pch ≤ 147) ∧ ¬ (16 ≤ pp ∧ pp ≤ 18) ∧ ¬ (41 ≤ pp ∧ pp ≤ 147) ∧ ¬ (16 ≤ psk ∧ psk ≤ 18) ∧ ¬ (41 ≤ psk ∧ psk ≤ 147) ∧ pp ≠ psk ∧ pch ≠ pp ∧ pch ≠ psk
def apL8 (psd pek pdk : Nat) : Prop := psd ≠ 172 ∧ ¬ (225 ≤ psd ∧ psd ≤ 378) ∧ pek ≠ 172 ∧ ¬ (225 ≤ pek ∧ pek ≤ 378) ∧ pdk ≠ 172 ∧ ¬ (225 ≤ pdk ∧ pdk ≤ 378) ∧ pek ≠ pdk
theorem sI_ne {s : Sto} {k k' i : Nat} {x : Int32} (h : k' ≠ k) : (sI s k i x).1 k' = s.1 k' := uA_ne h
def isSm0 (SD : Nat → Int32) (wh : Int32) (r : Nat → Int32) : Prop := ∀ (pf pb n at1 : Nat) (s : Sto), pf ≠ 18 → pb ≠ 18 → (∀ x, x < 64 → s.1 pb (at1 + x) = SD x) → same2 18 19 pf s (F_SA_sampleSmall_0 pf pb n at1 wh s) ∧ ss 2 ((F_SA_sampleSmall_0 pf pb n at1 wh s).1 pf) r
theorem isSm0_of {SD : Nat → Int32} {wh : Int32} {qf : Nat} {t : Sto} (hqf : qf ≠ 172) (hB : ∀ x, x < 64 → t.1 372 (32 + x) = SD x) (hE : E_MH_small_0 qf 372 128 32 wh t) : isSm0 SD wh ((F_MH_small_0 qf 372 128 32 wh t).1 qf) ∧ same2 172 173 qf t (F_MH_small_0 qf 372 128 32 wh t) ∧ rdc 8380417 ((F_MH_small_0 qf 372 128 32 wh t).1 qf) := by
  obtain ⟨-, b, c⟩ := small0_same (pf := 0) (pb := 0) (n := 0) (at1 := 32) (s := trk SD) (by decide) (by decide) hqf (show 372 ≠ 172 by decide) (fun x hx => by rw [trk_at, hB x hx]) hE
  refine ⟨fun pf pb n at1 s u1 u2 u3 => ?_, b, sr_r (ss_sr c)⟩
  obtain ⟨d, -, e⟩ := small0_same (n := n) (s := s) u1 u2 hqf (show 372 ≠ 172 by decide) (fun x hx => by rw [u3 x hx, hB x hx]) hE
  exact ⟨d, e⟩
theorem isSm0_w {SD : Nat → Int32} {wh : Int32} {r : Nat → Int32} (h : isSm0 SD wh r) {k : Nat} (hk : k < 256) : ∃ w : Nat, w ≤ 2 * 2 ∧ r k = nI ((8380417 + 2 - w) % 8380417) := by
  obtain ⟨w, h1, -, h2⟩ := (h 0 0 0 32 (trk SD) (by decide) (by decide) (fun x _ => trk_at)).2 k hk
  exact ⟨w, h1, h2⟩
theorem kq00 {pp psk : Nat} {SD : Nat → Int32} : ∀ (m i : Nat) (t : Sto), i + m = 4 → (∀ x, x < 64 → t.1 372 (32 + x) = SD x) → E_MH_keys_0_L0 pp psk m i t → (∀ r, r < i → isSm0 SD (nI r) (t.1 (292 + r)) ∧ isF8 (t.1 (292 + r)) (t.1 (343 + r)) ∧ rdc 8380417 (t.1 (343 + r))) →
    ∃ t1, F_MH_keys_0_L0 pp psk m i t = F_MH_keys_0_L1 pp psk 4 0 t1 ∧ E_MH_keys_0_L1 pp psk 4 0 t1 ∧ frm (fun k => k = 172 ∨ (292 ≤ k ∧ k ≤ 298) ∨ (343 ≤ k ∧ k ≤ 349)) t t1 ∧ ∀ r, r < 4 → isSm0 SD (nI r) (t1.1 (292 + r)) ∧ isF8 (t1.1 (292 + r)) (t1.1 (343 + r)) ∧ rdc 8380417 (t1.1 (343 + r))
  | 0, i, t, hi, h1, hE, h => by
    rw [E_MH_keys_0_L0, bnd_eq] at hE
    obtain rfl : i = 4 := by omega
    exact ⟨t, by rw [F_MH_keys_0_L0, bnd_eq], hE, frm_rf, h⟩
  | m + 1, i, t, hi, h1, hE, h => by
    rw [E_MH_keys_0_L0] at hE
    repeat rw [bnd_eq] at hE
    have hV : F_MH_keys_0_L0 pp psk (m + 1) i t = F_MH_keys_0_L0 pp psk m (i + 1) (F_MR_forth_8_0 (292 + i) (343 + i) (F_MH_small_0 (292 + i) 372 128 32 (nI i) t)) := by
      rw [F_MH_keys_0_L0]
      repeat rw [bnd_eq]
    obtain ⟨a1, a2, a3⟩ := isSm0_of (SD := SD) (by omega) h1 hE.1
    rw [and_iff_right hE.1] at hE
    generalize F_MH_small_0 (292 + i) 372 128 32 (nI i) t = t1 at a1 a2 a3 hV hE
    obtain ⟨-, b1, b2⟩ := forth8_sr (pf := 292 + i) (pg := 292 + i) (pt := 343 + i) (s := t1) (t := t1) (by omega) (sr_of a3 fun _ _ => rfl)
    have b3 : isF8 (t1.1 (292 + i)) ((F_MR_forth_8_0 (292 + i) (343 + i) t1).1 (343 + i)) := fun s pf u => (forth8_sr (pg := 292 + i) (pt := 343 + i) (t := t1) (by omega) u).2.2
    generalize F_MR_forth_8_0 (292 + i) (343 + i) t1 = t2 at b1 b2 b3 hV hE
    obtain ⟨t3, c1, c2, c3, c4⟩ := kq00 (pp := pp) (psk := psk) (SD := SD) m (i + 1) t2 (by omega) (fun x hx => by rw [b1.1 372 (by omega), a2.1 372 (by omega) (by omega)]; exact h1 x hx) hE (fun r hr => by
      by_cases w : r = i
      · subst w
        rw [b1.1 (292 + r) (by omega)]
        exact ⟨a1, b3, sr_r b2⟩
      · rw [b1.1 (292 + r) (by omega), b1.1 (343 + r) (by omega), a2.1 (292 + r) (by omega) (by omega), a2.1 (343 + r) (by omega) (by omega)]
        exact h r (by omega))
    exact ⟨t3, hV.trans c1, c2, fun k hk => by rw [c3 k hk, b1.1 k (by omega), a2.1 k (by omega) (by omega)], c4⟩
theorem k90 {r : Nat} {kk : Nat → Sto → Sto} {ke : Nat → Sto → Prop} {A S2 : Nat → Int32} (hr : r < 4) (hA : rdc 8380417 A) (hS : rdc 8380417 S2) : ∀ (m i : Nat) (t : Sto), i + m = 256 → t.1 369 = A → t.1 (300 + r) = S2 → (∀ k, k < i → nI 4096 - t.1 (309 + r) k = nI (p2w ((vn A k + vn S2 k) % 8380417)) ∧ t.1 (318 + r) k = nI (p2h ((vn A k + vn S2 k) % 8380417))) →
    ∃ t1, F_MH_keys_0_L9 r kk m i t = kk (r + 1) t1 ∧ E_MH_keys_0_L9 r ke m i t = ke (r + 1) t1 ∧ frm (fun k => k = 309 + r ∨ k = 318 + r) t t1 ∧ ∀ k, k < 256 → nI 4096 - t1.1 (309 + r) k = nI (p2w ((vn A k + vn S2 k) % 8380417)) ∧ t1.1 (318 + r) k = nI (p2h ((vn A k + vn S2 k) % 8380417))
  | 0, i, t, hi, _, _, h => by
    obtain rfl : i = 256 := by omega
    exact ⟨t, by rw [F_MH_keys_0_L9], by rw [E_MH_keys_0_L9], frm_rf, h⟩
  | m + 1, i, t, hi, e1, e2, h => by
    obtain ⟨a, ha, ea⟩ := hA i (by omega)
    obtain ⟨b, hb, eb⟩ := hS i (by omega)
    have va : vn A i = a := vn_n ea (by omega)
    have vb : vn S2 i = b := vn_n eb (by omega)
    have hv : (a + b) % 8380417 < 8380417 := Nat.mod_lt _ (by decide)
    have z1 : (t.1 369 i + t.1 (300 + r) i) - (t.1 369 i + t.1 (300 + r) i) / nI 8380417 * nI 8380417 = nI ((a + b) % 8380417) := by
      rw [e1, e2, ea, eb, nI_add]
      exact pk_rem (by omega) (by decide) (by decide)
    generalize hvv : (a + b) % 8380417 = v at hv z1
    have z2 : nI v - nI v / nI 8192 * nI 8192 = nI (v % 8192) := pk_rem (by omega) (by decide) (by decide)
    obtain ⟨c1, c2⟩ := p2_R hv
    have hU : ∃ x y : Int32, F_MH_keys_0_L9 r kk (m + 1) i t = F_MH_keys_0_L9 r kk m (i + 1) (sI (sI t (309 + r) i x) (318 + r) i y) ∧ E_MH_keys_0_L9 r ke (m + 1) i t = E_MH_keys_0_L9 r ke m (i + 1) (sI (sI t (309 + r) i x) (318 + r) i y) ∧ nI 4096 - x = nI (p2w v) ∧ y = nI (p2h v) := by
      by_cases q : v % 8192 ≤ 4096
      · refine ⟨nI (v % 8192), nI (p2h v), ?_, ?_, (c1 q).1, rfl⟩
        · rw [F_MH_keys_0_L9, z1, bnd_eq, z2, bnd_eq, if_pos ((nI_leI (by omega) (by decide)).mpr q), bnd_eq, bnd_eq, (c1 q).2]
        · rw [E_MH_keys_0_L9, z1, bnd_eq, z2, bnd_eq, if_pos ((nI_leI (by omega) (by decide)).mpr q), bnd_eq, bnd_eq, (c1 q).2]
      · refine ⟨nI (v % 8192) + Int32.ofInt (-8192), nI (p2h v), ?_, ?_, (c2 q).1, rfl⟩
        · rw [F_MH_keys_0_L9, z1, bnd_eq, z2, bnd_eq, if_neg (fun z => q ((nI_leI (by omega) (by decide)).mp z)), bnd_eq, bnd_eq, bnd_eq, (c2 q).2]
        · rw [E_MH_keys_0_L9, z1, bnd_eq, z2, bnd_eq, if_neg (fun z => q ((nI_leI (by omega) (by decide)).mp z)), bnd_eq, bnd_eq, bnd_eq, (c2 q).2]
    obtain ⟨x, y, u1, u2, u3, u4⟩ := hU
    have f1 : ∀ z, z ≠ 309 + r → z ≠ 318 + r → (sI (sI t (309 + r) i x) (318 + r) i y).1 z = t.1 z := fun z g1 g2 => (uA_ne g2).trans (uA_ne g1)
    have f2 : (sI (sI t (309 + r) i x) (318 + r) i y).1 (309 + r) = upd (t.1 (309 + r)) i x := (uA_ne (by omega)).trans sI_row
    have f3 : (sI (sI t (309 + r) i x) (318 + r) i y).1 (318 + r) = upd (t.1 (318 + r)) i y := by
      rw [sI_row]
      exact congrArg (fun q => upd q i y) (uA_ne (by omega))
    generalize sI (sI t (309 + r) i x) (318 + r) i y = t0 at u1 u2 f1 f2 f3
    obtain ⟨t1, g1, g2, g3, g4⟩ := k90 (kk := kk) (ke := ke) hr hA hS m (i + 1) t0 (by omega) (by rw [f1 369 (by omega) (by omega)]; exact e1) (by rw [f1 (300 + r) (by omega) (by omega)]; exact e2) (fun k hk => by
      by_cases w : k = i
      · subst w
        rw [f2, f3, upd_s, upd_s, va, vb, hvv]
        exact ⟨u3, u4⟩
      · rw [f2, f3, upd_n w, upd_n w]
        exact h k (by omega))
    exact ⟨t1, u1.trans g1, u2.trans g2, fun k hk => by rw [g3 k hk, f1 k (by omega) (by omega)], g4⟩
def isZ0 (SD : Nat → Int32) (MM : Nat → Nat → Nat → Int32) (HH : Nat → Nat → Int32) (r : Nat) (S2 T0 T1 : Nat → Int32) : Prop := isSm0 SD (nI (r + 4)) S2 ∧ ∃ V : Nat → Nat, (∀ k, k < 256 → V k < 8380417 ∧ nI 4096 - T0 k = nI (p2w (V k)) ∧ T1 k = nI (p2h (V k))) ∧ ∀ s : Sto, (∀ x, x < 4 → sr 8380417 (s.1 (41 + (4 * r + x))) (MM r x)) → (∀ x, x < 4 → sr 8380417 (s.1 (98 + x)) (HH x)) → sr 8380417 (s.1 (106 + r)) S2 → onl (132 + r) s (F_RG_restore_8 (132 + r) (F_DA_multiplyRow_secret_0 r s)) ∧ ∀ k, k < 256 → (F_RG_add_8 (132 + r) (106 + r) (F_RG_restore_8 (132 + r) (F_DA_multiplyRow_secret_0 r s))).1 (132 + r) k = nI (V k)
set_option maxRecDepth 100000 in
theorem kq10 {pp psk : Nat} {SD : Nat → Int32} {MM : Nat → Nat → Nat → Int32} {HH : Nat → Nat → Int32} (hMM : ∀ y x, y < 4 → x < 4 → rdc 8380417 (MM y x)) (hHH : ∀ x, x < 4 → rdc 8380417 (HH x)) : ∀ (m i : Nat) (t : Sto), i + m = 4 → (∀ x, x < 64 → t.1 372 (32 + x) = SD x) → (∀ y x, y < 4 → x < 4 → t.1 (227 + (8 * y + x)) = MM y x) → (∀ x, x < 4 → t.1 (343 + x) = HH x) → E_MH_keys_0_L1 pp psk m i t → (∀ r, r < i → isZ0 SD MM HH r (t.1 (300 + r)) (t.1 (309 + r)) (t.1 (318 + r))) →
    ∃ t1, F_MH_keys_0_L1 pp psk m i t = F_MH_keys_0_L2 pp psk 32 0 t1 ∧ frm (fun k => k = 172 ∨ (300 ≤ k ∧ k ≤ 325) ∨ k = 369 ∨ k = 370) t t1 ∧ ∀ r, r < 4 → isZ0 SD MM HH r (t1.1 (300 + r)) (t1.1 (309 + r)) (t1.1 (318 + r))
  | 0, i, t, hi, _, _, _, _, h => by
    obtain rfl : i = 4 := by omega
    exact ⟨t, by rw [F_MH_keys_0_L1, bnd_eq], frm_rf, h⟩
  | m + 1, i, t, hi, h1, h2, h3, hE, h => by
    rw [E_MH_keys_0_L1] at hE
    repeat rw [bnd_eq] at hE
    have hV : F_MH_keys_0_L1 pp psk (m + 1) i t = F_MH_keys_0_L9 i (F_MH_keys_0_L1 pp psk m) 256 0 (F_MH_rowBy_0 i 369 (F_MH_small_0 (300 + i) 372 128 32 (nI (i + 4)) t)) := by
      rw [F_MH_keys_0_L1]
      repeat rw [bnd_eq]
    obtain ⟨a1, a2, a3⟩ := isSm0_of (SD := SD) (by omega) h1 hE.1
    rw [and_iff_right hE.1] at hE
    generalize F_MH_small_0 (300 + i) 372 128 32 (nI (i + 4)) t = t1 at a1 a2 a3 hV hE
    have m1 : ∀ x, x < 4 → t1.1 (227 + (8 * i + x)) = MM i x := fun x hx => by rw [a2.1 _ (by omega) (by omega)]; exact h2 i x (by omega) hx
    have m2 : ∀ x, x < 4 → t1.1 (343 + x) = HH x := fun x hx => by rw [a2.1 _ (by omega) (by omega)]; exact h3 x hx
    have key : ∀ s : Sto, (∀ x, x < 4 → sr 8380417 (s.1 (41 + (4 * i + x))) (MM i x)) → (∀ x, x < 4 → sr 8380417 (s.1 (98 + x)) (HH x)) → onl (132 + i) s (F_RG_restore_8 (132 + i) (F_DA_multiplyRow_secret_0 i s)) ∧ (∀ k, k ≠ 370 → k ≠ 369 → (F_MH_rowBy_0 i 369 t1).1 k = t1.1 k) ∧ sr 8380417 ((F_RG_restore_8 (132 + i) (F_DA_multiplyRow_secret_0 i s)).1 (132 + i)) ((F_MH_rowBy_0 i 369 t1).1 369) := fun s u1 u2 => rowsecret0_same (by omega) (by decide) (fun x hx => by rw [m1 x hx]; exact u1 x hx) (fun x hx => by rw [m2 x hx]; exact u2 x hx)
    have d := key (fun k => if k < 98 then MM i (k - (41 + 4 * i)) else HH (k - 98), fun _ _ => 0) (fun x hx => by
      show sr 8380417 (if 41 + (4 * i + x) < 98 then MM i (41 + (4 * i + x) - (41 + 4 * i)) else HH (41 + (4 * i + x) - 98)) (MM i x)
      rw [if_pos (by omega), show 41 + (4 * i + x) - (41 + 4 * i) = x by omega]
      exact sr_of (hMM i x (by omega) hx) fun _ _ => rfl) (fun x hx => by
      show sr 8380417 (if 98 + x < 98 then MM i (98 + x - (41 + 4 * i)) else HH (98 + x - 98)) (HH x)
      rw [if_neg (by omega), Nat.add_sub_cancel_left]
      exact sr_of (hHH x hx) fun _ _ => rfl)
    have d1 := d.2.1
    have d2 := sr_r d.2.2
    generalize F_MH_rowBy_0 i 369 t1 = t2 at key d1 d2 hV hE
    obtain ⟨t3, b1, b2, b3, b4⟩ := k90 (kk := F_MH_keys_0_L1 pp psk m) (ke := E_MH_keys_0_L1 pp psk m) (A := t2.1 369) (S2 := t1.1 (300 + i)) (show i < 4 by omega) d2 a3 256 0 t2 rfl rfl (d1 _ (by omega) (by omega)) (fun k hk => absurd hk (Nat.not_lt_zero _))
    rw [b2] at hE
    have g : frm (fun k => k = 172 ∨ k = 300 + i ∨ k = 309 + i ∨ k = 318 + i ∨ k = 369 ∨ k = 370) t t3 := fun k hk => by rw [b3 k (by omega), d1 k (by omega) (by omega), a2.1 k (by omega) (by omega)]
    have gS : t3.1 (300 + i) = t1.1 (300 + i) := by rw [b3 _ (by omega), d1 _ (by omega) (by omega)]
    obtain ⟨t4, c1, c2, c3⟩ := kq10 (pp := pp) (psk := psk) (SD := SD) hMM hHH m (i + 1) t3 (by omega) (fun x hx => by rw [g 372 (by omega)]; exact h1 x hx) (fun y x hy hx => by rw [g _ (by omega)]; exact h2 y x hy hx) (fun x hx => by rw [g _ (by omega)]; exact h3 x hx) hE (fun r hr => by
      by_cases w : r = i
      · subst w
        refine ⟨by rw [gS]; exact a1, fun k => (vn (t2.1 369) k + vn (t1.1 (300 + r)) k) % 8380417, fun k hk => ⟨Nat.mod_lt _ (by decide), b4 k hk⟩, fun s u1 u2 u3 => ?_⟩
        obtain ⟨o, -, o2⟩ := key s u1 u2
        refine ⟨o, fun k hk => ?_⟩
        rw [gS] at u3
        obtain ⟨p, hp, e1, e2⟩ := o2 k hk
        obtain ⟨q, hq, e3, e4⟩ := u3 k hk
        rw [P_add8n (a := p) (b := q) (by omega) hk hp hq e1 (by rw [o.1 _ (by omega)]; exact e3)]
        show nI ((p + q) % 8380417) = nI ((vn (t2.1 369) k + vn (t1.1 (300 + r)) k) % 8380417)
        rw [vn_n e2 (by omega), vn_n e4 (by omega)]
      · rw [g (300 + r) (by omega), g (309 + r) (by omega), g (318 + r) (by omega)]
        exact h r (by omega))
    exact ⟨t4, (hV.trans b1).trans c1, fun k hk => by rw [c2 k hk, g k (by omega)], c3⟩
theorem kq20 {pp psk : Nat} {SE : Nat → Int32} (hne : pp ≠ psk) (h1 : pp ≠ 372) (h2 : psk ≠ 372) (hN : ∀ x, x < 128 → vp_nar .byte (SE x) = SE x) : ∀ (m i : Nat) (t : Sto), i + m = 32 → (∀ x, x < 128 → t.1 372 x = SE x) → (∀ x, x < i → t.1 pp x = SE x ∧ t.1 psk x = SE x ∧ t.1 psk (32 + x) = SE (96 + x)) →
    ∃ t1, F_MH_keys_0_L2 pp psk m i t = F_MH_keys_0_L3 pp psk 4 0 t1 ∧ frm (fun k => k = pp ∨ k = psk) t t1 ∧ ∀ x, x < 32 → t1.1 pp x = SE x ∧ t1.1 psk x = SE x ∧ t1.1 psk (32 + x) = SE (96 + x)
  | 0, i, t, hi, _, h => by
    obtain rfl : i = 32 := by omega
    exact ⟨t, by rw [F_MH_keys_0_L2], frm_rf, h⟩
  | m + 1, i, t, hi, h3, h => by
    have hV : F_MH_keys_0_L2 pp psk (m + 1) i t = F_MH_keys_0_L2 pp psk m (i + 1) (sB (sB (sB t pp i (SE i)) psk i (SE i)) psk (32 + i) (SE (96 + i))) := by
      rw [F_MH_keys_0_L2]
      repeat rw [bnd_eq]
      simp only [sB_off (Ne.symm h1), sB_off (Ne.symm h2), h3 i (by omega), h3 (96 + i) (by omega)]
    have f1 : ∀ z, z ≠ pp → z ≠ psk → (sB (sB (sB t pp i (SE i)) psk i (SE i)) psk (32 + i) (SE (96 + i))).1 z = t.1 z := fun z g1 g2 => by rw [sB_off g2, sB_off g2, sB_off g1]
    have f2 : (sB (sB (sB t pp i (SE i)) psk i (SE i)) psk (32 + i) (SE (96 + i))).1 pp = upd (t.1 pp) i (SE i) := by rw [sB_off hne, sB_off hne, sB_at, hN i (by omega)]
    have f3 : (sB (sB (sB t pp i (SE i)) psk i (SE i)) psk (32 + i) (SE (96 + i))).1 psk = upd (upd (t.1 psk) i (SE i)) (32 + i) (SE (96 + i)) := by rw [sB_at, sB_at, sB_off (Ne.symm hne), hN i (by omega), hN (96 + i) (by omega)]
    generalize sB (sB (sB t pp i (SE i)) psk i (SE i)) psk (32 + i) (SE (96 + i)) = t0 at hV f1 f2 f3
    obtain ⟨t1, g1, g2, g3⟩ := kq20 hne h1 h2 hN m (i + 1) t0 (by omega) (fun x hx => by rw [f1 372 (Ne.symm h1) (Ne.symm h2)]; exact h3 x hx) (fun x hx => by
      rw [f2, f3]
      by_cases w : x = i
      · subst w
        rw [upd_s, upd_n (by omega), upd_s, upd_s]
        exact ⟨rfl, rfl, rfl⟩
      · rw [upd_n w, upd_n (by omega), upd_n w, upd_n (by omega), upd_n (by omega)]
        exact h x (by omega))
    exact ⟨t1, hV.trans g1, fun k hk => by rw [g2 k hk, f1 k (by omega) (by omega)], g3⟩
theorem kq30 {pp psk : Nat} {SE : Nat → Int32} {W1 : Nat → Nat → Nat} (hpp : ¬ (225 ≤ pp ∧ pp ≤ 378)) (hW : ∀ r k, r < 4 → k < 256 → W1 r k < 1024) : ∀ (m i : Nat) (t : Sto), i + m = 4 → (∀ r k, r < 4 → k < 256 → t.1 (318 + r) k = nI (W1 r k)) → (∀ x, x < 32 → t.1 pp x = SE x) → (∀ r j, r < i → j < 320 → t.1 pp (32 + 320 * r + j) = pkb 10 (W1 r) j) →
    ∃ t1, F_MH_keys_0_L3 pp psk m i t = F_MH_keys_0_L3 pp psk 0 4 t1 ∧ onl pp t t1 ∧ (∀ x, x < 32 → t1.1 pp x = SE x) ∧ ∀ r j, r < 4 → j < 320 → t1.1 pp (32 + 320 * r + j) = pkb 10 (W1 r) j
  | 0, i, t, hi, _, h2, h3 => by
    obtain rfl : i = 4 := by omega
    exact ⟨t, rfl, onl_rf, h2, h3⟩
  | m + 1, i, t, hi, h1, h2, h3 => by
    have hV : F_MH_keys_0_L3 pp psk (m + 1) i t = F_MH_keys_0_L8 pp i (F_MH_keys_0_L3 pp psk m) 256 0 t := by rw [F_MH_keys_0_L3, bnd_eq]
    obtain ⟨t1, a1, a2, a3, a4⟩ := rpk_row (pt := pp) (N := 2592) (b := 10) (at_ := 32 + 320 * i) (G := F_MH_keys_0_L8 pp i (F_MH_keys_0_L3 pp psk m)) (K := F_MH_keys_0_L3 pp psk m (i + 1)) (v := fun k s => s.1 (318 + i) k) (W := W1 i) (s0 := t) (by decide) (by decide) (fun s => by rw [F_MH_keys_0_L8]) (fun n k s hk o => by
      show F_MH_keys_0_L8 pp i (F_MH_keys_0_L3 pp psk m) (n + 1) k s = F_MH_keys_0_L8 pp i (F_MH_keys_0_L3 pp psk m) n (k + 1) (F_M_pack pp 2592 (8 * (32 + 320 * i) + 10 * k) 10 (s.1 (318 + i) k) s)
      rw [F_MH_keys_0_L8, bnd_eq, show 256 + 2560 * i + 10 * k = 8 * (32 + 320 * i) + 10 * k by omega]) (fun k s hk o => by
      show s.1 (318 + i) k = _
      rw [o.1 _ (by omega)]
      exact h1 i k (by omega) hk) (fun k hk => by
      have := hW i k (by omega) hk
      omega)
    obtain ⟨t2, b1, b2, b3, b4⟩ := kq30 (psk := psk) (SE := SE) (W1 := W1) hpp hW m (i + 1) t1 (by omega) (fun r k hr hk => by rw [a2.1 _ (by omega)]; exact h1 r k hr hk) (fun x hx => by rw [a4 x (Or.inl (by omega))]; exact h2 x hx) (fun r j hr hj => by
      by_cases w : r = i
      · subst w
        exact a3 j (by omega)
      · rw [a4 _ (Or.inl (by omega))]
        exact h3 r j (by omega) hj)
    exact ⟨t2, (hV.trans a1).trans b1, onl_tr a2 b2, b3, b4⟩
theorem kq40 {psk : Nat} {LB : Nat → Int32} {WS : Nat → Nat → Nat} (hpp : ¬ (225 ≤ psk ∧ psk ≤ 378)) (hW : ∀ r k, r < 8 → k < 256 → WS r k ≤ 2 * 2) : ∀ (m i az : Nat) (t : Sto), i + m = 8 → az = 1024 + 768 * i → (∀ r k, r < 4 → k < 256 → t.1 (292 + r) k = nI ((8380417 + 2 - WS r k) % 8380417)) → (∀ r k, r < 4 → k < 256 → t.1 (300 + r) k = nI ((8380417 + 2 - WS (4 + r) k) % 8380417)) → (∀ x, x < 128 → t.1 psk x = LB x) → (∀ r j, r < i → j < 96 → t.1 psk (128 + 96 * r + j) = pkb 3 (WS r) j) →
    ∃ t1, F_MH_keys_0_L4 psk m i az t = F_MH_keys_0_L5 psk 4 0 (1024 + 768 * 8) t1 ∧ onl psk t t1 ∧ (∀ x, x < 128 → t1.1 psk x = LB x) ∧ ∀ r j, r < 8 → j < 96 → t1.1 psk (128 + 96 * r + j) = pkb 3 (WS r) j
  | 0, i, az, t, hi, ha, _, _, h3, h4 => by
    obtain rfl : i = 8 := by omega
    subst ha
    exact ⟨t, by rw [F_MH_keys_0_L4, bnd_eq, bnd_eq], onl_rf, h3, h4⟩
  | m + 1, i, az, t, hi, ha, h1, h2, h3, h4 => by
    have hV : F_MH_keys_0_L4 psk (m + 1) i az t = F_MH_keys_0_L7 psk i (F_MH_keys_0_L4 psk m) 256 0 (8 * (128 + 96 * i) + 3 * 0) t := by
      rw [F_MH_keys_0_L4, bnd_eq, bnd_eq, show az = 8 * (128 + 96 * i) + 3 * 0 by omega]
    obtain ⟨t1, a1, a2, a3, a4⟩ := rpk_row (pt := psk) (N := 4896) (b := 3) (at_ := 128 + 96 * i) (G := fun n k s => F_MH_keys_0_L7 psk i (F_MH_keys_0_L4 psk m) n k (8 * (128 + 96 * i) + 3 * k) s) (K := fun s => F_MH_keys_0_L4 psk m (i + 1) (8 * (128 + 96 * i) + 3 * 256) s) (v := fun k s => if 4 ≤ i then (if s.1 (300 + (i - 4)) k ≤ nI 2 then nI 2 - s.1 (300 + (i - 4)) k else nI 2 - s.1 (300 + (i - 4)) k + nI 8380417) else (if s.1 (292 + i) k ≤ nI 2 then nI 2 - s.1 (292 + i) k else nI 2 - s.1 (292 + i) k + nI 8380417)) (W := WS i) (s0 := t) (by decide) (by decide) (fun s => by
      show F_MH_keys_0_L7 psk i (F_MH_keys_0_L4 psk m) 0 256 (8 * (128 + 96 * i) + 3 * 256) s = _
      rw [F_MH_keys_0_L7]) (fun n k s hk o => by
      show F_MH_keys_0_L7 psk i (F_MH_keys_0_L4 psk m) (n + 1) k (8 * (128 + 96 * i) + 3 * k) s = F_MH_keys_0_L7 psk i (F_MH_keys_0_L4 psk m) n (k + 1) (8 * (128 + 96 * i) + 3 * (k + 1)) _
      rw [show 8 * (128 + 96 * i) + 3 * (k + 1) = 8 * (128 + 96 * i) + 3 * k + 3 by omega]
      generalize 8 * (128 + 96 * i) + 3 * k = z
      rw [F_MH_keys_0_L7]
      repeat rw [bnd_eq]
      by_cases q : 4 ≤ i
      · by_cases p : s.1 (300 + (i - 4)) k ≤ nI 2
        · simp only [if_pos q, if_pos p]
        · simp only [if_pos q, if_neg p]
      · by_cases p : s.1 (292 + i) k ≤ nI 2
        · simp only [if_neg q, if_pos p]
        · simp only [if_neg q, if_neg p]) (fun k s hk o => by
      have hw := hW i k (by omega) hk
      by_cases q : 4 ≤ i
      · simp only [if_pos q]
        have e := h2 (i - 4) k (by omega) hk
        rw [show 4 + (i - 4) = i by omega] at e
        rw [o.1 _ (by omega), e]
        rcases rf_small (e := 2) (by decide) hw with ⟨p1, p2⟩ | ⟨p1, p2⟩
        · rw [if_pos p1]
          exact p2
        · rw [if_neg p1]
          exact p2
      · simp only [if_neg q]
        have e := h1 i k (by omega) hk
        rw [o.1 _ (by omega), e]
        rcases rf_small (e := 2) (by decide) hw with ⟨p1, p2⟩ | ⟨p1, p2⟩
        · rw [if_pos p1]
          exact p2
        · rw [if_neg p1]
          exact p2) (fun k hk => by
      have := hW i k (by omega) hk
      omega)
    have a1' : F_MH_keys_0_L7 psk i (F_MH_keys_0_L4 psk m) 256 0 (8 * (128 + 96 * i) + 3 * 0) t = F_MH_keys_0_L4 psk m (i + 1) (8 * (128 + 96 * i) + 3 * 256) t1 := a1
    obtain ⟨t2, b1, b2, b3, b4⟩ := kq40 (psk := psk) (LB := LB) (WS := WS) hpp hW m (i + 1) (8 * (128 + 96 * i) + 3 * 256) t1 (by omega) (by omega) (fun r k hr hk => by rw [a2.1 _ (by omega)]; exact h1 r k hr hk) (fun r k hr hk => by rw [a2.1 _ (by omega)]; exact h2 r k hr hk) (fun x hx => by rw [a4 x (Or.inl (by omega))]; exact h3 x hx) (fun r j hr hj => by
      by_cases w : r = i
      · subst w
        exact a3 j (by omega)
      · rw [a4 _ (Or.inl (by omega))]
        exact h4 r j (by omega) hj)
    exact ⟨t2, (hV.trans a1').trans b1, onl_tr a2 b2, b3, b4⟩
set_option maxRecDepth 100000 in
theorem kq50 {psk : Nat} {LB : Nat → Int32} {W0 : Nat → Nat → Nat} (hpp : ¬ (225 ≤ psk ∧ psk ≤ 378)) (hW : ∀ r k, r < 4 → k < 256 → W0 r k < 8192) : ∀ (m i az : Nat) (t : Sto), i + m = 4 → az = 8 * 896 + 3328 * i → (∀ r k, r < 4 → k < 256 → nI 4096 - t.1 (309 + r) k = nI (W0 r k)) → (∀ x, x < 896 → t.1 psk x = LB x) → (∀ r j, r < i → j < 416 → t.1 psk (896 + 416 * r + j) = pkb 13 (W0 r) j) →
    ∃ t1, F_MH_keys_0_L5 psk m i az t = t1 ∧ onl psk t t1 ∧ (∀ x, x < 896 → t1.1 psk x = LB x) ∧ ∀ r j, r < 4 → j < 416 → t1.1 psk (896 + 416 * r + j) = pkb 13 (W0 r) j
  | 0, i, az, t, hi, _, _, h3, h4 => by
    obtain rfl : i = 4 := by omega
    exact ⟨t, by rw [F_MH_keys_0_L5, bnd_eq], onl_rf, h3, h4⟩
  | m + 1, i, az, t, hi, ha, h1, h3, h4 => by
    have hV : F_MH_keys_0_L5 psk (m + 1) i az t = F_MH_keys_0_L6 psk i (F_MH_keys_0_L5 psk m) 256 0 (8 * (896 + 416 * i) + 13 * 0) t := by
      rw [F_MH_keys_0_L5, bnd_eq, show az = 8 * (896 + 416 * i) + 13 * 0 by omega]
    obtain ⟨t1, a1, a2, a3, a4⟩ := rpk_row (pt := psk) (N := 4896) (b := 13) (at_ := 896 + 416 * i) (G := fun n k s => F_MH_keys_0_L6 psk i (F_MH_keys_0_L5 psk m) n k (8 * (896 + 416 * i) + 13 * k) s) (K := fun s => F_MH_keys_0_L5 psk m (i + 1) (8 * (896 + 416 * i) + 13 * 256) s) (v := fun k s => nI 4096 - s.1 (309 + i) k) (W := W0 i) (s0 := t) (by decide) (by decide) (fun s => by
      show F_MH_keys_0_L6 psk i (F_MH_keys_0_L5 psk m) 0 256 (8 * (896 + 416 * i) + 13 * 256) s = _
      rw [F_MH_keys_0_L6]) (fun n k s hk o => by
      show F_MH_keys_0_L6 psk i (F_MH_keys_0_L5 psk m) (n + 1) k (8 * (896 + 416 * i) + 13 * k) s = F_MH_keys_0_L6 psk i (F_MH_keys_0_L5 psk m) n (k + 1) (8 * (896 + 416 * i) + 13 * (k + 1)) _
      rw [show 8 * (896 + 416 * i) + 13 * (k + 1) = 8 * (896 + 416 * i) + 13 * k + 13 by omega]
      generalize 8 * (896 + 416 * i) + 13 * k = z
      rw [F_MH_keys_0_L6, bnd_eq]) (fun k s hk o => by
      show nI 4096 - s.1 (309 + i) k = _
      rw [o.1 _ (by omega)]
      exact h1 i k (by omega) hk) (fun k hk => by
      have := hW i k (by omega) hk
      omega)
    have a1' : F_MH_keys_0_L6 psk i (F_MH_keys_0_L5 psk m) 256 0 (8 * (896 + 416 * i) + 13 * 0) t = F_MH_keys_0_L5 psk m (i + 1) (8 * (896 + 416 * i) + 13 * 256) t1 := a1
    obtain ⟨t2, b1, b2, b3, b4⟩ := kq50 (psk := psk) (LB := LB) (W0 := W0) hpp hW m (i + 1) (8 * (896 + 416 * i) + 13 * 256) t1 (by omega) (by omega) (fun r k hr hk => by rw [a2.1 _ (by omega)]; exact h1 r k hr hk) (fun x hx => by rw [a4 x (Or.inl (by omega))]; exact h3 x hx) (fun r j hr hj => by
      by_cases w : r = i
      · subst w
        exact a3 j (by omega)
      · rw [a4 _ (Or.inl (by omega))]
        exact h4 r j (by omega) hj)
    exact ⟨t2, (hV.trans a1').trans b1, onl_tr a2 b2, b3, b4⟩
