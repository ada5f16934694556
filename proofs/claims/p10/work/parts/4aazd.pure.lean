set_option linter.all false
/-! ML-KEM's encryption: both sides, step by step -/
theorem fo {M : Nat → Prop} {s s1 : Sto} {pf : Nat} (h : onl pf s s1) (hM : M pf) : frm M s s1 := fun k hk => h.1 k (fun q => hk (by rw [q]; exact hM))
theorem fs2 {M : Nat → Prop} {s s1 : Sto} {pv qv pb : Nat} (h : same2 pv qv pb s s1) (h1 : M pv) (h2 : M pb) : frm M s s1 := fun k hk => h.1 k (fun q => hk (by rw [q]; exact h1)) (fun q => hk (by rw [q]; exact h2))
theorem fo2 {M : Nat → Prop} {s s1 : Sto} {a b : Nat} (h : onl2 a b s s1) (h1 : M a) (h2 : M b) : frm M s s1 := fun k hk => h.1 k (fun q => hk (by rw [q]; exact h1)) (fun q => hk (by rw [q]; exact h2))
theorem fd2 {M : Nat → Prop} {s s1 : Sto} {a b : Nat} (h : ∀ k, k ≠ a → k ≠ b → s1.1 k = s.1 k) (h1 : M a) (h2 : M b) : frm M s s1 := fun k hk => h k (fun q => hk (by rw [q]; exact h1)) (fun q => hk (by rw [q]; exact h2))
theorem fd3 {M : Nat → Prop} {s s1 : Sto} {a b c : Nat} (h : ∀ k, k ≠ a → k ≠ b → k ≠ c → s1.1 k = s.1 k) (h1 : M a) (h2 : M b) (h3 : M c) : frm M s s1 := fun k hk => h k (fun q => hk (by rw [q]; exact h1)) (fun q => hk (by rw [q]; exact h2)) (fun q => hk (by rw [q]; exact h3))
theorem ftr {M : Nat → Prop} {s s1 s2 : Sto} (h : frm M s s1) (h1 : frm M s1 s2) : frm M s s2 := fun k hk => (h1 k hk).trans (h k hk)
theorem sr_w {q : Nat} {a a' b b' : Nat → Int32} (h : sr q a b) (e1 : a' = a) (e2 : b' = b) : sr q a' b' := by
  rw [e1, e2]
  exact h
/-- the names that the program's encryption may change, and the reference's -/
def MC (pt k : Nat) : Prop := k = 14 ∨ (26 ≤ k ∧ k ≤ 31) ∨ k = 35 ∨ k = pt
def MR (pt k : Nat) : Prop := k = 172 ∨ (186 ≤ k ∧ k ≤ 219) ∨ k = 221 ∨ k = pt
def MX (k : Nat) : Prop := k = 172 ∨ (186 ≤ k ∧ k ≤ 201)
/-- a row of the reference is the matrix's entry, the public part's row, the noise: as the program would make it of the same bytes, whenever it does -/
def isM (pp n0 at0 : Nat) (B : Nat → Int32) (v1 v2 : Nat) (r : Nat → Int32) : Prop := ∀ s : Sto, (∀ j, j < 32 → s.1 pp (at0 + j) = B j) → sr 3329 ((F_KM_sampleEntry pp n0 at0 (nI v1) (nI v2) s).1 31) r
def isO (pp n0 : Nat) (B : Nat → Int32) (i : Nat) (r : Nat → Int32) : Prop := ∀ s : Sto, (∀ j, j < 384 → s.1 pp (384 * i + j) = B (384 * i + j)) → sr 3329 ((F_KM_readReduced pp n0 (384 * i) s).1 31) r
def isN (B : Nat → Int32) (wh : Nat) (r : Nat → Int32) : Prop := ∀ s : Sto, (∀ j, j < 32 → s.1 34 (32 + j) = B j) → sr 3329 ((F_KM_sampleNoise_2 31 (nI wh) s).1 31) r
/-- what the program's steps change -/
theorem P_entryM {pb n at_ : Nat} {v1 v2 : Int32} {s : Sto} (h1 : pb ≠ 14) : same2 14 15 31 s (F_KM_sampleEntry pb n at_ v1 v2 s) := by
  have h0 : 0 < 168 := by decide
  have hr : 168 < 200 := by decide
  have hU : F_KM_sampleEntry pb n at_ v1 v2 s = F_KM_sampleEntry_L0 1000000 0 0 (F_SP_finish 14 15 (F_SP_absorbByte 14 15 v2 (F_SP_absorbByte 14 15 v1 (F_SP_absorb 14 15 pb n at_ 32 (F_SP_start_2 14 15 s))))) := by
    unfold F_KM_sampleEntry
    repeat rw [bnd_eq]
  have hs2 : F_SP_start_2 14 15 s = sI (sI (sI (F_AR_fillJ 15 25 0 s) 14 1 (nI 168)) 14 2 (nI 31)) 14 3 (nI 0) := by
    unfold F_SP_start_2
    repeat rw [bnd_eq]
  obtain ⟨a1, a2⟩ := P_start (pv := 14) (qv := 15) (rt := 168) (sf := nI 31) (s := s)
  rw [← hs2] at a1 a2
  obtain ⟨b1, b2⟩ := P_absorb (nb := n) (at_ := at_) (len := 32) a1 hr h0 h1
  obtain ⟨c1, c2⟩ := P_absorbByte (v := v1) b1 hr (abN_lt h0 32)
  obtain ⟨d1, d2⟩ := P_absorbByte (v := v2) c1 hr (abF_lt (abN_lt h0 32))
  obtain ⟨f1, f2⟩ := P_finish d1 h0 hr (abF_lt (abF_lt (abN_lt h0 32)))
  obtain ⟨-, g2⟩ := P_draw h0 hr 1000000 0 0 _ _ f1 (Nat.le_refl _)
  have m1 := (((a2.tr b2).tr c2).tr d2).tr f2
  rw [hU]
  exact same2.tr ⟨fun k u _ => m1.1 k u, m1.2⟩ g2
theorem exI2 {pb n at_ pp n0 at0 i : Nat} {B : Nat → Int32} {kk : Nat → Sto → Sto} {ke : Nat → Sto → Prop} (hpb : ¬ MX pb) (hpp : pp ≠ 14) (hi : i < 2) : ∀ (m j : Nat) (t : Sto), j + m = 2 → (∀ x, x < 32 → t.1 pb (at_ + x) = B x) → E_ME_expand_2_L1 pb n at_ i ke m j t → ∃ t1, F_ME_expand_2_L1 pb n at_ i kk m j t = kk (i + 1) t1 ∧ ke (i + 1) t1 ∧ frm MX t t1 ∧ (∀ x, j ≤ x → x < 2 → isM pp n0 at0 B x i (t1.1 (186 + (4 * i + x)))) ∧ ∀ y, 186 ≤ y → y < 186 + (4 * i + j) → t1.1 y = t.1 y
  | 0, j, t, _, _, hE => by
    refine ⟨t, by rw [F_ME_expand_2_L1], ?_, frm_rf, fun x h1 h2 => by omega, fun _ _ _ => rfl⟩
    rw [E_ME_expand_2_L1] at hE
    exact hE
  | m + 1, j, t, hj, hB, hE => by
    unfold MX at hpb
    rw [E_ME_expand_2_L1] at hE
    rw [bnd_eq, bnd_eq, bnd_eq, bnd_eq, bnd_eq, bnd_eq] at hE
    have hU : F_ME_expand_2_L1 pb n at_ i kk (m + 1) j t = F_ME_expand_2_L1 pb n at_ i kk m (j + 1) (F_ME_draw (186 + (4 * i + j)) (F_MS_end (F_MS_put (nI i) (F_MS_put (nI j) (F_MS_puts pb n at_ 32 (F_MS_begin 168 (nI 31) t)))))) := by
      rw [F_ME_expand_2_L1]
      repeat rw [bnd_eq]
    generalize hT : F_MS_end (F_MS_put (nI i) (F_MS_put (nI j) (F_MS_puts pb n at_ 32 (F_MS_begin 168 (nI 31) t)))) = T at hE hU
    obtain ⟨hE1, hE2⟩ := hE
    have hM : isM pp n0 at0 B j i ((F_ME_draw (186 + (4 * i + j)) T).1 (186 + (4 * i + j))) := fun s hs => (entry_same (nb1 := n0) hT.symm hpp (by omega) (by omega) (fun x hx => (hs x hx).trans (hB x hx).symm) hE1).2.2
    have hS := (entry_same (s := (fun _ x => t.1 pb (at_ + x), fun _ _ => 0)) (pb1 := 0) (nb1 := n0) (at1 := 0) hT.symm (by decide) (by omega) (by omega) (fun x _ => by
      show t.1 pb (at_ + (0 + x)) = _
      rw [Nat.zero_add]) hE1).2.1
    generalize F_ME_draw (186 + (4 * i + j)) T = t0 at hU hE2 hM hS
    have hF : frm MX t t0 := fs2 hS (by unfold MX; omega) (by unfold MX; omega)
    obtain ⟨t1, e, c, f, g, u⟩ := exI2 (pp := pp) (n0 := n0) (at0 := at0) (B := B) (kk := kk) (ke := ke) (by unfold MX; exact hpb) hpp hi m (j + 1) t0 (by omega) (fun x hx => by rw [hF pb (by unfold MX; exact hpb)]; exact hB x hx) hE2
    refine ⟨t1, hU.trans e, c, ftr hF f, fun x h1 h2 => ?_, fun y h1 h2 => ?_⟩
    · by_cases w : x = j
      · subst w
        rw [u _ (by omega) (by omega)]
        exact hM
      · exact g x (by omega) h2
    · rw [u y h1 (by omega), hS.1 y (by omega) (by omega)]
theorem exO2 {pb n at_ pp n0 at0 : Nat} {B : Nat → Int32} (hpb : ¬ MX pb) (hpp : pp ≠ 14) : ∀ (m i : Nat) (t : Sto), i + m = 2 → (∀ x, x < 32 → t.1 pb (at_ + x) = B x) → E_ME_expand_2_L0 pb n at_ m i t → frm MX t (F_ME_expand_2_L0 pb n at_ m i t) ∧ (∀ i' x, i ≤ i' → i' < 2 → x < 2 → isM pp n0 at0 B x i' ((F_ME_expand_2_L0 pb n at_ m i t).1 (186 + (4 * i' + x)))) ∧ ∀ y, 186 ≤ y → y < 186 + 4 * i → (F_ME_expand_2_L0 pb n at_ m i t).1 y = t.1 y
  | 0, i, t, _, _, _ => ⟨frm_rf, fun i' x h1 h2 => by omega, fun _ _ _ => rfl⟩
  | m + 1, i, t, hi, hB, hE => by
    rw [E_ME_expand_2_L0] at hE
    obtain ⟨t1, e, c, f, g, u⟩ := exI2 (pp := pp) (n0 := n0) (at0 := at0) (B := B) (kk := F_ME_expand_2_L0 pb n at_ m) (ke := E_ME_expand_2_L0 pb n at_ m) hpb hpp (show i < 2 by omega) 2 0 t (by omega) hB hE
    have hU : F_ME_expand_2_L0 pb n at_ (m + 1) i t = F_ME_expand_2_L0 pb n at_ m (i + 1) t1 := by
      rw [F_ME_expand_2_L0]
      exact e
    obtain ⟨q1, q2, q3⟩ := exO2 (pp := pp) (n0 := n0) (at0 := at0) (B := B) hpb hpp m (i + 1) t1 (by omega) (fun x hx => by rw [f pb hpb]; exact hB x hx) c
    rw [hU]
    refine ⟨ftr f q1, fun i' x h1 h2 h3 => ?_, fun y h1 h2 => ?_⟩
    · by_cases w : i' = i
      · subst w
        rw [q3 _ (by omega) (by omega)]
        exact g x (Nat.zero_le _) h3
      · exact q2 i' x (by omega) h2 h3
    · rw [q3 y h1 (by omega), u y h1 (by omega)]
/-- the whole matrix of the reference -/
theorem ex2 {pb n at_ pp n0 at0 : Nat} {B : Nat → Int32} {t : Sto} (hpb : ¬ MX pb) (hpp : pp ≠ 14) (hB : ∀ x, x < 32 → t.1 pb (at_ + x) = B x) (hE : E_ME_expand_2 pb n at_ t) : frm MX t (F_ME_expand_2 pb n at_ t) ∧ ∀ i' x, i' < 2 → x < 2 → isM pp n0 at0 B x i' ((F_ME_expand_2 pb n at_ t).1 (186 + (4 * i' + x))) := by
  rw [E_ME_expand_2] at hE
  obtain ⟨q1, q2, -⟩ := exO2 (pp := pp) (n0 := n0) (at0 := at0) (B := B) hpb hpp 2 0 t (by decide) hB hE
  rw [F_ME_expand_2]
  exact ⟨q1, fun i' x h1 h2 => q2 i' x (Nat.zero_le _) h1 h2⟩
theorem exI3 {pb n at_ pp n0 at0 i : Nat} {B : Nat → Int32} {kk : Nat → Sto → Sto} {ke : Nat → Sto → Prop} (hpb : ¬ MX pb) (hpp : pp ≠ 14) (hi : i < 3) : ∀ (m j : Nat) (t : Sto), j + m = 3 → (∀ x, x < 32 → t.1 pb (at_ + x) = B x) → E_ME_expand_3_L1 pb n at_ i ke m j t → ∃ t1, F_ME_expand_3_L1 pb n at_ i kk m j t = kk (i + 1) t1 ∧ ke (i + 1) t1 ∧ frm MX t t1 ∧ (∀ x, j ≤ x → x < 3 → isM pp n0 at0 B x i (t1.1 (186 + (4 * i + x)))) ∧ ∀ y, 186 ≤ y → y < 186 + (4 * i + j) → t1.1 y = t.1 y
  | 0, j, t, _, _, hE => by
    refine ⟨t, by rw [F_ME_expand_3_L1], ?_, frm_rf, fun x h1 h2 => by omega, fun _ _ _ => rfl⟩
    rw [E_ME_expand_3_L1] at hE
    exact hE
  | m + 1, j, t, hj, hB, hE => by
    unfold MX at hpb
    rw [E_ME_expand_3_L1] at hE
    rw [bnd_eq, bnd_eq, bnd_eq, bnd_eq, bnd_eq, bnd_eq] at hE
    have hU : F_ME_expand_3_L1 pb n at_ i kk (m + 1) j t = F_ME_expand_3_L1 pb n at_ i kk m (j + 1) (F_ME_draw (186 + (4 * i + j)) (F_MS_end (F_MS_put (nI i) (F_MS_put (nI j) (F_MS_puts pb n at_ 32 (F_MS_begin 168 (nI 31) t)))))) := by
      rw [F_ME_expand_3_L1]
      repeat rw [bnd_eq]
    generalize hT : F_MS_end (F_MS_put (nI i) (F_MS_put (nI j) (F_MS_puts pb n at_ 32 (F_MS_begin 168 (nI 31) t)))) = T at hE hU
    obtain ⟨hE1, hE2⟩ := hE
    have hM : isM pp n0 at0 B j i ((F_ME_draw (186 + (4 * i + j)) T).1 (186 + (4 * i + j))) := fun s hs => (entry_same (nb1 := n0) hT.symm hpp (by omega) (by omega) (fun x hx => (hs x hx).trans (hB x hx).symm) hE1).2.2
    have hS := (entry_same (s := (fun _ x => t.1 pb (at_ + x), fun _ _ => 0)) (pb1 := 0) (nb1 := n0) (at1 := 0) hT.symm (by decide) (by omega) (by omega) (fun x _ => by
      show t.1 pb (at_ + (0 + x)) = _
      rw [Nat.zero_add]) hE1).2.1
    generalize F_ME_draw (186 + (4 * i + j)) T = t0 at hU hE2 hM hS
    have hF : frm MX t t0 := fs2 hS (by unfold MX; omega) (by unfold MX; omega)
    obtain ⟨t1, e, c, f, g, u⟩ := exI3 (pp := pp) (n0 := n0) (at0 := at0) (B := B) (kk := kk) (ke := ke) (by unfold MX; exact hpb) hpp hi m (j + 1) t0 (by omega) (fun x hx => by rw [hF pb (by unfold MX; exact hpb)]; exact hB x hx) hE2
    refine ⟨t1, hU.trans e, c, ftr hF f, fun x h1 h2 => ?_, fun y h1 h2 => ?_⟩
    · by_cases w : x = j
      · subst w
        rw [u _ (by omega) (by omega)]
        exact hM
      · exact g x (by omega) h2
    · rw [u y h1 (by omega), hS.1 y (by omega) (by omega)]
theorem exO3 {pb n at_ pp n0 at0 : Nat} {B : Nat → Int32} (hpb : ¬ MX pb) (hpp : pp ≠ 14) : ∀ (m i : Nat) (t : Sto), i + m = 3 → (∀ x, x < 32 → t.1 pb (at_ + x) = B x) → E_ME_expand_3_L0 pb n at_ m i t → frm MX t (F_ME_expand_3_L0 pb n at_ m i t) ∧ (∀ i' x, i ≤ i' → i' < 3 → x < 3 → isM pp n0 at0 B x i' ((F_ME_expand_3_L0 pb n at_ m i t).1 (186 + (4 * i' + x)))) ∧ ∀ y, 186 ≤ y → y < 186 + 4 * i → (F_ME_expand_3_L0 pb n at_ m i t).1 y = t.1 y
  | 0, i, t, _, _, _ => ⟨frm_rf, fun i' x h1 h2 => by omega, fun _ _ _ => rfl⟩
  | m + 1, i, t, hi, hB, hE => by
    rw [E_ME_expand_3_L0] at hE
    obtain ⟨t1, e, c, f, g, u⟩ := exI3 (pp := pp) (n0 := n0) (at0 := at0) (B := B) (kk := F_ME_expand_3_L0 pb n at_ m) (ke := E_ME_expand_3_L0 pb n at_ m) hpb hpp (show i < 3 by omega) 3 0 t (by omega) hB hE
    have hU : F_ME_expand_3_L0 pb n at_ (m + 1) i t = F_ME_expand_3_L0 pb n at_ m (i + 1) t1 := by
      rw [F_ME_expand_3_L0]
      exact e
    obtain ⟨q1, q2, q3⟩ := exO3 (pp := pp) (n0 := n0) (at0 := at0) (B := B) hpb hpp m (i + 1) t1 (by omega) (fun x hx => by rw [f pb hpb]; exact hB x hx) c
    rw [hU]
    refine ⟨ftr f q1, fun i' x h1 h2 h3 => ?_, fun y h1 h2 => ?_⟩
    · by_cases w : i' = i
      · subst w
        rw [q3 _ (by omega) (by omega)]
        exact g x (Nat.zero_le _) h3
      · exact q2 i' x (by omega) h2 h3
    · rw [q3 y h1 (by omega), u y h1 (by omega)]
/-- the whole matrix of the reference -/
theorem ex3 {pb n at_ pp n0 at0 : Nat} {B : Nat → Int32} {t : Sto} (hpb : ¬ MX pb) (hpp : pp ≠ 14) (hB : ∀ x, x < 32 → t.1 pb (at_ + x) = B x) (hE : E_ME_expand_3 pb n at_ t) : frm MX t (F_ME_expand_3 pb n at_ t) ∧ ∀ i' x, i' < 3 → x < 3 → isM pp n0 at0 B x i' ((F_ME_expand_3 pb n at_ t).1 (186 + (4 * i' + x))) := by
  rw [E_ME_expand_3] at hE
  obtain ⟨q1, q2, -⟩ := exO3 (pp := pp) (n0 := n0) (at0 := at0) (B := B) hpb hpp 3 0 t (by decide) hB hE
  rw [F_ME_expand_3]
  exact ⟨q1, fun i' x h1 h2 => q2 i' x (Nat.zero_le _) h1 h2⟩
theorem exI4 {pb n at_ pp n0 at0 i : Nat} {B : Nat → Int32} {kk : Nat → Sto → Sto} {ke : Nat → Sto → Prop} (hpb : ¬ MX pb) (hpp : pp ≠ 14) (hi : i < 4) : ∀ (m j : Nat) (t : Sto), j + m = 4 → (∀ x, x < 32 → t.1 pb (at_ + x) = B x) → E_ME_expand_4_L1 pb n at_ i ke m j t → ∃ t1, F_ME_expand_4_L1 pb n at_ i kk m j t = kk (i + 1) t1 ∧ ke (i + 1) t1 ∧ frm MX t t1 ∧ (∀ x, j ≤ x → x < 4 → isM pp n0 at0 B x i (t1.1 (186 + (4 * i + x)))) ∧ ∀ y, 186 ≤ y → y < 186 + (4 * i + j) → t1.1 y = t.1 y
  | 0, j, t, _, _, hE => by
    refine ⟨t, by rw [F_ME_expand_4_L1], ?_, frm_rf, fun x h1 h2 => by omega, fun _ _ _ => rfl⟩
    rw [E_ME_expand_4_L1] at hE
    exact hE
  | m + 1, j, t, hj, hB, hE => by
    unfold MX at hpb
    rw [E_ME_expand_4_L1] at hE
    rw [bnd_eq, bnd_eq, bnd_eq, bnd_eq, bnd_eq, bnd_eq] at hE
    have hU : F_ME_expand_4_L1 pb n at_ i kk (m + 1) j t = F_ME_expand_4_L1 pb n at_ i kk m (j + 1) (F_ME_draw (186 + (4 * i + j)) (F_MS_end (F_MS_put (nI i) (F_MS_put (nI j) (F_MS_puts pb n at_ 32 (F_MS_begin 168 (nI 31) t)))))) := by
      rw [F_ME_expand_4_L1]
      repeat rw [bnd_eq]
    generalize hT : F_MS_end (F_MS_put (nI i) (F_MS_put (nI j) (F_MS_puts pb n at_ 32 (F_MS_begin 168 (nI 31) t)))) = T at hE hU
    obtain ⟨hE1, hE2⟩ := hE
    have hM : isM pp n0 at0 B j i ((F_ME_draw (186 + (4 * i + j)) T).1 (186 + (4 * i + j))) := fun s hs => (entry_same (nb1 := n0) hT.symm hpp (by omega) (by omega) (fun x hx => (hs x hx).trans (hB x hx).symm) hE1).2.2
    have hS := (entry_same (s := (fun _ x => t.1 pb (at_ + x), fun _ _ => 0)) (pb1 := 0) (nb1 := n0) (at1 := 0) hT.symm (by decide) (by omega) (by omega) (fun x _ => by
      show t.1 pb (at_ + (0 + x)) = _
      rw [Nat.zero_add]) hE1).2.1
    generalize F_ME_draw (186 + (4 * i + j)) T = t0 at hU hE2 hM hS
    have hF : frm MX t t0 := fs2 hS (by unfold MX; omega) (by unfold MX; omega)
    obtain ⟨t1, e, c, f, g, u⟩ := exI4 (pp := pp) (n0 := n0) (at0 := at0) (B := B) (kk := kk) (ke := ke) (by unfold MX; exact hpb) hpp hi m (j + 1) t0 (by omega) (fun x hx => by rw [hF pb (by unfold MX; exact hpb)]; exact hB x hx) hE2
    refine ⟨t1, hU.trans e, c, ftr hF f, fun x h1 h2 => ?_, fun y h1 h2 => ?_⟩
    · by_cases w : x = j
      · subst w
        rw [u _ (by omega) (by omega)]
        exact hM
      · exact g x (by omega) h2
    · rw [u y h1 (by omega), hS.1 y (by omega) (by omega)]
theorem exO4 {pb n at_ pp n0 at0 : Nat} {B : Nat → Int32} (hpb : ¬ MX pb) (hpp : pp ≠ 14) : ∀ (m i : Nat) (t : Sto), i + m = 4 → (∀ x, x < 32 → t.1 pb (at_ + x) = B x) → E_ME_expand_4_L0 pb n at_ m i t → frm MX t (F_ME_expand_4_L0 pb n at_ m i t) ∧ (∀ i' x, i ≤ i' → i' < 4 → x < 4 → isM pp n0 at0 B x i' ((F_ME_expand_4_L0 pb n at_ m i t).1 (186 + (4 * i' + x)))) ∧ ∀ y, 186 ≤ y → y < 186 + 4 * i → (F_ME_expand_4_L0 pb n at_ m i t).1 y = t.1 y
  | 0, i, t, _, _, _ => ⟨frm_rf, fun i' x h1 h2 => by omega, fun _ _ _ => rfl⟩
  | m + 1, i, t, hi, hB, hE => by
    rw [E_ME_expand_4_L0] at hE
    obtain ⟨t1, e, c, f, g, u⟩ := exI4 (pp := pp) (n0 := n0) (at0 := at0) (B := B) (kk := F_ME_expand_4_L0 pb n at_ m) (ke := E_ME_expand_4_L0 pb n at_ m) hpb hpp (show i < 4 by omega) 4 0 t (by omega) hB hE
    have hU : F_ME_expand_4_L0 pb n at_ (m + 1) i t = F_ME_expand_4_L0 pb n at_ m (i + 1) t1 := by
      rw [F_ME_expand_4_L0]
      exact e
    obtain ⟨q1, q2, q3⟩ := exO4 (pp := pp) (n0 := n0) (at0 := at0) (B := B) hpb hpp m (i + 1) t1 (by omega) (fun x hx => by rw [f pb hpb]; exact hB x hx) c
    rw [hU]
    refine ⟨ftr f q1, fun i' x h1 h2 h3 => ?_, fun y h1 h2 => ?_⟩
    · by_cases w : i' = i
      · subst w
        rw [q3 _ (by omega) (by omega)]
        exact g x (Nat.zero_le _) h3
      · exact q2 i' x (by omega) h2 h3
    · rw [q3 y h1 (by omega), u y h1 (by omega)]
/-- the whole matrix of the reference -/
theorem ex4 {pb n at_ pp n0 at0 : Nat} {B : Nat → Int32} {t : Sto} (hpb : ¬ MX pb) (hpp : pp ≠ 14) (hB : ∀ x, x < 32 → t.1 pb (at_ + x) = B x) (hE : E_ME_expand_4 pb n at_ t) : frm MX t (F_ME_expand_4 pb n at_ t) ∧ ∀ i' x, i' < 4 → x < 4 → isM pp n0 at0 B x i' ((F_ME_expand_4 pb n at_ t).1 (186 + (4 * i' + x))) := by
  rw [E_ME_expand_4] at hE
  obtain ⟨q1, q2, -⟩ := exO4 (pp := pp) (n0 := n0) (at0 := at0) (B := B) hpb hpp 4 0 t (by decide) hB hE
  rw [F_ME_expand_4]
  exact ⟨q1, fun i' x h1 h2 => q2 i' x (Nat.zero_le _) h1 h2⟩
theorem forth_sr {pf pg : Nat} {s t : Sto} (hne : pg ≠ 219) (h : sr 3329 (s.1 pf) (t.1 pg)) : onl pf s (F_RG_transform_7 pf s) ∧ onl2 pg 219 t (F_ME_forth pg t) ∧ sr 3329 ((F_RG_transform_7 pf s).1 pf) ((F_ME_forth pg t).1 pg) :=
  ⟨(P_transform7 (sr_l h)).1, (Q_forth hne (sr_r h)).1, sr_of (P_transform7 (sr_l h)).2.1 fun k hk => forth_same hne (sr_l h) (sr_e h) hk⟩
theorem back_sr {pf pg : Nat} {s t : Sto} (hne : pg ≠ 219) (h : sr 3329 (s.1 pf) (t.1 pg)) : onl pf s (F_RG_restore_7 pf s) ∧ onl2 pg 219 t (F_ME_back pg t) ∧ sr 3329 ((F_RG_restore_7 pf s).1 pf) ((F_ME_back pg t).1 pg) :=
  ⟨(P_restore7 (sr_l h)).1, (Q_back hne (sr_r h)).1, sr_of (P_restore7 (sr_l h)).2.1 fun k hk => back_same hne (sr_l h) (sr_e h) hk⟩
theorem product_sr {ps pf pg qs qf qg : Nat} {s t : Sto} (h1 : pf ≠ ps) (h2 : pg ≠ ps) (h3 : qf ≠ qs) (h4 : qg ≠ qs) (hS : sr 3329 (s.1 ps) (t.1 qs)) (hF : sr 3329 (s.1 pf) (t.1 qf)) (hG : sr 3329 (s.1 pg) (t.1 qg)) : onl ps s (F_RG_addProduct_7 ps pf pg s) ∧ onl qs t (F_ME_product qf qg qs t) ∧ sr 3329 ((F_RG_addProduct_7 ps pf pg s).1 ps) ((F_ME_product qf qg qs t).1 qs) := by
  obtain ⟨a, b, c, d⟩ := product_same h1 h2 h3 h4 (sr_l hS) (sr_l hF) (sr_l hG) (sr_e hS) (sr_e hF) (sr_e hG)
  exact ⟨a, b, sr_of c d⟩
/-- a store that holds given bytes in every name -/
def trk (B : Nat → Int32) : Sto := (fun _ x => B (x - 32), fun _ _ => 0)
theorem trk_at {B : Nat → Int32} {k j : Nat} : (trk B).1 k (32 + j) = B j := congrArg B (Nat.add_sub_cancel_left 32 j)
theorem Q_noiseM2 {qf n : Nat} {wh : Int32} {t : Sto} (h3 : qf ≠ 172) (h4 : qf ≠ 221) : (∀ k, k ≠ 172 → k ≠ 221 → k ≠ qf → (F_ME_noise_2 qf 220 n 32 wh t).1 k = t.1 k) ∧ rdc 3329 ((F_ME_noise_2 qf 220 n 32 wh t).1 qf) := by
  obtain ⟨-, b, c⟩ := noise2_same (pf := 0) (pb := 220) (at_ := 32) (n := n) (wh := wh) (s := trk fun j => t.1 220 (32 + j)) (t := t) (by decide) (by decide) h3 h4 (by decide) (fun j _ => trk_at)
  exact ⟨b, sr_r c⟩
theorem Q_noiseM3 {qf n : Nat} {wh : Int32} {t : Sto} (h3 : qf ≠ 172) (h4 : qf ≠ 221) : (∀ k, k ≠ 172 → k ≠ 221 → k ≠ qf → (F_ME_noise_3 qf 220 n 32 wh t).1 k = t.1 k) ∧ rdc 3329 ((F_ME_noise_3 qf 220 n 32 wh t).1 qf) := by
  obtain ⟨-, b, c⟩ := noise3_same (pf := 0) (pb := 220) (at_ := 32) (n := n) (wh := wh) (s := trk fun j => t.1 220 (32 + j)) (t := t) (by decide) (by decide) h3 h4 (by decide) (fun j _ => trk_at)
  exact ⟨b, sr_r c⟩
theorem P_noiseM2 {pf : Nat} {wh : Int32} {s : Sto} (h1 : pf ≠ 14) (h2 : pf ≠ 35) : (∀ k, k ≠ 14 → k ≠ 35 → k ≠ pf → (F_KM_sampleNoise_2 pf wh s).1 k = s.1 k) ∧ rdc 3329 ((F_KM_sampleNoise_2 pf wh s).1 pf) := by
  obtain ⟨a, -, c⟩ := noise2_same (pf := pf) (qf := 0) (pb := 220) (at_ := 32) (n := 64) (wh := wh) (s := s) (t := trk fun j => s.1 34 (32 + j)) h1 h2 (by decide) (by decide) (by decide) (fun j _ => (trk_at (B := fun j => s.1 34 (32 + j))).symm)
  exact ⟨a, sr_l c⟩
theorem P_noiseM3 {pf : Nat} {wh : Int32} {s : Sto} (h1 : pf ≠ 14) (h2 : pf ≠ 35) : (∀ k, k ≠ 14 → k ≠ 35 → k ≠ pf → (F_KM_sampleNoise_3 pf wh s).1 k = s.1 k) ∧ rdc 3329 ((F_KM_sampleNoise_3 pf wh s).1 pf) := by
  obtain ⟨a, -, c⟩ := noise3_same (pf := pf) (qf := 0) (pb := 220) (at_ := 32) (n := 64) (wh := wh) (s := s) (t := trk fun j => s.1 34 (32 + j)) h1 h2 (by decide) (by decide) (by decide) (fun j _ => (trk_at (B := fun j => s.1 34 (32 + j))).symm)
  exact ⟨a, sr_l c⟩
theorem Q_readM {qb m bt qf : Nat} {t : Sto} (h2 : qb ≠ qf) : onl qf t (F_ME_proper qf (F_ME_read_12 qb m bt qf t)) := (reduced_same (pb := 0) (n := 0) (at_ := 0) (m := m) (bt := bt) (s := (fun _ x => t.1 qb (bt + x), fun _ _ => 0)) (by decide) h2 (fun j _ => by
    show t.1 qb (bt + (0 + j)) = _
    rw [Nat.zero_add])).2.1
theorem P_readM {pb n at_ : Nat} {s : Sto} (h1 : pb ≠ 31) : onl 31 s (F_KM_readReduced pb n at_ s) := (reduced_same (qb := 0) (qf := 1) (m := 0) (bt := 0) (n := n) (at_ := at_) (s := s) (t := (fun _ x => s.1 pb (at_ + x), fun _ _ => 0)) h1 (by decide) (fun j _ => by
    show _ = s.1 pb (at_ + (0 + j))
    rw [Nat.zero_add])).1
def isS2 (B : Nat → Int32) (i : Nat) (r : Nat → Int32) : Prop := ∀ (s : Sto) (pf : Nat), pf ≠ 14 → pf ≠ 35 → (∀ j, j < 32 → s.1 34 (32 + j) = B j) → sr 3329 ((F_RG_transform_7 pf (F_KM_sampleNoise_2 pf (nI i) s)).1 pf) r
def isS3 (B : Nat → Int32) (i : Nat) (r : Nat → Int32) : Prop := ∀ (s : Sto) (pf : Nat), pf ≠ 14 → pf ≠ 35 → (∀ j, j < 32 → s.1 34 (32 + j) = B j) → sr 3329 ((F_RG_transform_7 pf (F_KM_sampleNoise_3 pf (nI i) s)).1 pf) r
/-- what the loops of the encryption keep: k is the rank -/
def IV (k np rh pp pms : Nat) (BK SD MS : Nat → Int32) (s t : Sto) : Prop := (∀ j, j < np → s.1 pp j = BK j) ∧ (∀ j, j < 32 → s.1 34 (32 + j) = SD j) ∧ (∀ j, j < 32 → s.1 32 j = MS j) ∧ (∀ j, j < 32 → t.1 pms j = MS j) ∧ (∀ j, j < 32 → t.1 220 (32 + j) = SD j) ∧ (∀ i, i < k → sr 3329 (s.1 (26 + i)) (t.1 (203 + i)) ∧ isO pp np BK i (t.1 (213 + i)) ∧ isN SD (k + i) (t.1 (208 + i))) ∧ ∀ i x, i < k → x < k → isM pp np rh (fun j => BK (rh + j)) x i (t.1 (186 + (4 * i + x)))
def MI (pt k : Nat) : Prop := k = 14 ∨ k = 30 ∨ k = 31 ∨ k = 35 ∨ k = pt
def MJ (pt k : Nat) : Prop := k = 172 ∨ (217 ≤ k ∧ k ≤ 219) ∨ k = 221 ∨ k = pt
/-- names that the caller gives must lie apart -/
def apC (pp pt : Nat) : Prop := pp ≠ 14 ∧ ¬ (26 ≤ pp ∧ pp ≤ 36) ∧ pt ≠ 14 ∧ ¬ (26 ≤ pt ∧ pt ≤ 35) ∧ pp ≠ pt
def apR (pek pms pct : Nat) : Prop := pek ≠ 172 ∧ ¬ (186 ≤ pek ∧ pek ≤ 222) ∧ pms ≠ 172 ∧ ¬ (186 ≤ pms ∧ pms ≤ 222) ∧ pct ≠ 172 ∧ ¬ (186 ≤ pct ∧ pct ≤ 223) ∧ pek ≠ pct ∧ pms ≠ pct
theorem IV_f {k np rh pp pt pek pms pct : Nat} {BK SD MS : Nat → Int32} {s t s' t' : Sto} (hk : k ≤ 4) (hC : apC pp pt) (hR : apR pek pms pct) (h : IV k np rh pp pms BK SD MS s t) (f1 : frm (MI pt) s s') (f2 : frm (MJ pct) t t') : IV k np rh pp pms BK SD MS s' t' := by
  unfold apC at hC
  unfold apR at hR
  obtain ⟨h1, h2, h3, h4, h5, h6, h7⟩ := h
  have g1 : ∀ x, x ≠ 14 → x ≠ 30 → x ≠ 31 → x ≠ 35 → x ≠ pt → s'.1 x = s.1 x := fun x a b c d e => f1 x (by unfold MI; omega)
  have g2 : ∀ x, x ≠ 172 → ¬ (217 ≤ x ∧ x ≤ 219) → x ≠ 221 → x ≠ pct → t'.1 x = t.1 x := fun x a b c d => f2 x (by unfold MJ; omega)
  refine ⟨fun j hj => ?_, fun j hj => ?_, fun j hj => ?_, fun j hj => ?_, fun j hj => ?_, fun i hi => ?_, fun i x hi hx => ?_⟩
  · rw [g1 pp (by omega) (by omega) (by omega) (by omega) (by omega)]
    exact h1 j hj
  · rw [g1 34 (by omega) (by omega) (by omega) (by omega) (by omega)]
    exact h2 j hj
  · rw [g1 32 (by omega) (by omega) (by omega) (by omega) (by omega)]
    exact h3 j hj
  · rw [g2 pms (by omega) (by omega) (by omega) (by omega)]
    exact h4 j hj
  · rw [g2 220 (by omega) (by omega) (by omega) (by omega)]
    exact h5 j hj
  · rw [g1 (26 + i) (by omega) (by omega) (by omega) (by omega) (by omega), g2 (203 + i) (by omega) (by omega) (by omega) (by omega), g2 (213 + i) (by omega) (by omega) (by omega) (by omega), g2 (208 + i) (by omega) (by omega) (by omega) (by omega)]
    exact h6 i hi
  · rw [g2 (186 + (4 * i + x)) (by omega) (by omega) (by omega) (by omega)]
    exact h7 i x hi hx
