set_option linter.all false
/-! ML-DSA's samplers: the small polynomials -/
def sv2 (v : Nat) : Int32 := if 0 ≤ nI 2 - nI (v % 5) then nI 2 - nI (v % 5) else nI 2 - nI (v % 5) + nI 8380417
def sv4 (v : Nat) : Int32 := if 0 ≤ nI 4 - nI v then nI 4 - nI v else nI 4 - nI v + nI 8380417
def smF (B f v : Nat) : Nat := if v ≤ B ∧ ¬ 256 ≤ f then f + 1 else f
def smT (sv : Nat → Int32) (B pf f v : Nat) (s : Sto) : Sto := if v ≤ B ∧ ¬ 256 ≤ f then sI s pf f (sv v) else s
def smR (sv : Nat → Int32) (B f v : Nat) (r : Nat → Int32) : Nat → Int32 := if v ≤ B ∧ ¬ 256 ≤ f then upd r f (sv v) else r
theorem smF_le {B f v : Nat} (h : f ≤ 256) : smF B f v ≤ 256 := by
  unfold smF
  split <;> omega
theorem smT_row {sv : Nat → Int32} {B pf f v : Nat} {s : Sto} : (smT sv B pf f v s).1 pf = smR sv B f v (s.1 pf) := by
  unfold smT smR
  by_cases q : v ≤ B ∧ ¬ 256 ≤ f
  · rw [if_pos q, if_pos q]
    exact sI_row
  · rw [if_neg q, if_neg q]
theorem smT_A {sv : Nat → Int32} {B pf f v pv qv rt : Nat} {st : Sp} {sf : Int32} {s : Sto} (hne : pf ≠ pv) (h : spA pv qv st rt sf s) : spA pv qv st rt sf (smT sv B pf f v s) := by
  unfold smT
  by_cases q : v ≤ B ∧ ¬ 256 ≤ f
  · rw [if_pos q]
    exact spA_I hne h
  · rw [if_neg q]
    exact h
theorem smT_M {sv : Nat → Int32} {B pf f v rt : Nat} {st : Sp} {sf : Int32} {s : Sto} (hne : pf ≠ 172) (h : spM st rt sf s) : spM st rt sf (smT sv B pf f v s) := by
  unfold smT
  by_cases q : v ≤ B ∧ ¬ 256 ≤ f
  · rw [if_pos q]
    exact spM_I hne h
  · rw [if_neg q]
    exact h
theorem smT_s2 {sv : Nat → Int32} {B pf f v pv qv : Nat} {s0 s : Sto} (h : same2 pv qv pf s0 s) : same2 pv qv pf s0 (smT sv B pf f v s) := by
  unfold smT
  by_cases q : v ≤ B ∧ ¬ 256 ≤ f
  · rw [if_pos q]
    exact same2_I h
  · rw [if_neg q]
    exact h
theorem P_put2 {pf fl v : Nat} {s : Sto} (hv : v < 16) : F_SA_putSmall_2 pf fl (nI v) s = (nI (smF 14 fl v), smT sv2 14 pf fl v s) := by
  rw [F_SA_putSmall_2]
  by_cases c : 15 ≤ v
  · rw [if_pos ((nI_leI (by decide) (by omega)).mpr c)]
    unfold smF smT
    rw [if_neg (by omega), if_neg (by omega)]
  · rw [if_neg (fun h => c ((nI_leI (by decide) (by omega)).mp h))]
    by_cases d : fl < 256
    · have g : v ≤ 14 ∧ ¬ 256 ≤ fl := by omega
      rw [if_pos d, pk_rem (by omega) (by decide) (by decide), bnd_eq]
      unfold smF smT sv2
      by_cases e : 0 ≤ nI 2 - nI (v % 5)
      · simp only [if_pos e, if_pos g, bnd_eq]
      · simp only [if_neg e, if_pos g, bnd_eq]
    · have g : ¬ (v ≤ 14 ∧ ¬ 256 ≤ fl) := by omega
      unfold smF smT
      rw [if_neg d, if_neg g, if_neg g]
theorem P_put4 {pf fl v : Nat} {s : Sto} (hv : v < 16) : F_SA_putSmall_4 pf fl (nI v) s = (nI (smF 8 fl v), smT sv4 8 pf fl v s) := by
  rw [F_SA_putSmall_4]
  by_cases c : 9 ≤ v
  · rw [if_pos ((nI_leI (by decide) (by omega)).mpr c)]
    unfold smF smT
    rw [if_neg (by omega), if_neg (by omega)]
  · rw [if_neg (fun h => c ((nI_leI (by decide) (by omega)).mp h))]
    by_cases d : fl < 256
    · have g : v ≤ 8 ∧ ¬ 256 ≤ fl := by omega
      rw [if_pos d, bnd_eq]
      unfold smF smT sv4
      by_cases e : 0 ≤ nI 4 - nI v
      · simp only [if_pos e, if_pos g, bnd_eq]
      · simp only [if_neg e, if_pos g, bnd_eq]
    · have g : ¬ (v ≤ 8 ∧ ¬ 256 ≤ fl) := by omega
      unfold smF smT
      rw [if_neg d, if_neg g, if_neg g]
noncomputable def drS (sv : Nat → Int32) (B rt : Nat) : Nat → Nat → Sp → (Nat → Int32) → Nat → Int32
  | 0, _, _, r => r
  | n + 1, f, st, r => if 256 ≤ f then r else drS sv B rt n (smF B (smF B f (bt (nxS rt st) % 16)) (bt (nxS rt st) / 16)) (nxS rt st) (smR sv B (smF B f (bt (nxS rt st) % 16)) (bt (nxS rt st) / 16) (smR sv B f (bt (nxS rt st) % 16) r))
noncomputable def dES (B rt : Nat) : Nat → Nat → Sp → Prop
  | 0, f, _ => 256 ≤ f
  | n + 1, f, st => if 256 ≤ f then True else dES B rt n (smF B (smF B f (bt (nxS rt st) % 16)) (bt (nxS rt st) / 16)) (nxS rt st)
/-- rows of small numbers, the same on both sides -/
def ss (e : Nat) (r r' : Nat → Int32) : Prop := ∀ k, k < 256 → ∃ w : Nat, w ≤ 2 * e ∧ r k = nI ((8380417 + e - w) % 8380417) ∧ r' k = nI ((8380417 + e - w) % 8380417)
def upS (e f : Nat) (r r' : Nat → Int32) : Prop := ∀ k, k < f → k < 256 → ∃ w : Nat, w ≤ 2 * e ∧ r k = nI ((8380417 + e - w) % 8380417) ∧ r' k = nI ((8380417 + e - w) % 8380417)
theorem upS_s {sv : Nat → Int32} {e B f v : Nat} {r r' : Nat → Int32} (hsv : ∀ v, v ≤ B → ∃ w : Nat, w ≤ 2 * e ∧ sv v = nI ((8380417 + e - w) % 8380417)) (h : upS e f r r') : upS e (smF B f v) (smR sv B f v r) (smR sv B f v r') := by
  unfold smF smR
  by_cases q : v ≤ B ∧ ¬ 256 ≤ f
  · rw [if_pos q, if_pos q, if_pos q]
    intro k h1 h2
    by_cases u : k = f
    · subst u
      obtain ⟨w, hw, e1⟩ := hsv v q.1
      exact ⟨w, hw, upd_s.trans e1, upd_s.trans e1⟩
    · rw [upd_n u, upd_n u]
      exact h k (by omega) h2
  · rw [if_neg q, if_neg q, if_neg q]
    exact h
theorem drS_ss {sv : Nat → Int32} {e B rt : Nat} (hsv : ∀ v, v ≤ B → ∃ w : Nat, w ≤ 2 * e ∧ sv v = nI ((8380417 + e - w) % 8380417)) : ∀ (n f : Nat) (st : Sp) (r r' : Nat → Int32), dES B rt n f st → upS e f r r' → ss e (drS sv B rt n f st r) (drS sv B rt n f st r')
  | 0, f, _, r, r', h, hu => fun k hk => hu k (by have h1 : 256 ≤ f := h; omega) hk
  | n + 1, f, st, r, r', h, hu => by
    rw [dES] at h
    rw [drS, drS]
    by_cases q0 : 256 ≤ f
    · rw [if_pos q0, if_pos q0]
      exact fun k hk => hu k (by omega) hk
    · rw [if_neg q0] at h
      rw [if_neg q0, if_neg q0]
      exact drS_ss hsv n _ _ _ _ h (upS_s hsv (upS_s hsv hu))
theorem drS_end {sv : Nat → Int32} {B rt : Nat} (h0 : 0 < rt) (P : Nat → Int64) (r : Nat → Int32) (n f : Nat) : drS sv B rt n f (P, rt) r = drS sv B rt n f (prm P, 0) r := by
  cases n with
  | zero => rw [drS, drS]
  | succ n => rw [drS, drS, nx_end h0]
theorem sv2_e : ∀ v, v < 15 → sv2 v = nI ((8380417 + 2 - v % 5) % 8380417) := by decide +kernel
theorem sv4_e : ∀ v, v < 9 → sv4 v = nI ((8380417 + 4 - v) % 8380417) := by decide +kernel
theorem sv2_w (v : Nat) (hv : v ≤ 14) : ∃ w : Nat, w ≤ 2 * 2 ∧ sv2 v = nI ((8380417 + 2 - w) % 8380417) := ⟨v % 5, by omega, sv2_e v (by omega)⟩
theorem sv4_w (v : Nat) (hv : v ≤ 8) : ∃ w : Nat, w ≤ 2 * 4 ∧ sv4 v = nI ((8380417 + 4 - w) % 8380417) := ⟨v, by omega, sv4_e v (by omega)⟩
theorem P_small0 {pf rt : Nat} {sf : Int32} (h0 : 0 < rt) (hr : rt < 200) (hpf : pf ≠ 18) : ∀ (n i f : Nat) (st : Sp) (s : Sto), f ≤ 256 → spA 18 19 st rt sf s → st.2 ≤ rt → (F_SA_sampleSmall_0_L0 pf n i f s).1 pf = drS sv2 14 rt n f st (s.1 pf) ∧ same2 18 19 pf s (F_SA_sampleSmall_0_L0 pf n i f s)
  | 0, i, f, _, s, _, _, _ => by
    have e : F_SA_sampleSmall_0_L0 pf 0 i f s = s := by
      rw [F_SA_sampleSmall_0_L0]
      by_cases q : 256 ≤ f
      · exact if_pos q
      · exact if_neg q
    rw [e]
    exact ⟨rfl, s2rf⟩
  | n + 1, i, f, st, s, hf, h, hp => by
    by_cases q0 : 256 ≤ f
    · have e : F_SA_sampleSmall_0_L0 pf (n + 1) i f s = s := by rw [F_SA_sampleSmall_0_L0, if_pos q0]
      rw [e, drS, if_pos q0]
      exact ⟨rfl, s2rf⟩
    · obtain ⟨a1, b1, c1⟩ := P_nextByte h h0 hr hp
      have p1 := nxS_le h0 hp
      have e1 : (F_SP_nextByte 18 19 s).1.toNatClampNeg = bt (nxS rt st) := congrArg Int32.toNatClampNeg a1
      have l1 := bt_lt (nxS rt st)
      have f1 := smF_le (B := 14) (v := bt (nxS rt st) % 16) hf
      have f2 := smF_le (B := 14) (v := bt (nxS rt st) / 16) f1
      have hU : F_SA_sampleSmall_0_L0 pf (n + 1) i f s = F_SA_sampleSmall_0_L0 pf n (i + 1) (smF 14 (smF 14 f (bt (nxS rt st) % 16)) (bt (nxS rt st) / 16)) (smT sv2 14 pf (smF 14 f (bt (nxS rt st) % 16)) (bt (nxS rt st) / 16) (smT sv2 14 pf f (bt (nxS rt st) % 16) (F_SP_nextByte 18 19 s).2)) := by
        rw [F_SA_sampleSmall_0_L0, if_neg q0]
        repeat rw [bnd_eq]
        rw [e1, show nI (bt (nxS rt st)) &&& nI 15 = nI (bt (nxS rt st) % 16) from pk_andN (by omega) 4 (by decide), P_put2 (v := bt (nxS rt st) % 16) (by omega)]
        dsimp only
        rw [nI_clamp (by omega), P_put2 (v := bt (nxS rt st) / 16) (by omega)]
        dsimp only
        rw [nI_clamp (by omega)]
      generalize (F_SP_nextByte 18 19 s).2 = s1 at b1 c1 hU
      obtain ⟨u1, u2⟩ := P_small0 h0 hr hpf n (i + 1) _ _ (smT sv2 14 pf (smF 14 f (bt (nxS rt st) % 16)) (bt (nxS rt st) / 16) (smT sv2 14 pf f (bt (nxS rt st) % 16) s1)) f2 (smT_A hpf (smT_A hpf b1)) p1
      rw [smT_row, smT_row, c1.1 pf hpf] at u1
      rw [hU, drS, if_neg q0]
      exact ⟨u1, same2.tr (smT_s2 (smT_s2 (s2w c1))) u2⟩
theorem Q_smU0 {pf n f b : Nat} {t : Sto} (hf : ¬ 256 ≤ f) (hb : (F_MS_next t).1.toNatClampNeg = b) : F_MH_small_0_L0 pf (n + 1) f t = F_MH_small_0_L0 pf n (smF 14 (smF 14 f (b % 16)) (b / 16)) (smT sv2 14 pf (smF 14 f (b % 16)) (b / 16) (smT sv2 14 pf f (b % 16) (F_MS_next t).2)) := by
  rw [F_MH_small_0_L0, if_neg hf]
  repeat rw [bnd_eq]
  rw [hb]
  generalize (F_MS_next t).2 = t1
  unfold smF smT sv2
  by_cases c1 : b % 16 ≤ 14 <;> by_cases c2 : 0 ≤ nI 2 - nI (b % 16 % 5) <;> by_cases c3 : 256 ≤ f + 1 <;> by_cases c4 : b / 16 ≤ 14 <;> by_cases c5 : 0 ≤ nI 2 - nI (b / 16 % 5) <;> simp only [c1, c2, c3, c4, c5, hf, if_true, if_false, and_true, and_self, and_false, false_and, not_false_eq_true, not_true_eq_false]
theorem Q_smE0 {pf n f b : Nat} {t : Sto} (hf : ¬ 256 ≤ f) (hb : (F_MS_next t).1.toNatClampNeg = b) : E_MH_small_0_L0 pf (n + 1) f t = E_MH_small_0_L0 pf n (smF 14 (smF 14 f (b % 16)) (b / 16)) (smT sv2 14 pf (smF 14 f (b % 16)) (b / 16) (smT sv2 14 pf f (b % 16) (F_MS_next t).2)) := by
  rw [E_MH_small_0_L0, if_neg hf]
  repeat rw [bnd_eq]
  rw [hb]
  generalize (F_MS_next t).2 = t1
  unfold smF smT sv2
  by_cases c1 : b % 16 ≤ 14 <;> by_cases c2 : 0 ≤ nI 2 - nI (b % 16 % 5) <;> by_cases c3 : 256 ≤ f + 1 <;> by_cases c4 : b / 16 ≤ 14 <;> by_cases c5 : 0 ≤ nI 2 - nI (b / 16 % 5) <;> simp only [c1, c2, c3, c4, c5, hf, if_true, if_false, and_true, and_self, and_false, false_and, not_false_eq_true, not_true_eq_false]
theorem Q_small0 {pf rt : Nat} {sf : Int32} (h0 : 0 < rt) (hr : rt < 200) (hpf : pf ≠ 172) : ∀ (n f : Nat) (st : Sp) (t : Sto), f ≤ 256 → spM st rt sf t → st.2 ≤ rt → E_MH_small_0_L0 pf n f t → (F_MH_small_0_L0 pf n f t).1 pf = drS sv2 14 rt n f st (t.1 pf) ∧ same2 172 173 pf t (F_MH_small_0_L0 pf n f t) ∧ dES 14 rt n f st
  | 0, f, _, t, _, _, _, hE => by
    rw [E_MH_small_0_L0] at hE
    rw [F_MH_small_0_L0, drS, dES]
    exact ⟨rfl, s2rf, hE.1⟩
  | n + 1, f, st, t, hf, h, hp, hE => by
    by_cases q0 : 256 ≤ f
    · rw [F_MH_small_0_L0, if_pos q0, drS, if_pos q0, dES, if_pos q0]
      exact ⟨rfl, s2rf, trivial⟩
    · obtain ⟨a1, b1, c1⟩ := Q_next h h0 hr hp
      have p1 := nxS_le h0 hp
      have e1 : (F_MS_next t).1.toNatClampNeg = bt (nxS rt st) := congrArg Int32.toNatClampNeg a1
      have f1 := smF_le (B := 14) (v := bt (nxS rt st) % 16) hf
      have f2 := smF_le (B := 14) (v := bt (nxS rt st) / 16) f1
      have hU := Q_smU0 (pf := pf) (n := n) q0 e1
      rw [Q_smE0 q0 e1] at hE
      generalize (F_MS_next t).2 = t1 at b1 c1 hU hE
      obtain ⟨u1, u2, u3⟩ := Q_small0 h0 hr hpf n _ _ (smT sv2 14 pf (smF 14 f (bt (nxS rt st) % 16)) (bt (nxS rt st) / 16) (smT sv2 14 pf f (bt (nxS rt st) % 16) t1)) f2 (smT_M hpf (smT_M hpf b1)) p1 hE
      rw [smT_row, smT_row, c1.1 pf hpf] at u1
      rw [hU, drS, if_neg q0, dES, if_neg q0]
      exact ⟨u1, same2.tr (smT_s2 (smT_s2 (s2w c1))) u2, u3⟩
theorem sml0 (N : Nat) {pf pb n at1 qf qb m at2 : Nat} {wh : Int32} {s t T : Sto} (hT : T = F_MS_end (F_MS_put (wh >>> (nI 8 &&& 31)) (F_MS_put wh (F_MS_puts qb m at2 64 (F_MS_begin 136 (nI 31) t))))) (hpf : pf ≠ 18) (h1 : pb ≠ 18) (hqf : qf ≠ 172) (h2 : qb ≠ 172) (hb : ∀ x, x < 64 → s.1 pb (at1 + x) = t.1 qb (at2 + x)) (hE : E_MH_small_0_L0 qf N 0 T) :
    same2 18 19 pf s (F_SA_sampleSmall_0_L0 pf N 0 0 (F_SP_finish 18 19 (F_SP_absorbByte 18 19 (wh >>> (nI 8 &&& 31)) (F_SP_absorbByte 18 19 wh (F_SP_absorb 18 19 pb n at1 64 (F_SP_start_3 18 19 s)))))) ∧ same2 172 173 qf t (F_MH_small_0_L0 qf N 0 T) ∧ ss 2 ((F_SA_sampleSmall_0_L0 pf N 0 0 (F_SP_finish 18 19 (F_SP_absorbByte 18 19 (wh >>> (nI 8 &&& 31)) (F_SP_absorbByte 18 19 wh (F_SP_absorb 18 19 pb n at1 64 (F_SP_start_3 18 19 s)))))).1 pf) ((F_MH_small_0_L0 qf N 0 T).1 qf) := by
  have h0 : 0 < 136 := by decide
  have hr : 136 < 200 := by decide
  obtain ⟨a1, a2⟩ := P_start (pv := 18) (qv := 19) (rt := 136) (sf := nI 31) (s := s)
  rw [← sh3_3] at a1 a2
  obtain ⟨b1, b2⟩ := P_absorb (nb := n) (at_ := at1) (len := 64) a1 hr h0 h1
  obtain ⟨c1, c2⟩ := P_absorbByte (v := wh) b1 hr (abN_lt h0 64)
  obtain ⟨d1, d2⟩ := P_absorbByte (v := wh >>> (nI 8 &&& 31)) c1 hr (abF_lt (abN_lt h0 64))
  obtain ⟨f1, f2⟩ := P_finish d1 h0 hr (abF_lt (abF_lt (abN_lt h0 64)))
  obtain ⟨g1, g2⟩ := P_small0 (pf := pf) h0 hr hpf N 0 0 _ _ (Nat.zero_le _) f1 (Nat.le_refl _)
  obtain ⟨a1', a2'⟩ := Q_begin (rt := 136) (sf := nI 31) (s := t)
  obtain ⟨b1', b2'⟩ := Q_puts (nb := m) (at_ := at2) (len := 64) a1' hr h0 h2
  obtain ⟨c1', c2'⟩ := Q_put (v := wh) b1' hr (abN_lt h0 64)
  obtain ⟨d1', d2'⟩ := Q_put (v := wh >>> (nI 8 &&& 31)) c1' hr (abF_lt (abN_lt h0 64))
  obtain ⟨f1', f2'⟩ := Q_end d1' h0 hr (abF_lt (abF_lt (abN_lt h0 64)))
  rw [← hT] at f1' f2'
  obtain ⟨u1, u2, u3⟩ := Q_small0 h0 hr hqf N 0 _ _ (Nat.zero_le _) f1' (Nat.zero_le _) hE
  have m1 := (((a2.tr b2).tr c2).tr d2).tr f2
  have m2 := (((a2'.tr b2').tr c2').tr d2').tr f2'
  refine ⟨(s2w m1).tr g2, (s2w m2).tr u2, ?_⟩
  rw [g1, u1, a2.1 pb h1]
  rw [a2'.1 qb h2] at u3 ⊢
  rw [abN_ab (b := s.1 pb) (c := t.1 qb) (at1 := at1) (at2 := at2) 64 hb, drS_end h0]
  exact drS_ss sv2_w N 0 _ _ _ u3 (fun k hk => absurd hk (Nat.not_lt_zero _))
/-- RejBoundedPoly, set 0 -/
theorem small0_same {pf pb n at1 qf qb m at2 : Nat} {wh : Int32} {s t : Sto} (hpf : pf ≠ 18) (h1 : pb ≠ 18) (hqf : qf ≠ 172) (h2 : qb ≠ 172) (hb : ∀ x, x < 64 → s.1 pb (at1 + x) = t.1 qb (at2 + x)) (hE : E_MH_small_0 qf qb m at2 wh t) : same2 18 19 pf s (F_SA_sampleSmall_0 pf pb n at1 wh s) ∧ same2 172 173 qf t (F_MH_small_0 qf qb m at2 wh t) ∧ ss 2 ((F_SA_sampleSmall_0 pf pb n at1 wh s).1 pf) ((F_MH_small_0 qf qb m at2 wh t).1 qf) := by
  have hU : F_SA_sampleSmall_0 pf pb n at1 wh s = F_SA_sampleSmall_0_L0 pf fuelM 0 0 (F_SP_finish 18 19 (F_SP_absorbByte 18 19 (wh >>> (nI 8 &&& 31)) (F_SP_absorbByte 18 19 wh (F_SP_absorb 18 19 pb n at1 64 (F_SP_start_3 18 19 s))))) := by
    rw [F_SA_sampleSmall_0, F_SA_startNumbered, fuelM_eq]
    repeat rw [bnd_eq]
  have hV : F_MH_small_0 qf qb m at2 wh t = F_MH_small_0_L0 qf fuelM 0 (F_MS_end (F_MS_put (wh >>> (nI 8 &&& 31)) (F_MS_put wh (F_MS_puts qb m at2 64 (F_MS_begin 136 (nI 31) t))))) := by
    rw [F_MH_small_0]
    repeat rw [bnd_eq]
    rw [shM]
  rw [E_MH_small_0] at hE
  repeat rw [bnd_eq] at hE
  rw [shM] at hE
  rw [hU, hV]
  exact sml0 fuelM rfl hpf h1 hqf h2 hb hE
theorem P_small1 {pf rt : Nat} {sf : Int32} (h0 : 0 < rt) (hr : rt < 200) (hpf : pf ≠ 18) : ∀ (n i f : Nat) (st : Sp) (s : Sto), f ≤ 256 → spA 18 19 st rt sf s → st.2 ≤ rt → (F_SA_sampleSmall_1_L0 pf n i f s).1 pf = drS sv4 8 rt n f st (s.1 pf) ∧ same2 18 19 pf s (F_SA_sampleSmall_1_L0 pf n i f s)
  | 0, i, f, _, s, _, _, _ => by
    have e : F_SA_sampleSmall_1_L0 pf 0 i f s = s := by
      rw [F_SA_sampleSmall_1_L0]
      by_cases q : 256 ≤ f
      · exact if_pos q
      · exact if_neg q
    rw [e]
    exact ⟨rfl, s2rf⟩
  | n + 1, i, f, st, s, hf, h, hp => by
    by_cases q0 : 256 ≤ f
    · have e : F_SA_sampleSmall_1_L0 pf (n + 1) i f s = s := by rw [F_SA_sampleSmall_1_L0, if_pos q0]
      rw [e, drS, if_pos q0]
      exact ⟨rfl, s2rf⟩
    · obtain ⟨a1, b1, c1⟩ := P_nextByte h h0 hr hp
      have p1 := nxS_le h0 hp
      have e1 : (F_SP_nextByte 18 19 s).1.toNatClampNeg = bt (nxS rt st) := congrArg Int32.toNatClampNeg a1
      have l1 := bt_lt (nxS rt st)
      have f1 := smF_le (B := 8) (v := bt (nxS rt st) % 16) hf
      have f2 := smF_le (B := 8) (v := bt (nxS rt st) / 16) f1
      have hU : F_SA_sampleSmall_1_L0 pf (n + 1) i f s = F_SA_sampleSmall_1_L0 pf n (i + 1) (smF 8 (smF 8 f (bt (nxS rt st) % 16)) (bt (nxS rt st) / 16)) (smT sv4 8 pf (smF 8 f (bt (nxS rt st) % 16)) (bt (nxS rt st) / 16) (smT sv4 8 pf f (bt (nxS rt st) % 16) (F_SP_nextByte 18 19 s).2)) := by
        rw [F_SA_sampleSmall_1_L0, if_neg q0]
        repeat rw [bnd_eq]
        rw [e1, show nI (bt (nxS rt st)) &&& nI 15 = nI (bt (nxS rt st) % 16) from pk_andN (by omega) 4 (by decide), P_put4 (v := bt (nxS rt st) % 16) (by omega)]
        dsimp only
        rw [nI_clamp (by omega), P_put4 (v := bt (nxS rt st) / 16) (by omega)]
        dsimp only
        rw [nI_clamp (by omega)]
      generalize (F_SP_nextByte 18 19 s).2 = s1 at b1 c1 hU
      obtain ⟨u1, u2⟩ := P_small1 h0 hr hpf n (i + 1) _ _ (smT sv4 8 pf (smF 8 f (bt (nxS rt st) % 16)) (bt (nxS rt st) / 16) (smT sv4 8 pf f (bt (nxS rt st) % 16) s1)) f2 (smT_A hpf (smT_A hpf b1)) p1
      rw [smT_row, smT_row, c1.1 pf hpf] at u1
      rw [hU, drS, if_neg q0]
      exact ⟨u1, same2.tr (smT_s2 (smT_s2 (s2w c1))) u2⟩
theorem Q_smU1 {pf n f b : Nat} {t : Sto} (hf : ¬ 256 ≤ f) (hb : (F_MS_next t).1.toNatClampNeg = b) : F_MH_small_1_L0 pf (n + 1) f t = F_MH_small_1_L0 pf n (smF 8 (smF 8 f (b % 16)) (b / 16)) (smT sv4 8 pf (smF 8 f (b % 16)) (b / 16) (smT sv4 8 pf f (b % 16) (F_MS_next t).2)) := by
  rw [F_MH_small_1_L0, if_neg hf]
  repeat rw [bnd_eq]
  rw [hb]
  generalize (F_MS_next t).2 = t1
  unfold smF smT sv4
  by_cases c1 : b % 16 ≤ 8 <;> by_cases c2 : 0 ≤ nI 4 - nI (b % 16) <;> by_cases c3 : 256 ≤ f + 1 <;> by_cases c4 : b / 16 ≤ 8 <;> by_cases c5 : 0 ≤ nI 4 - nI (b / 16) <;> simp only [c1, c2, c3, c4, c5, hf, if_true, if_false, and_true, and_self, and_false, false_and, not_false_eq_true, not_true_eq_false]
theorem Q_smE1 {pf n f b : Nat} {t : Sto} (hf : ¬ 256 ≤ f) (hb : (F_MS_next t).1.toNatClampNeg = b) : E_MH_small_1_L0 pf (n + 1) f t = E_MH_small_1_L0 pf n (smF 8 (smF 8 f (b % 16)) (b / 16)) (smT sv4 8 pf (smF 8 f (b % 16)) (b / 16) (smT sv4 8 pf f (b % 16) (F_MS_next t).2)) := by
  rw [E_MH_small_1_L0, if_neg hf]
  repeat rw [bnd_eq]
  rw [hb]
  generalize (F_MS_next t).2 = t1
  unfold smF smT sv4
  by_cases c1 : b % 16 ≤ 8 <;> by_cases c2 : 0 ≤ nI 4 - nI (b % 16) <;> by_cases c3 : 256 ≤ f + 1 <;> by_cases c4 : b / 16 ≤ 8 <;> by_cases c5 : 0 ≤ nI 4 - nI (b / 16) <;> simp only [c1, c2, c3, c4, c5, hf, if_true, if_false, and_true, and_self, and_false, false_and, not_false_eq_true, not_true_eq_false]
theorem Q_small1 {pf rt : Nat} {sf : Int32} (h0 : 0 < rt) (hr : rt < 200) (hpf : pf ≠ 172) : ∀ (n f : Nat) (st : Sp) (t : Sto), f ≤ 256 → spM st rt sf t → st.2 ≤ rt → E_MH_small_1_L0 pf n f t → (F_MH_small_1_L0 pf n f t).1 pf = drS sv4 8 rt n f st (t.1 pf) ∧ same2 172 173 pf t (F_MH_small_1_L0 pf n f t) ∧ dES 8 rt n f st
  | 0, f, _, t, _, _, _, hE => by
    rw [E_MH_small_1_L0] at hE
    rw [F_MH_small_1_L0, drS, dES]
    exact ⟨rfl, s2rf, hE.1⟩
  | n + 1, f, st, t, hf, h, hp, hE => by
    by_cases q0 : 256 ≤ f
    · rw [F_MH_small_1_L0, if_pos q0, drS, if_pos q0, dES, if_pos q0]
      exact ⟨rfl, s2rf, trivial⟩
    · obtain ⟨a1, b1, c1⟩ := Q_next h h0 hr hp
      have p1 := nxS_le h0 hp
      have e1 : (F_MS_next t).1.toNatClampNeg = bt (nxS rt st) := congrArg Int32.toNatClampNeg a1
      have f1 := smF_le (B := 8) (v := bt (nxS rt st) % 16) hf
      have f2 := smF_le (B := 8) (v := bt (nxS rt st) / 16) f1
      have hU := Q_smU1 (pf := pf) (n := n) q0 e1
      rw [Q_smE1 q0 e1] at hE
      generalize (F_MS_next t).2 = t1 at b1 c1 hU hE
      obtain ⟨u1, u2, u3⟩ := Q_small1 h0 hr hpf n _ _ (smT sv4 8 pf (smF 8 f (bt (nxS rt st) % 16)) (bt (nxS rt st) / 16) (smT sv4 8 pf f (bt (nxS rt st) % 16) t1)) f2 (smT_M hpf (smT_M hpf b1)) p1 hE
      rw [smT_row, smT_row, c1.1 pf hpf] at u1
      rw [hU, drS, if_neg q0, dES, if_neg q0]
      exact ⟨u1, same2.tr (smT_s2 (smT_s2 (s2w c1))) u2, u3⟩
theorem sml1 (N : Nat) {pf pb n at1 qf qb m at2 : Nat} {wh : Int32} {s t T : Sto} (hT : T = F_MS_end (F_MS_put (wh >>> (nI 8 &&& 31)) (F_MS_put wh (F_MS_puts qb m at2 64 (F_MS_begin 136 (nI 31) t))))) (hpf : pf ≠ 18) (h1 : pb ≠ 18) (hqf : qf ≠ 172) (h2 : qb ≠ 172) (hb : ∀ x, x < 64 → s.1 pb (at1 + x) = t.1 qb (at2 + x)) (hE : E_MH_small_1_L0 qf N 0 T) :
    same2 18 19 pf s (F_SA_sampleSmall_1_L0 pf N 0 0 (F_SP_finish 18 19 (F_SP_absorbByte 18 19 (wh >>> (nI 8 &&& 31)) (F_SP_absorbByte 18 19 wh (F_SP_absorb 18 19 pb n at1 64 (F_SP_start_3 18 19 s)))))) ∧ same2 172 173 qf t (F_MH_small_1_L0 qf N 0 T) ∧ ss 4 ((F_SA_sampleSmall_1_L0 pf N 0 0 (F_SP_finish 18 19 (F_SP_absorbByte 18 19 (wh >>> (nI 8 &&& 31)) (F_SP_absorbByte 18 19 wh (F_SP_absorb 18 19 pb n at1 64 (F_SP_start_3 18 19 s)))))).1 pf) ((F_MH_small_1_L0 qf N 0 T).1 qf) := by
  have h0 : 0 < 136 := by decide
  have hr : 136 < 200 := by decide
  obtain ⟨a1, a2⟩ := P_start (pv := 18) (qv := 19) (rt := 136) (sf := nI 31) (s := s)
  rw [← sh3_3] at a1 a2
  obtain ⟨b1, b2⟩ := P_absorb (nb := n) (at_ := at1) (len := 64) a1 hr h0 h1
  obtain ⟨c1, c2⟩ := P_absorbByte (v := wh) b1 hr (abN_lt h0 64)
  obtain ⟨d1, d2⟩ := P_absorbByte (v := wh >>> (nI 8 &&& 31)) c1 hr (abF_lt (abN_lt h0 64))
  obtain ⟨f1, f2⟩ := P_finish d1 h0 hr (abF_lt (abF_lt (abN_lt h0 64)))
  obtain ⟨g1, g2⟩ := P_small1 (pf := pf) h0 hr hpf N 0 0 _ _ (Nat.zero_le _) f1 (Nat.le_refl _)
  obtain ⟨a1', a2'⟩ := Q_begin (rt := 136) (sf := nI 31) (s := t)
  obtain ⟨b1', b2'⟩ := Q_puts (nb := m) (at_ := at2) (len := 64) a1' hr h0 h2
  obtain ⟨c1', c2'⟩ := Q_put (v := wh) b1' hr (abN_lt h0 64)
  obtain ⟨d1', d2'⟩ := Q_put (v := wh >>> (nI 8 &&& 31)) c1' hr (abF_lt (abN_lt h0 64))
  obtain ⟨f1', f2'⟩ := Q_end d1' h0 hr (abF_lt (abF_lt (abN_lt h0 64)))
  rw [← hT] at f1' f2'
  obtain ⟨u1, u2, u3⟩ := Q_small1 h0 hr hqf N 0 _ _ (Nat.zero_le _) f1' (Nat.zero_le _) hE
  have m1 := (((a2.tr b2).tr c2).tr d2).tr f2
  have m2 := (((a2'.tr b2').tr c2').tr d2').tr f2'
  refine ⟨(s2w m1).tr g2, (s2w m2).tr u2, ?_⟩
  rw [g1, u1, a2.1 pb h1]
  rw [a2'.1 qb h2] at u3 ⊢
  rw [abN_ab (b := s.1 pb) (c := t.1 qb) (at1 := at1) (at2 := at2) 64 hb, drS_end h0]
  exact drS_ss sv4_w N 0 _ _ _ u3 (fun k hk => absurd hk (Nat.not_lt_zero _))
/-- RejBoundedPoly, set 1 -/
theorem small1_same {pf pb n at1 qf qb m at2 : Nat} {wh : Int32} {s t : Sto} (hpf : pf ≠ 18) (h1 : pb ≠ 18) (hqf : qf ≠ 172) (h2 : qb ≠ 172) (hb : ∀ x, x < 64 → s.1 pb (at1 + x) = t.1 qb (at2 + x)) (hE : E_MH_small_1 qf qb m at2 wh t) : same2 18 19 pf s (F_SA_sampleSmall_1 pf pb n at1 wh s) ∧ same2 172 173 qf t (F_MH_small_1 qf qb m at2 wh t) ∧ ss 4 ((F_SA_sampleSmall_1 pf pb n at1 wh s).1 pf) ((F_MH_small_1 qf qb m at2 wh t).1 qf) := by
  have hU : F_SA_sampleSmall_1 pf pb n at1 wh s = F_SA_sampleSmall_1_L0 pf fuelM 0 0 (F_SP_finish 18 19 (F_SP_absorbByte 18 19 (wh >>> (nI 8 &&& 31)) (F_SP_absorbByte 18 19 wh (F_SP_absorb 18 19 pb n at1 64 (F_SP_start_3 18 19 s))))) := by
    rw [F_SA_sampleSmall_1, F_SA_startNumbered, fuelM_eq]
    repeat rw [bnd_eq]
  have hV : F_MH_small_1 qf qb m at2 wh t = F_MH_small_1_L0 qf fuelM 0 (F_MS_end (F_MS_put (wh >>> (nI 8 &&& 31)) (F_MS_put wh (F_MS_puts qb m at2 64 (F_MS_begin 136 (nI 31) t))))) := by
    rw [F_MH_small_1]
    repeat rw [bnd_eq]
    rw [shM]
  rw [E_MH_small_1] at hE
  repeat rw [bnd_eq] at hE
  rw [shM] at hE
  rw [hU, hV]
  exact sml1 fuelM rfl hpf h1 hqf h2 hb hE
theorem P_small2 {pf rt : Nat} {sf : Int32} (h0 : 0 < rt) (hr : rt < 200) (hpf : pf ≠ 18) : ∀ (n i f : Nat) (st : Sp) (s : Sto), f ≤ 256 → spA 18 19 st rt sf s → st.2 ≤ rt → (F_SA_sampleSmall_2_L0 pf n i f s).1 pf = drS sv2 14 rt n f st (s.1 pf) ∧ same2 18 19 pf s (F_SA_sampleSmall_2_L0 pf n i f s)
  | 0, i, f, _, s, _, _, _ => by
    have e : F_SA_sampleSmall_2_L0 pf 0 i f s = s := by
      rw [F_SA_sampleSmall_2_L0]
      by_cases q : 256 ≤ f
      · exact if_pos q
      · exact if_neg q
    rw [e]
    exact ⟨rfl, s2rf⟩
  | n + 1, i, f, st, s, hf, h, hp => by
    by_cases q0 : 256 ≤ f
    · have e : F_SA_sampleSmall_2_L0 pf (n + 1) i f s = s := by rw [F_SA_sampleSmall_2_L0, if_pos q0]
      rw [e, drS, if_pos q0]
      exact ⟨rfl, s2rf⟩
    · obtain ⟨a1, b1, c1⟩ := P_nextByte h h0 hr hp
      have p1 := nxS_le h0 hp
      have e1 : (F_SP_nextByte 18 19 s).1.toNatClampNeg = bt (nxS rt st) := congrArg Int32.toNatClampNeg a1
      have l1 := bt_lt (nxS rt st)
      have f1 := smF_le (B := 14) (v := bt (nxS rt st) % 16) hf
      have f2 := smF_le (B := 14) (v := bt (nxS rt st) / 16) f1
      have hU : F_SA_sampleSmall_2_L0 pf (n + 1) i f s = F_SA_sampleSmall_2_L0 pf n (i + 1) (smF 14 (smF 14 f (bt (nxS rt st) % 16)) (bt (nxS rt st) / 16)) (smT sv2 14 pf (smF 14 f (bt (nxS rt st) % 16)) (bt (nxS rt st) / 16) (smT sv2 14 pf f (bt (nxS rt st) % 16) (F_SP_nextByte 18 19 s).2)) := by
        rw [F_SA_sampleSmall_2_L0, if_neg q0]
        repeat rw [bnd_eq]
        rw [e1, show nI (bt (nxS rt st)) &&& nI 15 = nI (bt (nxS rt st) % 16) from pk_andN (by omega) 4 (by decide), P_put2 (v := bt (nxS rt st) % 16) (by omega)]
        dsimp only
        rw [nI_clamp (by omega), P_put2 (v := bt (nxS rt st) / 16) (by omega)]
        dsimp only
        rw [nI_clamp (by omega)]
      generalize (F_SP_nextByte 18 19 s).2 = s1 at b1 c1 hU
      obtain ⟨u1, u2⟩ := P_small2 h0 hr hpf n (i + 1) _ _ (smT sv2 14 pf (smF 14 f (bt (nxS rt st) % 16)) (bt (nxS rt st) / 16) (smT sv2 14 pf f (bt (nxS rt st) % 16) s1)) f2 (smT_A hpf (smT_A hpf b1)) p1
      rw [smT_row, smT_row, c1.1 pf hpf] at u1
      rw [hU, drS, if_neg q0]
      exact ⟨u1, same2.tr (smT_s2 (smT_s2 (s2w c1))) u2⟩
theorem Q_smU2 {pf n f b : Nat} {t : Sto} (hf : ¬ 256 ≤ f) (hb : (F_MS_next t).1.toNatClampNeg = b) : F_MH_small_2_L0 pf (n + 1) f t = F_MH_small_2_L0 pf n (smF 14 (smF 14 f (b % 16)) (b / 16)) (smT sv2 14 pf (smF 14 f (b % 16)) (b / 16) (smT sv2 14 pf f (b % 16) (F_MS_next t).2)) := by
  rw [F_MH_small_2_L0, if_neg hf]
  repeat rw [bnd_eq]
  rw [hb]
  generalize (F_MS_next t).2 = t1
  unfold smF smT sv2
  by_cases c1 : b % 16 ≤ 14 <;> by_cases c2 : 0 ≤ nI 2 - nI (b % 16 % 5) <;> by_cases c3 : 256 ≤ f + 1 <;> by_cases c4 : b / 16 ≤ 14 <;> by_cases c5 : 0 ≤ nI 2 - nI (b / 16 % 5) <;> simp only [c1, c2, c3, c4, c5, hf, if_true, if_false, and_true, and_self, and_false, false_and, not_false_eq_true, not_true_eq_false]
theorem Q_smE2 {pf n f b : Nat} {t : Sto} (hf : ¬ 256 ≤ f) (hb : (F_MS_next t).1.toNatClampNeg = b) : E_MH_small_2_L0 pf (n + 1) f t = E_MH_small_2_L0 pf n (smF 14 (smF 14 f (b % 16)) (b / 16)) (smT sv2 14 pf (smF 14 f (b % 16)) (b / 16) (smT sv2 14 pf f (b % 16) (F_MS_next t).2)) := by
  rw [E_MH_small_2_L0, if_neg hf]
  repeat rw [bnd_eq]
  rw [hb]
  generalize (F_MS_next t).2 = t1
  unfold smF smT sv2
  by_cases c1 : b % 16 ≤ 14 <;> by_cases c2 : 0 ≤ nI 2 - nI (b % 16 % 5) <;> by_cases c3 : 256 ≤ f + 1 <;> by_cases c4 : b / 16 ≤ 14 <;> by_cases c5 : 0 ≤ nI 2 - nI (b / 16 % 5) <;> simp only [c1, c2, c3, c4, c5, hf, if_true, if_false, and_true, and_self, and_false, false_and, not_false_eq_true, not_true_eq_false]
theorem Q_small2 {pf rt : Nat} {sf : Int32} (h0 : 0 < rt) (hr : rt < 200) (hpf : pf ≠ 172) : ∀ (n f : Nat) (st : Sp) (t : Sto), f ≤ 256 → spM st rt sf t → st.2 ≤ rt → E_MH_small_2_L0 pf n f t → (F_MH_small_2_L0 pf n f t).1 pf = drS sv2 14 rt n f st (t.1 pf) ∧ same2 172 173 pf t (F_MH_small_2_L0 pf n f t) ∧ dES 14 rt n f st
  | 0, f, _, t, _, _, _, hE => by
    rw [E_MH_small_2_L0] at hE
    rw [F_MH_small_2_L0, drS, dES]
    exact ⟨rfl, s2rf, hE.1⟩
  | n + 1, f, st, t, hf, h, hp, hE => by
    by_cases q0 : 256 ≤ f
    · rw [F_MH_small_2_L0, if_pos q0, drS, if_pos q0, dES, if_pos q0]
      exact ⟨rfl, s2rf, trivial⟩
    · obtain ⟨a1, b1, c1⟩ := Q_next h h0 hr hp
      have p1 := nxS_le h0 hp
      have e1 : (F_MS_next t).1.toNatClampNeg = bt (nxS rt st) := congrArg Int32.toNatClampNeg a1
      have f1 := smF_le (B := 14) (v := bt (nxS rt st) % 16) hf
      have f2 := smF_le (B := 14) (v := bt (nxS rt st) / 16) f1
      have hU := Q_smU2 (pf := pf) (n := n) q0 e1
      rw [Q_smE2 q0 e1] at hE
      generalize (F_MS_next t).2 = t1 at b1 c1 hU hE
      obtain ⟨u1, u2, u3⟩ := Q_small2 h0 hr hpf n _ _ (smT sv2 14 pf (smF 14 f (bt (nxS rt st) % 16)) (bt (nxS rt st) / 16) (smT sv2 14 pf f (bt (nxS rt st) % 16) t1)) f2 (smT_M hpf (smT_M hpf b1)) p1 hE
      rw [smT_row, smT_row, c1.1 pf hpf] at u1
      rw [hU, drS, if_neg q0, dES, if_neg q0]
      exact ⟨u1, same2.tr (smT_s2 (smT_s2 (s2w c1))) u2, u3⟩
theorem sml2 (N : Nat) {pf pb n at1 qf qb m at2 : Nat} {wh : Int32} {s t T : Sto} (hT : T = F_MS_end (F_MS_put (wh >>> (nI 8 &&& 31)) (F_MS_put wh (F_MS_puts qb m at2 64 (F_MS_begin 136 (nI 31) t))))) (hpf : pf ≠ 18) (h1 : pb ≠ 18) (hqf : qf ≠ 172) (h2 : qb ≠ 172) (hb : ∀ x, x < 64 → s.1 pb (at1 + x) = t.1 qb (at2 + x)) (hE : E_MH_small_2_L0 qf N 0 T) :
    same2 18 19 pf s (F_SA_sampleSmall_2_L0 pf N 0 0 (F_SP_finish 18 19 (F_SP_absorbByte 18 19 (wh >>> (nI 8 &&& 31)) (F_SP_absorbByte 18 19 wh (F_SP_absorb 18 19 pb n at1 64 (F_SP_start_3 18 19 s)))))) ∧ same2 172 173 qf t (F_MH_small_2_L0 qf N 0 T) ∧ ss 2 ((F_SA_sampleSmall_2_L0 pf N 0 0 (F_SP_finish 18 19 (F_SP_absorbByte 18 19 (wh >>> (nI 8 &&& 31)) (F_SP_absorbByte 18 19 wh (F_SP_absorb 18 19 pb n at1 64 (F_SP_start_3 18 19 s)))))).1 pf) ((F_MH_small_2_L0 qf N 0 T).1 qf) := by
  have h0 : 0 < 136 := by decide
  have hr : 136 < 200 := by decide
  obtain ⟨a1, a2⟩ := P_start (pv := 18) (qv := 19) (rt := 136) (sf := nI 31) (s := s)
  rw [← sh3_3] at a1 a2
  obtain ⟨b1, b2⟩ := P_absorb (nb := n) (at_ := at1) (len := 64) a1 hr h0 h1
  obtain ⟨c1, c2⟩ := P_absorbByte (v := wh) b1 hr (abN_lt h0 64)
  obtain ⟨d1, d2⟩ := P_absorbByte (v := wh >>> (nI 8 &&& 31)) c1 hr (abF_lt (abN_lt h0 64))
  obtain ⟨f1, f2⟩ := P_finish d1 h0 hr (abF_lt (abF_lt (abN_lt h0 64)))
  obtain ⟨g1, g2⟩ := P_small2 (pf := pf) h0 hr hpf N 0 0 _ _ (Nat.zero_le _) f1 (Nat.le_refl _)
  obtain ⟨a1', a2'⟩ := Q_begin (rt := 136) (sf := nI 31) (s := t)
  obtain ⟨b1', b2'⟩ := Q_puts (nb := m) (at_ := at2) (len := 64) a1' hr h0 h2
  obtain ⟨c1', c2'⟩ := Q_put (v := wh) b1' hr (abN_lt h0 64)
  obtain ⟨d1', d2'⟩ := Q_put (v := wh >>> (nI 8 &&& 31)) c1' hr (abF_lt (abN_lt h0 64))
  obtain ⟨f1', f2'⟩ := Q_end d1' h0 hr (abF_lt (abF_lt (abN_lt h0 64)))
  rw [← hT] at f1' f2'
  obtain ⟨u1, u2, u3⟩ := Q_small2 h0 hr hqf N 0 _ _ (Nat.zero_le _) f1' (Nat.zero_le _) hE
  have m1 := (((a2.tr b2).tr c2).tr d2).tr f2
  have m2 := (((a2'.tr b2').tr c2').tr d2').tr f2'
  refine ⟨(s2w m1).tr g2, (s2w m2).tr u2, ?_⟩
  rw [g1, u1, a2.1 pb h1]
  rw [a2'.1 qb h2] at u3 ⊢
  rw [abN_ab (b := s.1 pb) (c := t.1 qb) (at1 := at1) (at2 := at2) 64 hb, drS_end h0]
  exact drS_ss sv2_w N 0 _ _ _ u3 (fun k hk => absurd hk (Nat.not_lt_zero _))
/-- RejBoundedPoly, set 2 -/
theorem small2_same {pf pb n at1 qf qb m at2 : Nat} {wh : Int32} {s t : Sto} (hpf : pf ≠ 18) (h1 : pb ≠ 18) (hqf : qf ≠ 172) (h2 : qb ≠ 172) (hb : ∀ x, x < 64 → s.1 pb (at1 + x) = t.1 qb (at2 + x)) (hE : E_MH_small_2 qf qb m at2 wh t) : same2 18 19 pf s (F_SA_sampleSmall_2 pf pb n at1 wh s) ∧ same2 172 173 qf t (F_MH_small_2 qf qb m at2 wh t) ∧ ss 2 ((F_SA_sampleSmall_2 pf pb n at1 wh s).1 pf) ((F_MH_small_2 qf qb m at2 wh t).1 qf) := by
  have hU : F_SA_sampleSmall_2 pf pb n at1 wh s = F_SA_sampleSmall_2_L0 pf fuelM 0 0 (F_SP_finish 18 19 (F_SP_absorbByte 18 19 (wh >>> (nI 8 &&& 31)) (F_SP_absorbByte 18 19 wh (F_SP_absorb 18 19 pb n at1 64 (F_SP_start_3 18 19 s))))) := by
    rw [F_SA_sampleSmall_2, F_SA_startNumbered, fuelM_eq]
    repeat rw [bnd_eq]
  have hV : F_MH_small_2 qf qb m at2 wh t = F_MH_small_2_L0 qf fuelM 0 (F_MS_end (F_MS_put (wh >>> (nI 8 &&& 31)) (F_MS_put wh (F_MS_puts qb m at2 64 (F_MS_begin 136 (nI 31) t))))) := by
    rw [F_MH_small_2]
    repeat rw [bnd_eq]
    rw [shM]
  rw [E_MH_small_2] at hE
  repeat rw [bnd_eq] at hE
  rw [shM] at hE
  rw [hU, hV]
  exact sml2 fuelM rfl hpf h1 hqf h2 hb hE
