set_option linter.all false
/-! ML-DSA's samplers: the challenge -/
theorem sh64 : ∀ k, k < 64 → (((nI k).toInt64.toUInt64 &&& Int64.toUInt64 63).toNat % 64) = k := by decide +kernel
def shy (y : Int64) (k : Nat) : Int64 := (y.toUInt64 >>> ((nI k).toInt64.toUInt64 &&& Int64.toUInt64 63)).toInt64
theorem shy_0 (y : Int64) : shy y 0 = y := by
  have e : y.toUInt64 >>> ((nI 0).toInt64.toUInt64 &&& Int64.toUInt64 63) = y.toUInt64 := UInt64.toNat_inj.mp (by rw [UInt64.toNat_shiftRight, sh64 0 (by decide), Nat.shiftRight_zero])
  exact (congrArg UInt64.toInt64 e).trans rfl
theorem shy_s (y : Int64) {k : Nat} (h : k + 1 < 64) : ((shy y k).toUInt64 >>> ((nI 1).toInt64.toUInt64 &&& Int64.toUInt64 63)).toInt64 = shy y (k + 1) := by
  have e : (y.toUInt64 >>> ((nI k).toInt64.toUInt64 &&& Int64.toUInt64 63)) >>> ((nI 1).toInt64.toUInt64 &&& Int64.toUInt64 63) = y.toUInt64 >>> ((nI (k + 1)).toInt64.toUInt64 &&& Int64.toUInt64 63) := UInt64.toNat_inj.mp (by
    rw [UInt64.toNat_shiftRight, UInt64.toNat_shiftRight, UInt64.toNat_shiftRight, sh64 1 (by decide), sh64 k (by omega), sh64 (k + 1) h, Nat.shiftRight_add])
  exact congrArg UInt64.toInt64 e
theorem lg_bit (y : Int64) : (lg_cmp (y &&& 1) 0 = 0 ∧ ¬ lg_cmp (y &&& 1) 1 = 0) ∨ (¬ lg_cmp (y &&& 1) 0 = 0 ∧ lg_cmp (y &&& 1) 1 = 0) := by
  rw [lg_cmp_eq, lg_cmp_eq]
  have e : (y &&& 1).toBitVec.toNat = y.toBitVec.toNat % 2 := by
    rw [Int64.toBitVec_and, BitVec.toNat_and]
    exact Nat.and_one_is_mod _
  have z : (0 : Int64) ≠ 1 := by decide
  rcases Nat.mod_two_eq_zero_or_one y.toBitVec.toNat with h | h
  · have g : y &&& 1 = 0 := Int64.toBitVec_inj.mp (BitVec.eq_of_toNat_eq (e.trans h))
    rw [g]
    exact Or.inl ⟨rfl, z⟩
  · have g : y &&& 1 = 1 := Int64.toBitVec_inj.mp (BitVec.eq_of_toNat_eq (e.trans h))
    rw [g]
    exact Or.inr ⟨Ne.symm z, rfl⟩
def blP (pf i fl : Nat) (x : Int32) (s : Sto) : Sto := sI (sI s pf i (s.1 pf fl)) pf fl x
def sgC (y : Int64) : Int32 := if lg_cmp (y &&& 1) 0 = 0 then nI 1 else nI 8380416
def sgR (y : Int64) (a : Nat) : Int32 := if lg_cmp (((y.toUInt64 >>> ((nI a - nI 256).toInt64.toUInt64 &&& Int64.toUInt64 63)).toInt64) &&& 1) 1 = 0 then -1 else nI 1
theorem sg_same (y : Int64) {a k : Nat} (h : a = k + 256) : (sgC (shy y k) = nI 1 ∧ sgR y a = nI 1) ∨ (sgC (shy y k) = nI 8380416 ∧ sgR y a = -1) := by
  have e : nI a - nI 256 = nI k := by rw [pk_sub (by omega), h, Nat.add_sub_cancel]
  unfold sgC sgR
  rw [e]
  show ((if lg_cmp (shy y k &&& 1) 0 = 0 then nI 1 else nI 8380416) = nI 1 ∧ (if lg_cmp (shy y k &&& 1) 1 = 0 then -1 else nI 1) = nI 1) ∨ ((if lg_cmp (shy y k &&& 1) 0 = 0 then nI 1 else nI 8380416) = nI 8380416 ∧ (if lg_cmp (shy y k &&& 1) 1 = 0 then -1 else nI 1) = -1)
  rcases lg_bit (shy y k) with ⟨h1, h2⟩ | ⟨h1, h2⟩
  · exact Or.inl ⟨if_pos h1, if_neg h2⟩
  · exact Or.inr ⟨if_neg h1, if_pos h2⟩
/-- the challenge's numbers: 0, 1, and minus 1 in both sides' words -/
def tern (r r' : Nat → Int32) : Prop := ∀ k, k < 256 → (r k = nI 0 ∧ r' k = nI 0) ∨ (r k = nI 1 ∧ r' k = nI 1) ∨ (r k = nI 8380416 ∧ r' k = -1)
theorem blP_row {pf i fl : Nat} {x : Int32} {s : Sto} : (blP pf i fl x s).1 pf = upd (upd (s.1 pf) i (s.1 pf fl)) fl x := by
  unfold blP
  rw [sI_row, sI_row]
theorem tern_s {i fl : Nat} {x x' : Int32} {r r' : Nat → Int32} (h : tern r r') (hfl : fl < 256) (hx : (x = nI 1 ∧ x' = nI 1) ∨ (x = nI 8380416 ∧ x' = -1)) : tern (upd (upd r i (r fl)) fl x) (upd (upd r' i (r' fl)) fl x') := fun k hk => by
  by_cases q : k = fl
  · subst q
    rw [upd_s, upd_s]
    exact Or.inr hx
  · rw [upd_n q, upd_n q]
    by_cases w : k = i
    · subst w
      rw [upd_s, upd_s]
      exact h fl hfl
    · rw [upd_n w, upd_n w]
      exact h k hk
theorem spA_o {pv qv rt pf : Nat} {st : Sp} {sf : Int32} {s s1 : Sto} (hne : pf ≠ pv) (o : onl pf s s1) (h : spA pv qv st rt sf s) : spA pv qv st rt sf s1 := by
  have w : s1.1 pv = s.1 pv := o.1 pv (Ne.symm hne)
  exact ⟨by rw [o.2]; exact h.1, by rw [w]; exact h.2.1, by rw [w]; exact h.2.2.1, by rw [w]; exact h.2.2.2⟩
theorem spM_o {rt pf : Nat} {st : Sp} {sf : Int32} {s s1 : Sto} (hne : pf ≠ 172) (o : onl pf s s1) (h : spM st rt sf s) : spM st rt sf s1 := by
  have w : s1.1 172 = s.1 172 := o.1 172 (Ne.symm hne)
  exact ⟨by rw [o.2]; exact h.1, by rw [w]; exact h.2.1, by rw [w]; exact h.2.2.1, by rw [w]; exact h.2.2.2⟩
theorem s2o {pv qv pf : Nat} {s s1 : Sto} (o : onl pf s s1) : same2 pv qv pf s s1 := ⟨fun k _ u => o.1 k u, fun k _ => by rw [o.2]⟩
theorem blP_s2 {pv qv pf i fl : Nat} {x : Int32} {s0 s : Sto} (h : same2 pv qv pf s0 s) : same2 pv qv pf s0 (blP pf i fl x s) := same2_I (same2_I h)
theorem bI0 {pf i rt : Nat} {y y0 : Int64} {sf : Int32} {kk : Nat → Int64 → Sto → Sto} {kk' : Nat → Sto → Sto} {ke : Nat → Sto → Prop} (h0 : 0 < rt) (hr : rt < 200) : ∀ (n c fl : Nat) (st st' : Sp) (s t : Sto), nxS rt st = nxS rt st' → spA 18 19 st rt sf s → spM st' rt sf t → st.2 ≤ rt → st'.2 ≤ rt → E_MH_ball_0_L3 y0 i ke n fl t →
    ∃ (fl1 : Nat) (s1 t1 : Sto) (st1 st1' : Sp), fl1 ≤ i ∧ F_SA_sampleBall_0_L2 pf i y kk n c fl s = kk (i + 1) ((y.toUInt64 >>> ((nI 1).toInt64.toUInt64 &&& Int64.toUInt64 63)).toInt64) (blP pf i fl1 (sgC y) s1) ∧ F_MH_ball_0_L3 y0 i kk' n fl t = kk' (i + 1) (blP 368 i fl1 (sgR y0 (i + 39)) t1) ∧ ke (i + 1) (blP 368 i fl1 (sgR y0 (i + 39)) t1) ∧ nxS rt st1 = nxS rt st1' ∧ spA 18 19 st1 rt sf s1 ∧ spM st1' rt sf t1 ∧ st1.2 ≤ rt ∧ st1'.2 ≤ rt ∧ same 18 19 s s1 ∧ same 172 173 t t1
  | 0, c, fl, st, st', s, t, hn, hA, hM, p, p', hE => by
    have hE2 : E_MH_ball_0_L3 y0 i ke 0 fl t = (fl ≤ i ∧ ke (i + 1) (blP 368 i fl (sgR y0 (i + 39)) t)) := by
      rw [E_MH_ball_0_L3]
      repeat rw [bnd_eq]
      unfold blP sgR
      by_cases d : lg_cmp (((y0.toUInt64 >>> ((nI (i + 39) - nI 256).toInt64.toUInt64 &&& Int64.toUInt64 63)).toInt64) &&& 1) 1 = 0
      · simp only [if_pos d]
      · simp only [if_neg d]
    have hV : F_MH_ball_0_L3 y0 i kk' 0 fl t = kk' (i + 1) (blP 368 i fl (sgR y0 (i + 39)) t) := by
      rw [F_MH_ball_0_L3]
      repeat rw [bnd_eq]
      unfold blP sgR
      by_cases d : lg_cmp (((y0.toUInt64 >>> ((nI (i + 39) - nI 256).toInt64.toUInt64 &&& Int64.toUInt64 63)).toInt64) &&& 1) 1 = 0
      · simp only [if_pos d]
      · simp only [if_neg d]
    rw [hE2] at hE
    have hU : F_SA_sampleBall_0_L2 pf i y kk 0 c fl s = kk (i + 1) ((y.toUInt64 >>> ((nI 1).toInt64.toUInt64 &&& Int64.toUInt64 63)).toInt64) (blP pf i fl (sgC y) s) := by
      rw [F_SA_sampleBall_0_L2, if_pos hE.1]
      repeat rw [bnd_eq]
      unfold blP sgC
      by_cases d : lg_cmp (y &&& 1) 0 = 0
      · simp only [if_pos d]
      · simp only [if_neg d]
    exact ⟨fl, s, t, st, st', hE.1, hU, hV, hE.2, hn, hA, hM, p, p', same.rf, same.rf⟩
  | n + 1, c, fl, st, st', s, t, hn, hA, hM, p, p', hE => by
    by_cases q : fl ≤ i
    · have hE2 : E_MH_ball_0_L3 y0 i ke (n + 1) fl t = ke (i + 1) (blP 368 i fl (sgR y0 (i + 39)) t) := by
        rw [E_MH_ball_0_L3, if_pos q]
        repeat rw [bnd_eq]
        unfold blP sgR
        by_cases d : lg_cmp (((y0.toUInt64 >>> ((nI (i + 39) - nI 256).toInt64.toUInt64 &&& Int64.toUInt64 63)).toInt64) &&& 1) 1 = 0
        · simp only [if_pos d]
        · simp only [if_neg d]
      have hV : F_MH_ball_0_L3 y0 i kk' (n + 1) fl t = kk' (i + 1) (blP 368 i fl (sgR y0 (i + 39)) t) := by
        rw [F_MH_ball_0_L3, if_pos q]
        repeat rw [bnd_eq]
        unfold blP sgR
        by_cases d : lg_cmp (((y0.toUInt64 >>> ((nI (i + 39) - nI 256).toInt64.toUInt64 &&& Int64.toUInt64 63)).toInt64) &&& 1) 1 = 0
        · simp only [if_pos d]
        · simp only [if_neg d]
      rw [hE2] at hE
      have hU : F_SA_sampleBall_0_L2 pf i y kk (n + 1) c fl s = kk (i + 1) ((y.toUInt64 >>> ((nI 1).toInt64.toUInt64 &&& Int64.toUInt64 63)).toInt64) (blP pf i fl (sgC y) s) := by
        rw [F_SA_sampleBall_0_L2, if_pos q]
        repeat rw [bnd_eq]
        unfold blP sgC
        by_cases d : lg_cmp (y &&& 1) 0 = 0
        · simp only [if_pos d]
        · simp only [if_neg d]
      exact ⟨fl, s, t, st, st', q, hU, hV, hE, hn, hA, hM, p, p', same.rf, same.rf⟩
    · obtain ⟨a1, b1, c1⟩ := P_nextByte hA h0 hr p
      have p1 := nxS_le h0 p
      obtain ⟨a2, b2, c2⟩ := Q_next hM h0 hr p'
      have p2 := nxS_le h0 p'
      have e1 : (F_SP_nextByte 18 19 s).1.toNatClampNeg = bt (nxS rt st) := congrArg Int32.toNatClampNeg a1
      have e2 : (F_MS_next t).1.toNatClampNeg = bt (nxS rt st') := congrArg Int32.toNatClampNeg a2
      rw [← hn] at e2
      have hU : F_SA_sampleBall_0_L2 pf i y kk (n + 1) c fl s = F_SA_sampleBall_0_L2 pf i y kk n (c + 1) (bt (nxS rt st)) (F_SP_nextByte 18 19 s).2 := by
        rw [F_SA_sampleBall_0_L2, if_neg q]
        repeat rw [bnd_eq]
        rw [e1]
      have hV : F_MH_ball_0_L3 y0 i kk' (n + 1) fl t = F_MH_ball_0_L3 y0 i kk' n (bt (nxS rt st)) (F_MS_next t).2 := by
        rw [F_MH_ball_0_L3, if_neg q]
        repeat rw [bnd_eq]
        rw [e2]
      have hW : E_MH_ball_0_L3 y0 i ke (n + 1) fl t = E_MH_ball_0_L3 y0 i ke n (bt (nxS rt st)) (F_MS_next t).2 := by
        rw [E_MH_ball_0_L3, if_neg q]
        repeat rw [bnd_eq]
        rw [e2]
      rw [hW] at hE
      generalize (F_SP_nextByte 18 19 s).2 = s1 at b1 c1 hU
      generalize (F_MS_next t).2 = t1 at b2 c2 hV hE
      obtain ⟨fl1, s2, t2, st1, st1', r0, r1, r2, r3, r4, r5, r6, r7, r8, r9, r10⟩ := bI0 (pf := pf) (y := y) (kk := kk) (kk' := kk') h0 hr n (c + 1) (bt (nxS rt st)) _ _ s1 t1 (congrArg (nxS rt) hn) b1 b2 p1 p2 hE
      exact ⟨fl1, s2, t2, st1, st1', r0, hU.trans r1, hV.trans r2, r3, r4, r5, r6, r7, r8, c1.tr r9, c2.tr r10⟩
theorem bM0 {pf rt : Nat} {y0 : Int64} {sf : Int32} (h0 : 0 < rt) (hr : rt < 200) (hpf : pf ≠ 18) : ∀ (m i : Nat) (st st' : Sp) (s t : Sto), i + m = 256 → 217 ≤ i → nxS rt st = nxS rt st' → spA 18 19 st rt sf s → spM st' rt sf t → st.2 ≤ rt → st'.2 ≤ rt → E_MH_ball_0_L2 y0 m i t → tern (s.1 pf) (t.1 368) →
    same2 18 19 pf s (F_SA_sampleBall_0_L1 pf m i (shy y0 (i - 217)) s) ∧ same2 172 173 368 t (F_MH_ball_0_L2 y0 m i t) ∧ tern ((F_SA_sampleBall_0_L1 pf m i (shy y0 (i - 217)) s).1 pf) ((F_MH_ball_0_L2 y0 m i t).1 368)
  | 0, i, st, st', s, t, _, _, _, _, _, _, _, _, h => by
    rw [F_SA_sampleBall_0_L1, F_MH_ball_0_L2]
    exact ⟨s2rf, s2rf, h⟩
  | m + 1, i, st, st', s, t, hi, hF, hn, hA, hM, p, p', hE, h => by
    obtain ⟨a1, b1, c1⟩ := P_nextByte hA h0 hr p
    have p1 := nxS_le h0 p
    obtain ⟨a2, b2, c2⟩ := Q_next hM h0 hr p'
    have p2 := nxS_le h0 p'
    have e1 : (F_SP_nextByte 18 19 s).1.toNatClampNeg = bt (nxS rt st) := congrArg Int32.toNatClampNeg a1
    have e2 : (F_MS_next t).1.toNatClampNeg = bt (nxS rt st') := congrArg Int32.toNatClampNeg a2
    rw [← hn] at e2
    have hU : F_SA_sampleBall_0_L1 pf (m + 1) i (shy y0 (i - 217)) s = F_SA_sampleBall_0_L2 pf i (shy y0 (i - 217)) (F_SA_sampleBall_0_L1 pf m) fuelM 0 (bt (nxS rt st)) (F_SP_nextByte 18 19 s).2 := by
      rw [F_SA_sampleBall_0_L1, fuelM_eq]
      repeat rw [bnd_eq]
      rw [e1]
    have hV : F_MH_ball_0_L2 y0 (m + 1) i t = F_MH_ball_0_L3 y0 i (F_MH_ball_0_L2 y0 m) fuelM (bt (nxS rt st)) (F_MS_next t).2 := by
      rw [F_MH_ball_0_L2]
      repeat rw [bnd_eq]
      rw [e2]
    rw [E_MH_ball_0_L2] at hE
    repeat rw [bnd_eq] at hE
    rw [e2] at hE
    generalize (F_SP_nextByte 18 19 s).2 = s1 at b1 c1 hU
    generalize (F_MS_next t).2 = t1 at b2 c2 hV hE
    obtain ⟨fl, s2, t2, st1, st1', r0, r1, r2, r3, r4, r5, r6, r7, r8, r9, r10⟩ := bI0 (pf := pf) (y := shy y0 (i - 217)) (kk := F_SA_sampleBall_0_L1 pf m) (kk' := F_MH_ball_0_L2 y0 m) (ke := E_MH_ball_0_L2 y0 m) h0 hr fuelM 0 (bt (nxS rt st)) _ _ s1 t1 (congrArg (nxS rt) hn) b1 b2 p1 p2 hE
    rw [shy_s y0 (k := i - 217) (by omega), show i - 217 + 1 = i + 1 - 217 by omega] at r1
    have m1 := c1.tr r9
    have m2 := c2.tr r10
    have g : tern ((blP pf i fl (sgC (shy y0 (i - 217))) s2).1 pf) ((blP 368 i fl (sgR y0 (i + 39)) t2).1 368) := by
      rw [blP_row, blP_row, m1.1 pf hpf, m2.1 368 (by decide)]
      exact tern_s h (by omega) (sg_same y0 (by omega))
    have n1 : same2 18 19 pf s (blP pf i fl (sgC (shy y0 (i - 217))) s2) := blP_s2 (s2w m1)
    have n2 : same2 172 173 368 t (blP 368 i fl (sgR y0 (i + 39)) t2) := blP_s2 (s2w m2)
    have k1 : spA 18 19 st1 rt sf (blP pf i fl (sgC (shy y0 (i - 217))) s2) := spA_I hpf (spA_I hpf r5)
    have k2 : spM st1' rt sf (blP 368 i fl (sgR y0 (i + 39)) t2) := spM_I (by decide) (spM_I (by decide) r6)
    generalize blP pf i fl (sgC (shy y0 (i - 217))) s2 = s3 at r1 g n1 k1
    generalize blP 368 i fl (sgR y0 (i + 39)) t2 = t3 at r2 r3 g n2 k2
    obtain ⟨u1, u2, u3⟩ := bM0 h0 hr hpf m (i + 1) st1 st1' s3 t3 (by omega) (by omega) r4 k1 k2 r7 r8 r3 g
    rw [hU, r1, hV, r2]
    exact ⟨n1.tr u1, n2.tr u2, u3⟩
theorem bS0 {pf rt : Nat} {sf : Int32} (h0 : 0 < rt) (hr : rt < 200) : ∀ (m i : Nat) (y : Int64) (st st' : Sp) (s t : Sto), i + m = 8 → nxS rt st = nxS rt st' → spA 18 19 st rt sf s → spM st' rt sf t → st.2 ≤ rt → st'.2 ≤ rt →
    ∃ (y1 : Int64) (st1 st1' : Sp) (s1 t1 : Sto), F_SA_sampleBall_0_L0 pf m i y s = F_SA_sampleBall_0_L1 pf (256 - 217) 217 y1 (F_AR_fillI pf 256 (nI 0) s1) ∧ F_MH_ball_0_L0 m i y t = F_MH_ball_0_L1 y1 256 0 t1 ∧ E_MH_ball_0_L0 m i y t = E_MH_ball_0_L1 y1 256 0 t1 ∧ nxS rt st1 = nxS rt st1' ∧ spA 18 19 st1 rt sf s1 ∧ spM st1' rt sf t1 ∧ st1.2 ≤ rt ∧ st1'.2 ≤ rt ∧ same 18 19 s s1 ∧ same 172 173 t t1
  | 0, i, y, st, st', s, t, _, hn, hA, hM, p, p' => ⟨y, st, st', s, t, by rw [F_SA_sampleBall_0_L0, bnd_eq], by rw [F_MH_ball_0_L0], by rw [E_MH_ball_0_L0], hn, hA, hM, p, p', same.rf, same.rf⟩
  | m + 1, i, y, st, st', s, t, hi, hn, hA, hM, p, p' => by
    obtain ⟨a1, b1, c1⟩ := P_nextByte hA h0 hr p
    have p1 := nxS_le h0 p
    obtain ⟨a2, b2, c2⟩ := Q_next hM h0 hr p'
    have p2 := nxS_le h0 p'
    have e1 : (F_SP_nextByte 18 19 s).1.toNatClampNeg = bt (nxS rt st) := congrArg Int32.toNatClampNeg a1
    have e2 : (F_MS_next t).1.toNatClampNeg = bt (nxS rt st') := congrArg Int32.toNatClampNeg a2
    rw [← hn] at e2
    have hU : F_SA_sampleBall_0_L0 pf (m + 1) i y s = F_SA_sampleBall_0_L0 pf m (i + 1) (y ||| (((nI (bt (nxS rt st))).toInt64) <<< ((nI (8 * i)).toInt64 &&& 63))) (F_SP_nextByte 18 19 s).2 := by
      rw [F_SA_sampleBall_0_L0]
      repeat rw [bnd_eq]
      rw [e1]
    have hV : F_MH_ball_0_L0 (m + 1) i y t = F_MH_ball_0_L0 m (i + 1) (y ||| (((nI (bt (nxS rt st))).toInt64) <<< ((nI (8 * i)).toInt64 &&& 63))) (F_MS_next t).2 := by
      rw [F_MH_ball_0_L0]
      repeat rw [bnd_eq]
      rw [e2]
    have hW : E_MH_ball_0_L0 (m + 1) i y t = E_MH_ball_0_L0 m (i + 1) (y ||| (((nI (bt (nxS rt st))).toInt64) <<< ((nI (8 * i)).toInt64 &&& 63))) (F_MS_next t).2 := by
      rw [E_MH_ball_0_L0]
      repeat rw [bnd_eq]
      rw [e2]
    generalize y ||| (((nI (bt (nxS rt st))).toInt64) <<< ((nI (8 * i)).toInt64 &&& 63)) = y2 at hU hV hW
    generalize (F_SP_nextByte 18 19 s).2 = s1 at b1 c1 hU
    generalize (F_MS_next t).2 = t1 at b2 c2 hV hW
    obtain ⟨y1, st1, st1', s2, t2, r1, r2, r3, r4, r5, r6, r7, r8, r9, r10⟩ := bS0 (pf := pf) h0 hr m (i + 1) y2 _ _ s1 t1 (by omega) (congrArg (nxS rt) hn) b1 b2 p1 p2
    exact ⟨y1, st1, st1', s2, t2, hU.trans r1, hV.trans r2, hW.trans r3, r4, r5, r6, r7, r8, c1.tr r9, c2.tr r10⟩
set_option maxRecDepth 100000 in
/-- SampleInBall, set 0: where the reference's draws end in time, both challenges are the same polynomial -/
theorem ball0_same {pf pb n qb : Nat} {s t : Sto} (hpf : pf ≠ 18) (h1 : pb ≠ 18) (h2 : qb ≠ 172) (hb : ∀ x, x < 32 → s.1 pb x = t.1 qb x) (hE : E_MH_ball_0 qb t) : same2 18 19 pf s (F_SA_sampleBall_0 pf pb n s) ∧ same2 172 173 368 t (F_MH_ball_0 qb t) ∧ tern ((F_SA_sampleBall_0 pf pb n s).1 pf) ((F_MH_ball_0 qb t).1 368) := by
  have h0 : 0 < 136 := by decide
  have hr : 136 < 200 := by decide
  have hU : F_SA_sampleBall_0 pf pb n s = F_SA_sampleBall_0_L0 pf 8 0 0 (F_SP_finish 18 19 (F_SP_absorb 18 19 pb n 0 32 (F_SP_start_3 18 19 s))) := by
    rw [F_SA_sampleBall_0]
    repeat rw [bnd_eq]
  have hV : F_MH_ball_0 qb t = F_MH_ball_0_L0 8 0 0 (F_MS_end (F_MS_puts qb 64 0 32 (F_MS_begin 136 (nI 31) t))) := by
    rw [F_MH_ball_0]
    repeat rw [bnd_eq]
    rw [shM]
  rw [E_MH_ball_0] at hE
  repeat rw [bnd_eq] at hE
  rw [shM] at hE
  obtain ⟨a1, a2⟩ := P_start (pv := 18) (qv := 19) (rt := 136) (sf := nI 31) (s := s)
  rw [← sh3_3] at a1 a2
  obtain ⟨b1, b2⟩ := P_absorb (nb := n) (at_ := 0) (len := 32) a1 hr h0 h1
  obtain ⟨f1, f2⟩ := P_finish b1 h0 hr (abN_lt h0 32)
  obtain ⟨a1', a2'⟩ := Q_begin (rt := 136) (sf := nI 31) (s := t)
  obtain ⟨b1', b2'⟩ := Q_puts (nb := 64) (at_ := 0) (len := 32) a1' hr h0 h2
  obtain ⟨f1', f2'⟩ := Q_end b1' h0 hr (abN_lt h0 32)
  rw [a2.1 pb h1, abN_ab (b := s.1 pb) (c := t.1 qb) (at1 := 0) (at2 := 0) 32 (fun x hx => by rw [Nat.zero_add]; exact hb x hx)] at f1
  rw [a2'.1 qb h2] at f1'
  have m1 := (a2.tr b2).tr f2
  have m2 := (a2'.tr b2').tr f2'
  generalize F_SP_finish 18 19 (F_SP_absorb 18 19 pb n 0 32 (F_SP_start_3 18 19 s)) = s1 at f1 m1 hU
  generalize F_MS_end (F_MS_puts qb 64 0 32 (F_MS_begin 136 (nI 31) t)) = t1 at f1' m2 hV hE
  obtain ⟨y1, st1, st1', s2, t2, r1, r2, r3, r4, r5, r6, r7, r8, r9, r10⟩ := bS0 (pf := pf) h0 hr 8 0 0 _ _ s1 t1 (by decide) (nx_end h0 _) f1 f1' (Nat.le_refl _) (Nat.zero_le _)
  rw [r3] at hE
  obtain ⟨g1, g2⟩ := P_fill (pf := pf) (v := nI 0) (s := s2)
  generalize F_AR_fillI pf 256 (nI 0) s2 = s3 at g1 g2 r1
  obtain ⟨t3, w1, w2, w3, -⟩ := el_loopA (α := Sto × Prop) (pf := 368) (G := fun n i s => (F_MH_ball_0_L1 y1 n i s, E_MH_ball_0_L1 y1 n i s)) (K := fun s => (F_MH_ball_0_L2 y1 (256 - 217) 217 s, E_MH_ball_0_L2 y1 (256 - 217) 217 s)) (e := fun i s => nI 0) (fun i s => by
    show (F_MH_ball_0_L1 y1 0 i s, E_MH_ball_0_L1 y1 0 i s) = _
    rw [F_MH_ball_0_L1, E_MH_ball_0_L1]
    repeat rw [bnd_eq]) (fun n i s => by
    show (F_MH_ball_0_L1 y1 (n + 1) i s, E_MH_ball_0_L1 y1 (n + 1) i s) = _
    rw [F_MH_ball_0_L1, E_MH_ball_0_L1]
    repeat rw [bnd_eq]) (fun i s s' o h => rfl) 256 0 t2
  have w1' : (F_MH_ball_0_L1 y1 256 0 t2, E_MH_ball_0_L1 y1 256 0 t2) = (F_MH_ball_0_L2 y1 (256 - 217) 217 t3, E_MH_ball_0_L2 y1 (256 - 217) 217 t3) := w1
  obtain ⟨v1, v2⟩ := Prod.mk.inj w1'
  rw [v2] at hE
  obtain ⟨u1, u2, u3⟩ := bM0 (y0 := y1) h0 hr hpf (256 - 217) 217 st1 st1' s3 t3 (by decide) (Nat.le_refl _) r4 (spA_o hpf g1 r5) (spM_o (by decide) w2 r6) r7 r8 hE (fun k hk => Or.inl ⟨g2 k hk, w3 k (Nat.zero_le _) (by omega)⟩)
  rw [Nat.sub_self, shy_0] at u1 u3
  rw [hU, r1, hV, r2, v1]
  exact ⟨same2.tr (same2.tr (s2w (m1.tr r9)) (s2o g1)) u1, same2.tr (same2.tr (s2w (m2.tr r10)) (s2o w2)) u2, u3⟩
theorem bI1 {pf i rt : Nat} {y y0 : Int64} {sf : Int32} {kk : Nat → Int64 → Sto → Sto} {kk' : Nat → Sto → Sto} {ke : Nat → Sto → Prop} (h0 : 0 < rt) (hr : rt < 200) : ∀ (n c fl : Nat) (st st' : Sp) (s t : Sto), nxS rt st = nxS rt st' → spA 18 19 st rt sf s → spM st' rt sf t → st.2 ≤ rt → st'.2 ≤ rt → E_MH_ball_1_L3 y0 i ke n fl t →
    ∃ (fl1 : Nat) (s1 t1 : Sto) (st1 st1' : Sp), fl1 ≤ i ∧ F_SA_sampleBall_1_L2 pf i y kk n c fl s = kk (i + 1) ((y.toUInt64 >>> ((nI 1).toInt64.toUInt64 &&& Int64.toUInt64 63)).toInt64) (blP pf i fl1 (sgC y) s1) ∧ F_MH_ball_1_L3 y0 i kk' n fl t = kk' (i + 1) (blP 368 i fl1 (sgR y0 (i + 49)) t1) ∧ ke (i + 1) (blP 368 i fl1 (sgR y0 (i + 49)) t1) ∧ nxS rt st1 = nxS rt st1' ∧ spA 18 19 st1 rt sf s1 ∧ spM st1' rt sf t1 ∧ st1.2 ≤ rt ∧ st1'.2 ≤ rt ∧ same 18 19 s s1 ∧ same 172 173 t t1
  | 0, c, fl, st, st', s, t, hn, hA, hM, p, p', hE => by
    have hE2 : E_MH_ball_1_L3 y0 i ke 0 fl t = (fl ≤ i ∧ ke (i + 1) (blP 368 i fl (sgR y0 (i + 49)) t)) := by
      rw [E_MH_ball_1_L3]
      repeat rw [bnd_eq]
      unfold blP sgR
      by_cases d : lg_cmp (((y0.toUInt64 >>> ((nI (i + 49) - nI 256).toInt64.toUInt64 &&& Int64.toUInt64 63)).toInt64) &&& 1) 1 = 0
      · simp only [if_pos d]
      · simp only [if_neg d]
    have hV : F_MH_ball_1_L3 y0 i kk' 0 fl t = kk' (i + 1) (blP 368 i fl (sgR y0 (i + 49)) t) := by
      rw [F_MH_ball_1_L3]
      repeat rw [bnd_eq]
      unfold blP sgR
      by_cases d : lg_cmp (((y0.toUInt64 >>> ((nI (i + 49) - nI 256).toInt64.toUInt64 &&& Int64.toUInt64 63)).toInt64) &&& 1) 1 = 0
      · simp only [if_pos d]
      · simp only [if_neg d]
    rw [hE2] at hE
    have hU : F_SA_sampleBall_1_L2 pf i y kk 0 c fl s = kk (i + 1) ((y.toUInt64 >>> ((nI 1).toInt64.toUInt64 &&& Int64.toUInt64 63)).toInt64) (blP pf i fl (sgC y) s) := by
      rw [F_SA_sampleBall_1_L2, if_pos hE.1]
      repeat rw [bnd_eq]
      unfold blP sgC
      by_cases d : lg_cmp (y &&& 1) 0 = 0
      · simp only [if_pos d]
      · simp only [if_neg d]
    exact ⟨fl, s, t, st, st', hE.1, hU, hV, hE.2, hn, hA, hM, p, p', same.rf, same.rf⟩
  | n + 1, c, fl, st, st', s, t, hn, hA, hM, p, p', hE => by
    by_cases q : fl ≤ i
    · have hE2 : E_MH_ball_1_L3 y0 i ke (n + 1) fl t = ke (i + 1) (blP 368 i fl (sgR y0 (i + 49)) t) := by
        rw [E_MH_ball_1_L3, if_pos q]
        repeat rw [bnd_eq]
        unfold blP sgR
        by_cases d : lg_cmp (((y0.toUInt64 >>> ((nI (i + 49) - nI 256).toInt64.toUInt64 &&& Int64.toUInt64 63)).toInt64) &&& 1) 1 = 0
        · simp only [if_pos d]
        · simp only [if_neg d]
      have hV : F_MH_ball_1_L3 y0 i kk' (n + 1) fl t = kk' (i + 1) (blP 368 i fl (sgR y0 (i + 49)) t) := by
        rw [F_MH_ball_1_L3, if_pos q]
        repeat rw [bnd_eq]
        unfold blP sgR
        by_cases d : lg_cmp (((y0.toUInt64 >>> ((nI (i + 49) - nI 256).toInt64.toUInt64 &&& Int64.toUInt64 63)).toInt64) &&& 1) 1 = 0
        · simp only [if_pos d]
        · simp only [if_neg d]
      rw [hE2] at hE
      have hU : F_SA_sampleBall_1_L2 pf i y kk (n + 1) c fl s = kk (i + 1) ((y.toUInt64 >>> ((nI 1).toInt64.toUInt64 &&& Int64.toUInt64 63)).toInt64) (blP pf i fl (sgC y) s) := by
        rw [F_SA_sampleBall_1_L2, if_pos q]
        repeat rw [bnd_eq]
        unfold blP sgC
        by_cases d : lg_cmp (y &&& 1) 0 = 0
        · simp only [if_pos d]
        · simp only [if_neg d]
      exact ⟨fl, s, t, st, st', q, hU, hV, hE, hn, hA, hM, p, p', same.rf, same.rf⟩
    · obtain ⟨a1, b1, c1⟩ := P_nextByte hA h0 hr p
      have p1 := nxS_le h0 p
      obtain ⟨a2, b2, c2⟩ := Q_next hM h0 hr p'
      have p2 := nxS_le h0 p'
      have e1 : (F_SP_nextByte 18 19 s).1.toNatClampNeg = bt (nxS rt st) := congrArg Int32.toNatClampNeg a1
      have e2 : (F_MS_next t).1.toNatClampNeg = bt (nxS rt st') := congrArg Int32.toNatClampNeg a2
      rw [← hn] at e2
      have hU : F_SA_sampleBall_1_L2 pf i y kk (n + 1) c fl s = F_SA_sampleBall_1_L2 pf i y kk n (c + 1) (bt (nxS rt st)) (F_SP_nextByte 18 19 s).2 := by
        rw [F_SA_sampleBall_1_L2, if_neg q]
        repeat rw [bnd_eq]
        rw [e1]
      have hV : F_MH_ball_1_L3 y0 i kk' (n + 1) fl t = F_MH_ball_1_L3 y0 i kk' n (bt (nxS rt st)) (F_MS_next t).2 := by
        rw [F_MH_ball_1_L3, if_neg q]
        repeat rw [bnd_eq]
        rw [e2]
      have hW : E_MH_ball_1_L3 y0 i ke (n + 1) fl t = E_MH_ball_1_L3 y0 i ke n (bt (nxS rt st)) (F_MS_next t).2 := by
        rw [E_MH_ball_1_L3, if_neg q]
        repeat rw [bnd_eq]
        rw [e2]
      rw [hW] at hE
      generalize (F_SP_nextByte 18 19 s).2 = s1 at b1 c1 hU
      generalize (F_MS_next t).2 = t1 at b2 c2 hV hE
      obtain ⟨fl1, s2, t2, st1, st1', r0, r1, r2, r3, r4, r5, r6, r7, r8, r9, r10⟩ := bI1 (pf := pf) (y := y) (kk := kk) (kk' := kk') h0 hr n (c + 1) (bt (nxS rt st)) _ _ s1 t1 (congrArg (nxS rt) hn) b1 b2 p1 p2 hE
      exact ⟨fl1, s2, t2, st1, st1', r0, hU.trans r1, hV.trans r2, r3, r4, r5, r6, r7, r8, c1.tr r9, c2.tr r10⟩
theorem bM1 {pf rt : Nat} {y0 : Int64} {sf : Int32} (h0 : 0 < rt) (hr : rt < 200) (hpf : pf ≠ 18) : ∀ (m i : Nat) (st st' : Sp) (s t : Sto), i + m = 256 → 207 ≤ i → nxS rt st = nxS rt st' → spA 18 19 st rt sf s → spM st' rt sf t → st.2 ≤ rt → st'.2 ≤ rt → E_MH_ball_1_L2 y0 m i t → tern (s.1 pf) (t.1 368) →
    same2 18 19 pf s (F_SA_sampleBall_1_L1 pf m i (shy y0 (i - 207)) s) ∧ same2 172 173 368 t (F_MH_ball_1_L2 y0 m i t) ∧ tern ((F_SA_sampleBall_1_L1 pf m i (shy y0 (i - 207)) s).1 pf) ((F_MH_ball_1_L2 y0 m i t).1 368)
  | 0, i, st, st', s, t, _, _, _, _, _, _, _, _, h => by
    rw [F_SA_sampleBall_1_L1, F_MH_ball_1_L2]
    exact ⟨s2rf, s2rf, h⟩
  | m + 1, i, st, st', s, t, hi, hF, hn, hA, hM, p, p', hE, h => by
    obtain ⟨a1, b1, c1⟩ := P_nextByte hA h0 hr p
    have p1 := nxS_le h0 p
    obtain ⟨a2, b2, c2⟩ := Q_next hM h0 hr p'
    have p2 := nxS_le h0 p'
    have e1 : (F_SP_nextByte 18 19 s).1.toNatClampNeg = bt (nxS rt st) := congrArg Int32.toNatClampNeg a1
    have e2 : (F_MS_next t).1.toNatClampNeg = bt (nxS rt st') := congrArg Int32.toNatClampNeg a2
    rw [← hn] at e2
    have hU : F_SA_sampleBall_1_L1 pf (m + 1) i (shy y0 (i - 207)) s = F_SA_sampleBall_1_L2 pf i (shy y0 (i - 207)) (F_SA_sampleBall_1_L1 pf m) fuelM 0 (bt (nxS rt st)) (F_SP_nextByte 18 19 s).2 := by
      rw [F_SA_sampleBall_1_L1, fuelM_eq]
      repeat rw [bnd_eq]
      rw [e1]
    have hV : F_MH_ball_1_L2 y0 (m + 1) i t = F_MH_ball_1_L3 y0 i (F_MH_ball_1_L2 y0 m) fuelM (bt (nxS rt st)) (F_MS_next t).2 := by
      rw [F_MH_ball_1_L2]
      repeat rw [bnd_eq]
      rw [e2]
    rw [E_MH_ball_1_L2] at hE
    repeat rw [bnd_eq] at hE
    rw [e2] at hE
    generalize (F_SP_nextByte 18 19 s).2 = s1 at b1 c1 hU
    generalize (F_MS_next t).2 = t1 at b2 c2 hV hE
    obtain ⟨fl, s2, t2, st1, st1', r0, r1, r2, r3, r4, r5, r6, r7, r8, r9, r10⟩ := bI1 (pf := pf) (y := shy y0 (i - 207)) (kk := F_SA_sampleBall_1_L1 pf m) (kk' := F_MH_ball_1_L2 y0 m) (ke := E_MH_ball_1_L2 y0 m) h0 hr fuelM 0 (bt (nxS rt st)) _ _ s1 t1 (congrArg (nxS rt) hn) b1 b2 p1 p2 hE
    rw [shy_s y0 (k := i - 207) (by omega), show i - 207 + 1 = i + 1 - 207 by omega] at r1
    have m1 := c1.tr r9
    have m2 := c2.tr r10
    have g : tern ((blP pf i fl (sgC (shy y0 (i - 207))) s2).1 pf) ((blP 368 i fl (sgR y0 (i + 49)) t2).1 368) := by
      rw [blP_row, blP_row, m1.1 pf hpf, m2.1 368 (by decide)]
      exact tern_s h (by omega) (sg_same y0 (by omega))
    have n1 : same2 18 19 pf s (blP pf i fl (sgC (shy y0 (i - 207))) s2) := blP_s2 (s2w m1)
    have n2 : same2 172 173 368 t (blP 368 i fl (sgR y0 (i + 49)) t2) := blP_s2 (s2w m2)
    have k1 : spA 18 19 st1 rt sf (blP pf i fl (sgC (shy y0 (i - 207))) s2) := spA_I hpf (spA_I hpf r5)
    have k2 : spM st1' rt sf (blP 368 i fl (sgR y0 (i + 49)) t2) := spM_I (by decide) (spM_I (by decide) r6)
    generalize blP pf i fl (sgC (shy y0 (i - 207))) s2 = s3 at r1 g n1 k1
    generalize blP 368 i fl (sgR y0 (i + 49)) t2 = t3 at r2 r3 g n2 k2
    obtain ⟨u1, u2, u3⟩ := bM1 h0 hr hpf m (i + 1) st1 st1' s3 t3 (by omega) (by omega) r4 k1 k2 r7 r8 r3 g
    rw [hU, r1, hV, r2]
    exact ⟨n1.tr u1, n2.tr u2, u3⟩
theorem bS1 {pf rt : Nat} {sf : Int32} (h0 : 0 < rt) (hr : rt < 200) : ∀ (m i : Nat) (y : Int64) (st st' : Sp) (s t : Sto), i + m = 8 → nxS rt st = nxS rt st' → spA 18 19 st rt sf s → spM st' rt sf t → st.2 ≤ rt → st'.2 ≤ rt →
    ∃ (y1 : Int64) (st1 st1' : Sp) (s1 t1 : Sto), F_SA_sampleBall_1_L0 pf m i y s = F_SA_sampleBall_1_L1 pf (256 - 207) 207 y1 (F_AR_fillI pf 256 (nI 0) s1) ∧ F_MH_ball_1_L0 m i y t = F_MH_ball_1_L1 y1 256 0 t1 ∧ E_MH_ball_1_L0 m i y t = E_MH_ball_1_L1 y1 256 0 t1 ∧ nxS rt st1 = nxS rt st1' ∧ spA 18 19 st1 rt sf s1 ∧ spM st1' rt sf t1 ∧ st1.2 ≤ rt ∧ st1'.2 ≤ rt ∧ same 18 19 s s1 ∧ same 172 173 t t1
  | 0, i, y, st, st', s, t, _, hn, hA, hM, p, p' => ⟨y, st, st', s, t, by rw [F_SA_sampleBall_1_L0, bnd_eq], by rw [F_MH_ball_1_L0], by rw [E_MH_ball_1_L0], hn, hA, hM, p, p', same.rf, same.rf⟩
  | m + 1, i, y, st, st', s, t, hi, hn, hA, hM, p, p' => by
    obtain ⟨a1, b1, c1⟩ := P_nextByte hA h0 hr p
    have p1 := nxS_le h0 p
    obtain ⟨a2, b2, c2⟩ := Q_next hM h0 hr p'
    have p2 := nxS_le h0 p'
    have e1 : (F_SP_nextByte 18 19 s).1.toNatClampNeg = bt (nxS rt st) := congrArg Int32.toNatClampNeg a1
    have e2 : (F_MS_next t).1.toNatClampNeg = bt (nxS rt st') := congrArg Int32.toNatClampNeg a2
    rw [← hn] at e2
    have hU : F_SA_sampleBall_1_L0 pf (m + 1) i y s = F_SA_sampleBall_1_L0 pf m (i + 1) (y ||| (((nI (bt (nxS rt st))).toInt64) <<< ((nI (8 * i)).toInt64 &&& 63))) (F_SP_nextByte 18 19 s).2 := by
      rw [F_SA_sampleBall_1_L0]
      repeat rw [bnd_eq]
      rw [e1]
    have hV : F_MH_ball_1_L0 (m + 1) i y t = F_MH_ball_1_L0 m (i + 1) (y ||| (((nI (bt (nxS rt st))).toInt64) <<< ((nI (8 * i)).toInt64 &&& 63))) (F_MS_next t).2 := by
      rw [F_MH_ball_1_L0]
      repeat rw [bnd_eq]
      rw [e2]
    have hW : E_MH_ball_1_L0 (m + 1) i y t = E_MH_ball_1_L0 m (i + 1) (y ||| (((nI (bt (nxS rt st))).toInt64) <<< ((nI (8 * i)).toInt64 &&& 63))) (F_MS_next t).2 := by
      rw [E_MH_ball_1_L0]
      repeat rw [bnd_eq]
      rw [e2]
    generalize y ||| (((nI (bt (nxS rt st))).toInt64) <<< ((nI (8 * i)).toInt64 &&& 63)) = y2 at hU hV hW
    generalize (F_SP_nextByte 18 19 s).2 = s1 at b1 c1 hU
    generalize (F_MS_next t).2 = t1 at b2 c2 hV hW
    obtain ⟨y1, st1, st1', s2, t2, r1, r2, r3, r4, r5, r6, r7, r8, r9, r10⟩ := bS1 (pf := pf) h0 hr m (i + 1) y2 _ _ s1 t1 (by omega) (congrArg (nxS rt) hn) b1 b2 p1 p2
    exact ⟨y1, st1, st1', s2, t2, hU.trans r1, hV.trans r2, hW.trans r3, r4, r5, r6, r7, r8, c1.tr r9, c2.tr r10⟩
set_option maxRecDepth 100000 in
/-- SampleInBall, set 1: where the reference's draws end in time, both challenges are the same polynomial -/
theorem ball1_same {pf pb n qb : Nat} {s t : Sto} (hpf : pf ≠ 18) (h1 : pb ≠ 18) (h2 : qb ≠ 172) (hb : ∀ x, x < 48 → s.1 pb x = t.1 qb x) (hE : E_MH_ball_1 qb t) : same2 18 19 pf s (F_SA_sampleBall_1 pf pb n s) ∧ same2 172 173 368 t (F_MH_ball_1 qb t) ∧ tern ((F_SA_sampleBall_1 pf pb n s).1 pf) ((F_MH_ball_1 qb t).1 368) := by
  have h0 : 0 < 136 := by decide
  have hr : 136 < 200 := by decide
  have hU : F_SA_sampleBall_1 pf pb n s = F_SA_sampleBall_1_L0 pf 8 0 0 (F_SP_finish 18 19 (F_SP_absorb 18 19 pb n 0 48 (F_SP_start_3 18 19 s))) := by
    rw [F_SA_sampleBall_1]
    repeat rw [bnd_eq]
  have hV : F_MH_ball_1 qb t = F_MH_ball_1_L0 8 0 0 (F_MS_end (F_MS_puts qb 64 0 48 (F_MS_begin 136 (nI 31) t))) := by
    rw [F_MH_ball_1]
    repeat rw [bnd_eq]
    rw [shM]
  rw [E_MH_ball_1] at hE
  repeat rw [bnd_eq] at hE
  rw [shM] at hE
  obtain ⟨a1, a2⟩ := P_start (pv := 18) (qv := 19) (rt := 136) (sf := nI 31) (s := s)
  rw [← sh3_3] at a1 a2
  obtain ⟨b1, b2⟩ := P_absorb (nb := n) (at_ := 0) (len := 48) a1 hr h0 h1
  obtain ⟨f1, f2⟩ := P_finish b1 h0 hr (abN_lt h0 48)
  obtain ⟨a1', a2'⟩ := Q_begin (rt := 136) (sf := nI 31) (s := t)
  obtain ⟨b1', b2'⟩ := Q_puts (nb := 64) (at_ := 0) (len := 48) a1' hr h0 h2
  obtain ⟨f1', f2'⟩ := Q_end b1' h0 hr (abN_lt h0 48)
  rw [a2.1 pb h1, abN_ab (b := s.1 pb) (c := t.1 qb) (at1 := 0) (at2 := 0) 48 (fun x hx => by rw [Nat.zero_add]; exact hb x hx)] at f1
  rw [a2'.1 qb h2] at f1'
  have m1 := (a2.tr b2).tr f2
  have m2 := (a2'.tr b2').tr f2'
  generalize F_SP_finish 18 19 (F_SP_absorb 18 19 pb n 0 48 (F_SP_start_3 18 19 s)) = s1 at f1 m1 hU
  generalize F_MS_end (F_MS_puts qb 64 0 48 (F_MS_begin 136 (nI 31) t)) = t1 at f1' m2 hV hE
  obtain ⟨y1, st1, st1', s2, t2, r1, r2, r3, r4, r5, r6, r7, r8, r9, r10⟩ := bS1 (pf := pf) h0 hr 8 0 0 _ _ s1 t1 (by decide) (nx_end h0 _) f1 f1' (Nat.le_refl _) (Nat.zero_le _)
  rw [r3] at hE
  obtain ⟨g1, g2⟩ := P_fill (pf := pf) (v := nI 0) (s := s2)
  generalize F_AR_fillI pf 256 (nI 0) s2 = s3 at g1 g2 r1
  obtain ⟨t3, w1, w2, w3, -⟩ := el_loopA (α := Sto × Prop) (pf := 368) (G := fun n i s => (F_MH_ball_1_L1 y1 n i s, E_MH_ball_1_L1 y1 n i s)) (K := fun s => (F_MH_ball_1_L2 y1 (256 - 207) 207 s, E_MH_ball_1_L2 y1 (256 - 207) 207 s)) (e := fun i s => nI 0) (fun i s => by
    show (F_MH_ball_1_L1 y1 0 i s, E_MH_ball_1_L1 y1 0 i s) = _
    rw [F_MH_ball_1_L1, E_MH_ball_1_L1]
    repeat rw [bnd_eq]) (fun n i s => by
    show (F_MH_ball_1_L1 y1 (n + 1) i s, E_MH_ball_1_L1 y1 (n + 1) i s) = _
    rw [F_MH_ball_1_L1, E_MH_ball_1_L1]
    repeat rw [bnd_eq]) (fun i s s' o h => rfl) 256 0 t2
  have w1' : (F_MH_ball_1_L1 y1 256 0 t2, E_MH_ball_1_L1 y1 256 0 t2) = (F_MH_ball_1_L2 y1 (256 - 207) 207 t3, E_MH_ball_1_L2 y1 (256 - 207) 207 t3) := w1
  obtain ⟨v1, v2⟩ := Prod.mk.inj w1'
  rw [v2] at hE
  obtain ⟨u1, u2, u3⟩ := bM1 (y0 := y1) h0 hr hpf (256 - 207) 207 st1 st1' s3 t3 (by decide) (Nat.le_refl _) r4 (spA_o hpf g1 r5) (spM_o (by decide) w2 r6) r7 r8 hE (fun k hk => Or.inl ⟨g2 k hk, w3 k (Nat.zero_le _) (by omega)⟩)
  rw [Nat.sub_self, shy_0] at u1 u3
  rw [hU, r1, hV, r2, v1]
  exact ⟨same2.tr (same2.tr (s2w (m1.tr r9)) (s2o g1)) u1, same2.tr (same2.tr (s2w (m2.tr r10)) (s2o w2)) u2, u3⟩
theorem bI2 {pf i rt : Nat} {y y0 : Int64} {sf : Int32} {kk : Nat → Int64 → Sto → Sto} {kk' : Nat → Sto → Sto} {ke : Nat → Sto → Prop} (h0 : 0 < rt) (hr : rt < 200) : ∀ (n c fl : Nat) (st st' : Sp) (s t : Sto), nxS rt st = nxS rt st' → spA 18 19 st rt sf s → spM st' rt sf t → st.2 ≤ rt → st'.2 ≤ rt → E_MH_ball_2_L3 y0 i ke n fl t →
    ∃ (fl1 : Nat) (s1 t1 : Sto) (st1 st1' : Sp), fl1 ≤ i ∧ F_SA_sampleBall_2_L2 pf i y kk n c fl s = kk (i + 1) ((y.toUInt64 >>> ((nI 1).toInt64.toUInt64 &&& Int64.toUInt64 63)).toInt64) (blP pf i fl1 (sgC y) s1) ∧ F_MH_ball_2_L3 y0 i kk' n fl t = kk' (i + 1) (blP 368 i fl1 (sgR y0 (i + 60)) t1) ∧ ke (i + 1) (blP 368 i fl1 (sgR y0 (i + 60)) t1) ∧ nxS rt st1 = nxS rt st1' ∧ spA 18 19 st1 rt sf s1 ∧ spM st1' rt sf t1 ∧ st1.2 ≤ rt ∧ st1'.2 ≤ rt ∧ same 18 19 s s1 ∧ same 172 173 t t1
  | 0, c, fl, st, st', s, t, hn, hA, hM, p, p', hE => by
    have hE2 : E_MH_ball_2_L3 y0 i ke 0 fl t = (fl ≤ i ∧ ke (i + 1) (blP 368 i fl (sgR y0 (i + 60)) t)) := by
      rw [E_MH_ball_2_L3]
      repeat rw [bnd_eq]
      unfold blP sgR
      by_cases d : lg_cmp (((y0.toUInt64 >>> ((nI (i + 60) - nI 256).toInt64.toUInt64 &&& Int64.toUInt64 63)).toInt64) &&& 1) 1 = 0
      · simp only [if_pos d]
      · simp only [if_neg d]
    have hV : F_MH_ball_2_L3 y0 i kk' 0 fl t = kk' (i + 1) (blP 368 i fl (sgR y0 (i + 60)) t) := by
      rw [F_MH_ball_2_L3]
      repeat rw [bnd_eq]
      unfold blP sgR
      by_cases d : lg_cmp (((y0.toUInt64 >>> ((nI (i + 60) - nI 256).toInt64.toUInt64 &&& Int64.toUInt64 63)).toInt64) &&& 1) 1 = 0
      · simp only [if_pos d]
      · simp only [if_neg d]
    rw [hE2] at hE
    have hU : F_SA_sampleBall_2_L2 pf i y kk 0 c fl s = kk (i + 1) ((y.toUInt64 >>> ((nI 1).toInt64.toUInt64 &&& Int64.toUInt64 63)).toInt64) (blP pf i fl (sgC y) s) := by
      rw [F_SA_sampleBall_2_L2, if_pos hE.1]
      repeat rw [bnd_eq]
      unfold blP sgC
      by_cases d : lg_cmp (y &&& 1) 0 = 0
      · simp only [if_pos d]
      · simp only [if_neg d]
    exact ⟨fl, s, t, st, st', hE.1, hU, hV, hE.2, hn, hA, hM, p, p', same.rf, same.rf⟩
  | n + 1, c, fl, st, st', s, t, hn, hA, hM, p, p', hE => by
    by_cases q : fl ≤ i
    · have hE2 : E_MH_ball_2_L3 y0 i ke (n + 1) fl t = ke (i + 1) (blP 368 i fl (sgR y0 (i + 60)) t) := by
        rw [E_MH_ball_2_L3, if_pos q]
        repeat rw [bnd_eq]
        unfold blP sgR
        by_cases d : lg_cmp (((y0.toUInt64 >>> ((nI (i + 60) - nI 256).toInt64.toUInt64 &&& Int64.toUInt64 63)).toInt64) &&& 1) 1 = 0
        · simp only [if_pos d]
        · simp only [if_neg d]
      have hV : F_MH_ball_2_L3 y0 i kk' (n + 1) fl t = kk' (i + 1) (blP 368 i fl (sgR y0 (i + 60)) t) := by
        rw [F_MH_ball_2_L3, if_pos q]
        repeat rw [bnd_eq]
        unfold blP sgR
        by_cases d : lg_cmp (((y0.toUInt64 >>> ((nI (i + 60) - nI 256).toInt64.toUInt64 &&& Int64.toUInt64 63)).toInt64) &&& 1) 1 = 0
        · simp only [if_pos d]
        · simp only [if_neg d]
      rw [hE2] at hE
      have hU : F_SA_sampleBall_2_L2 pf i y kk (n + 1) c fl s = kk (i + 1) ((y.toUInt64 >>> ((nI 1).toInt64.toUInt64 &&& Int64.toUInt64 63)).toInt64) (blP pf i fl (sgC y) s) := by
        rw [F_SA_sampleBall_2_L2, if_pos q]
        repeat rw [bnd_eq]
        unfold blP sgC
        by_cases d : lg_cmp (y &&& 1) 0 = 0
        · simp only [if_pos d]
        · simp only [if_neg d]
      exact ⟨fl, s, t, st, st', q, hU, hV, hE, hn, hA, hM, p, p', same.rf, same.rf⟩
    · obtain ⟨a1, b1, c1⟩ := P_nextByte hA h0 hr p
      have p1 := nxS_le h0 p
      obtain ⟨a2, b2, c2⟩ := Q_next hM h0 hr p'
      have p2 := nxS_le h0 p'
      have e1 : (F_SP_nextByte 18 19 s).1.toNatClampNeg = bt (nxS rt st) := congrArg Int32.toNatClampNeg a1
      have e2 : (F_MS_next t).1.toNatClampNeg = bt (nxS rt st') := congrArg Int32.toNatClampNeg a2
      rw [← hn] at e2
      have hU : F_SA_sampleBall_2_L2 pf i y kk (n + 1) c fl s = F_SA_sampleBall_2_L2 pf i y kk n (c + 1) (bt (nxS rt st)) (F_SP_nextByte 18 19 s).2 := by
        rw [F_SA_sampleBall_2_L2, if_neg q]
        repeat rw [bnd_eq]
        rw [e1]
      have hV : F_MH_ball_2_L3 y0 i kk' (n + 1) fl t = F_MH_ball_2_L3 y0 i kk' n (bt (nxS rt st)) (F_MS_next t).2 := by
        rw [F_MH_ball_2_L3, if_neg q]
        repeat rw [bnd_eq]
        rw [e2]
      have hW : E_MH_ball_2_L3 y0 i ke (n + 1) fl t = E_MH_ball_2_L3 y0 i ke n (bt (nxS rt st)) (F_MS_next t).2 := by
        rw [E_MH_ball_2_L3, if_neg q]
        repeat rw [bnd_eq]
        rw [e2]
      rw [hW] at hE
      generalize (F_SP_nextByte 18 19 s).2 = s1 at b1 c1 hU
      generalize (F_MS_next t).2 = t1 at b2 c2 hV hE
      obtain ⟨fl1, s2, t2, st1, st1', r0, r1, r2, r3, r4, r5, r6, r7, r8, r9, r10⟩ := bI2 (pf := pf) (y := y) (kk := kk) (kk' := kk') h0 hr n (c + 1) (bt (nxS rt st)) _ _ s1 t1 (congrArg (nxS rt) hn) b1 b2 p1 p2 hE
      exact ⟨fl1, s2, t2, st1, st1', r0, hU.trans r1, hV.trans r2, r3, r4, r5, r6, r7, r8, c1.tr r9, c2.tr r10⟩
theorem bM2 {pf rt : Nat} {y0 : Int64} {sf : Int32} (h0 : 0 < rt) (hr : rt < 200) (hpf : pf ≠ 18) : ∀ (m i : Nat) (st st' : Sp) (s t : Sto), i + m = 256 → 196 ≤ i → nxS rt st = nxS rt st' → spA 18 19 st rt sf s → spM st' rt sf t → st.2 ≤ rt → st'.2 ≤ rt → E_MH_ball_2_L2 y0 m i t → tern (s.1 pf) (t.1 368) →
    same2 18 19 pf s (F_SA_sampleBall_2_L1 pf m i (shy y0 (i - 196)) s) ∧ same2 172 173 368 t (F_MH_ball_2_L2 y0 m i t) ∧ tern ((F_SA_sampleBall_2_L1 pf m i (shy y0 (i - 196)) s).1 pf) ((F_MH_ball_2_L2 y0 m i t).1 368)
  | 0, i, st, st', s, t, _, _, _, _, _, _, _, _, h => by
    rw [F_SA_sampleBall_2_L1, F_MH_ball_2_L2]
    exact ⟨s2rf, s2rf, h⟩
  | m + 1, i, st, st', s, t, hi, hF, hn, hA, hM, p, p', hE, h => by
    obtain ⟨a1, b1, c1⟩ := P_nextByte hA h0 hr p
    have p1 := nxS_le h0 p
    obtain ⟨a2, b2, c2⟩ := Q_next hM h0 hr p'
    have p2 := nxS_le h0 p'
    have e1 : (F_SP_nextByte 18 19 s).1.toNatClampNeg = bt (nxS rt st) := congrArg Int32.toNatClampNeg a1
    have e2 : (F_MS_next t).1.toNatClampNeg = bt (nxS rt st') := congrArg Int32.toNatClampNeg a2
    rw [← hn] at e2
    have hU : F_SA_sampleBall_2_L1 pf (m + 1) i (shy y0 (i - 196)) s = F_SA_sampleBall_2_L2 pf i (shy y0 (i - 196)) (F_SA_sampleBall_2_L1 pf m) fuelM 0 (bt (nxS rt st)) (F_SP_nextByte 18 19 s).2 := by
      rw [F_SA_sampleBall_2_L1, fuelM_eq]
      repeat rw [bnd_eq]
      rw [e1]
    have hV : F_MH_ball_2_L2 y0 (m + 1) i t = F_MH_ball_2_L3 y0 i (F_MH_ball_2_L2 y0 m) fuelM (bt (nxS rt st)) (F_MS_next t).2 := by
      rw [F_MH_ball_2_L2]
      repeat rw [bnd_eq]
      rw [e2]
    rw [E_MH_ball_2_L2] at hE
    repeat rw [bnd_eq] at hE
    rw [e2] at hE
    generalize (F_SP_nextByte 18 19 s).2 = s1 at b1 c1 hU
    generalize (F_MS_next t).2 = t1 at b2 c2 hV hE
    obtain ⟨fl, s2, t2, st1, st1', r0, r1, r2, r3, r4, r5, r6, r7, r8, r9, r10⟩ := bI2 (pf := pf) (y := shy y0 (i - 196)) (kk := F_SA_sampleBall_2_L1 pf m) (kk' := F_MH_ball_2_L2 y0 m) (ke := E_MH_ball_2_L2 y0 m) h0 hr fuelM 0 (bt (nxS rt st)) _ _ s1 t1 (congrArg (nxS rt) hn) b1 b2 p1 p2 hE
    rw [shy_s y0 (k := i - 196) (by omega), show i - 196 + 1 = i + 1 - 196 by omega] at r1
    have m1 := c1.tr r9
    have m2 := c2.tr r10
    have g : tern ((blP pf i fl (sgC (shy y0 (i - 196))) s2).1 pf) ((blP 368 i fl (sgR y0 (i + 60)) t2).1 368) := by
      rw [blP_row, blP_row, m1.1 pf hpf, m2.1 368 (by decide)]
      exact tern_s h (by omega) (sg_same y0 (by omega))
    have n1 : same2 18 19 pf s (blP pf i fl (sgC (shy y0 (i - 196))) s2) := blP_s2 (s2w m1)
    have n2 : same2 172 173 368 t (blP 368 i fl (sgR y0 (i + 60)) t2) := blP_s2 (s2w m2)
    have k1 : spA 18 19 st1 rt sf (blP pf i fl (sgC (shy y0 (i - 196))) s2) := spA_I hpf (spA_I hpf r5)
    have k2 : spM st1' rt sf (blP 368 i fl (sgR y0 (i + 60)) t2) := spM_I (by decide) (spM_I (by decide) r6)
    generalize blP pf i fl (sgC (shy y0 (i - 196))) s2 = s3 at r1 g n1 k1
    generalize blP 368 i fl (sgR y0 (i + 60)) t2 = t3 at r2 r3 g n2 k2
    obtain ⟨u1, u2, u3⟩ := bM2 h0 hr hpf m (i + 1) st1 st1' s3 t3 (by omega) (by omega) r4 k1 k2 r7 r8 r3 g
    rw [hU, r1, hV, r2]
    exact ⟨n1.tr u1, n2.tr u2, u3⟩
theorem bS2 {pf rt : Nat} {sf : Int32} (h0 : 0 < rt) (hr : rt < 200) : ∀ (m i : Nat) (y : Int64) (st st' : Sp) (s t : Sto), i + m = 8 → nxS rt st = nxS rt st' → spA 18 19 st rt sf s → spM st' rt sf t → st.2 ≤ rt → st'.2 ≤ rt →
    ∃ (y1 : Int64) (st1 st1' : Sp) (s1 t1 : Sto), F_SA_sampleBall_2_L0 pf m i y s = F_SA_sampleBall_2_L1 pf (256 - 196) 196 y1 (F_AR_fillI pf 256 (nI 0) s1) ∧ F_MH_ball_2_L0 m i y t = F_MH_ball_2_L1 y1 256 0 t1 ∧ E_MH_ball_2_L0 m i y t = E_MH_ball_2_L1 y1 256 0 t1 ∧ nxS rt st1 = nxS rt st1' ∧ spA 18 19 st1 rt sf s1 ∧ spM st1' rt sf t1 ∧ st1.2 ≤ rt ∧ st1'.2 ≤ rt ∧ same 18 19 s s1 ∧ same 172 173 t t1
  | 0, i, y, st, st', s, t, _, hn, hA, hM, p, p' => ⟨y, st, st', s, t, by rw [F_SA_sampleBall_2_L0, bnd_eq], by rw [F_MH_ball_2_L0], by rw [E_MH_ball_2_L0], hn, hA, hM, p, p', same.rf, same.rf⟩
  | m + 1, i, y, st, st', s, t, hi, hn, hA, hM, p, p' => by
    obtain ⟨a1, b1, c1⟩ := P_nextByte hA h0 hr p
    have p1 := nxS_le h0 p
    obtain ⟨a2, b2, c2⟩ := Q_next hM h0 hr p'
    have p2 := nxS_le h0 p'
    have e1 : (F_SP_nextByte 18 19 s).1.toNatClampNeg = bt (nxS rt st) := congrArg Int32.toNatClampNeg a1
    have e2 : (F_MS_next t).1.toNatClampNeg = bt (nxS rt st') := congrArg Int32.toNatClampNeg a2
    rw [← hn] at e2
    have hU : F_SA_sampleBall_2_L0 pf (m + 1) i y s = F_SA_sampleBall_2_L0 pf m (i + 1) (y ||| (((nI (bt (nxS rt st))).toInt64) <<< ((nI (8 * i)).toInt64 &&& 63))) (F_SP_nextByte 18 19 s).2 := by
      rw [F_SA_sampleBall_2_L0]
      repeat rw [bnd_eq]
      rw [e1]
    have hV : F_MH_ball_2_L0 (m + 1) i y t = F_MH_ball_2_L0 m (i + 1) (y ||| (((nI (bt (nxS rt st))).toInt64) <<< ((nI (8 * i)).toInt64 &&& 63))) (F_MS_next t).2 := by
      rw [F_MH_ball_2_L0]
      repeat rw [bnd_eq]
      rw [e2]
    have hW : E_MH_ball_2_L0 (m + 1) i y t = E_MH_ball_2_L0 m (i + 1) (y ||| (((nI (bt (nxS rt st))).toInt64) <<< ((nI (8 * i)).toInt64 &&& 63))) (F_MS_next t).2 := by
      rw [E_MH_ball_2_L0]
      repeat rw [bnd_eq]
      rw [e2]
    generalize y ||| (((nI (bt (nxS rt st))).toInt64) <<< ((nI (8 * i)).toInt64 &&& 63)) = y2 at hU hV hW
    generalize (F_SP_nextByte 18 19 s).2 = s1 at b1 c1 hU
    generalize (F_MS_next t).2 = t1 at b2 c2 hV hW
    obtain ⟨y1, st1, st1', s2, t2, r1, r2, r3, r4, r5, r6, r7, r8, r9, r10⟩ := bS2 (pf := pf) h0 hr m (i + 1) y2 _ _ s1 t1 (by omega) (congrArg (nxS rt) hn) b1 b2 p1 p2
    exact ⟨y1, st1, st1', s2, t2, hU.trans r1, hV.trans r2, hW.trans r3, r4, r5, r6, r7, r8, c1.tr r9, c2.tr r10⟩
set_option maxRecDepth 100000 in
/-- SampleInBall, set 2: where the reference's draws end in time, both challenges are the same polynomial -/
theorem ball2_same {pf pb n qb : Nat} {s t : Sto} (hpf : pf ≠ 18) (h1 : pb ≠ 18) (h2 : qb ≠ 172) (hb : ∀ x, x < 64 → s.1 pb x = t.1 qb x) (hE : E_MH_ball_2 qb t) : same2 18 19 pf s (F_SA_sampleBall_2 pf pb n s) ∧ same2 172 173 368 t (F_MH_ball_2 qb t) ∧ tern ((F_SA_sampleBall_2 pf pb n s).1 pf) ((F_MH_ball_2 qb t).1 368) := by
  have h0 : 0 < 136 := by decide
  have hr : 136 < 200 := by decide
  have hU : F_SA_sampleBall_2 pf pb n s = F_SA_sampleBall_2_L0 pf 8 0 0 (F_SP_finish 18 19 (F_SP_absorb 18 19 pb n 0 64 (F_SP_start_3 18 19 s))) := by
    rw [F_SA_sampleBall_2]
    repeat rw [bnd_eq]
  have hV : F_MH_ball_2 qb t = F_MH_ball_2_L0 8 0 0 (F_MS_end (F_MS_puts qb 64 0 64 (F_MS_begin 136 (nI 31) t))) := by
    rw [F_MH_ball_2]
    repeat rw [bnd_eq]
    rw [shM]
  rw [E_MH_ball_2] at hE
  repeat rw [bnd_eq] at hE
  rw [shM] at hE
  obtain ⟨a1, a2⟩ := P_start (pv := 18) (qv := 19) (rt := 136) (sf := nI 31) (s := s)
  rw [← sh3_3] at a1 a2
  obtain ⟨b1, b2⟩ := P_absorb (nb := n) (at_ := 0) (len := 64) a1 hr h0 h1
  obtain ⟨f1, f2⟩ := P_finish b1 h0 hr (abN_lt h0 64)
  obtain ⟨a1', a2'⟩ := Q_begin (rt := 136) (sf := nI 31) (s := t)
  obtain ⟨b1', b2'⟩ := Q_puts (nb := 64) (at_ := 0) (len := 64) a1' hr h0 h2
  obtain ⟨f1', f2'⟩ := Q_end b1' h0 hr (abN_lt h0 64)
  rw [a2.1 pb h1, abN_ab (b := s.1 pb) (c := t.1 qb) (at1 := 0) (at2 := 0) 64 (fun x hx => by rw [Nat.zero_add]; exact hb x hx)] at f1
  rw [a2'.1 qb h2] at f1'
  have m1 := (a2.tr b2).tr f2
  have m2 := (a2'.tr b2').tr f2'
  generalize F_SP_finish 18 19 (F_SP_absorb 18 19 pb n 0 64 (F_SP_start_3 18 19 s)) = s1 at f1 m1 hU
  generalize F_MS_end (F_MS_puts qb 64 0 64 (F_MS_begin 136 (nI 31) t)) = t1 at f1' m2 hV hE
  obtain ⟨y1, st1, st1', s2, t2, r1, r2, r3, r4, r5, r6, r7, r8, r9, r10⟩ := bS2 (pf := pf) h0 hr 8 0 0 _ _ s1 t1 (by decide) (nx_end h0 _) f1 f1' (Nat.le_refl _) (Nat.zero_le _)
  rw [r3] at hE
  obtain ⟨g1, g2⟩ := P_fill (pf := pf) (v := nI 0) (s := s2)
  generalize F_AR_fillI pf 256 (nI 0) s2 = s3 at g1 g2 r1
  obtain ⟨t3, w1, w2, w3, -⟩ := el_loopA (α := Sto × Prop) (pf := 368) (G := fun n i s => (F_MH_ball_2_L1 y1 n i s, E_MH_ball_2_L1 y1 n i s)) (K := fun s => (F_MH_ball_2_L2 y1 (256 - 196) 196 s, E_MH_ball_2_L2 y1 (256 - 196) 196 s)) (e := fun i s => nI 0) (fun i s => by
    show (F_MH_ball_2_L1 y1 0 i s, E_MH_ball_2_L1 y1 0 i s) = _
    rw [F_MH_ball_2_L1, E_MH_ball_2_L1]
    repeat rw [bnd_eq]) (fun n i s => by
    show (F_MH_ball_2_L1 y1 (n + 1) i s, E_MH_ball_2_L1 y1 (n + 1) i s) = _
    rw [F_MH_ball_2_L1, E_MH_ball_2_L1]
    repeat rw [bnd_eq]) (fun i s s' o h => rfl) 256 0 t2
  have w1' : (F_MH_ball_2_L1 y1 256 0 t2, E_MH_ball_2_L1 y1 256 0 t2) = (F_MH_ball_2_L2 y1 (256 - 196) 196 t3, E_MH_ball_2_L2 y1 (256 - 196) 196 t3) := w1
  obtain ⟨v1, v2⟩ := Prod.mk.inj w1'
  rw [v2] at hE
  obtain ⟨u1, u2, u3⟩ := bM2 (y0 := y1) h0 hr hpf (256 - 196) 196 st1 st1' s3 t3 (by decide) (Nat.le_refl _) r4 (spA_o hpf g1 r5) (spM_o (by decide) w2 r6) r7 r8 hE (fun k hk => Or.inl ⟨g2 k hk, w3 k (Nat.zero_le _) (by omega)⟩)
  rw [Nat.sub_self, shy_0] at u1 u3
  rw [hU, r1, hV, r2, v1]
  exact ⟨same2.tr (same2.tr (s2w (m1.tr r9)) (s2o g1)) u1, same2.tr (same2.tr (s2w (m2.tr r10)) (s2o w2)) u2, u3⟩
/-- what the products by the challenge ask of it -/
theorem tern_C {r r' : Nat → Int32} (h : tern r r') {i : Nat} (hi : i < 256) : (∃ n : Nat, n < 8380417 ∧ r i = nI n ∧ cg ((8380417 : Nat) : Int) (n : Int) (r' i).toInt) ∧ -1 ≤ (r' i).toInt ∧ (r' i).toInt ≤ 1 := by
  rcases h i hi with ⟨h1, h2⟩ | ⟨h1, h2⟩ | ⟨h1, h2⟩
  · rw [h2]
    exact ⟨⟨0, by decide, h1, ⟨0, by decide⟩⟩, by decide, by decide⟩
  · rw [h2]
    exact ⟨⟨1, by decide, h1, ⟨0, by decide⟩⟩, by decide, by decide⟩
  · rw [h2]
    exact ⟨⟨8380416, by decide, h1, ⟨1, by decide⟩⟩, by decide, by decide⟩
