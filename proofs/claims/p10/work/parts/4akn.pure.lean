set_option linter.all false
set_option maxRecDepth 100000 in
/-- ML-DSA.Verify, set 1: where the reference's draws end in time, both sides answer alike -/
theorem dver1_same {pp ptp n len qp qb : Nat} {cl_ : Int32} {s t : Sto} (hP : ¬ (16 ≤ pp ∧ pp ≤ 18) ∧ ¬ (38 ≤ pp ∧ pp ≤ 147) ∧ ¬ (16 ≤ ptp ∧ ptp ≤ 18) ∧ ¬ (38 ≤ ptp ∧ ptp ≤ 147)) (hQ : qp ≠ 172 ∧ ¬ (225 ≤ qp ∧ qp ≤ 378) ∧ qb ≠ 172 ∧ ¬ (225 ≤ qb ∧ qb ≤ 378)) (hl : 3309 ≤ len) (hK : ∀ x, x < 1952 → s.1 pp x = t.1 qp x) (hB : ∀ x, x < len → s.1 ptp x = t.1 qb x) (hN : ∀ x, x < 48 → vp_nar .byte (t.1 qb x) = t.1 qb x) (hE : E_MH_verify_1 qp qb cl_ len t) : ∃ (z : Int32) (s1 t1 : Sto), F_DA_accepts_1 pp ptp n len cl_ s = (z, s1) ∧ F_MH_verify_1 qp qb cl_ len t = (z, t1) ∧ (z = nI 1 ∨ z = nI 0) ∧ frm (fun k => (16 ≤ k ∧ k ≤ 18) ∨ (38 ≤ k ∧ k ≤ 147)) s s1 ∧ frm (fun k => k = 172 ∨ (225 ≤ k ∧ k ≤ 378)) t t1 := by
  have n1 : ¬ nI 1 = 0 := by decide
  have n0 : nI 0 = 0 := by decide
  have o2 : ∀ w : Sto, (F_MH_openSize_1 w).2 = w := fun w => by rw [F_MH_openSize_1]
  have o3 : ∀ w : Sto, (F_MH_markSize_1 w).2 = w := fun w => by rw [F_MH_markSize_1]
  have hV : F_MH_verify_1 qp qb cl_ len t = F_MH_verify_1_L0 qp qb cl_ len 48 0 (F_MH_as_1 t) := by
    rw [F_MH_verify_1]
    repeat rw [bnd_eq]
  rw [E_MH_verify_1] at hE
  repeat rw [bnd_eq] at hE
  have hA : ∀ k, k ≠ 225 → (F_MH_as_1 t).1 k = t.1 k := fun k hk => Q_as1 hk
  generalize F_MH_as_1 t = ta at hA hV hE
  obtain ⟨tb, w1, w2, w3, -⟩ := cp_loop (α := (Int32 × Sto) × Prop) (pt := 376) (pr_ := qb) (o := 0) (r := 0) (G := fun n i s => (F_MH_verify_1_L0 qp qb cl_ len n i s, E_MH_verify_1_L0 qp qb cl_ len n i s)) (K := fun s => (F_MH_verify_1_L1 qp qb cl_ len 5 0 (nI 1) 384 s, E_MH_verify_1_L1 qp qb cl_ len 5 0 (nI 1) 384 s)) (by omega) (fun i s => by
    show (F_MH_verify_1_L0 qp qb cl_ len 0 i s, E_MH_verify_1_L0 qp qb cl_ len 0 i s) = _
    rw [F_MH_verify_1_L0, E_MH_verify_1_L0]
    repeat rw [bnd_eq]) (fun n i s => by
    show (F_MH_verify_1_L0 qp qb cl_ len (n + 1) i s, E_MH_verify_1_L0 qp qb cl_ len (n + 1) i s) = _
    rw [F_MH_verify_1_L0, E_MH_verify_1_L0, Nat.zero_add i]
    repeat rw [bnd_eq]) 48 0 ta
  have w1' : (F_MH_verify_1_L0 qp qb cl_ len 48 0 ta, E_MH_verify_1_L0 qp qb cl_ len 48 0 ta) = (F_MH_verify_1_L1 qp qb cl_ len 5 0 (nI 1) 384 tb, E_MH_verify_1_L1 qp qb cl_ len 5 0 (nI 1) 384 tb) := w1
  obtain ⟨v1, v2⟩ := Prod.mk.inj w1'
  rw [v1] at hV
  rw [v2] at hE
  have eb : ∀ k, k ≠ 225 → k ≠ 376 → tb.1 k = t.1 k := fun k u v => by rw [w2.1 k v, hA k u]
  have e376 : ∀ x, x < 48 → tb.1 376 x = t.1 qb x := fun x hx => by
    have := w3 x (Nat.zero_le _) (by omega)
    rw [Nat.zero_add, hA qb (by omega), hN x hx] at this
    exact this
  obtain ⟨z1, tc, a1, a2, a3, a4, a5, a6⟩ := vz11 (pp := qp) (pb := qb) (ed := len) (cl_ := cl_) (B := t.1 qb) hQ.2.2.2 5 0 (nI 1) 384 tb (by decide) (by decide) (Or.inl rfl) (eb qb (by omega) (by omega)) (fun x hx => absurd hx (Nat.not_lt_zero _))
  rw [a1] at hV
  rw [a2] at hE
  have ec : ∀ k, k ≠ 225 → k ≠ 376 → ¬ (335 ≤ k ∧ k ≤ 341) → tc.1 k = t.1 k := fun k u v w => by rw [a3 k (by omega), eb k u v]
  -- the program reads the signature
  have b1 : onl 144 s (sC s ptp 144 0 0 48) := sC_o
  have b2 : ∀ x, x < 48 → (sC s ptp 144 0 0 48).1 144 x = t.1 qb x := fun x hx => by
    have := sC_in (s := s) (k0 := ptp) (k1 := 144) (sp := 0) (dp := 0) hx
    rw [Nat.zero_add] at this
    rw [this]
    exact hB x (by omega)
  have hRS : F_DA_readSignature_1 ptp n s = if (F_DA_hintsAreInForm_1 (sC (sC s ptp 144 0 0 48) ptp 146 3248 0 61)).1 = 0 then (nI 0, (F_DA_hintsAreInForm_1 (sC (sC s ptp 144 0 0 48) ptp 146 3248 0 61)).2) else F_DA_readSignature_1_L0 ptp n 5 0 (F_DA_hintsAreInForm_1 (sC (sC s ptp 144 0 0 48) ptp 146 3248 0 61)).2 := by
    rw [F_DA_readSignature_1]
    repeat rw [bnd_eq]
  generalize sC s ptp 144 0 0 48 = s1 at b1 b2 hRS
  have b3 : onl 146 s1 (sC s1 ptp 146 3248 0 61) := sC_o
  have b4 : ∀ x, x < 61 → (sC s1 ptp 146 3248 0 61).1 146 x = t.1 qb (3248 + x) := fun x hx => by
    have := sC_in (s := s1) (k0 := ptp) (k1 := 146) (sp := 3248) (dp := 0) hx
    rw [Nat.zero_add] at this
    rw [this, b1.1 ptp (by omega)]
    exact hB _ (by omega)
  generalize sC s1 ptp 146 3248 0 61 = s2 at b3 b4 hRS
  have es : ∀ k, k ≠ 144 → k ≠ 146 → s2.1 k = s.1 k := fun k u v => by rw [b3.1 k v, b1.1 k u]
  obtain ⟨td, c1, c2⟩ := hf01 (pb := qb) (A := fun x => t.1 qb (3248 + x)) (s := s2) hQ.2.2.2 b4 6 0 0 tc (by decide) (by decide) (fun x => by rw [ec qb (by omega) (by omega) (by omega)])
  obtain ⟨s3, d1, d2, d3⟩ := rsg1 (ptp := ptp) (n := n) (B := s.1 ptp) (by omega) 5 0 s2 (by decide) (es ptp (by omega) (by omega)) (fun x hx => absurd hx (Nat.not_lt_zero _))
  have hrow : ∀ x, x < 5 → ∀ k, k < 256 → rwN 524288 20 (s.1 ptp) (48 + 640 * x) k = rwN 524288 20 (t.1 qb) (48 + 640 * x) k := fun x hx k hk => rwN_c (fun j hj => hB _ (by omega)) hk
  have hV2 : F_MH_verify_1_L1 qp qb cl_ len 0 5 z1 (8 * 3248) tc = if z1 = 0 then (nI 0, tc) else if (F_MH_readHints_1 qb 3248 tc).1 = 0 then (nI 0, (F_MH_readHints_1 qb 3248 tc).2) else F_MH_verify_1_L2 qp 5 0 (F_MH_ball_1 376 (F_MH_expand_1 qp 2592 (F_MH_message_1 378 64 0 qb 16384 3309 cl_ len (F_MS_take 378 64 0 64 (F_MS_end (F_MS_puts qp 2592 0 1952 (F_MS_begin 136 (nI 31) (F_MH_readHints_1 qb 3248 tc).2))))))) := by
    rw [F_MH_verify_1_L1, bnd_eq, show 8 * 3248 / 8 = 3248 by decide]
    repeat rw [bnd_eq]
    rw [o2, o3, shM]
  have hW2 : E_MH_verify_1_L1 qp qb cl_ len 0 5 z1 (8 * 3248) tc = if z1 = 0 then True else if (F_MH_readHints_1 qb 3248 tc).1 = 0 then True else (E_MH_expand_1 qp 2592 (F_MH_message_1 378 64 0 qb 16384 3309 cl_ len (F_MS_take 378 64 0 64 (F_MS_end (F_MS_puts qp 2592 0 1952 (F_MS_begin 136 (nI 31) (F_MH_readHints_1 qb 3248 tc).2))))) ∧ E_MH_ball_1 376 (F_MH_expand_1 qp 2592 (F_MH_message_1 378 64 0 qb 16384 3309 cl_ len (F_MS_take 378 64 0 64 (F_MS_end (F_MS_puts qp 2592 0 1952 (F_MS_begin 136 (nI 31) (F_MH_readHints_1 qb 3248 tc).2)))))) ∧ True) := by
    rw [E_MH_verify_1_L1, bnd_eq, show 8 * 3248 / 8 = 3248 by decide]
    repeat rw [bnd_eq]
    rw [o2, o3, shM]
  rw [hV2] at hV
  rw [hW2] at hE
  have hU : F_DA_accepts_1 pp ptp n len cl_ s = if (F_DA_readSignature_1 ptp n s).1 = 0 then (nI 0, (F_DA_readSignature_1 ptp n s).2) else F_DA_accepts_1_L0 pp 5 0 (F_RG_transform_8 140 (F_SA_sampleBall_1 140 144 64 (F_SA_expandMatrix_1 pp 1952 (F_DA_digestMessage ptp n 3309 len cl_ (F_DA_digestOf pp 1952 (F_DA_readSignature_1 ptp n s).2))))) := by
    rw [F_DA_accepts_1]
    repeat rw [bnd_eq]
  have hIF : F_DA_hintsAreInForm_1 s2 = F_DA_hintsAreInForm_1_L0 6 0 0 s2 := by rw [F_DA_hintsAreInForm_1]
  have hRH : F_MH_readHints_1 qb 3248 tc = F_MH_readHints_1_L0 qb 3248 6 0 0 tc := by rw [F_MH_readHints_1]
  have fs2 : frm (fun k => (16 ≤ k ∧ k ≤ 18) ∨ (38 ≤ k ∧ k ≤ 147)) s s2 := fun k hk => es k (by omega) (by omega)
  have fs3 : frm (fun k => (16 ≤ k ∧ k ≤ 18) ∨ (38 ≤ k ∧ k ≤ 147)) s s3 := fun k hk => by rw [d1 k (by omega), es k (by omega) (by omega)]
  have ftc : frm (fun k => k = 172 ∨ (225 ≤ k ∧ k ≤ 378)) t tc := fun k hk => ec k (by omega) (by omega) (by omega)
  have ftd : frm (fun k => k = 172 ∨ (225 ≤ k ∧ k ≤ 378)) t td := fun k hk => by rw [c1 k (by omega), ec k (by omega) (by omega) (by omega)]
  by_cases q : ∀ x, 0 ≤ x → x < 5 → shr 524092 (rwN 524288 20 (t.1 qb) (48 + 640 * x))
  · have ez : z1 = nI 1 := a6.mpr ⟨rfl, q⟩
    rw [ez, if_neg n1] at hV hE
    obtain ⟨g1, g2⟩ := d2 (fun x h0 hx => shr_c (q x h0 hx) (fun k hk => (hrow x hx k hk).symm))
    rcases c2 with ⟨k1, k2, EN, k3, k4, k5⟩ | ⟨k1, k2⟩
    · rw [hIF, k1] at hRS
      dsimp only at hRS
      rw [if_neg n1, g1] at hRS
      rw [hRS] at hU
      dsimp only at hU
      rw [if_neg n1] at hU
      rw [hRH, k2] at hV hE
      dsimp only at hV hE
      rw [if_neg n1] at hV hE
      -- both go on
      rw [F_DA_digestOf, F_DA_digestMessage] at hU
      repeat rw [bnd_eq] at hU
      rw [F_MH_message_1] at hV hE
      repeat rw [bnd_eq] at hV
      repeat rw [bnd_eq] at hE
      rw [shM] at hV hE
      have ed : ∀ k, k ≠ 225 → k ≠ 376 → ¬ (335 ≤ k ∧ k ≤ 341) → ¬ (360 ≤ k ∧ k ≤ 367) → td.1 k = t.1 k := fun k u1 u2 u3 u4 => by rw [c1 k (by omega), ec k u1 u2 u3]
      have e3 : ∀ k, k ≠ 144 → k ≠ 146 → ¬ (124 ≤ k ∧ k ≤ 130) → s3.1 k = s.1 k := fun k u v w => by rw [d1 k (by omega), es k u v]
      obtain ⟨l1, l2, l3, -, -, -⟩ := dig8_same (pv := 16) (qv := 17) (pb := pp) (n := 1952) (at1 := 0) (len := 1952) (qb := qp) (m := 2592) (at2 := 0) (pt := 143) (nt := 64) (w1 := 0) (qt := 378) (nq := 64) (w2 := 0) (tk := 64) (s := s3) (t := td) (by omega) (by omega) (by decide) (by decide) (fun j hj => by rw [Nat.zero_add, e3 pp (by omega) (by omega) (by omega), ed qp (by omega) (by omega) (by omega) (by omega)]; exact hK j hj)
      generalize F_SP_squeeze 16 17 143 64 0 64 (F_SP_finish 16 17 (F_SP_absorb 16 17 pp 1952 0 1952 (F_SP_start_3 16 17 s3))) = s4 at l1 l3 hU
      generalize F_MS_take 378 64 0 64 (F_MS_end (F_MS_puts qp 2592 0 1952 (F_MS_begin 136 (nI 31) td))) = te at l2 l3 hV hE
      obtain ⟨m1, m2, m3⟩ := msg8_same (pb := ptp) (n := n) (fr := 3309) (len := len - 3309) (phs := 378) (nh := 64) (ha := 0) (qb := qb) (nb := 16384) (at_ := 3309) (cl_ := cl_) (s := s4) (t := te) (by omega) (by decide) (by omega) (fun j hj => by
        have := l3 j hj
        rw [Nat.zero_add] at this
        rw [Nat.zero_add]
        exact this) (fun j hj => by rw [l1.1 ptp (by omega) (by omega), e3 ptp (by omega) (by omega) (by omega), l2.1 qb (by omega) (by omega), ed qb (by omega) (by omega) (by omega) (by omega)]; exact hB _ (by omega))
      generalize F_SP_squeeze 16 17 143 64 0 64 (F_SP_finish 16 17 (F_SP_absorb 16 17 ptp n 3309 (len - 3309) (F_SP_absorbByte 16 17 cl_ (F_SP_absorbByte 16 17 (nI 0) (F_SP_absorb 16 17 143 64 0 64 (F_SP_start_3 16 17 s4)))))) = s5 at m1 m3 hU
      generalize F_MS_take 373 64 0 64 (F_MS_end (F_MS_puts qb 16384 3309 (len - 3309) (F_MS_put cl_ (F_MS_put (nI 0) (F_MS_puts 378 64 0 64 (F_MS_begin 136 (nI 31) te)))))) = tf at m2 m3 hV hE
      have e5 : ∀ k, k ≠ 16 → k ≠ 143 → s5.1 k = s3.1 k := fun k u v => by rw [m1.1 k u v, l1.1 k u v]
      have ef : ∀ k, k ≠ 172 → k ≠ 373 → k ≠ 378 → tf.1 k = td.1 k := fun k u v w => by rw [m2.1 k u v, l2.1 k u w]
      obtain ⟨x1, x2, x3⟩ := exp1_same (pb := pp) (np := 1952) (qb := qp) (nq := 2592) (s := s5) (t := tf) (by omega) (by omega) (fun x hx => by rw [e5 pp (by omega) (by omega), e3 pp (by omega) (by omega) (by omega), ef qp (by omega) (by omega) (by omega), ed qp (by omega) (by omega) (by omega) (by omega)]; exact hK x (by omega)) hE.1
      rw [and_iff_right hE.1] at hE
      generalize F_SA_expandMatrix_1 pp 1952 s5 = s6 at x1 x3 hU
      generalize F_MH_expand_1 qp 2592 tf = tg at x2 x3 hV hE
      have e6 : ∀ k, k ≠ 16 → k ≠ 143 → k ≠ 18 → ¬ (41 ≤ k ∧ k ≤ 96) → s6.1 k = s3.1 k := fun k u v w x => by rw [x1 k (by omega), e5 k u v]
      have eg : ∀ k, k ≠ 172 → k ≠ 373 → k ≠ 378 → ¬ (227 ≤ k ∧ k ≤ 290) → tg.1 k = td.1 k := fun k u v w x => by rw [x2 k (by omega), ef k u v w]
      have hCB : ∀ x, x < 48 → s6.1 144 x = tg.1 376 x := fun x hx => by
        rw [e6 144 (by omega) (by omega) (by omega) (by omega), d1 144 (by omega), b3.1 144 (by decide), b2 x hx, eg 376 (by omega) (by omega) (by omega) (by omega), c1 376 (by omega), a3 376 (by omega)]
        exact (e376 x hx).symm
      obtain ⟨y1, y2, y3⟩ := ball1_same (pf := 140) (pb := 144) (n := 64) (qb := 376) (s := s6) (t := tg) (by decide) (by decide) (by decide) hCB hE.1
      generalize F_SA_sampleBall_1 140 144 64 s6 = s7 at y1 y3 hU
      generalize F_MH_ball_1 376 tg = th at y2 y3 hV
      have u1 := (P_transform8 (tern_r y3)).1
      have u2 : BALL ((F_RG_transform_8 140 s7).1 140) (th.1 368) := ⟨s7, 140, fun _ _ => rfl, y3⟩
      generalize F_RG_transform_8 140 s7 = s8 at u1 u2 hU
      have e8 : ∀ k, k ≠ 16 → k ≠ 143 → k ≠ 18 → ¬ (41 ≤ k ∧ k ≤ 96) → k ≠ 140 → s8.1 k = s3.1 k := fun k u v w x y => by rw [u1.1 k y, y1.1 k w y, e6 k u v w x]
      have eh : ∀ k, k ≠ 172 → k ≠ 373 → k ≠ 378 → ¬ (227 ≤ k ∧ k ≤ 290) → k ≠ 368 → th.1 k = td.1 k := fun k u v w x y => by rw [y2.1 k u y, eg k u v w x]
      have hZt : ∀ x, x < 5 → ∀ k, k < 256 → th.1 (335 + x) k = rwN 524288 20 (t.1 qb) (48 + 640 * x) k := fun x hx k hk => by
        rw [eh _ (by omega) (by omega) (by omega) (by omega) (by omega), c1 _ (by omega)]
        exact a4 x hx k hk
      obtain ⟨ti, p1, p2, p3⟩ := vt21 (pp := qp) 5 0 th (by decide) (fun x hx => rdc_c rwN_r (hZt x hx)) (fun x hx => absurd hx (Nat.not_lt_zero _))
      rw [p1] at hV
      have ei : ∀ k, ¬ (343 ≤ k ∧ k ≤ 349) → ti.1 k = th.1 k := fun k u => p2 k (by omega)
      obtain ⟨tj, r1, r2, r3⟩ := vv31 (pp := qp) (BP := t.1 qp) (a := s7.1 140) (c := th.1 368) (MM := fun y x => tg.1 (227 + (8 * y + x))) (HH := fun x => ti.1 (343 + x)) hQ.2.1 y3 (fun y x hy hx => sr_r (x3 y x hy hx)) (fun x hx => (p3 x hx).2) 6 0 ti (by decide) (by rw [ei qp (by omega), eh qp (by omega) (by omega) (by omega) (by omega) (by omega), ed qp (by omega) (by omega) (by omega) (by omega)]) (ei 368 (by omega)) (fun y x hy hx => by rw [ei _ (by omega), y2.1 _ (by omega) (by omega)]) (fun _ _ => rfl) (fun v hv => absurd hv (Nat.not_lt_zero _))
      rw [r1] at hV
      -- the program's rows
      obtain ⟨s9, q1, q2, q3⟩ := va01 (pp := pp) (Z := fun x => ti.1 (335 + x)) (HH := fun x => ti.1 (343 + x)) (fun x hx => (p3 x hx).1) 5 0 s8 (by decide) (fun x hx => absurd hx (Nat.not_lt_zero _)) (fun x _ hx => by
        rw [e8 _ (by omega) (by omega) (by omega) (by omega) (by omega), ei _ (by omega)]
        exact sr_of (fun k hk => ⟨_, Nat.mod_lt _ (by decide), g2 x hx k hk⟩) (fun k hk => by rw [g2 x hx k hk, hrow x hx k hk, hZt x hx k hk]))
      rw [q1] at hU
      have hX : F_DA_startChallenge s9 = F_SP_absorb 16 17 143 64 0 64 (F_SP_start_3 16 17 s9) := by
        rw [F_DA_startChallenge]
        repeat rw [bnd_eq]
      obtain ⟨i1, i2⟩ := P_start (pv := 16) (qv := 17) (rt := 136) (sf := nI 31) (s := s9)
      rw [← sh3_3] at i1 i2
      obtain ⟨j1, j2⟩ := P_absorb (pb := 143) (nb := 64) (at_ := 0) (len := 64) i1 (by decide) (by decide) (by decide)
      rw [← hX] at j1 j2
      rw [i2.1 143 (by decide)] at j1
      have jj := i2.tr j2
      generalize F_DA_startChallenge s9 = sa at hU j1 jj
      have ea : ∀ k, k ≠ 16 → ¬ (124 ≤ k ∧ k ≤ 130) → sa.1 k = s8.1 k := fun k u v => by rw [jj.1 k u, q2 k (by omega)]
      obtain ⟨R0, hR0⟩ := sk_of (fun _ => (0 : Int32)) (n := 6) (fun x hx => k5 x (Nat.zero_le _) hx)
      obtain ⟨WP, hWP⟩ := sk_of ((fun _ => (0 : Int32)), (fun _ => (0 : Int32))) (n := 6) (P := fun v (wp : (Nat → Int32) × (Nat → Int32)) => rdc 8380417 wp.2 ∧ (∀ k, k < 256 → cg ((8380417 : Nat) : Int) (vl wp.2 k) (sm 256 fun i => (th.1 368 i).toInt * shf (fun j => ((t1N (t.1 qp) (32 + 320 * v) j : Nat) : Int)) i k)) ∧ (∀ s' : Sto, (∀ x, x < 5 → sr 8380417 (s'.1 (41 + (5 * v + x))) (tg.1 (227 + (8 * v + x)))) → (∀ x, x < 5 → sr 8380417 (s'.1 (124 + x)) (ti.1 (343 + x))) → sr 8380417 ((F_RG_restore_8 (132 + v) (F_DA_multiplyRow_mask_1 v s')).1 (132 + v)) wp.1) ∧ ∀ k, k < 256 → tj.1 (351 + v) k = nI ((8380417 + vn wp.1 k - vn wp.2 k) % 8380417)) (fun v hv => by
        obtain ⟨W0, P, f1, f2, f3, f4⟩ := r3 v hv
        exact ⟨(W0, P), f1, f2, f3, f4⟩)
      have hBP : ∀ y k, y < 6 → k < 256 → t1N (sa.1 pp) (32 + 320 * y) k = t1N (t.1 qp) (32 + 320 * y) k := fun y k hy hk => by
        unfold t1N
        refine congrArg (fun z => z * 8192) (bv_c 10 fun j hj => ?_)
        have := rb_c (r := sa.1 pp) (r' := t.1 qp) (a := 32 + 320 * y) (a' := 32 + 320 * y) (n := 2560) (fun m hm => by
          rw [ea pp (by omega) (by omega), e8 pp (by omega) (by omega) (by omega) (by omega) (by omega), e3 pp (by omega) (by omega) (by omega)]
          exact hK _ (by omega)) (k := 10 * k + j) (by omega)
        rw [← Nat.add_assoc] at this
        exact this
      obtain ⟨sb, f1, f2, f3⟩ := va11 (pp := pp) (A := fun x => t.1 qb (3248 + x)) (MU := s9.1 143) (c := th.1 368) (EN := EN) (MM := fun y x => tg.1 (227 + (8 * y + x))) (HH := fun x => ti.1 (343 + x)) (W0 := fun y => (WP y).1) (P := fun y => (WP y).2) (R0 := R0) (by omega) (BP := sa.1 pp) (fun x hx => k3 x (Nat.zero_le _) hx) (fun x hx => (hR0 x hx).1) (fun y hy => (hWP y hy).2.2.1) (fun y hy => ⟨(hWP y hy).1, fun k hk => cg_tr ((hWP y hy).2.1 k hk) (cg_of (sm_ext 256 fun i hi => by
        show (th.1 368 i).toInt * shf (fun j => ((t1N (t.1 qp) (32 + 320 * y) j : Nat) : Int)) i k = (th.1 368 i).toInt * shf (fun j => ((t1N (sa.1 pp) (32 + 320 * y) j : Nat) : Int)) i k
        exact congrArg (fun z => (th.1 368 i).toInt * z) (shf_c (fun j hj => congrArg Int.ofNat (hBP y j hy hj).symm) hi hk)))⟩) 6 0 sa (by decide) rfl (fun x hx => by rw [ea 146 (by omega) (by omega), e8 146 (by omega) (by omega) (by omega) (by omega) (by omega), d1 146 (by omega)]; exact b4 x hx) (by rw [ea 140 (by omega) (by omega)]; exact u2) (fun y x hy hx => by rw [ea _ (by omega) (by omega), u1.1 _ (by omega), y1.1 _ (by omega) (by omega)]; exact x3 y x hy hx) (fun x hx => by rw [jj.1 _ (by omega)]; exact q3 x hx) j1
      rw [k4] at f1
      rw [f1] at hU
      have hU2 : F_DA_accepts_1_L1 pp 0 6 (EN 6) sb = (nI (F_DA_challengesAgree_1 (F_SP_squeeze 16 17 145 64 0 48 (F_SP_finish 16 17 sb))).1.toNatClampNeg, (F_DA_challengesAgree_1 (F_SP_squeeze 16 17 145 64 0 48 (F_SP_finish 16 17 sb))).2) := by
        rw [F_DA_accepts_1_L1]
        repeat rw [bnd_eq]
      rw [hU2] at hU
      -- the reference's challenge
      have hV3 : F_MH_verify_1_L3 qp 0 6 tj = F_MH_verify_1_L4 48 0 (F_MH_marked_1_L0 (nI 1) 377 6 0 (F_MS_puts 373 64 0 64 (F_MS_begin 136 (nI 31) tj))) := by
        rw [F_MH_verify_1_L3, bnd_eq, bnd_eq, F_MH_marked_1]
        repeat rw [bnd_eq]
        rw [shM]
      rw [hV3] at hV
      obtain ⟨i3, i4⟩ := Q_begin (rt := 136) (sf := nI 31) (s := tj)
      obtain ⟨j3, j4⟩ := Q_puts (pb := 373) (nb := 64) (at_ := 0) (len := 64) i3 (by decide) (by decide) (by decide)
      rw [i4.1 373 (by decide)] at j3
      have jk := i4.tr j4
      generalize F_MS_puts 373 64 0 64 (F_MS_begin 136 (nI 31) tj) = tk at hV j3 jk
      have ej : ∀ k, k ≠ 172 → ¬ (318 ≤ k ∧ k ≤ 325) → ¬ (343 ≤ k ∧ k ≤ 358) → k ≠ 369 → k ≠ 370 → tk.1 k = th.1 k := fun k u1 u2 u3 u4 u5 => by rw [jk.1 k u1, r2 k (by omega), ei k (by omega)]
      have hMU : ∀ x, x < 64 → s9.1 143 x = tj.1 373 x := fun x hx => by
        rw [q2 143 (by omega), u1.1 143 (by decide), y1.1 143 (by decide) (by decide), x1 143 (by omega), r2 373 (by omega), ei 373 (by omega), y2.1 373 (by decide) (by decide), x2 373 (by omega)]
        exact m3 x hx
      have hww : ∀ y, y < 6 → tj.1 (351 + y) = tj.1 (351 + y) := fun _ _ => rfl
      have hh360 : ∀ y, y < 6 → tk.1 (360 + y) = setH (fun x => t.1 qb (3248 + x)) (EN (y + 1) - EN y) (EN y) (R0 y) := fun y hy => by
        rw [ej _ (by omega) (by omega) (by omega) (by omega) (by omega), eh _ (by omega) (by omega) (by omega) (by omega) (by omega)]
        exact (hR0 y hy).2
      have hchs : chS 4 128 (tj.1 373) (fun y => vN1 (setH (fun x => t.1 qb (3248 + x)) (EN (y + 1) - EN y) (EN y) (R0 y)) (tj.1 (351 + y))) 0 = chS 4 128 (tj.1 373) (fun y => vN1 (setH (fun x => t.1 qb (3248 + x)) (EN (y + 1) - EN y) (EN y) (R0 y)) (tj.1 (351 + y))) 0 := rfl
      obtain ⟨tl, f4, f5, f6⟩ := mv01 (pt := 377) (MU := tj.1 373) (h := fun y => setH (fun x => t.1 qb (3248 + x)) (EN (y + 1) - EN y) (EN y) (R0 y)) (WW := fun y => tj.1 (351 + y)) (fun y hy k hk => ⟨_, Nat.mod_lt _ (by decide), (hWP y hy).2.2.2 k hk⟩) (fun y hy => setH_b _ _ _ fun k hk => Or.inl ((hR0 y hy).1 k hk)) 6 0 tk (by decide) j3 (fun y hy => ⟨jk.1 _ (by omega), hh360 y hy⟩)
      rw [f4] at hV
      have hcc : chS 4 128 (s9.1 143) (fun y => vN1 (setH (fun x => t.1 qb (3248 + x)) (EN (y + 1) - EN y) (EN y) (R0 y)) (fun k => nI ((8380417 + vn (WP y).1 k - vn (WP y).2 k) % 8380417))) 6 = chS 4 128 (tj.1 373) (fun y => vN1 (setH (fun x => t.1 qb (3248 + x)) (EN (y + 1) - EN y) (EN y) (R0 y)) (tj.1 (351 + y))) 6 := by
        rw [chS_c (MU' := tj.1 373) hMU]
        exact chS_h (by decide) (by decide) 6 fun y hy k hk => by
          have e : vn (fun k => nI ((8380417 + vn (WP y).1 k - vn (WP y).2 k) % 8380417)) k = vn (tj.1 (351 + y)) k := congrArg Int32.toNatClampNeg ((hWP y hy).2.2.2 k hk).symm
          show vN1 _ (fun k => nI ((8380417 + vn (WP y).1 k - vn (WP y).2 k) % 8380417)) k = vN1 _ (tj.1 (351 + y)) k
          unfold vN1
          rw [e]
      rw [hcc] at f3
      obtain ⟨o4, o5⟩ := P_finish f3 (by decide) (by decide) (chS_lt _)
      obtain ⟨o6, o7⟩ := Q_end f6 (by decide) (by decide) (chS_lt _)
      obtain ⟨h1, h2, h3, -, -⟩ := sq_same (pb := 145) (qb := 377) (nb := 64) (at1 := 0) (len := 48) (mb := 64) (at2 := 0) o4 o6 (by decide) (by decide) (by decide) (by decide)
      have eL : ∀ k, k ≠ 16 → k ≠ 145 → (F_SP_squeeze 16 17 145 64 0 48 (F_SP_finish 16 17 sb)).1 k = sb.1 k := fun k u v => by rw [h1.1 k u v, o5.1 k u]
      have eR : ∀ k, k ≠ 172 → k ≠ 377 → (F_MS_take 377 64 0 48 (F_MS_end tl)).1 k = tl.1 k := fun k u v => by rw [h2.1 k u v, o7.1 k u]
      generalize F_SP_squeeze 16 17 145 64 0 48 (F_SP_finish 16 17 sb) = sc at h3 eL hU
      generalize F_MS_take 377 64 0 48 (F_MS_end tl) = tm at h3 eR hV
      obtain ⟨z, z0, zz1, zz2⟩ := ca1 (s := sc) (t := tm) (fun x hx => by
        rw [eL 144 (by decide) (by decide), f2 144 (by omega), ea 144 (by omega) (by omega), u1.1 144 (by decide), y1.1 144 (by decide) (by decide), eR 376 (by decide) (by decide), f5 376 (by omega), ej 376 (by omega) (by omega) (by omega) (by omega) (by omega), y2.1 376 (by decide) (by decide)]
        exact hCB x hx) (fun x hx => by
        have := h3 x hx
        rw [Nat.zero_add] at this
        exact this) 48 0 (by decide)
      rw [F_DA_challengesAgree_1, zz1] at hU
      dsimp only at hU
      rw [zz2] at hV
      have hz : nI z.toNatClampNeg = z := by
        rcases z0 with rfl | rfl <;> decide
      rw [hz] at hU
      refine ⟨z, sc, tm, hU, hV, z0, fun k hk => ?_, fun k hk => ?_⟩
      · rw [eL k (by omega) (by omega), f2 k (by omega), ea k (by omega) (by omega), e8 k (by omega) (by omega) (by omega) (by omega) (by omega), e3 k (by omega) (by omega) (by omega)]
      · rw [eR k (by omega) (by omega), f5 k (by omega), ej k (by omega) (by omega) (by omega) (by omega) (by omega), eh k (by omega) (by omega) (by omega) (by omega) (by omega), ed k (by omega) (by omega) (by omega) (by omega)]
    · rw [hIF, k1] at hRS
      dsimp only at hRS
      rw [if_pos n0] at hRS
      rw [hRS] at hU
      dsimp only at hU
      rw [if_pos n0] at hU
      rw [hRH, k2] at hV
      dsimp only at hV
      rw [if_pos n0] at hV
      exact ⟨nI 0, s2, td, hU, hV, Or.inr rfl, fs2, ftd⟩
  · have ez : z1 = nI 0 := a5.resolve_left fun g => q (a6.mp g).2
    rw [ez, if_pos n0] at hV
    have g1 := d3 (fun g => q fun x h0 hx => shr_c (g x h0 hx) (hrow x hx))
    rcases c2 with ⟨k1, -, -⟩ | ⟨k1, -⟩
    · rw [hIF, k1] at hRS
      dsimp only at hRS
      rw [if_neg n1, g1] at hRS
      rw [hRS] at hU
      dsimp only at hU
      rw [if_pos n0] at hU
      exact ⟨nI 0, s3, tc, hU, hV, Or.inr rfl, fs3, ftc⟩
    · rw [hIF, k1] at hRS
      dsimp only at hRS
      rw [if_pos n0] at hRS
      rw [hRS] at hU
      dsimp only at hU
      rw [if_pos n0] at hU
      exact ⟨nI 0, s2, tc, hU, hV, Or.inr rfl, fs2, ftc⟩
