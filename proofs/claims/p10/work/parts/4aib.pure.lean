set_option linter.all false
/-- what stands over all passes of signing, set 1 -/
def INV1 (s t : Sto) : Prop := (∀ y x, y < 6 → x < 5 → sr 8380417 (s.1 (41 + (5 * y + x))) (t.1 (227 + (8 * y + x)))) ∧ (∀ x, x < 5 → tr8 (s.1 (98 + x)) (t.1 (292 + x))) ∧ (∀ x, x < 6 → tr8 (s.1 (106 + x)) (t.1 (300 + x))) ∧ (∀ x, x < 6 → tr8 (s.1 (115 + x)) (t.1 (309 + x))) ∧ (∀ x, x < 64 → s.1 142 x = t.1 374 x) ∧ ∀ x, x < 64 → s.1 143 x = t.1 373 x
theorem INV1_f {pt qt : Nat} {s t s1 t1 : Sto} (hp : ¬ (41 ≤ pt ∧ pt ≤ 147)) (hq : ¬ (225 ≤ qt ∧ qt ≤ 378)) (f : frm (MCs pt) s s1) (g : frm (MRs qt) t t1) (h : INV1 s t) : INV1 s1 t1 := by
  obtain ⟨h1, h2, h3, h4, h5, h6⟩ := h
  refine ⟨fun y x hy hx => ?_, fun x hx => ?_, fun x hx => ?_, fun x hx => ?_, fun x hx => ?_, fun x hx => ?_⟩
  · rw [f _ (by unfold MCs; omega), g _ (by unfold MRs; omega)]
    exact h1 y x hy hx
  · rw [f _ (by unfold MCs; omega), g _ (by unfold MRs; omega)]
    exact h2 x hx
  · rw [f _ (by unfold MCs; omega), g _ (by unfold MRs; omega)]
    exact h3 x hx
  · rw [f _ (by unfold MCs; omega), g _ (by unfold MRs; omega)]
    exact h4 x hx
  · rw [f _ (by unfold MCs; omega), g _ (by unfold MRs; omega)]
    exact h5 x hx
  · rw [f _ (by unfold MCs; omega), g _ (by unfold MRs; omega)]
    exact h6 x hx
set_option maxRecDepth 100000 in
/-- the challenge of a pass: both sides -/
theorem chl1 {s1 t3 s : Sto} {WW : Nat → Nat → Int32} (hR : ∀ y, y < 6 → rdc 8380417 (WW y)) (hW : ∀ y, y < 6 → t3.1 (351 + y) = WW y) (hU : ∀ x, x < 64 → s.1 143 x = t3.1 373 x) (hA : spA 16 17 (chS 4 128 (s.1 143) (fun y k => hN1 (vn (WW y) k)) 6) 136 (nI 31) s1) (hE : E_MH_ball_1 376 (F_MH_marked_1 (nI 0) 376 t3)) :
    (∀ k, k ≠ 16 → k ≠ 18 → k ≠ 140 → k ≠ 144 → (F_DA_commit_1_L2 0 6 s1).1 k = s1.1 k) ∧ (∀ k, k ≠ 172 → k ≠ 375 → k ≠ 376 → k ≠ 368 → (F_MH_ball_1 376 (F_MH_marked_1 (nI 0) 376 t3)).1 k = t3.1 k) ∧ (∀ x, x < 48 → (F_DA_commit_1_L2 0 6 s1).1 144 x = (F_MH_ball_1 376 (F_MH_marked_1 (nI 0) 376 t3)).1 376 x) ∧ (∀ x, x < 48 → vp_nar .byte ((F_MH_ball_1 376 (F_MH_marked_1 (nI 0) 376 t3)).1 376 x) = (F_MH_ball_1 376 (F_MH_marked_1 (nI 0) 376 t3)).1 376 x) ∧ BALL ((F_DA_commit_1_L2 0 6 s1).1 140) ((F_MH_ball_1 376 (F_MH_marked_1 (nI 0) 376 t3)).1 368) := by
  have h0 : 0 < 136 := by decide
  have hr : 136 < 200 := by decide
  have hX : F_DA_commit_1_L2 0 6 s1 = F_RG_transform_8 140 (F_SA_sampleBall_1 140 144 64 (F_SP_squeeze 16 17 144 64 0 48 (F_SP_finish 16 17 s1))) := by
    rw [F_DA_commit_1_L2]
    repeat rw [bnd_eq]
  have hY : F_MH_marked_1 (nI 0) 376 t3 = F_MH_marked_1_L0 (nI 0) 376 6 0 (F_MS_puts 373 64 0 64 (F_MS_begin 136 (nI 31) t3)) := by
    rw [F_MH_marked_1]
    repeat rw [bnd_eq]
    rw [shM]
  obtain ⟨a1, a2⟩ := Q_begin (rt := 136) (sf := nI 31) (s := t3)
  obtain ⟨b1, b2⟩ := Q_puts (pb := 373) (nb := 64) (at_ := 0) (len := 64) a1 hr h0 (by decide)
  rw [a2.1 373 (by decide)] at b1
  have m0 := a2.tr b2
  generalize F_MS_puts 373 64 0 64 (F_MS_begin 136 (nI 31) t3) = t4 at b1 m0 hY
  obtain ⟨t5, c1, c2, c3⟩ := mr01 (pt := 376) (MU := t3.1 373) (WW := WW) hR 6 0 t4 (by decide) b1 (fun y hy => by rw [m0.1 _ (by omega)]; exact hW y hy)
  rw [c1] at hY
  rw [hY] at hE ⊢
  rw [chS_c (MU' := t3.1 373) hU] at hA
  obtain ⟨d1, d2⟩ := P_finish hA h0 hr (chS_lt _)
  obtain ⟨e1, e2⟩ := Q_end c3 h0 hr (chS_lt _)
  obtain ⟨f1, f2, f3, -, -⟩ := sq_same (pb := 144) (qb := 376) (nb := 64) (at1 := 0) (len := 48) (mb := 64) (at2 := 0) d1 e1 h0 hr (by decide) (by decide)
  have f4 := (Q_take (pb := 376) (nb := 64) (at_ := 0) (len := 48) e1 h0 hr (Nat.zero_le _) (by decide)).1
  have f5 : ∀ x, x < 48 → vp_nar .byte ((F_MS_take 376 64 0 48 (F_MS_end t5)).1 376 x) = (F_MS_take 376 64 0 48 (F_MS_end t5)).1 376 x := fun x hx => by rw [f4, sq_at, if_pos (by omega), pk_vb, pk_vb]
  have f6 : ∀ x, x < 48 → (F_SP_squeeze 16 17 144 64 0 48 (F_SP_finish 16 17 s1)).1 144 x = (F_MS_take 376 64 0 48 (F_MS_end t5)).1 376 x := fun x hx => by
    have := f3 x hx
    rw [Nat.zero_add] at this
    exact this
  have g1 : ∀ k, k ≠ 16 → k ≠ 144 → (F_SP_squeeze 16 17 144 64 0 48 (F_SP_finish 16 17 s1)).1 k = s1.1 k := fun k u v => by rw [f1.1 k u v, d2.1 k u]
  have g2 : ∀ k, k ≠ 172 → k ≠ 376 → k ≠ 375 → (F_MS_take 376 64 0 48 (F_MS_end t5)).1 k = t3.1 k := fun k u v w => by rw [f2.1 k u v, e2.1 k u, c2 k (by omega), m0.1 k u]
  generalize F_SP_squeeze 16 17 144 64 0 48 (F_SP_finish 16 17 s1) = s2 at f6 g1 hX
  generalize F_MS_take 376 64 0 48 (F_MS_end t5) = t6 at f5 f6 g2 hE ⊢
  obtain ⟨l1, l2, l3⟩ := ball1_same (pf := 140) (pb := 144) (n := 64) (qb := 376) (s := s2) (t := t6) (by decide) (by decide) (by decide) f6 hE
  generalize F_SA_sampleBall_1 140 144 64 s2 = s3 at l1 l3 hX
  generalize F_MH_ball_1 376 t6 = t7 at l2 l3 ⊢
  have n1 := (P_transform8 (tern_r l3)).1
  rw [hX]
  refine ⟨fun k u1 u2 u3 u4 => by rw [n1.1 k u3, l1.1 k u2 u3, g1 k u1 u4], fun k u1 u2 u3 u4 => by rw [l2.1 k u1 u4, g2 k u1 u3 u2], fun x hx => ?_, fun x hx => ?_, ⟨s3, 140, fun _ _ => rfl, l3⟩⟩
  · rw [n1.1 144 (by decide), l1.1 144 (by decide) (by decide), l2.1 376 (by decide) (by decide)]
    exact f6 x hx
  · rw [l2.1 376 (by decide) (by decide)]
    exact f5 x hx
/-- the tests of a pass, and the signature, set 1 -/
theorem fin1 {pt qt i : Nat} {s t : Sto} {X : Int32 × Sto} {kk : Sto → Int32 × Sto} (hp : ¬ (16 ≤ pt ∧ pt ≤ 18) ∧ ¬ (41 ≤ pt ∧ pt ≤ 147)) (hq : ¬ (225 ≤ qt ∧ qt ≤ 378)) (hB : BALL (s.1 140) (t.1 368)) (h1 : ∀ x, x < 5 → tr8 (s.1 (98 + x)) (t.1 (292 + x))) (h2 : ∀ x, x < 6 → tr8 (s.1 (106 + x)) (t.1 (300 + x))) (h3 : ∀ x, x < 6 → tr8 (s.1 (115 + x)) (t.1 (309 + x))) (h4 : ∀ x, x < 5 → sr 8380417 (s.1 (124 + x)) (t.1 (327 + x))) (h5 : ∀ x, x < 6 → sr 8380417 (s.1 (132 + x)) (t.1 (351 + x))) (h6 : ∀ x, x < 48 → s.1 144 x = t.1 376 x) (h7 : ∀ x, x < 48 → vp_nar .byte (t.1 376 x) = t.1 376 x) (hX : X = if (F_DA_answerIsShort_1 s).1 = 0 then kk (F_DA_answerIsShort_1 s).2 else if (F_DA_restIsShort_1 (F_DA_answerIsShort_1 s).2).1 = 0 then kk (F_DA_restIsShort_1 (F_DA_answerIsShort_1 s).2).2 else if (F_DA_makeHints_1 (F_DA_restIsShort_1 (F_DA_answerIsShort_1 s).2).2).1 = 0 then kk (F_DA_makeHints_1 (F_DA_restIsShort_1 (F_DA_answerIsShort_1 s).2).2).2 else (nI i, F_DA_writeSignature_1 pt (F_DA_makeHints_1 (F_DA_restIsShort_1 (F_DA_answerIsShort_1 s).2).2).2)) :
    ∃ s1 t1, frm (MCs pt) s s1 ∧ frm (MRs qt) t t1 ∧ ((X = kk s1 ∧ F_MH_fits_1 t = (nI 0, t1)) ∨ (∃ t2, X = (nI i, s1) ∧ F_MH_fits_1 t = (nI 1, t2) ∧ F_MH_written_1 qt t2 = t1 ∧ ∀ x, x < 3309 → s1.1 pt x = t1.1 qt x)) := by
  have z1 : ¬ nI 1 = 0 := by decide
  have z0 : nI 0 = 0 := by decide
  have hF : F_MH_fits_1 t = F_MH_fits_1_L0 5 0 t := by rw [F_MH_fits_1]
  obtain ⟨s1, t1, a1, a2, a3⟩ := an1 5 0 s t (by decide) hB h1 (fun x _ hx => h4 x hx) (fun x hx => absurd hx (Nat.not_lt_zero _))
  rcases a3 with ⟨b1, b2, b3⟩ | ⟨b1, b2⟩
  · rw [← F_DA_answerIsShort_1] at b1
    rw [b1] at hX
    dsimp only at hX
    rw [if_neg z1] at hX
    obtain ⟨s2, t2, c1, c2, c3⟩ := re1 6 0 s1 t1 (by decide) (by rw [a1 140 (by omega), a2 368 (by omega)]; exact hB) (fun x hx => by rw [a1 _ (by omega), a2 _ (by omega)]; exact h2 x hx) (fun x hx => by rw [a1 _ (by omega), a2 _ (by omega)]; exact h5 x hx)
    rcases c3 with ⟨d1, d2, d3⟩ | ⟨d1, d2⟩
    · rw [← F_DA_restIsShort_1] at d1
      rw [d1] at hX
      dsimp only at hX
      rw [if_neg z1] at hX
      have hH : F_DA_makeHints_1 s2 = F_DA_makeHints_1_L0 6 0 0 (F_AR_fillB_L0 146 (nI 0) 84 0 s2) := by rw [F_DA_makeHints_1, bnd_eq, F_AR_fillB]
      obtain ⟨e1, e2, -⟩ := P_fillB (pf := 146) 84 0 s2
      generalize F_AR_fillB_L0 146 (nI 0) 84 0 s2 = s3 at e1 e2 hH
      have p1 : ∀ k, ¬ (124 ≤ k ∧ k ≤ 139) → k ≠ 141 → k ≠ 146 → s3.1 k = s.1 k := fun k u v w => by rw [e1.1 k w, c1 k (by omega), a1 k (by omega)]
      have p2 : ∀ k, ¬ (335 ≤ k ∧ k ≤ 358) → k ≠ 369 → t2.1 k = t.1 k := fun k u v => by rw [c2 k (by omega), a2 k (by omega)]
      obtain ⟨s4, t4, f1, f2, f3⟩ := hi_same1 6 0 0 s3 t2 (by decide) (by decide) (by rw [p1 140 (by omega) (by omega) (by omega), p2 368 (by omega) (by omega)]; exact hB) (fun x hx => by rw [p1 _ (by omega) (by omega) (by omega), p2 _ (by omega) (by omega)]; exact h3 x hx) (fun x hx => by rw [e1.1 _ (by omega)]; exact d3 x hx)
      have q1 : frm (MCs pt) s s4 := fun k hk => by
        unfold MCs at hk
        rw [f1 k (by omega), p1 k (by omega) (by omega) (by omega)]
      have q2 : frm (MRs qt) t t4 := fun k hk => by
        unfold MRs at hk
        rw [f2 k (by omega), p2 k (by omega) (by omega)]
      rw [hH] at hX
      rcases f3 with ⟨HB, g1, g2, g3, g4⟩ | ⟨g1, g2⟩
      · rw [g1] at hX
        dsimp only at hX
        rw [if_neg z1] at hX
        obtain ⟨w1, w2, w3⟩ := sig1_same (pt := pt) (qt := qt) (HB := HB) (s := s4) (t := t4) hp hq (fun x hx => by rw [f1 144 (by omega), p1 144 (by omega) (by omega) (by omega), f2 376 (by omega), p2 376 (by omega) (by omega)]; exact h6 x hx) (fun x hx => by rw [f2 376 (by omega), p2 376 (by omega) (by omega)]; exact h7 x hx) (fun x hx => by rw [f1 _ (by omega), e1.1 _ (by omega), c1 _ (by omega), f2 _ (by omega), c2 _ (by omega)]; exact b3 x hx) (fun x k hx hk => (g4 x (Nat.zero_le _) hx k hk).1) (fun x hx k hk => (g4 x (Nat.zero_le _) hx k hk).2) (fun x hx => by
          rw [g3]
          exact hwR_c 6 0 0 _ _ (fun y hy => e2 y (Nat.zero_le _) (by omega)) x hx)
        refine ⟨_, _, fun k hk => ?_, fun k hk => ?_, Or.inr ⟨t4, hX, ((hF.trans b2).trans d2).trans g2, rfl, w3⟩⟩
        · have := q1 k hk
          unfold MCs at hk
          rw [w1 k (by omega)]
          exact this
        · have := q2 k hk
          unfold MRs at hk
          rw [w2.1 k (by omega)]
          exact this
      · rw [g1] at hX
        dsimp only at hX
        rw [if_pos z0] at hX
        exact ⟨s4, t4, q1, q2, Or.inl ⟨hX, ((hF.trans b2).trans d2).trans g2⟩⟩
    · rw [← F_DA_restIsShort_1] at d1
      rw [d1] at hX
      dsimp only at hX
      rw [if_pos z0] at hX
      refine ⟨s2, t2, fun k hk => ?_, fun k hk => ?_, Or.inl ⟨hX, (hF.trans b2).trans d2⟩⟩
      · unfold MCs at hk
        rw [c1 k (by omega), a1 k (by omega)]
      · unfold MRs at hk
        rw [c2 k (by omega), a2 k (by omega)]
  · rw [← F_DA_answerIsShort_1] at b1
    rw [b1] at hX
    dsimp only at hX
    rw [if_pos z0] at hX
    refine ⟨s1, t1, fun k hk => ?_, fun k hk => ?_, Or.inl ⟨hX, hF.trans b2⟩⟩
    · unfold MCs at hk
      rw [a1 k (by omega)]
    · unfold MRs at hk
      rw [a2 k (by omega)]
