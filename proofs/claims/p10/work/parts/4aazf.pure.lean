set_option linter.all false
/-! hashes of ML-KEM, copies, Encaps -/
theorem digest_same {pb n at_ len qb m bt qt nt wh : Nat} {s t : Sto} (h1 : pb ≠ 14) (h2 : qb ≠ 172) (h3 : qt ≠ 172) (hB : ∀ j, j < len → s.1 pb (at_ + j) = t.1 qb (bt + j)) : same2 14 15 33 s (F_KM_digestOf pb n at_ len s) ∧ same2 172 173 qt t (F_ME_hash qb m bt len qt nt wh t) ∧ (∀ j, j < 32 → (F_KM_digestOf pb n at_ len s).1 33 j = (F_ME_hash qb m bt len qt nt wh t).1 qt (wh + j)) ∧ (∀ j, j < 32 → vp_nar .byte ((F_ME_hash qb m bt len qt nt wh t).1 qt (wh + j)) = (F_ME_hash qb m bt len qt nt wh t).1 qt (wh + j)) ∧ ∀ k, (k < wh ∨ wh + 32 ≤ k) → (F_ME_hash qb m bt len qt nt wh t).1 qt k = t.1 qt k := by
  have h0 : 0 < 136 := by decide
  have hr : 136 < 200 := by decide
  have hU : F_KM_digestOf pb n at_ len s = F_SP_squeeze 14 15 33 32 0 32 (F_SP_finish 14 15 (F_SP_absorb 14 15 pb n at_ len (F_SP_start_0 14 15 s))) := by
    unfold F_KM_digestOf
    repeat rw [bnd_eq]
  have hV : F_ME_hash qb m bt len qt nt wh t = F_MS_take qt nt wh 32 (F_MS_end (F_MS_puts qb m bt len (F_MS_begin 136 (nI 6) t))) := by
    unfold F_ME_hash
    repeat rw [bnd_eq]
  have hs2 : F_SP_start_0 14 15 s = sI (sI (sI (F_AR_fillJ 15 25 0 s) 14 1 (nI 136)) 14 2 (nI 6)) 14 3 (nI 0) := by
    unfold F_SP_start_0
    repeat rw [bnd_eq]
  obtain ⟨a1, a2⟩ := P_start (pv := 14) (qv := 15) (rt := 136) (sf := nI 6) (s := s)
  rw [← hs2] at a1 a2
  obtain ⟨b1, b2⟩ := P_absorb (nb := n) (at_ := at_) (len := len) a1 hr h0 h1
  obtain ⟨f1, f2⟩ := P_finish b1 h0 hr (abN_lt h0 len)
  obtain ⟨a1', a2'⟩ := Q_begin (rt := 136) (sf := nI 6) (s := t)
  obtain ⟨b1', b2'⟩ := Q_puts (nb := m) (at_ := bt) (len := len) a1' hr h0 h2
  obtain ⟨f1', f2'⟩ := Q_end b1' h0 hr (abN_lt h0 len)
  rw [a2.1 pb h1, abN_ab (b := s.1 pb) (c := t.1 qb) (at1 := at_) (at2 := bt) len hB] at f1
  rw [a2'.1 qb h2] at f1'
  have m1 := (a2.tr b2).tr f2
  have m2 := (a2'.tr b2').tr f2'
  obtain ⟨g1, g2, g3, -, g5⟩ := sq_same (nb := 32) (at1 := 0) (len := 32) (mb := nt) (at2 := wh) f1 f1' h0 hr (show 33 ≠ 14 by decide) h3
  have g6 := (Q_take (nb := nt) (at_ := wh) (len := 32) f1' h0 hr (Nat.zero_le _) h3).1
  rw [hU, hV]
  refine ⟨same2.tr ⟨fun k u _ => m1.1 k u, m1.2⟩ g1, same2.tr ⟨fun k u _ => m2.1 k u, m2.2⟩ g2, fun j hj => ?_, fun j hj => ?_, fun k hk => ?_⟩
  · have := g3 j hj
    rw [Nat.zero_add] at this
    exact this
  · rw [g6, sq_at, if_pos (by omega), pk_vb, pk_vb]
  · rw [g5 k hk, m2.1 qt h3]
theorem seeds_same {pb n at_ qb m : Nat} {s t : Sto} (h1 : pb ≠ 14) (h2 : qb ≠ 172) (hM : ∀ j, j < 32 → s.1 32 j = t.1 qb j) (hH : ∀ j, j < 32 → s.1 pb (at_ + j) = t.1 222 j) : same2 14 15 34 s (F_KM_deriveSeeds pb n at_ s) ∧ same2 172 173 220 t (F_ME_both qb m t) ∧ (∀ j, j < 64 → (F_KM_deriveSeeds pb n at_ s).1 34 j = (F_ME_both qb m t).1 220 j) ∧ ∀ j, j < 64 → vp_nar .byte ((F_ME_both qb m t).1 220 j) = (F_ME_both qb m t).1 220 j := by
  have h0 : 0 < 72 := by decide
  have hr : 72 < 200 := by decide
  have hU : F_KM_deriveSeeds pb n at_ s = F_SP_squeeze 14 15 34 64 0 64 (F_SP_finish 14 15 (F_SP_absorb 14 15 pb n at_ 32 (F_SP_absorb 14 15 32 32 0 32 (F_SP_start_1 14 15 s)))) := by
    unfold F_KM_deriveSeeds
    repeat rw [bnd_eq]
  have hV : F_ME_both qb m t = F_MS_take 220 64 0 64 (F_MS_end (F_MS_puts 222 32 0 32 (F_MS_puts qb m 0 32 (F_MS_begin 72 (nI 6) t)))) := by
    unfold F_ME_both
    repeat rw [bnd_eq]
  have hs2 : F_SP_start_1 14 15 s = sI (sI (sI (F_AR_fillJ 15 25 0 s) 14 1 (nI 72)) 14 2 (nI 6)) 14 3 (nI 0) := by
    unfold F_SP_start_1
    repeat rw [bnd_eq]
  obtain ⟨a1, a2⟩ := P_start (pv := 14) (qv := 15) (rt := 72) (sf := nI 6) (s := s)
  rw [← hs2] at a1 a2
  obtain ⟨b1, b2⟩ := P_absorb (pb := 32) (nb := 32) (at_ := 0) (len := 32) a1 hr h0 (by decide)
  obtain ⟨c1, c2⟩ := P_absorb (pb := pb) (nb := n) (at_ := at_) (len := 32) b1 hr (abN_lt h0 32) h1
  obtain ⟨f1, f2⟩ := P_finish c1 h0 hr (abN_lt (abN_lt h0 32) 32)
  obtain ⟨a1', a2'⟩ := Q_begin (rt := 72) (sf := nI 6) (s := t)
  obtain ⟨b1', b2'⟩ := Q_puts (pb := qb) (nb := m) (at_ := 0) (len := 32) a1' hr h0 h2
  obtain ⟨c1', c2'⟩ := Q_puts (pb := 222) (nb := 32) (at_ := 0) (len := 32) b1' hr (abN_lt h0 32) (by decide)
  obtain ⟨f1', f2'⟩ := Q_end c1' h0 hr (abN_lt (abN_lt h0 32) 32)
  rw [b2.1 pb h1, a2.1 pb h1, a2.1 32 (by decide), abN_ab (b := s.1 32) (c := t.1 qb) (at1 := 0) (at2 := 0) 32 (fun j hj => by rw [Nat.zero_add]; exact hM j hj), abN_ab (b := s.1 pb) (c := t.1 222) (at1 := at_) (at2 := 0) 32 (fun j hj => by rw [Nat.zero_add]; exact hH j hj)] at f1
  rw [b2'.1 222 (by decide), a2'.1 222 (by decide), a2'.1 qb h2] at f1'
  have m1 := ((a2.tr b2).tr c2).tr f2
  have m2 := ((a2'.tr b2').tr c2').tr f2'
  obtain ⟨g1, g2, g3, -, -⟩ := sq_same (pb := 34) (qb := 220) (nb := 64) (at1 := 0) (len := 64) (mb := 64) (at2 := 0) f1 f1' h0 hr (by decide) (by decide)
  have g6 := (Q_take (pb := 220) (nb := 64) (at_ := 0) (len := 64) f1' h0 hr (Nat.zero_le _) (by decide)).1
  rw [hU, hV]
  refine ⟨same2.tr ⟨fun k u _ => m1.1 k u, m1.2⟩ g1, same2.tr ⟨fun k u _ => m2.1 k u, m2.2⟩ g2, fun j hj => ?_, fun j hj => ?_⟩
  · have := g3 j hj
    rw [Nat.zero_add] at this
    exact this
  · rw [g6, sq_at, if_pos (by omega), pk_vb, pk_vb]
/-- a loop that copies bytes -/
theorem cp_loop {α : Type} {pt pr_ o r : Nat} {G : Nat → Nat → Sto → α} {K : Sto → α} (hne : pr_ ≠ pt) (h0 : ∀ i s, G 0 i s = K s) (h1 : ∀ n i s, G (n + 1) i s = G n (i + 1) (sB s pt (o + i) (s.1 pr_ (r + i)))) : ∀ (n i : Nat) (s : Sto), ∃ s1, G n i s = K s1 ∧ onl pt s s1 ∧ (∀ k, i ≤ k → k < i + n → s1.1 pt (o + k) = vp_nar .byte (s.1 pr_ (r + k))) ∧ ∀ k, (k < o + i ∨ o + (i + n) ≤ k) → s1.1 pt k = s.1 pt k
  | 0, i, s => ⟨s, h0 i s, onl_rf, fun k u v => by omega, fun _ _ => rfl⟩
  | n + 1, i, s => by
    have o1 : onl pt s (sB s pt (o + i) (s.1 pr_ (r + i))) := onl_sI
    have r1 : (sB s pt (o + i) (s.1 pr_ (r + i))).1 pt = upd (s.1 pt) (o + i) (vp_nar .byte (s.1 pr_ (r + i))) := sI_row
    have hU := h1 n i s
    generalize sB s pt (o + i) (s.1 pr_ (r + i)) = s0 at hU o1 r1
    obtain ⟨s1, a, b, c, d⟩ := cp_loop hne h0 h1 n (i + 1) s0
    refine ⟨s1, hU.trans a, onl_tr o1 b, fun k u v => ?_, fun k u => ?_⟩
    · by_cases w : k = i
      · subst w
        rw [d (o + k) (by omega), r1, upd_s]
      · rw [c k (by omega) (by omega), o1.1 pr_ hne]
    · rw [d k (by omega), r1, upd_n (by omega)]
theorem sC_o {s : Sto} {k0 k1 sp dp n : Nat} : onl k1 s (sC s k0 k1 sp dp n) := ⟨fun _ hk => uA_ne hk, rfl⟩
theorem sC_in {s : Sto} {k0 k1 sp dp n j : Nat} (h : j < n) : (sC s k0 k1 sp dp n).1 k1 (dp + j) = s.1 k0 (sp + j) := by
  show uA s.1 k1 _ k1 (dp + j) = _
  rw [uA_eq, pk_cpy_in (by omega) (by omega), Nat.add_sub_cancel_left]
theorem sC_out {s : Sto} {k0 k1 sp dp n j : Nat} (h : j < dp ∨ dp + n ≤ j) : (sC s k0 k1 sp dp n).1 k1 j = s.1 k1 j := by
  show uA s.1 k1 _ k1 j = _
  rw [uA_eq, pk_cpy_out h]
/-- ML-KEM.Encaps, set 0: where the reference's draws end in time, the ciphertext and the shared secret are the same bytes -/
theorem seal0_same {pp pch n pt pek pms qt : Nat} {s t : Sto} (hC : apC pp pt) (hR : apR pek pms qt) (hK : ∀ j, j < 800 → s.1 pp j = t.1 pek j) (hM : ∀ j, j < 32 → s.1 pch j = t.1 pms j) (hE : E_ME_seal_0 pek pms qt t) : frm (fun k => MC pt k ∨ k = 32 ∨ k = 33 ∨ k = 34) s (F_KM_encapsulate_0 pp pch n pt s) ∧ frm (fun k => MR qt k ∨ k = 220 ∨ k = 222) t (F_ME_seal_0 pek pms qt t).2 ∧ (F_ME_seal_0 pek pms qt t).1 = nI 800 ∧ ∀ x, x < 800 → (F_KM_encapsulate_0 pp pch n pt s).1 pt x = (F_ME_seal_0 pek pms qt t).2.1 qt x := by
  have hC' := hC
  unfold apC at hC'
  have hR' := hR
  unfold apR at hR'
  have o2 : ∀ w : Sto, (F_ME_openSize_0 w).2 = w := fun w => by rw [F_ME_openSize_0]
  have o3 : ∀ w : Sto, (F_ME_sealedSize_0 w).2 = w := fun w => by rw [F_ME_sealedSize_0]
  have hU : F_KM_encapsulate_0 pp pch n pt s = sC (F_KM_encrypt_0 pp pt 8192 (F_KM_deriveSeeds 33 32 0 (F_KM_digestOf pp 800 0 800 (sC s pch 32 0 0 32)))) 34 pt 0 768 32 := by
    rw [F_KM_encapsulate_0]
    repeat rw [bnd_eq]
  have hV : F_ME_seal_0 pek pms qt t = F_ME_seal_0_L0 qt 32 0 (F_ME_encrypt_0 pek 2592 0 pms 16384 qt 8192 (F_ME_both pms 16384 (F_ME_hash pek 2592 0 800 222 32 0 t))) := by
    rw [F_ME_seal_0]
    repeat rw [bnd_eq]
    rw [o3, o2]
  rw [E_ME_seal_0, bnd_eq, bnd_eq, bnd_eq, bnd_eq, o2] at hE
  have hE1 := hE.1
  have a1 : onl 32 s (sC s pch 32 0 0 32) := sC_o
  have a2 : ∀ j, j < 32 → (sC s pch 32 0 0 32).1 32 j = s.1 pch j := fun j hj => by
    have := sC_in (s := s) (k0 := pch) (k1 := 32) (sp := 0) (dp := 0) hj
    rw [Nat.zero_add] at this
    exact this
  generalize sC s pch 32 0 0 32 = s1 at a1 a2 hU
  obtain ⟨b1, b2, b3, -, -⟩ := digest_same (pb := pp) (n := 800) (at_ := 0) (len := 800) (qb := pek) (m := 2592) (bt := 0) (qt := 222) (nt := 32) (wh := 0) (s := s1) (t := t) (by omega) (by omega) (by decide) (fun j hj => by rw [a1.1 pp (by omega), Nat.zero_add]; exact hK j hj)
  generalize F_KM_digestOf pp 800 0 800 s1 = s2 at b1 b3 hU
  generalize F_ME_hash pek 2592 0 800 222 32 0 t = t2 at b2 b3 hV hE1
  have e1 : s2.1 32 = s1.1 32 := b1.1 32 (by decide) (by decide)
  have e2 : t2.1 pms = t.1 pms := b2.1 pms (by omega) (by omega)
  obtain ⟨c1, c2, c3, c4⟩ := seeds_same (pb := 33) (n := 32) (at_ := 0) (qb := pms) (m := 16384) (s := s2) (t := t2) (by decide) (by omega) (fun j hj => by rw [e1, e2, a2 j hj]; exact hM j hj) (fun j hj => by
    have := b3 j hj
    rw [Nat.zero_add] at this ⊢
    exact this)
  generalize F_KM_deriveSeeds 33 32 0 s2 = s3 at c1 c3 hU
  generalize F_ME_both pms 16384 t2 = t3 at c2 c3 c4 hV hE1
  have e3 : s3.1 pp = s.1 pp := by rw [c1.1 pp (by omega) (by omega), b1.1 pp (by omega) (by omega), a1.1 pp (by omega)]
  have e4 : t3.1 pek = t.1 pek := by rw [c2.1 pek (by omega) (by omega), b2.1 pek (by omega) (by omega)]
  have e5 : s3.1 32 = s1.1 32 := (c1.1 32 (by decide) (by decide)).trans e1
  have e6 : t3.1 pms = t.1 pms := (c2.1 pms (by omega) (by omega)).trans e2
  obtain ⟨d1, d2, d3⟩ := encrypt0_same (pp := pp) (pt := pt) (n := 8192) (pek := pek) (nn := 2592) (at_ := 0) (pms := pms) (nm := 16384) (pct := qt) (nc := 8192) (s := s3) (t := t3) hC hR (fun j hj => by rw [e3, e4, Nat.zero_add]; exact hK j hj) (fun j hj => by rw [e5, e6, a2 j hj]; exact hM j hj) (fun j hj => c3 (32 + j) (by omega)) hE1
  generalize F_KM_encrypt_0 pp pt 8192 s3 = s4 at d1 d3 hU
  generalize F_ME_encrypt_0 pek 2592 0 pms 16384 qt 8192 t3 = t4 at d2 d3 hV
  have e7 : s4.1 34 = s3.1 34 := d1 34 (by unfold MC; omega)
  have e8 : t4.1 220 = t3.1 220 := d2 220 (by unfold MR; omega)
  obtain ⟨t5, f1, f2, f3, f4⟩ := cp_loop (pt := qt) (pr_ := 220) (o := 768) (r := 0) (G := F_ME_seal_0_L0 qt) (K := fun s => (nI 800, s)) (by omega) (fun i s => by rw [F_ME_seal_0_L0]) (fun n i s => by rw [F_ME_seal_0_L0, bnd_eq, Nat.zero_add]) 32 0 t4
  rw [f1] at hV
  rw [hU, hV]
  refine ⟨fun k hk => ?_, fun k hk => ?_, rfl, fun x hx => ?_⟩
  · unfold MC at hk
    rw [(sC_o (s := s4) (k0 := 34) (k1 := pt) (sp := 0) (dp := 768) (n := 32)).1 k (by omega), d1 k (by unfold MC; omega), c1.1 k (by omega) (by omega), b1.1 k (by omega) (by omega), a1.1 k (by omega)]
  · unfold MR at hk
    show t5.1 k = t.1 k
    rw [f2.1 k (by omega), d2 k (by unfold MR; omega), c2.1 k (by omega) (by omega), b2.1 k (by omega) (by omega)]
  · show _ = t5.1 qt x
    by_cases w : x < 768
    · rw [sC_out (Or.inl w), f4 x (Or.inl (by omega))]
      exact d3 x w
    · have g1 := sC_in (s := s4) (k0 := 34) (k1 := pt) (sp := 0) (dp := 768) (n := 32) (j := x - 768) (by omega)
      have g2 := f3 (x - 768) (Nat.zero_le _) (by omega)
      rw [show 768 + (x - 768) = x by omega] at g1 g2
      rw [g1, g2, e7, e8, Nat.zero_add, c4 _ (by omega)]
      exact c3 _ (by omega)
/-- ML-KEM.Encaps, set 1: where the reference's draws end in time, the ciphertext and the shared secret are the same bytes -/
theorem seal1_same {pp pch n pt pek pms qt : Nat} {s t : Sto} (hC : apC pp pt) (hR : apR pek pms qt) (hK : ∀ j, j < 1184 → s.1 pp j = t.1 pek j) (hM : ∀ j, j < 32 → s.1 pch j = t.1 pms j) (hE : E_ME_seal_1 pek pms qt t) : frm (fun k => MC pt k ∨ k = 32 ∨ k = 33 ∨ k = 34) s (F_KM_encapsulate_1 pp pch n pt s) ∧ frm (fun k => MR qt k ∨ k = 220 ∨ k = 222) t (F_ME_seal_1 pek pms qt t).2 ∧ (F_ME_seal_1 pek pms qt t).1 = nI 1120 ∧ ∀ x, x < 1120 → (F_KM_encapsulate_1 pp pch n pt s).1 pt x = (F_ME_seal_1 pek pms qt t).2.1 qt x := by
  have hC' := hC
  unfold apC at hC'
  have hR' := hR
  unfold apR at hR'
  have o2 : ∀ w : Sto, (F_ME_openSize_1 w).2 = w := fun w => by rw [F_ME_openSize_1]
  have o3 : ∀ w : Sto, (F_ME_sealedSize_1 w).2 = w := fun w => by rw [F_ME_sealedSize_1]
  have hU : F_KM_encapsulate_1 pp pch n pt s = sC (F_KM_encrypt_1 pp pt 8192 (F_KM_deriveSeeds 33 32 0 (F_KM_digestOf pp 1184 0 1184 (sC s pch 32 0 0 32)))) 34 pt 0 1088 32 := by
    rw [F_KM_encapsulate_1]
    repeat rw [bnd_eq]
  have hV : F_ME_seal_1 pek pms qt t = F_ME_seal_1_L0 qt 32 0 (F_ME_encrypt_1 pek 2592 0 pms 16384 qt 8192 (F_ME_both pms 16384 (F_ME_hash pek 2592 0 1184 222 32 0 t))) := by
    rw [F_ME_seal_1]
    repeat rw [bnd_eq]
    rw [o3, o2]
  rw [E_ME_seal_1, bnd_eq, bnd_eq, bnd_eq, bnd_eq, o2] at hE
  have hE1 := hE.1
  have a1 : onl 32 s (sC s pch 32 0 0 32) := sC_o
  have a2 : ∀ j, j < 32 → (sC s pch 32 0 0 32).1 32 j = s.1 pch j := fun j hj => by
    have := sC_in (s := s) (k0 := pch) (k1 := 32) (sp := 0) (dp := 0) hj
    rw [Nat.zero_add] at this
    exact this
  generalize sC s pch 32 0 0 32 = s1 at a1 a2 hU
  obtain ⟨b1, b2, b3, -, -⟩ := digest_same (pb := pp) (n := 1184) (at_ := 0) (len := 1184) (qb := pek) (m := 2592) (bt := 0) (qt := 222) (nt := 32) (wh := 0) (s := s1) (t := t) (by omega) (by omega) (by decide) (fun j hj => by rw [a1.1 pp (by omega), Nat.zero_add]; exact hK j hj)
  generalize F_KM_digestOf pp 1184 0 1184 s1 = s2 at b1 b3 hU
  generalize F_ME_hash pek 2592 0 1184 222 32 0 t = t2 at b2 b3 hV hE1
  have e1 : s2.1 32 = s1.1 32 := b1.1 32 (by decide) (by decide)
  have e2 : t2.1 pms = t.1 pms := b2.1 pms (by omega) (by omega)
  obtain ⟨c1, c2, c3, c4⟩ := seeds_same (pb := 33) (n := 32) (at_ := 0) (qb := pms) (m := 16384) (s := s2) (t := t2) (by decide) (by omega) (fun j hj => by rw [e1, e2, a2 j hj]; exact hM j hj) (fun j hj => by
    have := b3 j hj
    rw [Nat.zero_add] at this ⊢
    exact this)
  generalize F_KM_deriveSeeds 33 32 0 s2 = s3 at c1 c3 hU
  generalize F_ME_both pms 16384 t2 = t3 at c2 c3 c4 hV hE1
  have e3 : s3.1 pp = s.1 pp := by rw [c1.1 pp (by omega) (by omega), b1.1 pp (by omega) (by omega), a1.1 pp (by omega)]
  have e4 : t3.1 pek = t.1 pek := by rw [c2.1 pek (by omega) (by omega), b2.1 pek (by omega) (by omega)]
  have e5 : s3.1 32 = s1.1 32 := (c1.1 32 (by decide) (by decide)).trans e1
  have e6 : t3.1 pms = t.1 pms := (c2.1 pms (by omega) (by omega)).trans e2
  obtain ⟨d1, d2, d3⟩ := encrypt1_same (pp := pp) (pt := pt) (n := 8192) (pek := pek) (nn := 2592) (at_ := 0) (pms := pms) (nm := 16384) (pct := qt) (nc := 8192) (s := s3) (t := t3) hC hR (fun j hj => by rw [e3, e4, Nat.zero_add]; exact hK j hj) (fun j hj => by rw [e5, e6, a2 j hj]; exact hM j hj) (fun j hj => c3 (32 + j) (by omega)) hE1
  generalize F_KM_encrypt_1 pp pt 8192 s3 = s4 at d1 d3 hU
  generalize F_ME_encrypt_1 pek 2592 0 pms 16384 qt 8192 t3 = t4 at d2 d3 hV
  have e7 : s4.1 34 = s3.1 34 := d1 34 (by unfold MC; omega)
  have e8 : t4.1 220 = t3.1 220 := d2 220 (by unfold MR; omega)
  obtain ⟨t5, f1, f2, f3, f4⟩ := cp_loop (pt := qt) (pr_ := 220) (o := 1088) (r := 0) (G := F_ME_seal_1_L0 qt) (K := fun s => (nI 1120, s)) (by omega) (fun i s => by rw [F_ME_seal_1_L0]) (fun n i s => by rw [F_ME_seal_1_L0, bnd_eq, Nat.zero_add]) 32 0 t4
  rw [f1] at hV
  rw [hU, hV]
  refine ⟨fun k hk => ?_, fun k hk => ?_, rfl, fun x hx => ?_⟩
  · unfold MC at hk
    rw [(sC_o (s := s4) (k0 := 34) (k1 := pt) (sp := 0) (dp := 1088) (n := 32)).1 k (by omega), d1 k (by unfold MC; omega), c1.1 k (by omega) (by omega), b1.1 k (by omega) (by omega), a1.1 k (by omega)]
  · unfold MR at hk
    show t5.1 k = t.1 k
    rw [f2.1 k (by omega), d2 k (by unfold MR; omega), c2.1 k (by omega) (by omega), b2.1 k (by omega) (by omega)]
  · show _ = t5.1 qt x
    by_cases w : x < 1088
    · rw [sC_out (Or.inl w), f4 x (Or.inl (by omega))]
      exact d3 x w
    · have g1 := sC_in (s := s4) (k0 := 34) (k1 := pt) (sp := 0) (dp := 1088) (n := 32) (j := x - 1088) (by omega)
      have g2 := f3 (x - 1088) (Nat.zero_le _) (by omega)
      rw [show 1088 + (x - 1088) = x by omega] at g1 g2
      rw [g1, g2, e7, e8, Nat.zero_add, c4 _ (by omega)]
      exact c3 _ (by omega)
/-- ML-KEM.Encaps, set 2: where the reference's draws end in time, the ciphertext and the shared secret are the same bytes -/
theorem seal2_same {pp pch n pt pek pms qt : Nat} {s t : Sto} (hC : apC pp pt) (hR : apR pek pms qt) (hK : ∀ j, j < 1568 → s.1 pp j = t.1 pek j) (hM : ∀ j, j < 32 → s.1 pch j = t.1 pms j) (hE : E_ME_seal_2 pek pms qt t) : frm (fun k => MC pt k ∨ k = 32 ∨ k = 33 ∨ k = 34) s (F_KM_encapsulate_2 pp pch n pt s) ∧ frm (fun k => MR qt k ∨ k = 220 ∨ k = 222) t (F_ME_seal_2 pek pms qt t).2 ∧ (F_ME_seal_2 pek pms qt t).1 = nI 1600 ∧ ∀ x, x < 1600 → (F_KM_encapsulate_2 pp pch n pt s).1 pt x = (F_ME_seal_2 pek pms qt t).2.1 qt x := by
  have hC' := hC
  unfold apC at hC'
  have hR' := hR
  unfold apR at hR'
  have o2 : ∀ w : Sto, (F_ME_openSize_2 w).2 = w := fun w => by rw [F_ME_openSize_2]
  have o3 : ∀ w : Sto, (F_ME_sealedSize_2 w).2 = w := fun w => by rw [F_ME_sealedSize_2]
  have hU : F_KM_encapsulate_2 pp pch n pt s = sC (F_KM_encrypt_2 pp pt 8192 (F_KM_deriveSeeds 33 32 0 (F_KM_digestOf pp 1568 0 1568 (sC s pch 32 0 0 32)))) 34 pt 0 1568 32 := by
    rw [F_KM_encapsulate_2]
    repeat rw [bnd_eq]
  have hV : F_ME_seal_2 pek pms qt t = F_ME_seal_2_L0 qt 32 0 (F_ME_encrypt_2 pek 2592 0 pms 16384 qt 8192 (F_ME_both pms 16384 (F_ME_hash pek 2592 0 1568 222 32 0 t))) := by
    rw [F_ME_seal_2]
    repeat rw [bnd_eq]
    rw [o3, o2]
  rw [E_ME_seal_2, bnd_eq, bnd_eq, bnd_eq, bnd_eq, o2] at hE
  have hE1 := hE.1
  have a1 : onl 32 s (sC s pch 32 0 0 32) := sC_o
  have a2 : ∀ j, j < 32 → (sC s pch 32 0 0 32).1 32 j = s.1 pch j := fun j hj => by
    have := sC_in (s := s) (k0 := pch) (k1 := 32) (sp := 0) (dp := 0) hj
    rw [Nat.zero_add] at this
    exact this
  generalize sC s pch 32 0 0 32 = s1 at a1 a2 hU
  obtain ⟨b1, b2, b3, -, -⟩ := digest_same (pb := pp) (n := 1568) (at_ := 0) (len := 1568) (qb := pek) (m := 2592) (bt := 0) (qt := 222) (nt := 32) (wh := 0) (s := s1) (t := t) (by omega) (by omega) (by decide) (fun j hj => by rw [a1.1 pp (by omega), Nat.zero_add]; exact hK j hj)
  generalize F_KM_digestOf pp 1568 0 1568 s1 = s2 at b1 b3 hU
  generalize F_ME_hash pek 2592 0 1568 222 32 0 t = t2 at b2 b3 hV hE1
  have e1 : s2.1 32 = s1.1 32 := b1.1 32 (by decide) (by decide)
  have e2 : t2.1 pms = t.1 pms := b2.1 pms (by omega) (by omega)
  obtain ⟨c1, c2, c3, c4⟩ := seeds_same (pb := 33) (n := 32) (at_ := 0) (qb := pms) (m := 16384) (s := s2) (t := t2) (by decide) (by omega) (fun j hj => by rw [e1, e2, a2 j hj]; exact hM j hj) (fun j hj => by
    have := b3 j hj
    rw [Nat.zero_add] at this ⊢
    exact this)
  generalize F_KM_deriveSeeds 33 32 0 s2 = s3 at c1 c3 hU
  generalize F_ME_both pms 16384 t2 = t3 at c2 c3 c4 hV hE1
  have e3 : s3.1 pp = s.1 pp := by rw [c1.1 pp (by omega) (by omega), b1.1 pp (by omega) (by omega), a1.1 pp (by omega)]
  have e4 : t3.1 pek = t.1 pek := by rw [c2.1 pek (by omega) (by omega), b2.1 pek (by omega) (by omega)]
  have e5 : s3.1 32 = s1.1 32 := (c1.1 32 (by decide) (by decide)).trans e1
  have e6 : t3.1 pms = t.1 pms := (c2.1 pms (by omega) (by omega)).trans e2
  obtain ⟨d1, d2, d3⟩ := encrypt2_same (pp := pp) (pt := pt) (n := 8192) (pek := pek) (nn := 2592) (at_ := 0) (pms := pms) (nm := 16384) (pct := qt) (nc := 8192) (s := s3) (t := t3) hC hR (fun j hj => by rw [e3, e4, Nat.zero_add]; exact hK j hj) (fun j hj => by rw [e5, e6, a2 j hj]; exact hM j hj) (fun j hj => c3 (32 + j) (by omega)) hE1
  generalize F_KM_encrypt_2 pp pt 8192 s3 = s4 at d1 d3 hU
  generalize F_ME_encrypt_2 pek 2592 0 pms 16384 qt 8192 t3 = t4 at d2 d3 hV
  have e7 : s4.1 34 = s3.1 34 := d1 34 (by unfold MC; omega)
  have e8 : t4.1 220 = t3.1 220 := d2 220 (by unfold MR; omega)
  obtain ⟨t5, f1, f2, f3, f4⟩ := cp_loop (pt := qt) (pr_ := 220) (o := 1568) (r := 0) (G := F_ME_seal_2_L0 qt) (K := fun s => (nI 1600, s)) (by omega) (fun i s => by rw [F_ME_seal_2_L0]) (fun n i s => by rw [F_ME_seal_2_L0, bnd_eq, Nat.zero_add]) 32 0 t4
  rw [f1] at hV
  rw [hU, hV]
  refine ⟨fun k hk => ?_, fun k hk => ?_, rfl, fun x hx => ?_⟩
  · unfold MC at hk
    rw [(sC_o (s := s4) (k0 := 34) (k1 := pt) (sp := 0) (dp := 1568) (n := 32)).1 k (by omega), d1 k (by unfold MC; omega), c1.1 k (by omega) (by omega), b1.1 k (by omega) (by omega), a1.1 k (by omega)]
  · unfold MR at hk
    show t5.1 k = t.1 k
    rw [f2.1 k (by omega), d2 k (by unfold MR; omega), c2.1 k (by omega) (by omega), b2.1 k (by omega) (by omega)]
  · show _ = t5.1 qt x
    by_cases w : x < 1568
    · rw [sC_out (Or.inl w), f4 x (Or.inl (by omega))]
      exact d3 x w
    · have g1 := sC_in (s := s4) (k0 := 34) (k1 := pt) (sp := 0) (dp := 1568) (n := 32) (j := x - 1568) (by omega)
      have g2 := f3 (x - 1568) (Nat.zero_le _) (by omega)
      rw [show 1568 + (x - 1568) = x by omega] at g1 g2
      rw [g1, g2, e7, e8, Nat.zero_add, c4 _ (by omega)]
      exact c3 _ (by omega)
