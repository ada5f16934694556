set_option linter.all false
/-! hash -/
theorem hash_core {tl al pn L rt : Nat} {sf : Int32} {s S2 : Sto} (h0 : 0 < rt) (hr : rt < 200) (h : SAME tl al pn s) (hL : L ≤ 8192) (hS : S2 = sI (sI (sI (F_AR_fillJ 13 25 0 (sI s 0 3 (nI L))) 12 1 (nI rt)) 12 2 sf) 12 3 (nI 0)) :
    S2.1 0 1 = nI tl ∧ (F_SP_finish 12 13 (F_SP_absorb 12 13 1 16384 0 tl S2)).1 0 3 = nI L ∧ (F_SP_squeeze 12 13 2 8192 0 L (F_SP_finish 12 13 (F_SP_absorb 12 13 1 16384 0 tl S2))).1 0 3 = nI L ∧ ∀ t, t = sI (F_SP_squeeze 12 13 2 8192 0 L (F_SP_finish 12 13 (F_SP_absorb 12 13 1 16384 0 tl S2))) 0 1 (nI 0) →
      (F_MS_begin rt sf (sI t 148 0 (nI 0))).1 148 1 = nI tl ∧ (F_MS_take 150 8192 0 L (sI (F_MS_end (F_MS_puts 149 16384 0 tl (F_MS_begin rt sf (sI t 148 0 (nI 0))))) 148 2 (nI L))).1 148 2 = nI L ∧ SAME 0 L pn (sI (F_MS_take 150 8192 0 L (sI (F_MS_end (F_MS_puts 149 16384 0 tl (F_MS_begin rt sf (sI t 148 0 (nI 0))))) 148 2 (nI L))) 148 1 (nI 0)) ∧ (sI (F_MS_take 150 8192 0 L (sI (F_MS_end (F_MS_puts 149 16384 0 tl (F_MS_begin rt sf (sI t 148 0 (nI 0))))) 148 2 (nI L))) 148 1 (nI 0)).1 148 0 = nI 0 := by
  obtain ⟨⟨a1, a2, a3⟩, ⟨b1, b2, b3⟩, ⟨c1, c2, c3⟩, d, e, f⟩ := id h
  have u0 : ∀ k, k ≠ 0 → (sI s 0 3 (nI L)).1 k = s.1 k := fun k u => th_ne u
  have u1 : (sI s 0 3 (nI L)).1 0 3 = nI L := th_at
  have u2 : ∀ j, j ≠ 3 → (sI s 0 3 (nI L)).1 0 j = s.1 0 j := fun j u => th_off u
  obtain ⟨p1, p2⟩ := P_start (pv := 12) (qv := 13) (rt := rt) (sf := sf) (s := sI s 0 3 (nI L))
  rw [← hS] at p1 p2
  clear hS
  generalize sI s 0 3 (nI L) = S1 at u0 u1 u2 p1 p2
  obtain ⟨q1, q2⟩ := P_absorb (nb := 16384) (at_ := 0) (len := tl) p1 hr h0 (show 1 ≠ 12 by decide)
  obtain ⟨r1, r2⟩ := P_finish q1 h0 hr (abN_lt h0 tl)
  rw [p2.1 1 (by decide), u0 1 (by decide), abN_ab (b := s.1 1) (c := s.1 149) (at1 := 0) (at2 := 0) tl (fun j hj => by rw [Nat.zero_add]; exact d j hj)] at r1
  have m1 := (p2.tr q2).tr r2
  have v1 : S2.1 0 1 = nI tl := by rw [p2.1 0 (by decide), u2 1 (by decide)]; exact a1
  have v2 := m1.1 0 (by decide)
  generalize F_SP_finish 12 13 (F_SP_absorb 12 13 1 16384 0 tl S2) = S4 at r1 r2 m1 v2
  have P5 := (P_squeeze (pb := 2) (nb := 8192) (at_ := 0) (len := L) r1 h0 hr (Nat.le_refl _) (show 2 ≠ 12 by decide)).2
  have v3 : (F_SP_squeeze 12 13 2 8192 0 L S4).1 0 3 = nI L := by rw [P5.1 0 (by decide) (by decide), v2]; exact u1
  refine ⟨v1, by rw [v2]; exact u1, v3, fun t ht => ?_⟩
  have tO : ∀ k, k ≠ 0 → k ≠ 2 → k ≠ 12 → t.1 k = s.1 k := fun k u v w => by rw [ht, th_ne u, P5.1 k w v, m1.1 k w, u0 k u]
  have t01 : t.1 0 1 = nI 0 := by rw [ht]; exact th_at
  have t0 : ∀ j, j ≠ 1 → t.1 0 j = S1.1 0 j := fun j u => by rw [ht, th_off u, P5.1 0 (by decide) (by decide), v2]
  have t2 : t.1 2 = (F_SP_squeeze 12 13 2 8192 0 L S4).1 2 := by rw [ht, th_ne (by decide)]
  clear ht
  obtain ⟨p1', p2'⟩ := Q_begin (rt := rt) (sf := sf) (s := sI t 148 0 (nI 0))
  have w1 : (F_MS_begin rt sf (sI t 148 0 (nI 0))).1 148 1 = nI tl := by rw [p2'.1 148 (by decide), th_off (by decide), tO 148 (by decide) (by decide) (by decide)]; exact a2
  obtain ⟨q1', q2'⟩ := Q_puts (nb := 16384) (at_ := 0) (len := tl) p1' hr h0 (show 149 ≠ 172 by decide)
  obtain ⟨r1', r2'⟩ := Q_end q1' h0 hr (abN_lt h0 tl)
  rw [p2'.1 149 (by decide), th_ne (show 149 ≠ 148 by decide), tO 149 (by decide) (by decide) (by decide)] at r1'
  have m2 := (p2'.tr q2').tr r2'
  generalize F_MS_end (F_MS_puts 149 16384 0 tl (F_MS_begin rt sf (sI t 148 0 (nI 0)))) = T4 at r1' r2' m2
  have h5 : spM (prm (pdF rt (abN rt (fun _ => 0, 0) (s.1 149) 0 tl) sf), 0) rt sf (sI T4 148 2 (nI L)) := ⟨r1'.1, by rw [th_ne (by decide)]; exact r1'.2.1, by rw [th_ne (by decide)]; exact r1'.2.2.1, by rw [th_ne (by decide)]; exact r1'.2.2.2⟩
  obtain ⟨-, y2, y3, -⟩ := sq_same (pb := 2) (nb := 8192) (at1 := 0) (len := L) (qb := 150) (mb := 8192) (at2 := 0) r1 h5 h0 hr (show 2 ≠ 12 by decide) (show 150 ≠ 172 by decide)
  have w2 : (F_MS_take 150 8192 0 L (sI T4 148 2 (nI L))).1 148 2 = nI L := by rw [y2.1 148 (by decide) (by decide)]; exact th_at
  have o : ∀ k, k ≠ 0 → k ≠ 2 → k ≠ 12 → k ≠ 172 → k ≠ 148 → k ≠ 150 → (F_MS_take 150 8192 0 L (sI T4 148 2 (nI L))).1 k = s.1 k := fun k u v w x y z => by rw [y2.1 k x z, th_ne y, m2.1 k x, th_ne y, tO k u v w]
  have oK : ∀ k, k ≠ 172 → k ≠ 148 → k ≠ 150 → (F_MS_take 150 8192 0 L (sI T4 148 2 (nI L))).1 k = t.1 k := fun k x y z => by rw [y2.1 k x z, th_ne y, m2.1 k x, th_ne y]
  have oM : ∀ j, j ≠ 0 → j ≠ 2 → (F_MS_take 150 8192 0 L (sI T4 148 2 (nI L))).1 148 j = s.1 148 j := fun j u v => by rw [y2.1 148 (by decide) (by decide), th_off v, m2.1 148 (by decide), th_off u, tO 148 (by decide) (by decide) (by decide)]
  have oH : (F_MS_take 150 8192 0 L (sI T4 148 2 (nI L))).1 148 0 = nI 0 := by rw [y2.1 148 (by decide) (by decide), th_off (by decide), m2.1 148 (by decide)]; exact th_at
  generalize F_MS_take 150 8192 0 L (sI T4 148 2 (nI L)) = T6 at y2 y3 w2 o oK oM oH
  refine ⟨w1, w2, ⟨⟨?_, th_at, by omega⟩, ⟨?_, ?_, hL⟩, ⟨?_, ?_, c3⟩, fun j hj => absurd hj (by omega), fun j hj => ?_, fun i hi => PAIR_c (by omega) (fun k hk => ?_) (f i hi)⟩, ?_⟩
  · rw [th_ne (by decide), oK 0 (by decide) (by decide) (by decide)]; exact t01
  · rw [th_ne (by decide), oK 0 (by decide) (by decide) (by decide), t0 3 (by decide)]; exact u1
  · rw [th_off (by decide)]; exact w2
  · rw [th_ne (by decide), oK 0 (by decide) (by decide) (by decide), t0 5 (by decide), u2 5 (by decide)]; exact c1
  · rw [th_off (by decide), oM 3 (by decide) (by decide)]; exact c2
  · rw [th_ne (show 2 ≠ 148 by decide), th_ne (show 150 ≠ 148 by decide), oK 2 (by decide) (by decide) (by decide), t2]
    have := y3 j hj
    rw [Nat.zero_add] at this
    exact this
  · unfold isP at hk
    rw [th_ne (by omega), o k (by omega) (by omega) (by omega) (by omega) (by omega) (by omega)]
  · rw [th_off (by decide)]; exact oH
theorem hash_w0 {tl al pn n : Nat} {s : Sto} (h : SAME tl al pn s) (hn : n ≤ 8192) : ALIKE (F_K_hash (nI 0) (nI n) s) (F_M_hash (nI 0) (nI n)) := by
  have ht : tl < 2 ^ 31 := by have := h.1.2.2; omega
  have hnc : (nI n).toNatClampNeg = n := nI_clamp (by omega)
  have hLc : (nI 32).toNatClampNeg = 32 := nI_clamp (by omega)
  have htc : (nI tl).toNatClampNeg = tl := nI_clamp ht
  have hs2 : F_SP_start_0 12 13 (sI s 0 3 (nI 32)) = sI (sI (sI (F_AR_fillJ 13 25 0 (sI s 0 3 (nI 32))) 12 1 (nI 136)) 12 2 (nI 6)) 12 3 (nI 0) := by
    unfold F_SP_start_0
    repeat rw [bnd_eq]
  obtain ⟨e1, e2, e3, e4⟩ := hash_core (rt := 136) (sf := nI 6) (L := 32) (by decide) (by decide) h (by omega) hs2
  have k1 : F_K_hash (nI 0) (nI n) s = (nI 0, nI 32, sI (F_SP_squeeze 12 13 2 8192 0 32 (F_SP_finish 12 13 (F_SP_absorb 12 13 1 16384 0 tl (F_SP_start_0 12 13 (sI s 0 3 (nI 32)))))) 0 1 (nI 0)) := by
    rw [F_K_hash, if_neg (nI_nneg (by decide)), if_neg (show ¬ nI 3 < nI 0 by decide), bnd_eq, nI_clamp (show 0 < 2 ^ 31 by decide), if_neg (nI_nneg (by omega)), if_pos (nI_le hn (by decide)), bnd_eq, hnc, if_pos (show (0 : Nat) = 0 by decide), bnd_eq, bnd_eq, bnd_eq, e1, htc, bnd_eq, bnd_eq, bnd_eq, e2, hLc, bnd_eq, bnd_eq, bnd_eq, th_off (show 3 ≠ 1 by decide), e3, hLc]
  rw [k1]
  unfold ALIKE
  dsimp only
  obtain ⟨t, ht⟩ : ∃ t, t = sI (F_SP_squeeze 12 13 2 8192 0 32 (F_SP_finish 12 13 (F_SP_absorb 12 13 1 16384 0 tl (F_SP_start_0 12 13 (sI s 0 3 (nI 32)))))) 0 1 (nI 0) := ⟨_, rfl⟩
  obtain ⟨g1, g2, g3, g4⟩ := e4 t ht
  rw [← ht]
  have k2 : F_M_hash (nI 0) (nI n) t = (nI 32, sI (F_MS_take 150 8192 0 32 (sI (F_MS_end (F_MS_puts 149 16384 0 tl (F_MS_begin 136 (nI 6) (sI t 148 0 (nI 0))))) 148 2 (nI 32))) 148 1 (nI 0)) := by
    rw [F_M_hash, bnd_eq, if_neg (nI_nneg (by decide)), if_neg (show ¬ nI 3 < nI 0 by decide), if_neg (nI_nneg (by omega)), if_pos (nI_le hn (by decide)), bnd_eq, hnc, if_neg (show ¬ nI 0 = nI 1 by decide), if_neg (show ¬ nI 0 = nI 2 by decide), if_neg (show ¬ nI 2 ≤ nI 0 by decide), bnd_eq, bnd_eq, g1, htc, bnd_eq, bnd_eq, if_pos (show nI 0 = 0 by decide), bnd_eq, bnd_eq, th_at, hLc, bnd_eq, bnd_eq, bnd_eq, th_off (show 2 ≠ 1 by decide), g2, hLc]
  rw [k2]
  exact ⟨⟨0, 32, pn, g3⟩, g4, fun _ => rfl⟩
theorem hash_w1 {tl al pn n : Nat} {s : Sto} (h : SAME tl al pn s) (hn : n ≤ 8192) : ALIKE (F_K_hash (nI 1) (nI n) s) (F_M_hash (nI 1) (nI n)) := by
  have ht : tl < 2 ^ 31 := by have := h.1.2.2; omega
  have hnc : (nI n).toNatClampNeg = n := nI_clamp (by omega)
  have hLc : (nI 64).toNatClampNeg = 64 := nI_clamp (by omega)
  have htc : (nI tl).toNatClampNeg = tl := nI_clamp ht
  have hs2 : F_SP_start_1 12 13 (sI s 0 3 (nI 64)) = sI (sI (sI (F_AR_fillJ 13 25 0 (sI s 0 3 (nI 64))) 12 1 (nI 72)) 12 2 (nI 6)) 12 3 (nI 0) := by
    unfold F_SP_start_1
    repeat rw [bnd_eq]
  obtain ⟨e1, e2, e3, e4⟩ := hash_core (rt := 72) (sf := nI 6) (L := 64) (by decide) (by decide) h (by omega) hs2
  have k1 : F_K_hash (nI 1) (nI n) s = (nI 0, nI 64, sI (F_SP_squeeze 12 13 2 8192 0 64 (F_SP_finish 12 13 (F_SP_absorb 12 13 1 16384 0 tl (F_SP_start_1 12 13 (sI s 0 3 (nI 64)))))) 0 1 (nI 0)) := by
    rw [F_K_hash, if_neg (nI_nneg (by decide)), if_neg (show ¬ nI 3 < nI 1 by decide), bnd_eq, nI_clamp (show 1 < 2 ^ 31 by decide), if_neg (nI_nneg (by omega)), if_pos (nI_le hn (by decide)), bnd_eq, hnc, if_neg (show ¬ (1 : Nat) = 0 by decide), if_pos (show (1 : Nat) = 1 by decide), bnd_eq, bnd_eq, bnd_eq, e1, htc, bnd_eq, bnd_eq, bnd_eq, e2, hLc, bnd_eq, bnd_eq, bnd_eq, th_off (show 3 ≠ 1 by decide), e3, hLc]
  rw [k1]
  unfold ALIKE
  dsimp only
  obtain ⟨t, ht⟩ : ∃ t, t = sI (F_SP_squeeze 12 13 2 8192 0 64 (F_SP_finish 12 13 (F_SP_absorb 12 13 1 16384 0 tl (F_SP_start_1 12 13 (sI s 0 3 (nI 64)))))) 0 1 (nI 0) := ⟨_, rfl⟩
  obtain ⟨g1, g2, g3, g4⟩ := e4 t ht
  rw [← ht]
  have k2 : F_M_hash (nI 1) (nI n) t = (nI 64, sI (F_MS_take 150 8192 0 64 (sI (F_MS_end (F_MS_puts 149 16384 0 tl (F_MS_begin 72 (nI 6) (sI t 148 0 (nI 0))))) 148 2 (nI 64))) 148 1 (nI 0)) := by
    rw [F_M_hash, bnd_eq, if_neg (nI_nneg (by decide)), if_neg (show ¬ nI 3 < nI 1 by decide), if_neg (nI_nneg (by omega)), if_pos (nI_le hn (by decide)), bnd_eq, hnc, if_pos (show nI 1 = nI 1 by decide), if_neg (show ¬ nI 2 ≤ nI 1 by decide), bnd_eq, bnd_eq, g1, htc, bnd_eq, bnd_eq, if_neg (show ¬ nI 1 = 0 by decide), if_pos (show nI 1 = nI 1 by decide), bnd_eq, bnd_eq, th_at, hLc, bnd_eq, bnd_eq, bnd_eq, th_off (show 2 ≠ 1 by decide), g2, hLc]
  rw [k2]
  exact ⟨⟨0, 64, pn, g3⟩, g4, fun _ => rfl⟩
theorem hash_w2 {tl al pn n : Nat} {s : Sto} (h : SAME tl al pn s) (hn : n ≤ 8192) : ALIKE (F_K_hash (nI 2) (nI n) s) (F_M_hash (nI 2) (nI n)) := by
  have ht : tl < 2 ^ 31 := by have := h.1.2.2; omega
  have hnc : (nI n).toNatClampNeg = n := nI_clamp (by omega)
  have hLc : (nI n).toNatClampNeg = n := nI_clamp (by omega)
  have htc : (nI tl).toNatClampNeg = tl := nI_clamp ht
  have hs2 : F_SP_start_2 12 13 (sI s 0 3 (nI n)) = sI (sI (sI (F_AR_fillJ 13 25 0 (sI s 0 3 (nI n))) 12 1 (nI 168)) 12 2 (nI 31)) 12 3 (nI 0) := by
    unfold F_SP_start_2
    repeat rw [bnd_eq]
  obtain ⟨e1, e2, e3, e4⟩ := hash_core (rt := 168) (sf := nI 31) (L := n) (by decide) (by decide) h (by omega) hs2
  have k1 : F_K_hash (nI 2) (nI n) s = (nI 0, nI n, sI (F_SP_squeeze 12 13 2 8192 0 n (F_SP_finish 12 13 (F_SP_absorb 12 13 1 16384 0 tl (F_SP_start_2 12 13 (sI s 0 3 (nI n)))))) 0 1 (nI 0)) := by
    rw [F_K_hash, if_neg (nI_nneg (by decide)), if_neg (show ¬ nI 3 < nI 2 by decide), bnd_eq, nI_clamp (show 2 < 2 ^ 31 by decide), if_neg (nI_nneg (by omega)), if_pos (nI_le hn (by decide)), bnd_eq, hnc, if_neg (show ¬ (2 : Nat) = 0 by decide), if_neg (show ¬ (2 : Nat) = 1 by decide), if_pos (show (2 : Nat) = 2 by decide), bnd_eq, bnd_eq, bnd_eq, e1, htc, bnd_eq, bnd_eq, bnd_eq, e2, hLc, bnd_eq, bnd_eq, bnd_eq, th_off (show 3 ≠ 1 by decide), e3, hLc]
  rw [k1]
  unfold ALIKE
  dsimp only
  obtain ⟨t, ht⟩ : ∃ t, t = sI (F_SP_squeeze 12 13 2 8192 0 n (F_SP_finish 12 13 (F_SP_absorb 12 13 1 16384 0 tl (F_SP_start_2 12 13 (sI s 0 3 (nI n)))))) 0 1 (nI 0) := ⟨_, rfl⟩
  obtain ⟨g1, g2, g3, g4⟩ := e4 t ht
  rw [← ht]
  have k2 : F_M_hash (nI 2) (nI n) t = (nI n, sI (F_MS_take 150 8192 0 n (sI (F_MS_end (F_MS_puts 149 16384 0 tl (F_MS_begin 168 (nI 31) (sI t 148 0 (nI 0))))) 148 2 (nI n))) 148 1 (nI 0)) := by
    rw [F_M_hash, bnd_eq, if_neg (nI_nneg (by decide)), if_neg (show ¬ nI 3 < nI 2 by decide), if_neg (nI_nneg (by omega)), if_pos (nI_le hn (by decide)), bnd_eq, hnc, if_neg (show ¬ nI 2 = nI 1 by decide), if_pos (show nI 2 = nI 2 by decide), if_pos (show nI 2 ≤ nI 2 by decide), bnd_eq, bnd_eq, g1, htc, bnd_eq, bnd_eq, if_neg (show ¬ nI 2 = 0 by decide), if_neg (show ¬ nI 2 = nI 1 by decide), bnd_eq, bnd_eq, th_at, hLc, bnd_eq, bnd_eq, bnd_eq, th_off (show 2 ≠ 1 by decide), g2, hLc]
  rw [k2]
  exact ⟨⟨0, n, pn, g3⟩, g4, fun _ => rfl⟩
theorem hash_w3 {tl al pn n : Nat} {s : Sto} (h : SAME tl al pn s) (hn : n ≤ 8192) : ALIKE (F_K_hash (nI 3) (nI n) s) (F_M_hash (nI 3) (nI n)) := by
  have ht : tl < 2 ^ 31 := by have := h.1.2.2; omega
  have hnc : (nI n).toNatClampNeg = n := nI_clamp (by omega)
  have hLc : (nI n).toNatClampNeg = n := nI_clamp (by omega)
  have htc : (nI tl).toNatClampNeg = tl := nI_clamp ht
  have hs2 : F_SP_start_3 12 13 (sI s 0 3 (nI n)) = sI (sI (sI (F_AR_fillJ 13 25 0 (sI s 0 3 (nI n))) 12 1 (nI 136)) 12 2 (nI 31)) 12 3 (nI 0) := by
    unfold F_SP_start_3
    repeat rw [bnd_eq]
  obtain ⟨e1, e2, e3, e4⟩ := hash_core (rt := 136) (sf := nI 31) (L := n) (by decide) (by decide) h (by omega) hs2
  have k1 : F_K_hash (nI 3) (nI n) s = (nI 0, nI n, sI (F_SP_squeeze 12 13 2 8192 0 n (F_SP_finish 12 13 (F_SP_absorb 12 13 1 16384 0 tl (F_SP_start_3 12 13 (sI s 0 3 (nI n)))))) 0 1 (nI 0)) := by
    rw [F_K_hash, if_neg (nI_nneg (by decide)), if_neg (show ¬ nI 3 < nI 3 by decide), bnd_eq, nI_clamp (show 3 < 2 ^ 31 by decide), if_neg (nI_nneg (by omega)), if_pos (nI_le hn (by decide)), bnd_eq, hnc, if_neg (show ¬ (3 : Nat) = 0 by decide), if_neg (show ¬ (3 : Nat) = 1 by decide), if_neg (show ¬ (3 : Nat) = 2 by decide), bnd_eq, bnd_eq, bnd_eq, e1, htc, bnd_eq, bnd_eq, bnd_eq, e2, hLc, bnd_eq, bnd_eq, bnd_eq, th_off (show 3 ≠ 1 by decide), e3, hLc]
  rw [k1]
  unfold ALIKE
  dsimp only
  obtain ⟨t, ht⟩ : ∃ t, t = sI (F_SP_squeeze 12 13 2 8192 0 n (F_SP_finish 12 13 (F_SP_absorb 12 13 1 16384 0 tl (F_SP_start_3 12 13 (sI s 0 3 (nI n)))))) 0 1 (nI 0) := ⟨_, rfl⟩
  obtain ⟨g1, g2, g3, g4⟩ := e4 t ht
  rw [← ht]
  have k2 : F_M_hash (nI 3) (nI n) t = (nI n, sI (F_MS_take 150 8192 0 n (sI (F_MS_end (F_MS_puts 149 16384 0 tl (F_MS_begin 136 (nI 31) (sI t 148 0 (nI 0))))) 148 2 (nI n))) 148 1 (nI 0)) := by
    rw [F_M_hash, bnd_eq, if_neg (nI_nneg (by decide)), if_neg (show ¬ nI 3 < nI 3 by decide), if_neg (nI_nneg (by omega)), if_pos (nI_le hn (by decide)), bnd_eq, hnc, if_neg (show ¬ nI 3 = nI 1 by decide), if_neg (show ¬ nI 3 = nI 2 by decide), if_pos (show nI 2 ≤ nI 3 by decide), bnd_eq, bnd_eq, g1, htc, bnd_eq, bnd_eq, if_neg (show ¬ nI 3 = 0 by decide), if_neg (show ¬ nI 3 = nI 1 by decide), bnd_eq, bnd_eq, th_at, hLc, bnd_eq, bnd_eq, bnd_eq, th_off (show 2 ≠ 1 by decide), g2, hLc]
  rw [k2]
  exact ⟨⟨0, n, pn, g3⟩, g4, fun _ => rfl⟩
theorem khash_no {v v2 : Int32} {s : Sto} (h : v < 0 ∨ nI 3 < v ∨ v2 < 0 ∨ ¬ v2 ≤ nI 8192) : F_K_hash v v2 s = (nI 1, nI 0, s) := by
  rw [F_K_hash]
  by_cases q0 : v < 0
  · rw [if_pos q0]
  · rw [if_neg q0]
    by_cases q1 : nI 3 < v
    · rw [if_pos q1]
    · rw [if_neg q1, bnd_eq]
      by_cases q2 : v2 < 0
      · rw [if_pos q2]
      · rw [if_neg q2, if_neg (((h.resolve_left q0).resolve_left q1).resolve_left q2)]
theorem mhash_no {v v2 : Int32} {s : Sto} (h : v < 0 ∨ nI 3 < v ∨ v2 < 0 ∨ ¬ v2 ≤ nI 8192) : F_M_hash v v2 s = (nI 0, sI (sI s 148 0 (nI 0)) 148 0 (nI 1)) := by
  rw [F_M_hash, bnd_eq]
  by_cases q0 : v < 0
  · rw [if_pos q0, bnd_eq, mfail_eq]
  · rw [if_neg q0]
    by_cases q1 : nI 3 < v
    · rw [if_pos q1, bnd_eq, mfail_eq]
    · rw [if_neg q1]
      by_cases q2 : v2 < 0
      · rw [if_pos q2, bnd_eq, mfail_eq]
      · rw [if_neg q2, if_neg (((h.resolve_left q0).resolve_left q1).resolve_left q2), bnd_eq, mfail_eq]
theorem hash_alike {tl al pn : Nat} {v v2 : Int32} {s : Sto} (h : SAME tl al pn s) : ALIKE (F_K_hash v v2 s) (F_M_hash v v2) := by
  by_cases hv : v < 0 ∨ nI 3 < v ∨ v2 < 0 ∨ ¬ v2 ≤ nI 8192
  · rw [khash_no hv]
    exact alike_fail h (mhash_no hv) (by decide)
  · have q0 : ¬ v < 0 := fun q => hv (Or.inl q)
    have q1 : ¬ nI 3 < v := fun q => hv (Or.inr (Or.inl q))
    have q2 : ¬ v2 < 0 := fun q => hv (Or.inr (Or.inr (Or.inl q)))
    have q3 : v2 ≤ nI 8192 := Classical.byContradiction fun q => hv (Or.inr (Or.inr (Or.inr q)))
    obtain ⟨n, hn, rfl⟩ := i32_le q2 (by decide) q3
    obtain ⟨w, hw, rfl⟩ := i32_lex q0 (by decide) q1
    have h9 : w = 0 ∨ w = 1 ∨ w = 2 ∨ w = 3 := by omega
    rcases h9 with rfl | rfl | rfl | rfl
    · exact hash_w0 h hn
    · exact hash_w1 h hn
    · exact hash_w2 h hn
    · exact hash_w3 h hn
