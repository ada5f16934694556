set_option linter.all false
/-- told -/
def toldv (a b c : Nat) (v2 : Int32) (s : Sto) : Int32 × Int32 × Sto := if v2 = nI 0 then (nI 0, nI a, s) else if v2 = nI 1 then (nI 0, nI b, s) else if v2 = nI 2 then (nI 0, nI c, s) else (nI 2, nI 0, s)
theorem ktN {v v2 : Int32} {s : Sto} (h : F_K_find v s = (nI 0, s)) : F_K_told v v2 s = (nI 1, nI 0, s) := by
  rw [F_K_told, bnd_eq, h]
  dsimp only
  rw [if_pos (show nI 0 = nI 0 from rfl)]
theorem kt0 {v v2 : Int32} {s : Sto} (h : F_K_find v s = (nI 1, s)) : F_K_told v v2 s = toldv 0 800 1632 v2 s := by
  rw [F_K_told, bnd_eq, h]
  dsimp only
  rw [if_neg (show ¬ nI 1 = nI 0 by decide), if_pos (show nI 1 = nI 1 from rfl), bnd_eq, toldv]
theorem kt1 {v v2 : Int32} {s : Sto} (h : F_K_find v s = (nI 2, s)) : F_K_told v v2 s = toldv 1 1184 2400 v2 s := by
  rw [F_K_told, bnd_eq, h]
  dsimp only
  rw [if_neg (show ¬ nI 2 = nI 0 by decide), if_neg (show ¬ nI 2 = nI 1 by decide), if_pos (show nI 2 = nI 2 from rfl), bnd_eq, toldv]
theorem kt2 {v v2 : Int32} {s : Sto} (h : F_K_find v s = (nI 3, s)) : F_K_told v v2 s = toldv 2 1568 3168 v2 s := by
  rw [F_K_told, bnd_eq, h]
  dsimp only
  rw [if_neg (show ¬ nI 3 = nI 0 by decide), if_neg (show ¬ nI 3 = nI 1 by decide), if_neg (show ¬ nI 3 = nI 2 by decide), if_pos (show nI 3 = nI 3 from rfl), bnd_eq, toldv]
theorem kt3 {v v2 : Int32} {s : Sto} (h : F_K_find v s = (nI 4, s)) : F_K_told v v2 s = toldv 3 1312 2560 v2 s := by
  rw [F_K_told, bnd_eq, h]
  dsimp only
  rw [if_neg (show ¬ nI 4 = nI 0 by decide), if_neg (show ¬ nI 4 = nI 1 by decide), if_neg (show ¬ nI 4 = nI 2 by decide), if_neg (show ¬ nI 4 = nI 3 by decide), if_pos (show nI 4 = nI 4 from rfl), bnd_eq, toldv]
theorem kt4 {v v2 : Int32} {s : Sto} (h : F_K_find v s = (nI 5, s)) : F_K_told v v2 s = toldv 4 1952 4032 v2 s := by
  rw [F_K_told, bnd_eq, h]
  dsimp only
  rw [if_neg (show ¬ nI 5 = nI 0 by decide), if_neg (show ¬ nI 5 = nI 1 by decide), if_neg (show ¬ nI 5 = nI 2 by decide), if_neg (show ¬ nI 5 = nI 3 by decide), if_neg (show ¬ nI 5 = nI 4 by decide), if_pos (show nI 5 = nI 5 from rfl), bnd_eq, toldv]
theorem kt5 {v v2 : Int32} {s : Sto} (h : F_K_find v s = (nI 6, s)) : F_K_told v v2 s = toldv 5 2592 4896 v2 s := by
  rw [F_K_told, bnd_eq, h]
  dsimp only
  rw [if_neg (show ¬ nI 6 = nI 0 by decide), if_neg (show ¬ nI 6 = nI 1 by decide), if_neg (show ¬ nI 6 = nI 2 by decide), if_neg (show ¬ nI 6 = nI 3 by decide), if_neg (show ¬ nI 6 = nI 4 by decide), if_neg (show ¬ nI 6 = nI 5 by decide), if_pos (show nI 6 = nI 6 from rfl), bnd_eq, toldv]
theorem kt6 {v v2 : Int32} {s : Sto} (h : F_K_find v s = (nI 7, s)) : F_K_told v v2 s = toldv 0 800 0 v2 s := by
  rw [F_K_told, bnd_eq, h]
  dsimp only
  rw [if_neg (show ¬ nI 7 = nI 0 by decide), if_neg (show ¬ nI 7 = nI 1 by decide), if_neg (show ¬ nI 7 = nI 2 by decide), if_neg (show ¬ nI 7 = nI 3 by decide), if_neg (show ¬ nI 7 = nI 4 by decide), if_neg (show ¬ nI 7 = nI 5 by decide), if_neg (show ¬ nI 7 = nI 6 by decide), if_pos (show nI 7 = nI 7 from rfl), bnd_eq, toldv]
theorem kt7 {v v2 : Int32} {s : Sto} (h : F_K_find v s = (nI 8, s)) : F_K_told v v2 s = toldv 1 1184 0 v2 s := by
  rw [F_K_told, bnd_eq, h]
  dsimp only
  rw [if_neg (show ¬ nI 8 = nI 0 by decide), if_neg (show ¬ nI 8 = nI 1 by decide), if_neg (show ¬ nI 8 = nI 2 by decide), if_neg (show ¬ nI 8 = nI 3 by decide), if_neg (show ¬ nI 8 = nI 4 by decide), if_neg (show ¬ nI 8 = nI 5 by decide), if_neg (show ¬ nI 8 = nI 6 by decide), if_neg (show ¬ nI 8 = nI 7 by decide), if_pos (show nI 8 = nI 8 from rfl), bnd_eq, toldv]
theorem kt8 {v v2 : Int32} {s : Sto} (h : F_K_find v s = (nI 9, s)) : F_K_told v v2 s = toldv 2 1568 0 v2 s := by
  rw [F_K_told, bnd_eq, h]
  dsimp only
  rw [if_neg (show ¬ nI 9 = nI 0 by decide), if_neg (show ¬ nI 9 = nI 1 by decide), if_neg (show ¬ nI 9 = nI 2 by decide), if_neg (show ¬ nI 9 = nI 3 by decide), if_neg (show ¬ nI 9 = nI 4 by decide), if_neg (show ¬ nI 9 = nI 5 by decide), if_neg (show ¬ nI 9 = nI 6 by decide), if_neg (show ¬ nI 9 = nI 7 by decide), if_neg (show ¬ nI 9 = nI 8 by decide), if_pos (show nI 9 = nI 9 from rfl), bnd_eq, toldv]
theorem kt9 {v v2 : Int32} {s : Sto} (h : F_K_find v s = (nI 10, s)) : F_K_told v v2 s = toldv 3 1312 0 v2 s := by
  rw [F_K_told, bnd_eq, h]
  dsimp only
  rw [if_neg (show ¬ nI 10 = nI 0 by decide), if_neg (show ¬ nI 10 = nI 1 by decide), if_neg (show ¬ nI 10 = nI 2 by decide), if_neg (show ¬ nI 10 = nI 3 by decide), if_neg (show ¬ nI 10 = nI 4 by decide), if_neg (show ¬ nI 10 = nI 5 by decide), if_neg (show ¬ nI 10 = nI 6 by decide), if_neg (show ¬ nI 10 = nI 7 by decide), if_neg (show ¬ nI 10 = nI 8 by decide), if_neg (show ¬ nI 10 = nI 9 by decide), if_pos (show nI 10 = nI 10 from rfl), bnd_eq, toldv]
theorem kt10 {v v2 : Int32} {s : Sto} (h : F_K_find v s = (nI 11, s)) : F_K_told v v2 s = toldv 4 1952 0 v2 s := by
  rw [F_K_told, bnd_eq, h]
  dsimp only
  rw [if_neg (show ¬ nI 11 = nI 0 by decide), if_neg (show ¬ nI 11 = nI 1 by decide), if_neg (show ¬ nI 11 = nI 2 by decide), if_neg (show ¬ nI 11 = nI 3 by decide), if_neg (show ¬ nI 11 = nI 4 by decide), if_neg (show ¬ nI 11 = nI 5 by decide), if_neg (show ¬ nI 11 = nI 6 by decide), if_neg (show ¬ nI 11 = nI 7 by decide), if_neg (show ¬ nI 11 = nI 8 by decide), if_neg (show ¬ nI 11 = nI 9 by decide), if_neg (show ¬ nI 11 = nI 10 by decide), if_pos (show nI 11 = nI 11 from rfl), bnd_eq, toldv]
theorem kt11 {v v2 : Int32} {s : Sto} (h : F_K_find v s = (nI 12, s)) : F_K_told v v2 s = toldv 5 2592 0 v2 s := by
  rw [F_K_told, bnd_eq, h]
  dsimp only
  rw [if_neg (show ¬ nI 12 = nI 0 by decide), if_neg (show ¬ nI 12 = nI 1 by decide), if_neg (show ¬ nI 12 = nI 2 by decide), if_neg (show ¬ nI 12 = nI 3 by decide), if_neg (show ¬ nI 12 = nI 4 by decide), if_neg (show ¬ nI 12 = nI 5 by decide), if_neg (show ¬ nI 12 = nI 6 by decide), if_neg (show ¬ nI 12 = nI 7 by decide), if_neg (show ¬ nI 12 = nI 8 by decide), if_neg (show ¬ nI 12 = nI 9 by decide), if_neg (show ¬ nI 12 = nI 10 by decide), if_neg (show ¬ nI 12 = nI 11 by decide), if_pos (show nI 12 = nI 12 from rfl), bnd_eq, toldv]
theorem ktold_at {s : Sto} {pn z c : Nat} {v2 : Int32} (h : s.1 0 5 = nI pn) (hp : pn ≤ 8) (hz : z < pn) (hc : c < 12) (e : s.1 3 z = nI (c + 1)) : F_K_told (nI z) v2 s = toldv (c % 6) (kpub (c % 6)) (if c < 6 then ksec c else 0) v2 s := by
  have hf : F_K_find (nI z) s = (nI (c + 1), s) := by rw [kfind_at h hp hz, e]
  have h9 : c = 0 ∨ c = 1 ∨ c = 2 ∨ c = 3 ∨ c = 4 ∨ c = 5 ∨ c = 6 ∨ c = 7 ∨ c = 8 ∨ c = 9 ∨ c = 10 ∨ c = 11 := by omega
  rcases h9 with rfl | rfl | rfl | rfl | rfl | rfl | rfl | rfl | rfl | rfl | rfl | rfl
  · exact kt0 hf
  · exact kt1 hf
  · exact kt2 hf
  · exact kt3 hf
  · exact kt4 hf
  · exact kt5 hf
  · exact kt6 hf
  · exact kt7 hf
  · exact kt8 hf
  · exact kt9 hf
  · exact kt10 hf
  · exact kt11 hf
theorem msets {x : Int32} {c : Nat} {s : Sto} (hc : c < 6) (e : x = nI c) : (if x = nI 0 then (nI 0, s) else if x = nI 1 then (nI 1, s) else if x = nI 2 then (nI 2, s) else if x = nI 3 then (nI 3, s) else if x = nI 4 then (nI 4, s) else (nI 5, s) : Int32 × Sto) = (nI c, s) := by
  subst e
  have h9 : c = 0 ∨ c = 1 ∨ c = 2 ∨ c = 3 ∨ c = 4 ∨ c = 5 := by omega
  rcases h9 with rfl | rfl | rfl | rfl | rfl | rfl
  · rw [if_pos (show nI 0 = nI 0 from rfl)]
  · rw [if_neg (show ¬ nI 1 = nI 0 by decide), if_pos (show nI 1 = nI 1 from rfl)]
  · rw [if_neg (show ¬ nI 2 = nI 0 by decide), if_neg (show ¬ nI 2 = nI 1 by decide), if_pos (show nI 2 = nI 2 from rfl)]
  · rw [if_neg (show ¬ nI 3 = nI 0 by decide), if_neg (show ¬ nI 3 = nI 1 by decide), if_neg (show ¬ nI 3 = nI 2 by decide), if_pos (show nI 3 = nI 3 from rfl)]
  · rw [if_neg (show ¬ nI 4 = nI 0 by decide), if_neg (show ¬ nI 4 = nI 1 by decide), if_neg (show ¬ nI 4 = nI 2 by decide), if_neg (show ¬ nI 4 = nI 3 by decide), if_pos (show nI 4 = nI 4 from rfl)]
  · rw [if_neg (show ¬ nI 5 = nI 0 by decide), if_neg (show ¬ nI 5 = nI 1 by decide), if_neg (show ¬ nI 5 = nI 2 by decide), if_neg (show ¬ nI 5 = nI 3 by decide), if_neg (show ¬ nI 5 = nI 4 by decide)]
theorem told_alike {tl al pn : Nat} {v v2 : Int32} {s : Sto} (h : SAME tl al pn s) : ALIKE (F_K_told v v2 s) (F_M_told v v2) := by
  obtain ⟨-, -, ⟨h1, h2, h3⟩, -, -, hp⟩ := id h
  have n3 : (sI s 148 0 (nI 0)).1 148 3 = nI pn := by rw [th_off (by decide)]; exact h2
  by_cases hv : v < 0 ∨ ¬ v < nI pn
  · rw [ktN (kfind_no h1 h3 hv)]
    refine alike_fail h ?_ (by decide)
    rw [F_M_told, bnd_eq, bnd_eq, mnone_no n3 h3 hv]
    dsimp only
    rw [if_neg (show ¬ nI 1 = 0 by decide), bnd_eq, mfail_eq]
  · obtain ⟨z, hz, rfl⟩ := i32_out hv (by omega)
    obtain ⟨c, hc, e1, e2, e3, -, -⟩ := hp z hz
    have hzc : (nI z).toNatClampNeg = z := nI_clamp (by omega)
    have n1 : (sI s 148 0 (nI 0)).1 170 z = nI (c % 6) := by rw [th_ne (by decide)]; exact e2
    have n2 : (sI s 148 0 (nI 0)).1 171 z = nI (if c < 6 then ksec c else 0) := by rw [th_ne (by decide)]; exact e3
    have b1 := kpub_le (c := c % 6) (by omega)
    have b2 : (if c < 6 then ksec c else 0) ≤ 4896 := by
      by_cases q : c < 6
      · rw [if_pos q]; exact (ksec_le q).2
      · rw [if_neg q]; omega
    have k2 : F_M_told (nI z) v2 s = if v2 = nI 0 then (nI (c % 6), sI s 148 0 (nI 0)) else if v2 = nI 1 then (nI (kpub (c % 6)), sI s 148 0 (nI 0)) else if v2 = nI 2 then (nI (if c < 6 then ksec c else 0), sI s 148 0 (nI 0)) else (nI 0, sI (sI s 148 0 (nI 0)) 148 0 (nI 2)) := by
      rw [F_M_told, bnd_eq]
      generalize sI s 148 0 (nI 0) = s1 at n1 n2 n3 ⊢
      rw [bnd_eq, mnone_at n3 h3 hz]
      dsimp only
      rw [if_pos (show nI 0 = 0 by decide), bnd_eq, hzc]
      by_cases q0 : v2 = nI 0
      · rw [if_pos q0, if_pos q0, msets (by omega) n1]
      · rw [if_neg q0, if_neg q0]
        by_cases q1 : v2 = nI 1
        · rw [if_pos q1, if_pos q1, bnd_eq, msize_p (show nI 0 = 0 by decide) (by omega) n1]
          dsimp only
          rw [bnd_eq, nI_clamp (show kpub (c % 6) < 2 ^ 31 by omega)]
        · rw [if_neg q1, if_neg q1]
          by_cases q2 : v2 = nI 2
          · rw [if_pos q2, if_pos q2, bnd_eq, msize_s (show ¬ nI 1 = 0 by decide) (show (if c < 6 then ksec c else 0) < 2 ^ 31 by omega) n2]
            dsimp only
            rw [bnd_eq, nI_clamp (show (if c < 6 then ksec c else 0) < 2 ^ 31 by omega)]
          · rw [if_neg q2, if_neg q2, bnd_eq, mfail_eq]
    rw [ktold_at h1 h3 hz hc e1, toldv]
    by_cases q0 : v2 = nI 0
    · rw [if_pos q0] at k2 ⊢
      unfold ALIKE
      dsimp only
      rw [k2]
      exact ⟨⟨tl, al, pn, SAME_onlM h onlM1⟩, th_at, fun _ => rfl⟩
    · rw [if_neg q0] at k2 ⊢
      by_cases q1 : v2 = nI 1
      · rw [if_pos q1] at k2 ⊢
        unfold ALIKE
        dsimp only
        rw [k2]
        exact ⟨⟨tl, al, pn, SAME_onlM h onlM1⟩, th_at, fun _ => rfl⟩
      · rw [if_neg q1] at k2 ⊢
        by_cases q2 : v2 = nI 2
        · rw [if_pos q2] at k2 ⊢
          unfold ALIKE
          dsimp only
          rw [k2]
          exact ⟨⟨tl, al, pn, SAME_onlM h onlM1⟩, th_at, fun _ => rfl⟩
        · rw [if_neg q2] at k2 ⊢
          exact alike_fail h k2 (by decide)
/-- the reference's loop in again -/
theorem again_loop {tl : Nat} (ht : tl < 2 ^ 31) : ∀ (n i : Nat) (s : Sto), s.1 148 1 = nI tl → ∃ s1, F_M_again_L0 n i s = F_M_again_L0 0 (i + n) s1 ∧ onl 149 s s1 ∧ (∀ k, i ≤ k → k < i + n → s1.1 149 (tl + k) = vp_nar .byte (s.1 150 k)) ∧ ∀ k, (k < tl + i ∨ tl + (i + n) ≤ k) → s1.1 149 k = s.1 149 k
  | 0, i, s, _ => ⟨s, rfl, onl_rf, fun k u v => by omega, fun _ _ => rfl⟩
  | n + 1, i, s, h => by
    have hU : F_M_again_L0 (n + 1) i s = F_M_again_L0 n (i + 1) (sB s 149 (tl + i) (s.1 150 i)) := by
      rw [F_M_again_L0, bnd_eq, bnd_eq, h, nI_clamp ht, bnd_eq]
    have o1 : onl 149 s (sB s 149 (tl + i) (s.1 150 i)) := onl_sI
    have r1 : (sB s 149 (tl + i) (s.1 150 i)).1 149 = upd (s.1 149) (tl + i) (vp_nar .byte (s.1 150 i)) := sI_row
    generalize sB s 149 (tl + i) (s.1 150 i) = s0 at hU o1 r1
    obtain ⟨s1, a, b, c, d⟩ := again_loop ht n (i + 1) s0 (by rw [o1.1 148 (by decide)]; exact h)
    refine ⟨s1, ?_, onl_tr o1 b, fun k u v => ?_, fun k u => ?_⟩
    · rw [hU, a, show i + 1 + n = i + (n + 1) by omega]
    · by_cases w : k = i
      · subst w
        rw [d (tl + k) (by omega), r1, upd_s]
      · rw [c k (by omega) (by omega), o1.1 150 (by decide)]
    · rw [d k (by omega), r1, upd_n (by omega)]
theorem again_alike {tl al pn : Nat} {s : Sto} (h : SAME tl al pn s) (hN : NB s) : ALIKE (F_K_again s) F_M_again := by
  obtain ⟨⟨a1, a2, a3⟩, ⟨b1, b2, b3⟩, ⟨c1, c2, c3⟩, d, e, f⟩ := id h
  have hc : (nI tl).toNatClampNeg = tl := nI_clamp (by omega)
  have hd : (nI al).toNatClampNeg = al := nI_clamp (by omega)
  by_cases hv : al ≤ 16384 - tl
  · have g1 : (sC s 2 1 0 tl al).1 0 = s.1 0 := sC_o.1 0 (by decide)
    have gM : (sC s 2 1 0 tl al).1 148 = s.1 148 := sC_o.1 148 (by decide)
    have k1 : F_K_again s = (nI 0, nI (tl + al), sI (sC s 2 1 0 tl al) 0 1 (nI (tl + al))) := by
      rw [F_K_again, bnd_eq, b1, hd, bnd_eq, a1, hc, if_pos hv]
      repeat rw [bnd_eq]
      rw [g1, a1, b1, hc, hd, th_at, nI_clamp (by omega)]
    have q1 : ∀ j, j < al → (sC s 2 1 0 tl al).1 1 (tl + j) = s.1 2 j := fun j hj => by
      have := sC_in (s := s) (k0 := 2) (k1 := 1) (sp := 0) (dp := tl) hj
      rw [Nat.zero_add] at this
      exact this
    have q2 : ∀ j, j < tl → (sC s 2 1 0 tl al).1 1 j = s.1 1 j := fun j hj => sC_out (Or.inl hj)
    have q3 : ∀ k, k ≠ 1 → (sC s 2 1 0 tl al).1 k = s.1 k := fun k hk => uA_ne hk
    rw [k1]
    unfold ALIKE
    dsimp only
    generalize sC s 2 1 0 tl al = s0 at q1 q2 q3 g1 gM
    have t0 : ∀ k, k ≠ 0 → k ≠ 1 → k ≠ 148 → (sI (sI s0 0 1 (nI (tl + al))) 148 0 (nI 0)).1 k = s.1 k := fun k u v w => by rw [th_ne w, th_ne u, q3 k v]
    have t1 : (sI (sI s0 0 1 (nI (tl + al))) 148 0 (nI 0)).1 1 = s0.1 1 := by rw [th_ne (by decide), th_ne (by decide)]
    have tM : ∀ j, j ≠ 0 → (sI (sI s0 0 1 (nI (tl + al))) 148 0 (nI 0)).1 148 j = s.1 148 j := fun j u => by rw [th_off u, th_ne (by decide), gM]
    have tH : (sI (sI s0 0 1 (nI (tl + al))) 148 0 (nI 0)).1 148 0 = nI 0 := th_at
    have tA : (sI (sI s0 0 1 (nI (tl + al))) 148 0 (nI 0)).1 0 1 = nI (tl + al) := by rw [th_ne (by decide)]; exact th_at
    have tB : ∀ j, j ≠ 1 → (sI (sI s0 0 1 (nI (tl + al))) 148 0 (nI 0)).1 0 j = s.1 0 j := fun j u => by rw [th_ne (by decide), th_off u, g1]
    have hU : F_M_again (sI s0 0 1 (nI (tl + al))) = F_M_again_L0 al 0 (sI (sI s0 0 1 (nI (tl + al))) 148 0 (nI 0)) := by
      rw [F_M_again, bnd_eq, bnd_eq, bnd_eq, tM 1 (by decide), tM 2 (by decide), a2, b2, hc, hd, if_pos (by omega)]
    generalize sI (sI s0 0 1 (nI (tl + al))) 148 0 (nI 0) = s1 at t0 t1 tM tH tA tB hU
    obtain ⟨s2, r0, r1, r2, r3⟩ := again_loop (tl := tl) (by omega) al 0 s1 (by rw [tM 1 (by decide)]; exact a2)
    have u1 : s2.1 148 1 = nI tl := by rw [r1.1 148 (by decide), tM 1 (by decide)]; exact a2
    have u2 : s2.1 148 2 = nI al := by rw [r1.1 148 (by decide), tM 2 (by decide)]; exact b2
    have hV : F_M_again_L0 0 (0 + al) s2 = (nI (tl + al), sI s2 148 1 (nI (tl + al))) := by
      rw [F_M_again_L0]
      repeat rw [bnd_eq]
      rw [u1, u2, hc, hd, th_at, nI_clamp (by omega)]
    rw [hU, r0, hV]
    have o : ∀ k, k ≠ 0 → k ≠ 1 → k ≠ 148 → k ≠ 149 → (sI s2 148 1 (nI (tl + al))).1 k = s.1 k := fun k u v w x => by rw [th_ne w, r1.1 k x, t0 k u v w]
    have o0 : (sI s2 148 1 (nI (tl + al))).1 0 = s1.1 0 := by rw [th_ne (by decide), r1.1 0 (by decide)]
    have oM : ∀ j, j ≠ 0 → j ≠ 1 → (sI s2 148 1 (nI (tl + al))).1 148 j = s.1 148 j := fun j u v => by rw [th_off v, r1.1 148 (by decide), tM j u]
    refine ⟨⟨tl + al, al, pn, ⟨by rw [o0]; exact tA, th_at, by omega⟩, ⟨by rw [o0, tB 3 (by decide)]; exact b1, by rw [oM 2 (by decide) (by decide)]; exact b2, b3⟩, ⟨by rw [o0, tB 5 (by decide)]; exact c1, by rw [oM 3 (by decide) (by decide)]; exact c2, c3⟩, fun j hj => ?_, ?_, fun i hi => PAIR_c (by omega) (fun k hk => o k (by unfold isP at hk; omega) (by unfold isP at hk; omega) (by unfold isP at hk; omega) (by unfold isP at hk; omega)) (f i hi)⟩, ?_, fun _ => rfl⟩
    · rw [th_ne (show 1 ≠ 148 by decide), th_ne (show 149 ≠ 148 by decide), r1.1 1 (by decide), t1]
      by_cases w : j < tl
      · rw [q2 j w, r3 j (Or.inl (by omega)), t0 149 (by decide) (by decide) (by decide)]
        exact d j w
      · obtain ⟨i, rfl⟩ : ∃ i, j = tl + i := ⟨j - tl, by omega⟩
        have hb := e i (by omega)
        rw [q1 i (by omega), r2 i (Nat.zero_le _) (by omega), t0 150 (by decide) (by decide) (by decide), show vp_nar .byte (s.1 150 i) = s.1 150 i from hN.2.1 i (by omega)]
        exact hb
    · rw [o 2 (by decide) (by decide) (by decide) (by decide), o 150 (by decide) (by decide) (by decide) (by decide)]; exact e
    · rw [th_off (by decide), r1.1 148 (by decide)]; exact tH
  · have n1 : (sI s 148 0 (nI 0)).1 148 1 = nI tl := by rw [th_off (by decide)]; exact a2
    have n2 : (sI s 148 0 (nI 0)).1 148 2 = nI al := by rw [th_off (by decide)]; exact b2
    have k1 : F_K_again s = (nI 1, nI 0, s) := by rw [F_K_again, bnd_eq, b1, hd, bnd_eq, a1, hc, if_neg hv]
    have k2 : F_M_again s = (nI 0, sI (sI s 148 0 (nI 0)) 148 0 (nI 1)) := by
      rw [F_M_again, bnd_eq, bnd_eq, bnd_eq, n1, n2, hc, hd, if_neg (by omega), bnd_eq, mfail_eq]
    rw [k1]
    exact alike_fail h k2 (by decide)
