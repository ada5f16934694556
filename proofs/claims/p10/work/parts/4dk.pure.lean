set_option linter.all false
/-! open -/
/-- no pair stands in what it compares: the kernel would unroll the second one -/
theorem alike_mk {tl al pn : Nat} {a b x : Int32} {X t : Sto} {f : Sto → Int32 × Sto} (e : f X = (x, t)) (h1 : SAME tl al pn t) (h2 : t.1 148 0 = a) (h3 : a = nI 0 → x = b) : ALIKE (a, b, X) f := by
  unfold ALIKE
  dsimp only
  rw [e]
  exact ⟨⟨tl, al, pn, h1⟩, h2, h3⟩
theorem kopenN {v : Int32} {s : Sto} (h : F_K_findKem v s = (nI 0, s)) : F_K_open v s = (nI 1, nI 0, s) := by
  rw [F_K_open, bnd_eq, h]
  dsimp only
  rw [if_pos (show nI 0 = nI 0 from rfl)]
theorem open_core {tl al pn : Nat} {s sB_ t2 : Sto} (h : SAME tl al pn s)
    (hM : ∀ k, (k < 14 ∨ 148 ≤ k) → k ≠ 2 → sB_.1 k = s.1 k)
    (hR : ∀ k, (k < 172 ∨ 379 ≤ k) → k ≠ 150 → t2.1 k = (sI (sI (sI (sI (sI sB_ 0 1 (nI 0)) 0 3 (nI 32)) 148 0 (nI 0)) 148 1 (nI 0)) 148 2 (nI 32)).1 k)
    (h1 : ∀ x, x < 32 → sB_.1 2 x = t2.1 150 x) : SAME 0 32 pn t2 ∧ t2.1 148 0 = nI 0 := by
  obtain ⟨⟨a1, a2, a3⟩, ⟨b1, b2, b3⟩, ⟨c1, c2, c3⟩, d, e, f⟩ := id h
  have t0 := hR 0 (by omega) (by omega)
  have tM := hR 148 (by omega) (by omega)
  have tK : ∀ k, k ≠ 0 → k ≠ 148 → (k < 14 ∨ (148 ≤ k ∧ k < 172) ∨ 379 ≤ k) → k ≠ 150 → t2.1 k = sB_.1 k := fun k u v w x => by
    rw [hR k (by omega) x, th_ne v, th_ne v, th_ne v, th_ne u, th_ne u]
  have r01 : t2.1 0 1 = nI 0 := by rw [t0, th_ne (by decide), th_ne (by decide), th_ne (by decide), th_off (by decide)]; exact th_at
  have r03 : t2.1 0 3 = nI 32 := by rw [t0, th_ne (by decide), th_ne (by decide), th_ne (by decide)]; exact th_at
  have r05 : t2.1 0 5 = nI pn := by rw [t0, th_ne (by decide), th_ne (by decide), th_ne (by decide), th_off (by decide), th_off (by decide), hM 0 (by omega) (by omega)]; exact c1
  have rM0 : t2.1 148 0 = nI 0 := by rw [tM, th_off (by decide), th_off (by decide)]; exact th_at
  have rM1 : t2.1 148 1 = nI 0 := by rw [tM, th_off (by decide)]; exact th_at
  have rM2 : t2.1 148 2 = nI 32 := by rw [tM]; exact th_at
  have rM3 : t2.1 148 3 = nI pn := by rw [tM, th_off (by decide), th_off (by decide), th_off (by decide), th_ne (by decide), th_ne (by decide), hM 148 (by omega) (by omega)]; exact c2
  refine ⟨⟨⟨r01, rM1, by omega⟩, ⟨r03, rM2, by omega⟩, ⟨r05, rM3, c3⟩, fun j hj => absurd hj (by omega), fun j hj => ?_, fun i hi => PAIR_c (by omega) (fun k hk => ?_) (f i hi)⟩, rM0⟩
  · rw [tK 2 (by omega) (by omega) (by omega) (by omega)]
    exact h1 j hj
  · unfold isP at hk
    rw [tK k (by omega) (by omega) (by omega) (by omega), hM k (by omega) (by omega)]
theorem mopen_n {s : Sto} {pn : Nat} {v : Int32} (h : s.1 148 3 = nI pn) (hp : pn ≤ 8) (hv : v < 0 ∨ ¬ v < nI pn) : F_M_open v s = (nI 0, sI (sI s 148 0 (nI 0)) 148 0 (nI 1)) := by
  have h1 : (sI s 148 0 (nI 0)).1 148 3 = nI pn := by rw [th_off (by decide)]; exact h
  rw [F_M_open, bnd_eq]
  generalize sI s 148 0 (nI 0) = s1 at h1 ⊢
  rw [bnd_eq, mnone_no h1 hp hv]
  dsimp only
  rw [if_neg (show ¬ nI 1 = 0 by decide), bnd_eq, mfail_eq]
theorem mopen_d {J : Nat} {s : Sto} {pn z : Nat} (h : s.1 148 3 = nI pn) (hp : pn ≤ 8) (hz : z < pn) (e : s.1 170 z = nI J) (hJ : 3 ≤ J ∧ J < 6) : F_M_open (nI z) s = (nI 0, sI (sI s 148 0 (nI 0)) 148 0 (nI 1)) := by
  have h1 : (sI s 148 0 (nI 0)).1 148 3 = nI pn := by rw [th_off (by decide)]; exact h
  have h3 : (sI s 148 0 (nI 0)).1 170 z = nI J := by rw [th_ne (by decide)]; exact e
  have hzc : (nI z).toNatClampNeg = z := nI_clamp (by omega)
  rw [F_M_open, bnd_eq]
  generalize sI s 148 0 (nI 0) = s1 at h1 h3 ⊢
  rw [bnd_eq, mnone_at h1 hp hz]
  dsimp only
  rw [if_pos (show nI 0 = 0 by decide), bnd_eq, hzc, h3]
  have h9 : J = 3 ∨ J = 4 ∨ J = 5 := by omega
  rcases h9 with rfl | rfl | rfl
  · rw [if_neg (show ¬ nI 3 = nI 0 by decide), if_neg (show ¬ nI 3 = nI 1 by decide), if_neg (show ¬ nI 3 = nI 2 by decide), if_pos (show nI 3 = nI 3 from rfl), bnd_eq, mfail_eq]
  · rw [if_neg (show ¬ nI 4 = nI 0 by decide), if_neg (show ¬ nI 4 = nI 1 by decide), if_neg (show ¬ nI 4 = nI 2 by decide), if_neg (show ¬ nI 4 = nI 3 by decide), if_pos (show nI 4 = nI 4 from rfl), bnd_eq, mfail_eq]
  · rw [if_neg (show ¬ nI 5 = nI 0 by decide), if_neg (show ¬ nI 5 = nI 1 by decide), if_neg (show ¬ nI 5 = nI 2 by decide), if_neg (show ¬ nI 5 = nI 3 by decide), if_neg (show ¬ nI 5 = nI 4 by decide), bnd_eq, mfail_eq]
theorem mopen_0_a {s : Sto} {pn z tl : Nat} (h : s.1 148 3 = nI pn) (hp : pn ≤ 8) (hz : z < pn) (ht : s.1 148 1 = nI tl) (htl : tl ≤ 16384) (e : s.1 170 z = nI 0) (eh : s.1 171 z = nI 1632) (hn : ¬ tl = 768) : F_M_open (nI z) s = (nI 0, sI (sI s 148 0 (nI 0)) 148 0 (nI 2)) := by
  have h1 : (sI s 148 0 (nI 0)).1 148 3 = nI pn := by rw [th_off (by decide)]; exact h
  have h2 : (sI s 148 0 (nI 0)).1 148 1 = nI tl := by rw [th_off (by decide)]; exact ht
  have h3 : (sI s 148 0 (nI 0)).1 170 z = nI 0 := by rw [th_ne (by decide)]; exact e
  have h4 : (sI s 148 0 (nI 0)).1 171 z = nI 1632 := by rw [th_ne (by decide)]; exact eh
  have hzc : (nI z).toNatClampNeg = z := nI_clamp (by omega)
  rw [F_M_open, bnd_eq]
  generalize sI s 148 0 (nI 0) = s1 at h1 h2 h3 h4 ⊢
  rw [bnd_eq, mnone_at h1 hp hz]
  dsimp only
  rw [if_pos (show nI 0 = 0 by decide), bnd_eq, hzc, h3, if_pos (show nI 0 = nI 0 from rfl), bnd_eq, h4, nI_clamp (show 1632 < 2 ^ 31 by decide), if_neg (show ¬ nI 1632 = 0 by decide), bnd_eq, h2, nI_clamp (show tl < 2 ^ 31 by omega), bnd_eq, F_ME_sealedSize_0]
  dsimp only
  rw [bnd_eq, if_neg hn, bnd_eq, mfail_eq]
theorem mopen_0_z {s : Sto} {pn z : Nat} (h : s.1 148 3 = nI pn) (hp : pn ≤ 8) (hz : z < pn) (e : s.1 170 z = nI 0) (eh : s.1 171 z = nI 0) : F_M_open (nI z) s = (nI 0, sI (sI s 148 0 (nI 0)) 148 0 (nI 1)) := by
  have h1 : (sI s 148 0 (nI 0)).1 148 3 = nI pn := by rw [th_off (by decide)]; exact h
  have h3 : (sI s 148 0 (nI 0)).1 170 z = nI 0 := by rw [th_ne (by decide)]; exact e
  have h4 : (sI s 148 0 (nI 0)).1 171 z = nI 0 := by rw [th_ne (by decide)]; exact eh
  have hzc : (nI z).toNatClampNeg = z := nI_clamp (by omega)
  rw [F_M_open, bnd_eq]
  generalize sI s 148 0 (nI 0) = s1 at h1 h3 h4 ⊢
  rw [bnd_eq, mnone_at h1 hp hz]
  dsimp only
  rw [if_pos (show nI 0 = 0 by decide), bnd_eq, hzc, h3, if_pos (show nI 0 = nI 0 from rfl), bnd_eq, h4, nI_clamp (show 0 < 2 ^ 31 by decide), if_pos (show nI 0 = 0 by decide), bnd_eq, mfail_eq]
theorem mopen_0 {s : Sto} {pn z : Nat} (h : s.1 148 3 = nI pn) (hp : pn ≤ 8) (hz : z < pn) (ht : s.1 148 1 = nI 768) (e : s.1 170 z = nI 0) (eh : s.1 171 z = nI 1632) :
    ((F_ME_open_0 (162 + z) 149 150 (sI (sI (sI s 148 0 (nI 0)) 148 1 (nI 0)) 148 2 (nI 32))).1 148 2 = nI 32 → F_M_open (nI z) s = (nI 32, F_ME_open_0 (162 + z) 149 150 (sI (sI (sI s 148 0 (nI 0)) 148 1 (nI 0)) 148 2 (nI 32)))) ∧ (E_M_open (nI z) s → EMO0 (162 + z) 149 150 (sI (sI (sI s 148 0 (nI 0)) 148 1 (nI 0)) 148 2 (nI 32))) := by
  have h1 : (sI s 148 0 (nI 0)).1 148 3 = nI pn := by rw [th_off (by decide)]; exact h
  have h2 : (sI s 148 0 (nI 0)).1 148 1 = nI 768 := by rw [th_off (by decide)]; exact ht
  have h3 : (sI s 148 0 (nI 0)).1 170 z = nI 0 := by rw [th_ne (by decide)]; exact e
  have h4 : (sI s 148 0 (nI 0)).1 171 z = nI 1632 := by rw [th_ne (by decide)]; exact eh
  have hzc : (nI z).toNatClampNeg = z := nI_clamp (by omega)
  have eE : ∃ R : Prop, E_M_open (nI z) s = (E_ME_open_0 (162 + z) 149 150 (sI (sI (sI s 148 0 (nI 0)) 148 1 (nI 0)) 148 2 (nI 32)) ∧ R) := by
    rw [E_M_open, bnd_eq]
    generalize sI s 148 0 (nI 0) = s1 at h1 h2 h3 h4 ⊢
    rw [bnd_eq, mnone_at h1 hp hz]
    dsimp only
    rw [if_pos (show nI 0 = 0 by decide), bnd_eq, hzc, h3, if_pos (show nI 0 = nI 0 from rfl), bnd_eq, h4, nI_clamp (show 1632 < 2 ^ 31 by decide), if_neg (show ¬ nI 1632 = 0 by decide), bnd_eq, h2, nI_clamp (show 768 < 2 ^ 31 by decide), bnd_eq, F_ME_sealedSize_0]
    dsimp only
    rw [bnd_eq, if_pos (show (768 : Nat) = 768 from rfl), bnd_eq, bnd_eq]
    exact ⟨_, rfl⟩
  obtain ⟨R, eE⟩ := eE
  rw [← EMO0_eq] at eE
  refine ⟨fun g => ?_, fun g => (Eq.mp eE g).1⟩
  rw [F_M_open, bnd_eq]
  generalize sI s 148 0 (nI 0) = s1 at h1 h2 h3 h4 g ⊢
  rw [bnd_eq, mnone_at h1 hp hz]
  dsimp only
  rw [if_pos (show nI 0 = 0 by decide), bnd_eq, hzc, h3, if_pos (show nI 0 = nI 0 from rfl), bnd_eq, h4, nI_clamp (show 1632 < 2 ^ 31 by decide), if_neg (show ¬ nI 1632 = 0 by decide), bnd_eq, h2, nI_clamp (show 768 < 2 ^ 31 by decide), bnd_eq, F_ME_sealedSize_0]
  dsimp only
  rw [bnd_eq, if_pos (show (768 : Nat) = 768 from rfl), bnd_eq, bnd_eq, bnd_eq, bnd_eq, g, nI_clamp (show 32 < 2 ^ 31 by decide)]
theorem mopen_1_a {s : Sto} {pn z tl : Nat} (h : s.1 148 3 = nI pn) (hp : pn ≤ 8) (hz : z < pn) (ht : s.1 148 1 = nI tl) (htl : tl ≤ 16384) (e : s.1 170 z = nI 1) (eh : s.1 171 z = nI 2400) (hn : ¬ tl = 1088) : F_M_open (nI z) s = (nI 0, sI (sI s 148 0 (nI 0)) 148 0 (nI 2)) := by
  have h1 : (sI s 148 0 (nI 0)).1 148 3 = nI pn := by rw [th_off (by decide)]; exact h
  have h2 : (sI s 148 0 (nI 0)).1 148 1 = nI tl := by rw [th_off (by decide)]; exact ht
  have h3 : (sI s 148 0 (nI 0)).1 170 z = nI 1 := by rw [th_ne (by decide)]; exact e
  have h4 : (sI s 148 0 (nI 0)).1 171 z = nI 2400 := by rw [th_ne (by decide)]; exact eh
  have hzc : (nI z).toNatClampNeg = z := nI_clamp (by omega)
  rw [F_M_open, bnd_eq]
  generalize sI s 148 0 (nI 0) = s1 at h1 h2 h3 h4 ⊢
  rw [bnd_eq, mnone_at h1 hp hz]
  dsimp only
  rw [if_pos (show nI 0 = 0 by decide), bnd_eq, hzc, h3, if_neg (show ¬ nI 1 = nI 0 by decide), if_pos (show nI 1 = nI 1 from rfl), bnd_eq, h4, nI_clamp (show 2400 < 2 ^ 31 by decide), if_neg (show ¬ nI 2400 = 0 by decide), bnd_eq, h2, nI_clamp (show tl < 2 ^ 31 by omega), bnd_eq, F_ME_sealedSize_1]
  dsimp only
  rw [bnd_eq, if_neg hn, bnd_eq, mfail_eq]
theorem mopen_1_z {s : Sto} {pn z : Nat} (h : s.1 148 3 = nI pn) (hp : pn ≤ 8) (hz : z < pn) (e : s.1 170 z = nI 1) (eh : s.1 171 z = nI 0) : F_M_open (nI z) s = (nI 0, sI (sI s 148 0 (nI 0)) 148 0 (nI 1)) := by
  have h1 : (sI s 148 0 (nI 0)).1 148 3 = nI pn := by rw [th_off (by decide)]; exact h
  have h3 : (sI s 148 0 (nI 0)).1 170 z = nI 1 := by rw [th_ne (by decide)]; exact e
  have h4 : (sI s 148 0 (nI 0)).1 171 z = nI 0 := by rw [th_ne (by decide)]; exact eh
  have hzc : (nI z).toNatClampNeg = z := nI_clamp (by omega)
  rw [F_M_open, bnd_eq]
  generalize sI s 148 0 (nI 0) = s1 at h1 h3 h4 ⊢
  rw [bnd_eq, mnone_at h1 hp hz]
  dsimp only
  rw [if_pos (show nI 0 = 0 by decide), bnd_eq, hzc, h3, if_neg (show ¬ nI 1 = nI 0 by decide), if_pos (show nI 1 = nI 1 from rfl), bnd_eq, h4, nI_clamp (show 0 < 2 ^ 31 by decide), if_pos (show nI 0 = 0 by decide), bnd_eq, mfail_eq]
theorem mopen_1 {s : Sto} {pn z : Nat} (h : s.1 148 3 = nI pn) (hp : pn ≤ 8) (hz : z < pn) (ht : s.1 148 1 = nI 1088) (e : s.1 170 z = nI 1) (eh : s.1 171 z = nI 2400) :
    ((F_ME_open_1 (162 + z) 149 150 (sI (sI (sI s 148 0 (nI 0)) 148 1 (nI 0)) 148 2 (nI 32))).1 148 2 = nI 32 → F_M_open (nI z) s = (nI 32, F_ME_open_1 (162 + z) 149 150 (sI (sI (sI s 148 0 (nI 0)) 148 1 (nI 0)) 148 2 (nI 32)))) ∧ (E_M_open (nI z) s → EMO1 (162 + z) 149 150 (sI (sI (sI s 148 0 (nI 0)) 148 1 (nI 0)) 148 2 (nI 32))) := by
  have h1 : (sI s 148 0 (nI 0)).1 148 3 = nI pn := by rw [th_off (by decide)]; exact h
  have h2 : (sI s 148 0 (nI 0)).1 148 1 = nI 1088 := by rw [th_off (by decide)]; exact ht
  have h3 : (sI s 148 0 (nI 0)).1 170 z = nI 1 := by rw [th_ne (by decide)]; exact e
  have h4 : (sI s 148 0 (nI 0)).1 171 z = nI 2400 := by rw [th_ne (by decide)]; exact eh
  have hzc : (nI z).toNatClampNeg = z := nI_clamp (by omega)
  have eE : ∃ R : Prop, E_M_open (nI z) s = (E_ME_open_1 (162 + z) 149 150 (sI (sI (sI s 148 0 (nI 0)) 148 1 (nI 0)) 148 2 (nI 32)) ∧ R) := by
    rw [E_M_open, bnd_eq]
    generalize sI s 148 0 (nI 0) = s1 at h1 h2 h3 h4 ⊢
    rw [bnd_eq, mnone_at h1 hp hz]
    dsimp only
    rw [if_pos (show nI 0 = 0 by decide), bnd_eq, hzc, h3, if_neg (show ¬ nI 1 = nI 0 by decide), if_pos (show nI 1 = nI 1 from rfl), bnd_eq, h4, nI_clamp (show 2400 < 2 ^ 31 by decide), if_neg (show ¬ nI 2400 = 0 by decide), bnd_eq, h2, nI_clamp (show 1088 < 2 ^ 31 by decide), bnd_eq, F_ME_sealedSize_1]
    dsimp only
    rw [bnd_eq, if_pos (show (1088 : Nat) = 1088 from rfl), bnd_eq, bnd_eq]
    exact ⟨_, rfl⟩
  obtain ⟨R, eE⟩ := eE
  rw [← EMO1_eq] at eE
  refine ⟨fun g => ?_, fun g => (Eq.mp eE g).1⟩
  rw [F_M_open, bnd_eq]
  generalize sI s 148 0 (nI 0) = s1 at h1 h2 h3 h4 g ⊢
  rw [bnd_eq, mnone_at h1 hp hz]
  dsimp only
  rw [if_pos (show nI 0 = 0 by decide), bnd_eq, hzc, h3, if_neg (show ¬ nI 1 = nI 0 by decide), if_pos (show nI 1 = nI 1 from rfl), bnd_eq, h4, nI_clamp (show 2400 < 2 ^ 31 by decide), if_neg (show ¬ nI 2400 = 0 by decide), bnd_eq, h2, nI_clamp (show 1088 < 2 ^ 31 by decide), bnd_eq, F_ME_sealedSize_1]
  dsimp only
  rw [bnd_eq, if_pos (show (1088 : Nat) = 1088 from rfl), bnd_eq, bnd_eq, bnd_eq, bnd_eq, g, nI_clamp (show 32 < 2 ^ 31 by decide)]
theorem mopen_2_a {s : Sto} {pn z tl : Nat} (h : s.1 148 3 = nI pn) (hp : pn ≤ 8) (hz : z < pn) (ht : s.1 148 1 = nI tl) (htl : tl ≤ 16384) (e : s.1 170 z = nI 2) (eh : s.1 171 z = nI 3168) (hn : ¬ tl = 1568) : F_M_open (nI z) s = (nI 0, sI (sI s 148 0 (nI 0)) 148 0 (nI 2)) := by
  have h1 : (sI s 148 0 (nI 0)).1 148 3 = nI pn := by rw [th_off (by decide)]; exact h
  have h2 : (sI s 148 0 (nI 0)).1 148 1 = nI tl := by rw [th_off (by decide)]; exact ht
  have h3 : (sI s 148 0 (nI 0)).1 170 z = nI 2 := by rw [th_ne (by decide)]; exact e
  have h4 : (sI s 148 0 (nI 0)).1 171 z = nI 3168 := by rw [th_ne (by decide)]; exact eh
  have hzc : (nI z).toNatClampNeg = z := nI_clamp (by omega)
  rw [F_M_open, bnd_eq]
  generalize sI s 148 0 (nI 0) = s1 at h1 h2 h3 h4 ⊢
  rw [bnd_eq, mnone_at h1 hp hz]
  dsimp only
  rw [if_pos (show nI 0 = 0 by decide), bnd_eq, hzc, h3, if_neg (show ¬ nI 2 = nI 0 by decide), if_neg (show ¬ nI 2 = nI 1 by decide), if_pos (show nI 2 = nI 2 from rfl), bnd_eq, h4, nI_clamp (show 3168 < 2 ^ 31 by decide), if_neg (show ¬ nI 3168 = 0 by decide), bnd_eq, h2, nI_clamp (show tl < 2 ^ 31 by omega), bnd_eq, F_ME_sealedSize_2]
  dsimp only
  rw [bnd_eq, if_neg hn, bnd_eq, mfail_eq]
theorem mopen_2_z {s : Sto} {pn z : Nat} (h : s.1 148 3 = nI pn) (hp : pn ≤ 8) (hz : z < pn) (e : s.1 170 z = nI 2) (eh : s.1 171 z = nI 0) : F_M_open (nI z) s = (nI 0, sI (sI s 148 0 (nI 0)) 148 0 (nI 1)) := by
  have h1 : (sI s 148 0 (nI 0)).1 148 3 = nI pn := by rw [th_off (by decide)]; exact h
  have h3 : (sI s 148 0 (nI 0)).1 170 z = nI 2 := by rw [th_ne (by decide)]; exact e
  have h4 : (sI s 148 0 (nI 0)).1 171 z = nI 0 := by rw [th_ne (by decide)]; exact eh
  have hzc : (nI z).toNatClampNeg = z := nI_clamp (by omega)
  rw [F_M_open, bnd_eq]
  generalize sI s 148 0 (nI 0) = s1 at h1 h3 h4 ⊢
  rw [bnd_eq, mnone_at h1 hp hz]
  dsimp only
  rw [if_pos (show nI 0 = 0 by decide), bnd_eq, hzc, h3, if_neg (show ¬ nI 2 = nI 0 by decide), if_neg (show ¬ nI 2 = nI 1 by decide), if_pos (show nI 2 = nI 2 from rfl), bnd_eq, h4, nI_clamp (show 0 < 2 ^ 31 by decide), if_pos (show nI 0 = 0 by decide), bnd_eq, mfail_eq]
theorem mopen_2 {s : Sto} {pn z : Nat} (h : s.1 148 3 = nI pn) (hp : pn ≤ 8) (hz : z < pn) (ht : s.1 148 1 = nI 1568) (e : s.1 170 z = nI 2) (eh : s.1 171 z = nI 3168) :
    ((F_ME_open_2 (162 + z) 149 150 (sI (sI (sI s 148 0 (nI 0)) 148 1 (nI 0)) 148 2 (nI 32))).1 148 2 = nI 32 → F_M_open (nI z) s = (nI 32, F_ME_open_2 (162 + z) 149 150 (sI (sI (sI s 148 0 (nI 0)) 148 1 (nI 0)) 148 2 (nI 32)))) ∧ (E_M_open (nI z) s → EMO2 (162 + z) 149 150 (sI (sI (sI s 148 0 (nI 0)) 148 1 (nI 0)) 148 2 (nI 32))) := by
  have h1 : (sI s 148 0 (nI 0)).1 148 3 = nI pn := by rw [th_off (by decide)]; exact h
  have h2 : (sI s 148 0 (nI 0)).1 148 1 = nI 1568 := by rw [th_off (by decide)]; exact ht
  have h3 : (sI s 148 0 (nI 0)).1 170 z = nI 2 := by rw [th_ne (by decide)]; exact e
  have h4 : (sI s 148 0 (nI 0)).1 171 z = nI 3168 := by rw [th_ne (by decide)]; exact eh
  have hzc : (nI z).toNatClampNeg = z := nI_clamp (by omega)
  have eE : ∃ R : Prop, E_M_open (nI z) s = (E_ME_open_2 (162 + z) 149 150 (sI (sI (sI s 148 0 (nI 0)) 148 1 (nI 0)) 148 2 (nI 32)) ∧ R) := by
    rw [E_M_open, bnd_eq]
    generalize sI s 148 0 (nI 0) = s1 at h1 h2 h3 h4 ⊢
    rw [bnd_eq, mnone_at h1 hp hz]
    dsimp only
    rw [if_pos (show nI 0 = 0 by decide), bnd_eq, hzc, h3, if_neg (show ¬ nI 2 = nI 0 by decide), if_neg (show ¬ nI 2 = nI 1 by decide), if_pos (show nI 2 = nI 2 from rfl), bnd_eq, h4, nI_clamp (show 3168 < 2 ^ 31 by decide), if_neg (show ¬ nI 3168 = 0 by decide), bnd_eq, h2, nI_clamp (show 1568 < 2 ^ 31 by decide), bnd_eq, F_ME_sealedSize_2]
    dsimp only
    rw [bnd_eq, if_pos (show (1568 : Nat) = 1568 from rfl), bnd_eq, bnd_eq]
    exact ⟨_, rfl⟩
  obtain ⟨R, eE⟩ := eE
  rw [← EMO2_eq] at eE
  refine ⟨fun g => ?_, fun g => (Eq.mp eE g).1⟩
  rw [F_M_open, bnd_eq]
  generalize sI s 148 0 (nI 0) = s1 at h1 h2 h3 h4 g ⊢
  rw [bnd_eq, mnone_at h1 hp hz]
  dsimp only
  rw [if_pos (show nI 0 = 0 by decide), bnd_eq, hzc, h3, if_neg (show ¬ nI 2 = nI 0 by decide), if_neg (show ¬ nI 2 = nI 1 by decide), if_pos (show nI 2 = nI 2 from rfl), bnd_eq, h4, nI_clamp (show 3168 < 2 ^ 31 by decide), if_neg (show ¬ nI 3168 = 0 by decide), bnd_eq, h2, nI_clamp (show 1568 < 2 ^ 31 by decide), bnd_eq, F_ME_sealedSize_2]
  dsimp only
  rw [bnd_eq, if_pos (show (1568 : Nat) = 1568 from rfl), bnd_eq, bnd_eq, bnd_eq, bnd_eq, g, nI_clamp (show 32 < 2 ^ 31 by decide)]
