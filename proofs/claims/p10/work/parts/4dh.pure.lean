set_option linter.all false
/-! seal -/
theorem kfk_0 {v : Int32} {s : Sto} (h : F_K_find v s = (nI 1, s)) : F_K_findKem v s = (nI 1, s) := by
  rw [F_K_findKem, bnd_eq, h]
  dsimp only
  rw [if_neg (show ¬ nI 1 = nI 0 by decide), if_pos (show nI 1 = nI 1 from rfl), bnd_eq]
theorem kfk_1 {v : Int32} {s : Sto} (h : F_K_find v s = (nI 2, s)) : F_K_findKem v s = (nI 2, s) := by
  rw [F_K_findKem, bnd_eq, h]
  dsimp only
  rw [if_neg (show ¬ nI 2 = nI 0 by decide), if_neg (show ¬ nI 2 = nI 1 by decide), if_pos (show nI 2 = nI 2 from rfl), bnd_eq]
theorem kfk_2 {v : Int32} {s : Sto} (h : F_K_find v s = (nI 3, s)) : F_K_findKem v s = (nI 3, s) := by
  rw [F_K_findKem, bnd_eq, h]
  dsimp only
  rw [if_neg (show ¬ nI 3 = nI 0 by decide), if_neg (show ¬ nI 3 = nI 1 by decide), if_neg (show ¬ nI 3 = nI 2 by decide), if_pos (show nI 3 = nI 3 from rfl), bnd_eq]
theorem kfk_3 {v : Int32} {s : Sto} (h : F_K_find v s = (nI 4, s)) : F_K_findKem v s = (nI 0, s) := by
  rw [F_K_findKem, bnd_eq, h]
  dsimp only
  rw [if_neg (show ¬ nI 4 = nI 0 by decide), if_neg (show ¬ nI 4 = nI 1 by decide), if_neg (show ¬ nI 4 = nI 2 by decide), if_neg (show ¬ nI 4 = nI 3 by decide), if_pos (show nI 4 = nI 4 from rfl), bnd_eq]
theorem kfk_4 {v : Int32} {s : Sto} (h : F_K_find v s = (nI 5, s)) : F_K_findKem v s = (nI 0, s) := by
  rw [F_K_findKem, bnd_eq, h]
  dsimp only
  rw [if_neg (show ¬ nI 5 = nI 0 by decide), if_neg (show ¬ nI 5 = nI 1 by decide), if_neg (show ¬ nI 5 = nI 2 by decide), if_neg (show ¬ nI 5 = nI 3 by decide), if_neg (show ¬ nI 5 = nI 4 by decide), if_pos (show nI 5 = nI 5 from rfl), bnd_eq]
theorem kfk_5 {v : Int32} {s : Sto} (h : F_K_find v s = (nI 6, s)) : F_K_findKem v s = (nI 0, s) := by
  rw [F_K_findKem, bnd_eq, h]
  dsimp only
  rw [if_neg (show ¬ nI 6 = nI 0 by decide), if_neg (show ¬ nI 6 = nI 1 by decide), if_neg (show ¬ nI 6 = nI 2 by decide), if_neg (show ¬ nI 6 = nI 3 by decide), if_neg (show ¬ nI 6 = nI 4 by decide), if_neg (show ¬ nI 6 = nI 5 by decide), if_pos (show nI 6 = nI 6 from rfl), bnd_eq]
theorem kfk_6 {v : Int32} {s : Sto} (h : F_K_find v s = (nI 7, s)) : F_K_findKem v s = (nI 7, s) := by
  rw [F_K_findKem, bnd_eq, h]
  dsimp only
  rw [if_neg (show ¬ nI 7 = nI 0 by decide), if_neg (show ¬ nI 7 = nI 1 by decide), if_neg (show ¬ nI 7 = nI 2 by decide), if_neg (show ¬ nI 7 = nI 3 by decide), if_neg (show ¬ nI 7 = nI 4 by decide), if_neg (show ¬ nI 7 = nI 5 by decide), if_neg (show ¬ nI 7 = nI 6 by decide), if_pos (show nI 7 = nI 7 from rfl), bnd_eq]
theorem kfk_7 {v : Int32} {s : Sto} (h : F_K_find v s = (nI 8, s)) : F_K_findKem v s = (nI 8, s) := by
  rw [F_K_findKem, bnd_eq, h]
  dsimp only
  rw [if_neg (show ¬ nI 8 = nI 0 by decide), if_neg (show ¬ nI 8 = nI 1 by decide), if_neg (show ¬ nI 8 = nI 2 by decide), if_neg (show ¬ nI 8 = nI 3 by decide), if_neg (show ¬ nI 8 = nI 4 by decide), if_neg (show ¬ nI 8 = nI 5 by decide), if_neg (show ¬ nI 8 = nI 6 by decide), if_neg (show ¬ nI 8 = nI 7 by decide), if_pos (show nI 8 = nI 8 from rfl), bnd_eq]
theorem kfk_8 {v : Int32} {s : Sto} (h : F_K_find v s = (nI 9, s)) : F_K_findKem v s = (nI 9, s) := by
  rw [F_K_findKem, bnd_eq, h]
  dsimp only
  rw [if_neg (show ¬ nI 9 = nI 0 by decide), if_neg (show ¬ nI 9 = nI 1 by decide), if_neg (show ¬ nI 9 = nI 2 by decide), if_neg (show ¬ nI 9 = nI 3 by decide), if_neg (show ¬ nI 9 = nI 4 by decide), if_neg (show ¬ nI 9 = nI 5 by decide), if_neg (show ¬ nI 9 = nI 6 by decide), if_neg (show ¬ nI 9 = nI 7 by decide), if_neg (show ¬ nI 9 = nI 8 by decide), if_pos (show nI 9 = nI 9 from rfl), bnd_eq]
theorem kfk_9 {v : Int32} {s : Sto} (h : F_K_find v s = (nI 10, s)) : F_K_findKem v s = (nI 0, s) := by
  rw [F_K_findKem, bnd_eq, h]
  dsimp only
  rw [if_neg (show ¬ nI 10 = nI 0 by decide), if_neg (show ¬ nI 10 = nI 1 by decide), if_neg (show ¬ nI 10 = nI 2 by decide), if_neg (show ¬ nI 10 = nI 3 by decide), if_neg (show ¬ nI 10 = nI 4 by decide), if_neg (show ¬ nI 10 = nI 5 by decide), if_neg (show ¬ nI 10 = nI 6 by decide), if_neg (show ¬ nI 10 = nI 7 by decide), if_neg (show ¬ nI 10 = nI 8 by decide), if_neg (show ¬ nI 10 = nI 9 by decide), if_pos (show nI 10 = nI 10 from rfl), bnd_eq]
theorem kfk_10 {v : Int32} {s : Sto} (h : F_K_find v s = (nI 11, s)) : F_K_findKem v s = (nI 0, s) := by
  rw [F_K_findKem, bnd_eq, h]
  dsimp only
  rw [if_neg (show ¬ nI 11 = nI 0 by decide), if_neg (show ¬ nI 11 = nI 1 by decide), if_neg (show ¬ nI 11 = nI 2 by decide), if_neg (show ¬ nI 11 = nI 3 by decide), if_neg (show ¬ nI 11 = nI 4 by decide), if_neg (show ¬ nI 11 = nI 5 by decide), if_neg (show ¬ nI 11 = nI 6 by decide), if_neg (show ¬ nI 11 = nI 7 by decide), if_neg (show ¬ nI 11 = nI 8 by decide), if_neg (show ¬ nI 11 = nI 9 by decide), if_neg (show ¬ nI 11 = nI 10 by decide), if_pos (show nI 11 = nI 11 from rfl), bnd_eq]
theorem kfk_11 {v : Int32} {s : Sto} (h : F_K_find v s = (nI 12, s)) : F_K_findKem v s = (nI 0, s) := by
  rw [F_K_findKem, bnd_eq, h]
  dsimp only
  rw [if_neg (show ¬ nI 12 = nI 0 by decide), if_neg (show ¬ nI 12 = nI 1 by decide), if_neg (show ¬ nI 12 = nI 2 by decide), if_neg (show ¬ nI 12 = nI 3 by decide), if_neg (show ¬ nI 12 = nI 4 by decide), if_neg (show ¬ nI 12 = nI 5 by decide), if_neg (show ¬ nI 12 = nI 6 by decide), if_neg (show ¬ nI 12 = nI 7 by decide), if_neg (show ¬ nI 12 = nI 8 by decide), if_neg (show ¬ nI 12 = nI 9 by decide), if_neg (show ¬ nI 12 = nI 10 by decide), if_neg (show ¬ nI 12 = nI 11 by decide), if_pos (show nI 12 = nI 12 from rfl), bnd_eq]
theorem kfk0 {v : Int32} {s : Sto} (h : F_K_find v s = (nI 0, s)) : F_K_findKem v s = (nI 0, s) := by
  rw [F_K_findKem, bnd_eq, h]
  dsimp only
  rw [if_pos (show nI 0 = nI 0 from rfl)]
theorem ksealN {v : Int32} {s : Sto} (h : F_K_findKem v s = (nI 0, s)) : F_K_seal v s = (nI 1, nI 0, s) := by
  rw [F_K_seal, bnd_eq, h]
  dsimp only
  rw [if_pos (show nI 0 = nI 0 from rfl)]
theorem seal_core {tl al pn L : Nat} {s sB_ t2 : Sto} (h : SAME tl al pn s) (hL : L ≤ 8192)
    (hM : ∀ k, (k < 14 ∨ 148 ≤ k) → k ≠ 2 → sB_.1 k = s.1 k)
    (hR : ∀ k, (k < 172 ∨ 379 ≤ k) → k ≠ 150 → t2.1 k = (sI (sI (sI (sI sB_ 0 1 (nI 0)) 0 3 (nI L)) 148 0 (nI 0)) 148 1 (nI 0)).1 k)
    (h1 : ∀ x, x < L → sB_.1 2 x = t2.1 150 x) : SAME 0 L pn (sI t2 148 2 (nI L)) ∧ (sI t2 148 2 (nI L)).1 148 0 = nI 0 := by
  obtain ⟨⟨a1, a2, a3⟩, ⟨b1, b2, b3⟩, ⟨c1, c2, c3⟩, d, e, f⟩ := id h
  have t0 := hR 0 (by omega) (by omega)
  have tM := hR 148 (by omega) (by omega)
  have tK : ∀ k, k ≠ 0 → k ≠ 148 → (k < 14 ∨ (148 ≤ k ∧ k < 172) ∨ 379 ≤ k) → k ≠ 150 → t2.1 k = sB_.1 k := fun k u v w x => by
    rw [hR k (by omega) x, th_ne v, th_ne v, th_ne u, th_ne u]
  have r01 : t2.1 0 1 = nI 0 := by rw [t0, th_ne (by decide), th_ne (by decide), th_off (by decide)]; exact th_at
  have r03 : t2.1 0 3 = nI L := by rw [t0, th_ne (by decide), th_ne (by decide)]; exact th_at
  have r05 : t2.1 0 5 = nI pn := by rw [t0, th_ne (by decide), th_ne (by decide), th_off (by decide), th_off (by decide), hM 0 (by omega) (by omega)]; exact c1
  have rM0 : t2.1 148 0 = nI 0 := by rw [tM, th_off (by decide)]; exact th_at
  have rM1 : t2.1 148 1 = nI 0 := by rw [tM]; exact th_at
  have rM3 : t2.1 148 3 = nI pn := by rw [tM, th_off (by decide), th_off (by decide), th_ne (by decide), th_ne (by decide), hM 148 (by omega) (by omega)]; exact c2
  refine ⟨⟨⟨by rw [th_ne (by decide)]; exact r01, by rw [th_off (by decide)]; exact rM1, by omega⟩, ⟨by rw [th_ne (by decide)]; exact r03, th_at, hL⟩, ⟨by rw [th_ne (by decide)]; exact r05, by rw [th_off (by decide)]; exact rM3, c3⟩, fun j hj => absurd hj (by omega), fun j hj => ?_, fun i hi => PAIR_c (by omega) (fun k hk => ?_) (f i hi)⟩, by rw [th_off (by decide)]; exact rM0⟩
  · rw [th_ne (show 2 ≠ 148 by decide), th_ne (show 150 ≠ 148 by decide), tK 2 (by omega) (by omega) (by omega) (by omega)]
    exact h1 j hj
  · unfold isP at hk
    rw [th_ne (by omega), tK k (by omega) (by omega) (by omega) (by omega), hM k (by omega) (by omega)]
theorem mseal_n {s : Sto} {pn : Nat} {v : Int32} (h : s.1 148 3 = nI pn) (hp : pn ≤ 8) (hv : v < 0 ∨ ¬ v < nI pn) : F_M_seal v s = (nI 0, sI (sI s 148 0 (nI 0)) 148 0 (nI 1)) := by
  have h1 : (sI s 148 0 (nI 0)).1 148 3 = nI pn := by rw [th_off (by decide)]; exact h
  rw [F_M_seal, bnd_eq]
  generalize sI s 148 0 (nI 0) = s1 at h1 ⊢
  rw [bnd_eq, mnone_no h1 hp hv]
  dsimp only
  rw [if_neg (show ¬ nI 1 = 0 by decide), bnd_eq, mfail_eq]
theorem mseal_0 {s : Sto} {pn z : Nat} (h : s.1 148 3 = nI pn) (hp : pn ≤ 8) (hz : z < pn) (ht : s.1 148 1 = nI 32) (e : s.1 170 z = nI 0) :
    ((F_ME_seal_0 (153 + z) 149 150 (sI (sI s 148 0 (nI 0)) 148 1 (nI 0))).1 = nI 800 → F_M_seal (nI z) s = (nI 800, sI (F_ME_seal_0 (153 + z) 149 150 (sI (sI s 148 0 (nI 0)) 148 1 (nI 0))).2 148 2 (nI 800))) ∧ (E_M_seal (nI z) s → E_ME_seal_0 (153 + z) 149 150 (sI (sI s 148 0 (nI 0)) 148 1 (nI 0))) := by
  have h1 : (sI s 148 0 (nI 0)).1 148 3 = nI pn := by rw [th_off (by decide)]; exact h
  have h2 : (sI s 148 0 (nI 0)).1 148 1 = nI 32 := by rw [th_off (by decide)]; exact ht
  have h3 : (sI s 148 0 (nI 0)).1 170 z = nI 0 := by rw [th_ne (by decide)]; exact e
  have hzc : (nI z).toNatClampNeg = z := nI_clamp (by omega)
  refine ⟨fun g => ?_, fun g => ?_⟩
  · rw [F_M_seal, bnd_eq]
    generalize sI s 148 0 (nI 0) = s1 at h1 h2 h3 g ⊢
    rw [bnd_eq, mnone_at h1 hp hz]
    dsimp only
    rw [if_pos (show nI 0 = 0 by decide), bnd_eq, hzc, h3, if_pos (show nI 0 = nI 0 from rfl), bnd_eq, h2, nI_clamp (show 32 < 2 ^ 31 by decide), if_pos (show (32 : Nat) = 32 from rfl), bnd_eq, bnd_eq, bnd_eq, bnd_eq, bnd_eq, th_at, nI_clamp (show 800 < 2 ^ 31 by decide)]
  · rw [E_M_seal, bnd_eq] at g
    generalize sI s 148 0 (nI 0) = s1 at h1 h2 h3 g ⊢
    rw [bnd_eq, mnone_at h1 hp hz] at g
    dsimp only at g
    rw [if_pos (show nI 0 = 0 by decide), bnd_eq, hzc, h3, if_pos (show nI 0 = nI 0 from rfl), bnd_eq, h2, nI_clamp (show 32 < 2 ^ 31 by decide), if_pos (show (32 : Nat) = 32 from rfl), bnd_eq] at g
    exact g.1
theorem mseal_1 {s : Sto} {pn z : Nat} (h : s.1 148 3 = nI pn) (hp : pn ≤ 8) (hz : z < pn) (ht : s.1 148 1 = nI 32) (e : s.1 170 z = nI 1) :
    ((F_ME_seal_1 (153 + z) 149 150 (sI (sI s 148 0 (nI 0)) 148 1 (nI 0))).1 = nI 1120 → F_M_seal (nI z) s = (nI 1120, sI (F_ME_seal_1 (153 + z) 149 150 (sI (sI s 148 0 (nI 0)) 148 1 (nI 0))).2 148 2 (nI 1120))) ∧ (E_M_seal (nI z) s → E_ME_seal_1 (153 + z) 149 150 (sI (sI s 148 0 (nI 0)) 148 1 (nI 0))) := by
  have h1 : (sI s 148 0 (nI 0)).1 148 3 = nI pn := by rw [th_off (by decide)]; exact h
  have h2 : (sI s 148 0 (nI 0)).1 148 1 = nI 32 := by rw [th_off (by decide)]; exact ht
  have h3 : (sI s 148 0 (nI 0)).1 170 z = nI 1 := by rw [th_ne (by decide)]; exact e
  have hzc : (nI z).toNatClampNeg = z := nI_clamp (by omega)
  refine ⟨fun g => ?_, fun g => ?_⟩
  · rw [F_M_seal, bnd_eq]
    generalize sI s 148 0 (nI 0) = s1 at h1 h2 h3 g ⊢
    rw [bnd_eq, mnone_at h1 hp hz]
    dsimp only
    rw [if_pos (show nI 0 = 0 by decide), bnd_eq, hzc, h3, if_neg (show ¬ nI 1 = nI 0 by decide), if_pos (show nI 1 = nI 1 from rfl), bnd_eq, h2, nI_clamp (show 32 < 2 ^ 31 by decide), if_pos (show (32 : Nat) = 32 from rfl), bnd_eq, bnd_eq, bnd_eq, bnd_eq, bnd_eq, th_at, nI_clamp (show 1120 < 2 ^ 31 by decide)]
  · rw [E_M_seal, bnd_eq] at g
    generalize sI s 148 0 (nI 0) = s1 at h1 h2 h3 g ⊢
    rw [bnd_eq, mnone_at h1 hp hz] at g
    dsimp only at g
    rw [if_pos (show nI 0 = 0 by decide), bnd_eq, hzc, h3, if_neg (show ¬ nI 1 = nI 0 by decide), if_pos (show nI 1 = nI 1 from rfl), bnd_eq, h2, nI_clamp (show 32 < 2 ^ 31 by decide), if_pos (show (32 : Nat) = 32 from rfl), bnd_eq] at g
    exact g.1
theorem mseal_2 {s : Sto} {pn z : Nat} (h : s.1 148 3 = nI pn) (hp : pn ≤ 8) (hz : z < pn) (ht : s.1 148 1 = nI 32) (e : s.1 170 z = nI 2) :
    ((F_ME_seal_2 (153 + z) 149 150 (sI (sI s 148 0 (nI 0)) 148 1 (nI 0))).1 = nI 1600 → F_M_seal (nI z) s = (nI 1600, sI (F_ME_seal_2 (153 + z) 149 150 (sI (sI s 148 0 (nI 0)) 148 1 (nI 0))).2 148 2 (nI 1600))) ∧ (E_M_seal (nI z) s → E_ME_seal_2 (153 + z) 149 150 (sI (sI s 148 0 (nI 0)) 148 1 (nI 0))) := by
  have h1 : (sI s 148 0 (nI 0)).1 148 3 = nI pn := by rw [th_off (by decide)]; exact h
  have h2 : (sI s 148 0 (nI 0)).1 148 1 = nI 32 := by rw [th_off (by decide)]; exact ht
  have h3 : (sI s 148 0 (nI 0)).1 170 z = nI 2 := by rw [th_ne (by decide)]; exact e
  have hzc : (nI z).toNatClampNeg = z := nI_clamp (by omega)
  refine ⟨fun g => ?_, fun g => ?_⟩
  · rw [F_M_seal, bnd_eq]
    generalize sI s 148 0 (nI 0) = s1 at h1 h2 h3 g ⊢
    rw [bnd_eq, mnone_at h1 hp hz]
    dsimp only
    rw [if_pos (show nI 0 = 0 by decide), bnd_eq, hzc, h3, if_neg (show ¬ nI 2 = nI 0 by decide), if_neg (show ¬ nI 2 = nI 1 by decide), if_pos (show nI 2 = nI 2 from rfl), bnd_eq, h2, nI_clamp (show 32 < 2 ^ 31 by decide), if_pos (show (32 : Nat) = 32 from rfl), bnd_eq, bnd_eq, bnd_eq, bnd_eq, bnd_eq, th_at, nI_clamp (show 1600 < 2 ^ 31 by decide)]
  · rw [E_M_seal, bnd_eq] at g
    generalize sI s 148 0 (nI 0) = s1 at h1 h2 h3 g ⊢
    rw [bnd_eq, mnone_at h1 hp hz] at g
    dsimp only at g
    rw [if_pos (show nI 0 = 0 by decide), bnd_eq, hzc, h3, if_neg (show ¬ nI 2 = nI 0 by decide), if_neg (show ¬ nI 2 = nI 1 by decide), if_pos (show nI 2 = nI 2 from rfl), bnd_eq, h2, nI_clamp (show 32 < 2 ^ 31 by decide), if_pos (show (32 : Nat) = 32 from rfl), bnd_eq] at g
    exact g.1
theorem mseal_a {J : Nat} {s : Sto} {pn z tl : Nat} (h : s.1 148 3 = nI pn) (hp : pn ≤ 8) (hz : z < pn) (ht : s.1 148 1 = nI tl) (htl : tl ≤ 16384) (e : s.1 170 z = nI J) (hJ : J < 3) (hn : ¬ tl = 32) : F_M_seal (nI z) s = (nI 0, sI (sI s 148 0 (nI 0)) 148 0 (nI 2)) := by
  have h1 : (sI s 148 0 (nI 0)).1 148 3 = nI pn := by rw [th_off (by decide)]; exact h
  have h2 : (sI s 148 0 (nI 0)).1 148 1 = nI tl := by rw [th_off (by decide)]; exact ht
  have h3 : (sI s 148 0 (nI 0)).1 170 z = nI J := by rw [th_ne (by decide)]; exact e
  have hzc : (nI z).toNatClampNeg = z := nI_clamp (by omega)
  have htc : (nI tl).toNatClampNeg = tl := nI_clamp (by omega)
  rw [F_M_seal, bnd_eq]
  generalize sI s 148 0 (nI 0) = s1 at h1 h2 h3 ⊢
  rw [bnd_eq, mnone_at h1 hp hz]
  dsimp only
  rw [if_pos (show nI 0 = 0 by decide), bnd_eq, hzc, h3]
  have h9 : J = 0 ∨ J = 1 ∨ J = 2 := by omega
  rcases h9 with rfl | rfl | rfl
  · rw [if_pos (show nI 0 = nI 0 from rfl), bnd_eq, h2, htc, if_neg hn, bnd_eq, mfail_eq]
  · rw [if_neg (show ¬ nI 1 = nI 0 by decide), if_pos (show nI 1 = nI 1 from rfl), bnd_eq, h2, htc, if_neg hn, bnd_eq, mfail_eq]
  · rw [if_neg (show ¬ nI 2 = nI 0 by decide), if_neg (show ¬ nI 2 = nI 1 by decide), if_pos (show nI 2 = nI 2 from rfl), bnd_eq, h2, htc, if_neg hn, bnd_eq, mfail_eq]
theorem mseal_d {J : Nat} {s : Sto} {pn z : Nat} (h : s.1 148 3 = nI pn) (hp : pn ≤ 8) (hz : z < pn) (e : s.1 170 z = nI J) (hJ : 3 ≤ J ∧ J < 6) : F_M_seal (nI z) s = (nI 0, sI (sI s 148 0 (nI 0)) 148 0 (nI 1)) := by
  have h1 : (sI s 148 0 (nI 0)).1 148 3 = nI pn := by rw [th_off (by decide)]; exact h
  have h3 : (sI s 148 0 (nI 0)).1 170 z = nI J := by rw [th_ne (by decide)]; exact e
  have hzc : (nI z).toNatClampNeg = z := nI_clamp (by omega)
  rw [F_M_seal, bnd_eq]
  generalize sI s 148 0 (nI 0) = s1 at h1 h3 ⊢
  rw [bnd_eq, mnone_at h1 hp hz]
  dsimp only
  rw [if_pos (show nI 0 = 0 by decide), bnd_eq, hzc, h3]
  have h9 : J = 3 ∨ J = 4 ∨ J = 5 := by omega
  rcases h9 with rfl | rfl | rfl
  · rw [if_neg (show ¬ nI 3 = nI 0 by decide), if_neg (show ¬ nI 3 = nI 1 by decide), if_neg (show ¬ nI 3 = nI 2 by decide), if_pos (show nI 3 = nI 3 from rfl), bnd_eq, mfail_eq]
  · rw [if_neg (show ¬ nI 4 = nI 0 by decide), if_neg (show ¬ nI 4 = nI 1 by decide), if_neg (show ¬ nI 4 = nI 2 by decide), if_neg (show ¬ nI 4 = nI 3 by decide), if_pos (show nI 4 = nI 4 from rfl), bnd_eq, mfail_eq]
  · rw [if_neg (show ¬ nI 5 = nI 0 by decide), if_neg (show ¬ nI 5 = nI 1 by decide), if_neg (show ¬ nI 5 = nI 2 by decide), if_neg (show ¬ nI 5 = nI 3 by decide), if_neg (show ¬ nI 5 = nI 4 by decide), bnd_eq, mfail_eq]
theorem ks0_a {z tl : Nat} {s : Sto} (h : F_K_findKem (nI z) s = (nI 1, s)) (h1 : s.1 0 1 = nI tl) (ht : tl ≤ 16384) (hn : ¬ tl = 32) : F_K_seal (nI z) s = (nI 2, nI 0, s) := by
  rw [F_K_seal, bnd_eq, h]
  dsimp only
  rw [if_neg (show ¬ nI 1 = nI 0 by decide), if_pos (show nI 1 = nI 1 from rfl), bnd_eq, bnd_eq, h1, nI_clamp (show tl < 2 ^ 31 by omega), if_neg hn]
theorem ks0_c {z : Nat} {s : Sto} (h : F_K_findKem (nI z) s = (nI 1, s)) (hz : z < 8) (h1 : s.1 0 1 = nI 32) : F_K_seal (nI z) s = (nI 0, nI 800, sI (sI (F_KM_encapsulate_0 (379 + 36 * z + 1) 1 16384 2 s) 0 1 (nI 0)) 0 3 (nI 800)) := by
  rw [F_K_seal, bnd_eq, h]
  dsimp only
  rw [if_neg (show ¬ nI 1 = nI 0 by decide), if_pos (show nI 1 = nI 1 from rfl), bnd_eq, nI_clamp (show z < 2 ^ 31 by omega), bnd_eq, h1, nI_clamp (show 32 < 2 ^ 31 by decide), if_pos (show (32 : Nat) = 32 from rfl), bnd_eq, bnd_eq, bnd_eq, bnd_eq, th_at, nI_clamp (show 800 < 2 ^ 31 by decide)]
theorem seal_c0 {tl al pn z : Nat} {s : Sto} (h : SAME tl al pn s) (hz : z < pn) (hf : F_K_findKem (nI z) s = (nI 1, s)) (e2 : s.1 170 z = nI 0) (e4 : ∀ j, j < 800 → s.1 (379 + 36 * z + 1) j = s.1 (153 + z) j) (hF : frm M_K_seal s (F_K_seal (nI z) s).2.2) (hE : E_M_seal (nI z) (F_K_seal (nI z) s).2.2) : ALIKE (F_K_seal (nI z) s) (F_M_seal (nI z)) := by
  obtain ⟨⟨a1, a2, a3⟩, ⟨b1, b2, b3⟩, ⟨c1, c2, c3⟩, d, e, f⟩ := id h
  by_cases ht : tl = 32
  · subst ht
    have e1 := ks0_c hf (by omega) a1
    obtain ⟨s1, hs1⟩ : ∃ x, x = (F_K_seal (nI z) s).2.2 := ⟨_, rfl⟩
    rw [← hs1] at hE hF
    have f1 : s1.1 148 = s.1 148 := hF 148 (by unfold M_K_seal; omega)
    have f2 : s1.1 149 = s.1 149 := hF 149 (by unfold M_K_seal; omega)
    have f3 : s1.1 170 = s.1 170 := hF 170 (by unfold M_K_seal; omega)
    have f4 : s1.1 (153 + z) = s.1 (153 + z) := hF (153 + z) (by unfold M_K_seal; omega)
    obtain ⟨k1, hE1⟩ := mseal_0 (s := s1) (pn := pn) (z := z) (by rw [f1]; exact c2) c3 hz (by rw [f1]; exact a2) (by rw [f3]; exact e2)
    have hE1 := hE1 hE
    obtain ⟨g1, g2, g3, g4⟩ := seal0_same (pp := 379 + 36 * z + 1) (pch := 1) (n := 16384) (pt := 2) (pek := 153 + z) (pms := 149) (qt := 150) (s := s) (t := sI (sI s1 148 0 (nI 0)) 148 1 (nI 0)) (by unfold apC; omega) (by unfold apR; omega) (fun j hj => by rw [th_ne (by omega), th_ne (by omega), f4]; exact e4 j hj) (fun j hj => by rw [th_ne (by decide), th_ne (by decide), f2]; exact d j hj) hE1
    have fM : ∀ k, (k < 14 ∨ 148 ≤ k) → k ≠ 2 → (F_KM_encapsulate_0 (379 + 36 * z + 1) 1 16384 2 s).1 k = s.1 k := fun k u v => g1 k (by show ¬ (_ ∨ _); unfold MC; omega)
    generalize F_KM_encapsulate_0 (379 + 36 * z + 1) 1 16384 2 s = sB_ at g1 g4 fM e1
    have hs : s1 = sI (sI sB_ 0 1 (nI 0)) 0 3 (nI 800) := by rw [hs1, e1]
    rw [e1]
    unfold ALIKE
    dsimp only
    rw [← hs, k1 g3]
    obtain ⟨q1, q2⟩ := seal_core (L := 800) (sB_ := sB_) (t2 := (F_ME_seal_0 (153 + z) 149 150 (sI (sI s1 148 0 (nI 0)) 148 1 (nI 0))).2) h (by decide) fM (fun k u v => by rw [← hs]; exact g2 k (by show ¬ (_ ∨ _); unfold MR; omega)) g4
    exact ⟨⟨0, 800, pn, q1⟩, q2, fun _ => rfl⟩
  · rw [ks0_a hf a1 a3 ht]
    exact alike_fail h (mseal_a (J := 0) c2 c3 hz a2 a3 e2 (by decide) ht) (by decide)
theorem ks1_a {z tl : Nat} {s : Sto} (h : F_K_findKem (nI z) s = (nI 2, s)) (h1 : s.1 0 1 = nI tl) (ht : tl ≤ 16384) (hn : ¬ tl = 32) : F_K_seal (nI z) s = (nI 2, nI 0, s) := by
  rw [F_K_seal, bnd_eq, h]
  dsimp only
  rw [if_neg (show ¬ nI 2 = nI 0 by decide), if_neg (show ¬ nI 2 = nI 1 by decide), if_pos (show nI 2 = nI 2 from rfl), bnd_eq, bnd_eq, h1, nI_clamp (show tl < 2 ^ 31 by omega), if_neg hn]
theorem ks1_c {z : Nat} {s : Sto} (h : F_K_findKem (nI z) s = (nI 2, s)) (hz : z < 8) (h1 : s.1 0 1 = nI 32) : F_K_seal (nI z) s = (nI 0, nI 1120, sI (sI (F_KM_encapsulate_1 (379 + 36 * z + 4) 1 16384 2 s) 0 1 (nI 0)) 0 3 (nI 1120)) := by
  rw [F_K_seal, bnd_eq, h]
  dsimp only
  rw [if_neg (show ¬ nI 2 = nI 0 by decide), if_neg (show ¬ nI 2 = nI 1 by decide), if_pos (show nI 2 = nI 2 from rfl), bnd_eq, nI_clamp (show z < 2 ^ 31 by omega), bnd_eq, h1, nI_clamp (show 32 < 2 ^ 31 by decide), if_pos (show (32 : Nat) = 32 from rfl), bnd_eq, bnd_eq, bnd_eq, bnd_eq, th_at, nI_clamp (show 1120 < 2 ^ 31 by decide)]
theorem seal_c1 {tl al pn z : Nat} {s : Sto} (h : SAME tl al pn s) (hz : z < pn) (hf : F_K_findKem (nI z) s = (nI 2, s)) (e2 : s.1 170 z = nI 1) (e4 : ∀ j, j < 1184 → s.1 (379 + 36 * z + 4) j = s.1 (153 + z) j) (hF : frm M_K_seal s (F_K_seal (nI z) s).2.2) (hE : E_M_seal (nI z) (F_K_seal (nI z) s).2.2) : ALIKE (F_K_seal (nI z) s) (F_M_seal (nI z)) := by
  obtain ⟨⟨a1, a2, a3⟩, ⟨b1, b2, b3⟩, ⟨c1, c2, c3⟩, d, e, f⟩ := id h
  by_cases ht : tl = 32
  · subst ht
    have e1 := ks1_c hf (by omega) a1
    obtain ⟨s1, hs1⟩ : ∃ x, x = (F_K_seal (nI z) s).2.2 := ⟨_, rfl⟩
    rw [← hs1] at hE hF
    have f1 : s1.1 148 = s.1 148 := hF 148 (by unfold M_K_seal; omega)
    have f2 : s1.1 149 = s.1 149 := hF 149 (by unfold M_K_seal; omega)
    have f3 : s1.1 170 = s.1 170 := hF 170 (by unfold M_K_seal; omega)
    have f4 : s1.1 (153 + z) = s.1 (153 + z) := hF (153 + z) (by unfold M_K_seal; omega)
    obtain ⟨k1, hE1⟩ := mseal_1 (s := s1) (pn := pn) (z := z) (by rw [f1]; exact c2) c3 hz (by rw [f1]; exact a2) (by rw [f3]; exact e2)
    have hE1 := hE1 hE
    obtain ⟨g1, g2, g3, g4⟩ := seal1_same (pp := 379 + 36 * z + 4) (pch := 1) (n := 16384) (pt := 2) (pek := 153 + z) (pms := 149) (qt := 150) (s := s) (t := sI (sI s1 148 0 (nI 0)) 148 1 (nI 0)) (by unfold apC; omega) (by unfold apR; omega) (fun j hj => by rw [th_ne (by omega), th_ne (by omega), f4]; exact e4 j hj) (fun j hj => by rw [th_ne (by decide), th_ne (by decide), f2]; exact d j hj) hE1
    have fM : ∀ k, (k < 14 ∨ 148 ≤ k) → k ≠ 2 → (F_KM_encapsulate_1 (379 + 36 * z + 4) 1 16384 2 s).1 k = s.1 k := fun k u v => g1 k (by show ¬ (_ ∨ _); unfold MC; omega)
    generalize F_KM_encapsulate_1 (379 + 36 * z + 4) 1 16384 2 s = sB_ at g1 g4 fM e1
    have hs : s1 = sI (sI sB_ 0 1 (nI 0)) 0 3 (nI 1120) := by rw [hs1, e1]
    rw [e1]
    unfold ALIKE
    dsimp only
    rw [← hs, k1 g3]
    obtain ⟨q1, q2⟩ := seal_core (L := 1120) (sB_ := sB_) (t2 := (F_ME_seal_1 (153 + z) 149 150 (sI (sI s1 148 0 (nI 0)) 148 1 (nI 0))).2) h (by decide) fM (fun k u v => by rw [← hs]; exact g2 k (by show ¬ (_ ∨ _); unfold MR; omega)) g4
    exact ⟨⟨0, 1120, pn, q1⟩, q2, fun _ => rfl⟩
  · rw [ks1_a hf a1 a3 ht]
    exact alike_fail h (mseal_a (J := 1) c2 c3 hz a2 a3 e2 (by decide) ht) (by decide)
theorem ks2_a {z tl : Nat} {s : Sto} (h : F_K_findKem (nI z) s = (nI 3, s)) (h1 : s.1 0 1 = nI tl) (ht : tl ≤ 16384) (hn : ¬ tl = 32) : F_K_seal (nI z) s = (nI 2, nI 0, s) := by
  rw [F_K_seal, bnd_eq, h]
  dsimp only
  rw [if_neg (show ¬ nI 3 = nI 0 by decide), if_neg (show ¬ nI 3 = nI 1 by decide), if_neg (show ¬ nI 3 = nI 2 by decide), if_pos (show nI 3 = nI 3 from rfl), bnd_eq, bnd_eq, h1, nI_clamp (show tl < 2 ^ 31 by omega), if_neg hn]
theorem ks2_c {z : Nat} {s : Sto} (h : F_K_findKem (nI z) s = (nI 3, s)) (hz : z < 8) (h1 : s.1 0 1 = nI 32) : F_K_seal (nI z) s = (nI 0, nI 1600, sI (sI (F_KM_encapsulate_2 (379 + 36 * z + 7) 1 16384 2 s) 0 1 (nI 0)) 0 3 (nI 1600)) := by
  rw [F_K_seal, bnd_eq, h]
  dsimp only
  rw [if_neg (show ¬ nI 3 = nI 0 by decide), if_neg (show ¬ nI 3 = nI 1 by decide), if_neg (show ¬ nI 3 = nI 2 by decide), if_pos (show nI 3 = nI 3 from rfl), bnd_eq, nI_clamp (show z < 2 ^ 31 by omega), bnd_eq, h1, nI_clamp (show 32 < 2 ^ 31 by decide), if_pos (show (32 : Nat) = 32 from rfl), bnd_eq, bnd_eq, bnd_eq, bnd_eq, th_at, nI_clamp (show 1600 < 2 ^ 31 by decide)]
theorem seal_c2 {tl al pn z : Nat} {s : Sto} (h : SAME tl al pn s) (hz : z < pn) (hf : F_K_findKem (nI z) s = (nI 3, s)) (e2 : s.1 170 z = nI 2) (e4 : ∀ j, j < 1568 → s.1 (379 + 36 * z + 7) j = s.1 (153 + z) j) (hF : frm M_K_seal s (F_K_seal (nI z) s).2.2) (hE : E_M_seal (nI z) (F_K_seal (nI z) s).2.2) : ALIKE (F_K_seal (nI z) s) (F_M_seal (nI z)) := by
  obtain ⟨⟨a1, a2, a3⟩, ⟨b1, b2, b3⟩, ⟨c1, c2, c3⟩, d, e, f⟩ := id h
  by_cases ht : tl = 32
  · subst ht
    have e1 := ks2_c hf (by omega) a1
    obtain ⟨s1, hs1⟩ : ∃ x, x = (F_K_seal (nI z) s).2.2 := ⟨_, rfl⟩
    rw [← hs1] at hE hF
    have f1 : s1.1 148 = s.1 148 := hF 148 (by unfold M_K_seal; omega)
    have f2 : s1.1 149 = s.1 149 := hF 149 (by unfold M_K_seal; omega)
    have f3 : s1.1 170 = s.1 170 := hF 170 (by unfold M_K_seal; omega)
    have f4 : s1.1 (153 + z) = s.1 (153 + z) := hF (153 + z) (by unfold M_K_seal; omega)
    obtain ⟨k1, hE1⟩ := mseal_2 (s := s1) (pn := pn) (z := z) (by rw [f1]; exact c2) c3 hz (by rw [f1]; exact a2) (by rw [f3]; exact e2)
    have hE1 := hE1 hE
    obtain ⟨g1, g2, g3, g4⟩ := seal2_same (pp := 379 + 36 * z + 7) (pch := 1) (n := 16384) (pt := 2) (pek := 153 + z) (pms := 149) (qt := 150) (s := s) (t := sI (sI s1 148 0 (nI 0)) 148 1 (nI 0)) (by unfold apC; omega) (by unfold apR; omega) (fun j hj => by rw [th_ne (by omega), th_ne (by omega), f4]; exact e4 j hj) (fun j hj => by rw [th_ne (by decide), th_ne (by decide), f2]; exact d j hj) hE1
    have fM : ∀ k, (k < 14 ∨ 148 ≤ k) → k ≠ 2 → (F_KM_encapsulate_2 (379 + 36 * z + 7) 1 16384 2 s).1 k = s.1 k := fun k u v => g1 k (by show ¬ (_ ∨ _); unfold MC; omega)
    generalize F_KM_encapsulate_2 (379 + 36 * z + 7) 1 16384 2 s = sB_ at g1 g4 fM e1
    have hs : s1 = sI (sI sB_ 0 1 (nI 0)) 0 3 (nI 1600) := by rw [hs1, e1]
    rw [e1]
    unfold ALIKE
    dsimp only
    rw [← hs, k1 g3]
    obtain ⟨q1, q2⟩ := seal_core (L := 1600) (sB_ := sB_) (t2 := (F_ME_seal_2 (153 + z) 149 150 (sI (sI s1 148 0 (nI 0)) 148 1 (nI 0))).2) h (by decide) fM (fun k u v => by rw [← hs]; exact g2 k (by show ¬ (_ ∨ _); unfold MR; omega)) g4
    exact ⟨⟨0, 1600, pn, q1⟩, q2, fun _ => rfl⟩
  · rw [ks2_a hf a1 a3 ht]
    exact alike_fail h (mseal_a (J := 2) c2 c3 hz a2 a3 e2 (by decide) ht) (by decide)
theorem ks6_a {z tl : Nat} {s : Sto} (h : F_K_findKem (nI z) s = (nI 7, s)) (h1 : s.1 0 1 = nI tl) (ht : tl ≤ 16384) (hn : ¬ tl = 32) : F_K_seal (nI z) s = (nI 2, nI 0, s) := by
  rw [F_K_seal, bnd_eq, h]
  dsimp only
  rw [if_neg (show ¬ nI 7 = nI 0 by decide), if_neg (show ¬ nI 7 = nI 1 by decide), if_neg (show ¬ nI 7 = nI 2 by decide), if_neg (show ¬ nI 7 = nI 3 by decide), if_pos (show nI 7 = nI 7 from rfl), bnd_eq, bnd_eq, h1, nI_clamp (show tl < 2 ^ 31 by omega), if_neg hn]
theorem ks6_c {z : Nat} {s : Sto} (h : F_K_findKem (nI z) s = (nI 7, s)) (hz : z < 8) (h1 : s.1 0 1 = nI 32) : F_K_seal (nI z) s = (nI 0, nI 800, sI (sI (F_KM_encapsulate_0 (379 + 36 * z + 19) 1 16384 2 s) 0 1 (nI 0)) 0 3 (nI 800)) := by
  rw [F_K_seal, bnd_eq, h]
  dsimp only
  rw [if_neg (show ¬ nI 7 = nI 0 by decide), if_neg (show ¬ nI 7 = nI 1 by decide), if_neg (show ¬ nI 7 = nI 2 by decide), if_neg (show ¬ nI 7 = nI 3 by decide), if_pos (show nI 7 = nI 7 from rfl), bnd_eq, nI_clamp (show z < 2 ^ 31 by omega), bnd_eq, h1, nI_clamp (show 32 < 2 ^ 31 by decide), if_pos (show (32 : Nat) = 32 from rfl), bnd_eq, bnd_eq, bnd_eq, bnd_eq, th_at, nI_clamp (show 800 < 2 ^ 31 by decide)]
theorem seal_c6 {tl al pn z : Nat} {s : Sto} (h : SAME tl al pn s) (hz : z < pn) (hf : F_K_findKem (nI z) s = (nI 7, s)) (e2 : s.1 170 z = nI 0) (e4 : ∀ j, j < 800 → s.1 (379 + 36 * z + 19) j = s.1 (153 + z) j) (hF : frm M_K_seal s (F_K_seal (nI z) s).2.2) (hE : E_M_seal (nI z) (F_K_seal (nI z) s).2.2) : ALIKE (F_K_seal (nI z) s) (F_M_seal (nI z)) := by
  obtain ⟨⟨a1, a2, a3⟩, ⟨b1, b2, b3⟩, ⟨c1, c2, c3⟩, d, e, f⟩ := id h
  by_cases ht : tl = 32
  · subst ht
    have e1 := ks6_c hf (by omega) a1
    obtain ⟨s1, hs1⟩ : ∃ x, x = (F_K_seal (nI z) s).2.2 := ⟨_, rfl⟩
    rw [← hs1] at hE hF
    have f1 : s1.1 148 = s.1 148 := hF 148 (by unfold M_K_seal; omega)
    have f2 : s1.1 149 = s.1 149 := hF 149 (by unfold M_K_seal; omega)
    have f3 : s1.1 170 = s.1 170 := hF 170 (by unfold M_K_seal; omega)
    have f4 : s1.1 (153 + z) = s.1 (153 + z) := hF (153 + z) (by unfold M_K_seal; omega)
    obtain ⟨k1, hE1⟩ := mseal_0 (s := s1) (pn := pn) (z := z) (by rw [f1]; exact c2) c3 hz (by rw [f1]; exact a2) (by rw [f3]; exact e2)
    have hE1 := hE1 hE
    obtain ⟨g1, g2, g3, g4⟩ := seal0_same (pp := 379 + 36 * z + 19) (pch := 1) (n := 16384) (pt := 2) (pek := 153 + z) (pms := 149) (qt := 150) (s := s) (t := sI (sI s1 148 0 (nI 0)) 148 1 (nI 0)) (by unfold apC; omega) (by unfold apR; omega) (fun j hj => by rw [th_ne (by omega), th_ne (by omega), f4]; exact e4 j hj) (fun j hj => by rw [th_ne (by decide), th_ne (by decide), f2]; exact d j hj) hE1
    have fM : ∀ k, (k < 14 ∨ 148 ≤ k) → k ≠ 2 → (F_KM_encapsulate_0 (379 + 36 * z + 19) 1 16384 2 s).1 k = s.1 k := fun k u v => g1 k (by show ¬ (_ ∨ _); unfold MC; omega)
    generalize F_KM_encapsulate_0 (379 + 36 * z + 19) 1 16384 2 s = sB_ at g1 g4 fM e1
    have hs : s1 = sI (sI sB_ 0 1 (nI 0)) 0 3 (nI 800) := by rw [hs1, e1]
    rw [e1]
    unfold ALIKE
    dsimp only
    rw [← hs, k1 g3]
    obtain ⟨q1, q2⟩ := seal_core (L := 800) (sB_ := sB_) (t2 := (F_ME_seal_0 (153 + z) 149 150 (sI (sI s1 148 0 (nI 0)) 148 1 (nI 0))).2) h (by decide) fM (fun k u v => by rw [← hs]; exact g2 k (by show ¬ (_ ∨ _); unfold MR; omega)) g4
    exact ⟨⟨0, 800, pn, q1⟩, q2, fun _ => rfl⟩
  · rw [ks6_a hf a1 a3 ht]
    exact alike_fail h (mseal_a (J := 0) c2 c3 hz a2 a3 e2 (by decide) ht) (by decide)
theorem ks7_a {z tl : Nat} {s : Sto} (h : F_K_findKem (nI z) s = (nI 8, s)) (h1 : s.1 0 1 = nI tl) (ht : tl ≤ 16384) (hn : ¬ tl = 32) : F_K_seal (nI z) s = (nI 2, nI 0, s) := by
  rw [F_K_seal, bnd_eq, h]
  dsimp only
  rw [if_neg (show ¬ nI 8 = nI 0 by decide), if_neg (show ¬ nI 8 = nI 1 by decide), if_neg (show ¬ nI 8 = nI 2 by decide), if_neg (show ¬ nI 8 = nI 3 by decide), if_neg (show ¬ nI 8 = nI 7 by decide), if_pos (show nI 8 = nI 8 from rfl), bnd_eq, bnd_eq, h1, nI_clamp (show tl < 2 ^ 31 by omega), if_neg hn]
theorem ks7_c {z : Nat} {s : Sto} (h : F_K_findKem (nI z) s = (nI 8, s)) (hz : z < 8) (h1 : s.1 0 1 = nI 32) : F_K_seal (nI z) s = (nI 0, nI 1120, sI (sI (F_KM_encapsulate_1 (379 + 36 * z + 22) 1 16384 2 s) 0 1 (nI 0)) 0 3 (nI 1120)) := by
  rw [F_K_seal, bnd_eq, h]
  dsimp only
  rw [if_neg (show ¬ nI 8 = nI 0 by decide), if_neg (show ¬ nI 8 = nI 1 by decide), if_neg (show ¬ nI 8 = nI 2 by decide), if_neg (show ¬ nI 8 = nI 3 by decide), if_neg (show ¬ nI 8 = nI 7 by decide), if_pos (show nI 8 = nI 8 from rfl), bnd_eq, nI_clamp (show z < 2 ^ 31 by omega), bnd_eq, h1, nI_clamp (show 32 < 2 ^ 31 by decide), if_pos (show (32 : Nat) = 32 from rfl), bnd_eq, bnd_eq, bnd_eq, bnd_eq, th_at, nI_clamp (show 1120 < 2 ^ 31 by decide)]
theorem seal_c7 {tl al pn z : Nat} {s : Sto} (h : SAME tl al pn s) (hz : z < pn) (hf : F_K_findKem (nI z) s = (nI 8, s)) (e2 : s.1 170 z = nI 1) (e4 : ∀ j, j < 1184 → s.1 (379 + 36 * z + 22) j = s.1 (153 + z) j) (hF : frm M_K_seal s (F_K_seal (nI z) s).2.2) (hE : E_M_seal (nI z) (F_K_seal (nI z) s).2.2) : ALIKE (F_K_seal (nI z) s) (F_M_seal (nI z)) := by
  obtain ⟨⟨a1, a2, a3⟩, ⟨b1, b2, b3⟩, ⟨c1, c2, c3⟩, d, e, f⟩ := id h
  by_cases ht : tl = 32
  · subst ht
    have e1 := ks7_c hf (by omega) a1
    obtain ⟨s1, hs1⟩ : ∃ x, x = (F_K_seal (nI z) s).2.2 := ⟨_, rfl⟩
    rw [← hs1] at hE hF
    have f1 : s1.1 148 = s.1 148 := hF 148 (by unfold M_K_seal; omega)
    have f2 : s1.1 149 = s.1 149 := hF 149 (by unfold M_K_seal; omega)
    have f3 : s1.1 170 = s.1 170 := hF 170 (by unfold M_K_seal; omega)
    have f4 : s1.1 (153 + z) = s.1 (153 + z) := hF (153 + z) (by unfold M_K_seal; omega)
    obtain ⟨k1, hE1⟩ := mseal_1 (s := s1) (pn := pn) (z := z) (by rw [f1]; exact c2) c3 hz (by rw [f1]; exact a2) (by rw [f3]; exact e2)
    have hE1 := hE1 hE
    obtain ⟨g1, g2, g3, g4⟩ := seal1_same (pp := 379 + 36 * z + 22) (pch := 1) (n := 16384) (pt := 2) (pek := 153 + z) (pms := 149) (qt := 150) (s := s) (t := sI (sI s1 148 0 (nI 0)) 148 1 (nI 0)) (by unfold apC; omega) (by unfold apR; omega) (fun j hj => by rw [th_ne (by omega), th_ne (by omega), f4]; exact e4 j hj) (fun j hj => by rw [th_ne (by decide), th_ne (by decide), f2]; exact d j hj) hE1
    have fM : ∀ k, (k < 14 ∨ 148 ≤ k) → k ≠ 2 → (F_KM_encapsulate_1 (379 + 36 * z + 22) 1 16384 2 s).1 k = s.1 k := fun k u v => g1 k (by show ¬ (_ ∨ _); unfold MC; omega)
    generalize F_KM_encapsulate_1 (379 + 36 * z + 22) 1 16384 2 s = sB_ at g1 g4 fM e1
    have hs : s1 = sI (sI sB_ 0 1 (nI 0)) 0 3 (nI 1120) := by rw [hs1, e1]
    rw [e1]
    unfold ALIKE
    dsimp only
    rw [← hs, k1 g3]
    obtain ⟨q1, q2⟩ := seal_core (L := 1120) (sB_ := sB_) (t2 := (F_ME_seal_1 (153 + z) 149 150 (sI (sI s1 148 0 (nI 0)) 148 1 (nI 0))).2) h (by decide) fM (fun k u v => by rw [← hs]; exact g2 k (by show ¬ (_ ∨ _); unfold MR; omega)) g4
    exact ⟨⟨0, 1120, pn, q1⟩, q2, fun _ => rfl⟩
  · rw [ks7_a hf a1 a3 ht]
    exact alike_fail h (mseal_a (J := 1) c2 c3 hz a2 a3 e2 (by decide) ht) (by decide)
theorem ks8_a {z tl : Nat} {s : Sto} (h : F_K_findKem (nI z) s = (nI 9, s)) (h1 : s.1 0 1 = nI tl) (ht : tl ≤ 16384) (hn : ¬ tl = 32) : F_K_seal (nI z) s = (nI 2, nI 0, s) := by
  rw [F_K_seal, bnd_eq, h]
  dsimp only
  rw [if_neg (show ¬ nI 9 = nI 0 by decide), if_neg (show ¬ nI 9 = nI 1 by decide), if_neg (show ¬ nI 9 = nI 2 by decide), if_neg (show ¬ nI 9 = nI 3 by decide), if_neg (show ¬ nI 9 = nI 7 by decide), if_neg (show ¬ nI 9 = nI 8 by decide), if_pos (show nI 9 = nI 9 from rfl), bnd_eq, bnd_eq, h1, nI_clamp (show tl < 2 ^ 31 by omega), if_neg hn]
theorem ks8_c {z : Nat} {s : Sto} (h : F_K_findKem (nI z) s = (nI 9, s)) (hz : z < 8) (h1 : s.1 0 1 = nI 32) : F_K_seal (nI z) s = (nI 0, nI 1600, sI (sI (F_KM_encapsulate_2 (379 + 36 * z + 25) 1 16384 2 s) 0 1 (nI 0)) 0 3 (nI 1600)) := by
  rw [F_K_seal, bnd_eq, h]
  dsimp only
  rw [if_neg (show ¬ nI 9 = nI 0 by decide), if_neg (show ¬ nI 9 = nI 1 by decide), if_neg (show ¬ nI 9 = nI 2 by decide), if_neg (show ¬ nI 9 = nI 3 by decide), if_neg (show ¬ nI 9 = nI 7 by decide), if_neg (show ¬ nI 9 = nI 8 by decide), if_pos (show nI 9 = nI 9 from rfl), bnd_eq, nI_clamp (show z < 2 ^ 31 by omega), bnd_eq, h1, nI_clamp (show 32 < 2 ^ 31 by decide), if_pos (show (32 : Nat) = 32 from rfl), bnd_eq, bnd_eq, bnd_eq, bnd_eq, th_at, nI_clamp (show 1600 < 2 ^ 31 by decide)]
theorem seal_c8 {tl al pn z : Nat} {s : Sto} (h : SAME tl al pn s) (hz : z < pn) (hf : F_K_findKem (nI z) s = (nI 9, s)) (e2 : s.1 170 z = nI 2) (e4 : ∀ j, j < 1568 → s.1 (379 + 36 * z + 25) j = s.1 (153 + z) j) (hF : frm M_K_seal s (F_K_seal (nI z) s).2.2) (hE : E_M_seal (nI z) (F_K_seal (nI z) s).2.2) : ALIKE (F_K_seal (nI z) s) (F_M_seal (nI z)) := by
  obtain ⟨⟨a1, a2, a3⟩, ⟨b1, b2, b3⟩, ⟨c1, c2, c3⟩, d, e, f⟩ := id h
  by_cases ht : tl = 32
  · subst ht
    have e1 := ks8_c hf (by omega) a1
    obtain ⟨s1, hs1⟩ : ∃ x, x = (F_K_seal (nI z) s).2.2 := ⟨_, rfl⟩
    rw [← hs1] at hE hF
    have f1 : s1.1 148 = s.1 148 := hF 148 (by unfold M_K_seal; omega)
    have f2 : s1.1 149 = s.1 149 := hF 149 (by unfold M_K_seal; omega)
    have f3 : s1.1 170 = s.1 170 := hF 170 (by unfold M_K_seal; omega)
    have f4 : s1.1 (153 + z) = s.1 (153 + z) := hF (153 + z) (by unfold M_K_seal; omega)
    obtain ⟨k1, hE1⟩ := mseal_2 (s := s1) (pn := pn) (z := z) (by rw [f1]; exact c2) c3 hz (by rw [f1]; exact a2) (by rw [f3]; exact e2)
    have hE1 := hE1 hE
    obtain ⟨g1, g2, g3, g4⟩ := seal2_same (pp := 379 + 36 * z + 25) (pch := 1) (n := 16384) (pt := 2) (pek := 153 + z) (pms := 149) (qt := 150) (s := s) (t := sI (sI s1 148 0 (nI 0)) 148 1 (nI 0)) (by unfold apC; omega) (by unfold apR; omega) (fun j hj => by rw [th_ne (by omega), th_ne (by omega), f4]; exact e4 j hj) (fun j hj => by rw [th_ne (by decide), th_ne (by decide), f2]; exact d j hj) hE1
    have fM : ∀ k, (k < 14 ∨ 148 ≤ k) → k ≠ 2 → (F_KM_encapsulate_2 (379 + 36 * z + 25) 1 16384 2 s).1 k = s.1 k := fun k u v => g1 k (by show ¬ (_ ∨ _); unfold MC; omega)
    generalize F_KM_encapsulate_2 (379 + 36 * z + 25) 1 16384 2 s = sB_ at g1 g4 fM e1
    have hs : s1 = sI (sI sB_ 0 1 (nI 0)) 0 3 (nI 1600) := by rw [hs1, e1]
    rw [e1]
    unfold ALIKE
    dsimp only
    rw [← hs, k1 g3]
    obtain ⟨q1, q2⟩ := seal_core (L := 1600) (sB_ := sB_) (t2 := (F_ME_seal_2 (153 + z) 149 150 (sI (sI s1 148 0 (nI 0)) 148 1 (nI 0))).2) h (by decide) fM (fun k u v => by rw [← hs]; exact g2 k (by show ¬ (_ ∨ _); unfold MR; omega)) g4
    exact ⟨⟨0, 1600, pn, q1⟩, q2, fun _ => rfl⟩
  · rw [ks8_a hf a1 a3 ht]
    exact alike_fail h (mseal_a (J := 2) c2 c3 hz a2 a3 e2 (by decide) ht) (by decide)
theorem seal_alike {tl al pn : Nat} {v : Int32} {s : Sto} (h : SAME tl al pn s) (hF : frm M_K_seal s (F_K_seal v s).2.2) (hE : E_M_seal v (F_K_seal v s).2.2) : ALIKE (F_K_seal v s) (F_M_seal v) := by
  obtain ⟨-, -, ⟨h1, h2, h3⟩, -, -, hp⟩ := id h
  by_cases hv : v < 0 ∨ ¬ v < nI pn
  · rw [ksealN (kfk0 (kfind_no h1 h3 hv))]
    exact alike_fail h (mseal_n h2 h3 hv) (by decide)
  · obtain ⟨z, hz, rfl⟩ := i32_out hv (by omega)
    obtain ⟨c, hc, e1, e2, -, e4, -⟩ := hp z hz
    have hf : F_K_find (nI z) s = (nI (c + 1), s) := by rw [kfind_at h1 h3 hz, e1]
    have h9 : c = 0 ∨ c = 1 ∨ c = 2 ∨ c = 3 ∨ c = 4 ∨ c = 5 ∨ c = 6 ∨ c = 7 ∨ c = 8 ∨ c = 9 ∨ c = 10 ∨ c = 11 := by omega
    rcases h9 with rfl | rfl | rfl | rfl | rfl | rfl | rfl | rfl | rfl | rfl | rfl | rfl
    · exact seal_c0 h hz (kfk_0 hf) e2 e4 hF hE
    · exact seal_c1 h hz (kfk_1 hf) e2 e4 hF hE
    · exact seal_c2 h hz (kfk_2 hf) e2 e4 hF hE
    · rw [ksealN (kfk_3 hf)]
      exact alike_fail h (mseal_d (J := 3) h2 h3 hz e2 (by decide)) (by decide)
    · rw [ksealN (kfk_4 hf)]
      exact alike_fail h (mseal_d (J := 4) h2 h3 hz e2 (by decide)) (by decide)
    · rw [ksealN (kfk_5 hf)]
      exact alike_fail h (mseal_d (J := 5) h2 h3 hz e2 (by decide)) (by decide)
    · exact seal_c6 h hz (kfk_6 hf) e2 e4 hF hE
    · exact seal_c7 h hz (kfk_7 hf) e2 e4 hF hE
    · exact seal_c8 h hz (kfk_8 hf) e2 e4 hF hE
    · rw [ksealN (kfk_9 hf)]
      exact alike_fail h (mseal_d (J := 3) h2 h3 hz e2 (by decide)) (by decide)
    · rw [ksealN (kfk_10 hf)]
      exact alike_fail h (mseal_d (J := 4) h2 h3 hz e2 (by decide)) (by decide)
    · rw [ksealN (kfk_11 hf)]
      exact alike_fail h (mseal_d (J := 5) h2 h3 hz e2 (by decide)) (by decide)
