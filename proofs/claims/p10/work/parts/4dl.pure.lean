set_option linter.all false
/-! sign -/
theorem ksgN {v v2 : Int32} {s : Sto} (h : F_K_findDsa v s = (nI 0, s)) : F_K_sign v v2 s = (nI 1, nI 0, s) := by
  rw [F_K_sign, bnd_eq, h]
  dsimp only
  rw [if_pos (show nI 0 = nI 0 from rfl)]
theorem msg_n {s : Sto} {pn : Nat} {v v2 : Int32} (h : s.1 148 3 = nI pn) (hp : pn ≤ 8) (hv : v < 0 ∨ ¬ v < nI pn) : F_M_sign v v2 s = (nI 0, sI (sI s 148 0 (nI 0)) 148 0 (nI 1)) := by
  have h1 : (sI s 148 0 (nI 0)).1 148 3 = nI pn := by rw [th_off (by decide)]; exact h
  rw [F_M_sign, bnd_eq]
  generalize sI s 148 0 (nI 0) = s1 at h1 ⊢
  rw [bnd_eq, mnone_no h1 hp hv]
  dsimp only
  rw [if_neg (show ¬ nI 1 = 0 by decide), bnd_eq, mfail_eq]
theorem msg_k {J : Nat} {s : Sto} {pn z : Nat} {v2 : Int32} (h : s.1 148 3 = nI pn) (hp : pn ≤ 8) (hz : z < pn) (e : s.1 170 z = nI J) (hJ : J < 3) : F_M_sign (nI z) v2 s = (nI 0, sI (sI s 148 0 (nI 0)) 148 0 (nI 1)) := by
  have h1 : (sI s 148 0 (nI 0)).1 148 3 = nI pn := by rw [th_off (by decide)]; exact h
  have h3 : (sI s 148 0 (nI 0)).1 170 z = nI J := by rw [th_ne (by decide)]; exact e
  have hzc : (nI z).toNatClampNeg = z := nI_clamp (by omega)
  rw [F_M_sign, bnd_eq]
  generalize sI s 148 0 (nI 0) = s1 at h1 h3 ⊢
  rw [bnd_eq, mnone_at h1 hp hz]
  dsimp only
  rw [if_pos (show nI 0 = 0 by decide), bnd_eq, hzc, h3]
  have h9 : J = 0 ∨ J = 1 ∨ J = 2 := by omega
  rcases h9 with rfl | rfl | rfl
  · rw [if_pos (show nI 0 = nI 0 from rfl), bnd_eq, mfail_eq]
  · rw [if_neg (show ¬ nI 1 = nI 0 by decide), if_pos (show nI 1 = nI 1 from rfl), bnd_eq, mfail_eq]
  · rw [if_neg (show ¬ nI 2 = nI 0 by decide), if_neg (show ¬ nI 2 = nI 1 by decide), if_pos (show nI 2 = nI 2 from rfl), bnd_eq, mfail_eq]
/-- a signature was found -/
theorem sign_core {tl al pn L : Nat} {s sB_ t2 t4 : Sto} (h : SAME tl al pn s) (hL : L ≤ 8192)
    (hM : ∀ k, (k < 14 ∨ 148 ≤ k) → k ≠ 2 → sB_.1 k = s.1 k)
    (hR : ∀ k, (k < 172 ∨ 379 ≤ k) → k ≠ 151 → t2.1 k = (sI (sI (sI sB_ 0 1 (nI 0)) 0 3 (nI L)) 148 0 (nI 0)).1 k)
    (h4 : onl 150 (sI t2 148 2 (nI L)) t4) (h5 : ∀ x, x < L → t4.1 150 x = vp_nar .byte (t2.1 151 x)) (h1 : ∀ x, x < L → sB_.1 2 x = t2.1 151 x) (hB : ∀ x, x < L → isb (sB_.1 2 x)) : SAME 0 L pn (sI t4 148 1 (nI 0)) ∧ (sI t4 148 1 (nI 0)).1 148 0 = nI 0 := by
  obtain ⟨⟨a1, a2, a3⟩, ⟨b1, b2, b3⟩, ⟨c1, c2, c3⟩, d, e, f⟩ := id h
  have t0 := hR 0 (by omega) (by omega)
  have tM := hR 148 (by omega) (by omega)
  have tK : ∀ k, k ≠ 0 → k ≠ 148 → (k < 14 ∨ (148 ≤ k ∧ k < 172) ∨ 379 ≤ k) → k ≠ 151 → t2.1 k = sB_.1 k := fun k u v w x => by
    rw [hR k (by omega) x, th_ne v, th_ne u, th_ne u]
  have r01 : t2.1 0 1 = nI 0 := by rw [t0, th_ne (by decide), th_off (by decide)]; exact th_at
  have r03 : t2.1 0 3 = nI L := by rw [t0, th_ne (by decide)]; exact th_at
  have r05 : t2.1 0 5 = nI pn := by rw [t0, th_ne (by decide), th_off (by decide), th_off (by decide), hM 0 (by omega) (by omega)]; exact c1
  have rM0 : t2.1 148 0 = nI 0 := by rw [tM]; exact th_at
  have rM3 : t2.1 148 3 = nI pn := by rw [tM, th_off (by decide), th_ne (by decide), th_ne (by decide), hM 148 (by omega) (by omega)]; exact c2
  have o : ∀ k, k ≠ 148 → k ≠ 150 → (sI t4 148 1 (nI 0)).1 k = t2.1 k := fun k u v => by rw [th_ne u, h4.1 k v, th_ne u]
  have oM : (sI t2 148 2 (nI L)).1 148 = t4.1 148 := (h4.1 148 (by decide)).symm
  refine ⟨⟨⟨by rw [o 0 (by decide) (by decide)]; exact r01, th_at, by omega⟩, ⟨by rw [o 0 (by decide) (by decide)]; exact r03, by rw [th_off (by decide), ← oM]; exact th_at, hL⟩, ⟨by rw [o 0 (by decide) (by decide)]; exact r05, by rw [th_off (by decide), ← oM, th_off (by decide)]; exact rM3, c3⟩, fun j hj => absurd hj (by omega), fun j hj => ?_, fun i hi => PAIR_c (by omega) (fun k hk => ?_) (f i hi)⟩, by rw [th_off (by decide), ← oM, th_off (by decide)]; exact rM0⟩
  · rw [o 2 (by decide) (by decide), th_ne (show 150 ≠ 148 by decide), h5 j hj, tK 2 (by omega) (by omega) (by omega) (by omega), ← h1 j hj]
    exact (hB j hj).symm
  · unfold isP at hk
    rw [o k (by omega) (by omega), tK k (by omega) (by omega) (by omega) (by omega), hM k (by omega) (by omega)]
noncomputable def EMS0 (a b n : Nat) (c : Int32) (l q : Nat) (t : Sto) : Prop := Classical.choose (show ∃ p : Prop, p = E_MH_sign_0 a b n c l q t from ⟨_, rfl⟩)
theorem EMS0_eq (a b n : Nat) (c : Int32) (l q : Nat) (t : Sto) : EMS0 a b n c l q t = E_MH_sign_0 a b n c l q t := Classical.choose_spec (show ∃ p : Prop, p = E_MH_sign_0 a b n c l q t from ⟨_, rfl⟩)
theorem dsign0_sameO {psk ptp n len pt qsk qb n3 qt : Nat} {cl_ : Int32} {s t : Sto} (hP : apS0 psk ptp pt) (hQ : qsk ≠ 172 ∧ ¬ (225 ≤ qsk ∧ qsk ≤ 378) ∧ qb ≠ 172 ∧ ¬ (225 ≤ qb ∧ qb ≤ 378) ∧ ¬ (225 ≤ qt ∧ qt ≤ 378)) (hl : 32 ≤ len) (hK : ∀ x, x < 2560 → s.1 psk x = t.1 qsk x) (hB : ∀ x, x < len → s.1 ptp x = t.1 qb x) (hE : EMS0 qsk qb n3 cl_ len qt t) : ∃ (z : Int32) (s1 t1 : Sto), F_DA_makeSignature_0 psk ptp n len cl_ pt s = (z, s1) ∧ F_MH_sign_0 qsk qb n3 cl_ len qt t = (z, t1) ∧ frm (fun k => (16 ≤ k ∧ k ≤ 18) ∨ (38 ≤ k ∧ k ≤ 147) ∨ k = pt) s s1 ∧ frm (fun k => k = 172 ∨ (225 ≤ k ∧ k ≤ 378) ∨ k = qt) t t1 ∧ (z = nI 0 ∨ ∀ x, x < 2420 → s1.1 pt x = t1.1 qt x) :=
  dsign0_same hP hQ hl hK hB (by rw [← EMS0_eq]; exact hE)
theorem sgl0 {zz : Int32} (n i : Nat) (s : Sto) : ∃ s1, F_M_sign_L0 zz n i s = (zz, sI s1 148 1 (nI 0)) ∧ onl 150 s s1 ∧ ∀ k, i ≤ k → k < i + n → s1.1 150 k = vp_nar .byte (s.1 151 k) := by
  obtain ⟨s1, a, b, c, -⟩ := cp_loop (pt := 150) (pr_ := 151) (o := 0) (r := 0) (G := F_M_sign_L0 zz) (K := fun s => (zz, sI s 148 1 (nI 0))) (by decide) (fun i s => by rw [F_M_sign_L0, bnd_eq, bnd_eq]) (fun n i s => by rw [F_M_sign_L0, bnd_eq, bnd_eq, Nat.zero_add]) n i s
  refine ⟨s1, a, b, fun k u v => ?_⟩
  have := c k u v
  rw [Nat.zero_add] at this
  exact this
theorem msg_0_a {s : Sto} {pn z tl : Nat} {v2 : Int32} (h : s.1 148 3 = nI pn) (hp : pn ≤ 8) (hz : z < pn) (ht : s.1 148 1 = nI tl) (htl : tl ≤ 16384) (e : s.1 170 z = nI 3) (eh : s.1 171 z = nI 2560) (hc : ¬ ctx 32 tl v2) : F_M_sign (nI z) v2 s = (nI 0, sI (sI s 148 0 (nI 0)) 148 0 (nI 2)) := by
  have h1 : (sI s 148 0 (nI 0)).1 148 3 = nI pn := by rw [th_off (by decide)]; exact h
  have h2 : (sI s 148 0 (nI 0)).1 148 1 = nI tl := by rw [th_off (by decide)]; exact ht
  have h3 : (sI s 148 0 (nI 0)).1 170 z = nI 3 := by rw [th_ne (by decide)]; exact e
  have h4 : (sI s 148 0 (nI 0)).1 171 z = nI 2560 := by rw [th_ne (by decide)]; exact eh
  have hzc : (nI z).toNatClampNeg = z := nI_clamp (by omega)
  rw [F_M_sign, bnd_eq]
  generalize sI s 148 0 (nI 0) = s1 at h1 h2 h3 h4 ⊢
  rw [bnd_eq, mnone_at h1 hp hz]
  dsimp only
  rw [if_pos (show nI 0 = 0 by decide), bnd_eq, hzc, h3, if_neg (show ¬ nI 3 = nI 0 by decide), if_neg (show ¬ nI 3 = nI 1 by decide), if_neg (show ¬ nI 3 = nI 2 by decide), if_pos (show nI 3 = nI 3 from rfl), bnd_eq, h4, nI_clamp (show 2560 < 2 ^ 31 by decide), if_neg (show ¬ nI 2560 = 0 by decide)]
  by_cases q0 : v2 < 0
  · rw [if_pos q0, bnd_eq, mfail_eq]
  · rw [if_neg q0]
    by_cases q1 : nI 255 < v2
    · rw [if_pos q1, bnd_eq, mfail_eq]
    · obtain ⟨y, g1, rfl, g2⟩ := ctx_no hc q0 q1
      rw [if_neg q1, bnd_eq, nI_clamp (show y < 2 ^ 31 by omega), bnd_eq, h2, nI_clamp (show tl < 2 ^ 31 by omega), if_neg g2, bnd_eq, mfail_eq]
theorem msg_0_z {s : Sto} {pn z : Nat} {v2 : Int32} (h : s.1 148 3 = nI pn) (hp : pn ≤ 8) (hz : z < pn) (e : s.1 170 z = nI 3) (eh : s.1 171 z = nI 0) : F_M_sign (nI z) v2 s = (nI 0, sI (sI s 148 0 (nI 0)) 148 0 (nI 1)) := by
  have h1 : (sI s 148 0 (nI 0)).1 148 3 = nI pn := by rw [th_off (by decide)]; exact h
  have h3 : (sI s 148 0 (nI 0)).1 170 z = nI 3 := by rw [th_ne (by decide)]; exact e
  have h4 : (sI s 148 0 (nI 0)).1 171 z = nI 0 := by rw [th_ne (by decide)]; exact eh
  have hzc : (nI z).toNatClampNeg = z := nI_clamp (by omega)
  rw [F_M_sign, bnd_eq]
  generalize sI s 148 0 (nI 0) = s1 at h1 h3 h4 ⊢
  rw [bnd_eq, mnone_at h1 hp hz]
  dsimp only
  rw [if_pos (show nI 0 = 0 by decide), bnd_eq, hzc, h3, if_neg (show ¬ nI 3 = nI 0 by decide), if_neg (show ¬ nI 3 = nI 1 by decide), if_neg (show ¬ nI 3 = nI 2 by decide), if_pos (show nI 3 = nI 3 from rfl), bnd_eq, h4, nI_clamp (show 0 < 2 ^ 31 by decide), if_pos (show nI 0 = 0 by decide), bnd_eq, mfail_eq]
theorem msg_0_c {s t2 : Sto} {pn z tl : Nat} {v2 zz : Int32} (h : s.1 148 3 = nI pn) (hp : pn ≤ 8) (hz : z < pn) (ht : s.1 148 1 = nI tl) (htl : tl ≤ 16384) (e : s.1 170 z = nI 3) (eh : s.1 171 z = nI 2560) (hc : ctx 32 tl v2) (hv : F_MH_sign_0 (162 + z) 149 16384 v2 tl 151 (sI s 148 0 (nI 0)) = (zz, t2)) : F_M_sign (nI z) v2 s = if zz = 0 then (nI 0, sI t2 148 0 (nI 3)) else F_M_sign_L0 zz 2420 0 (sI t2 148 2 (nI 2420)) := by
  have h1 : (sI s 148 0 (nI 0)).1 148 3 = nI pn := by rw [th_off (by decide)]; exact h
  have h2 : (sI s 148 0 (nI 0)).1 148 1 = nI tl := by rw [th_off (by decide)]; exact ht
  have h3 : (sI s 148 0 (nI 0)).1 170 z = nI 3 := by rw [th_ne (by decide)]; exact e
  have h4 : (sI s 148 0 (nI 0)).1 171 z = nI 2560 := by rw [th_ne (by decide)]; exact eh
  have hzc : (nI z).toNatClampNeg = z := nI_clamp (by omega)
  obtain ⟨y, g1, rfl, g2⟩ := hc
  rw [F_M_sign, bnd_eq]
  generalize sI s 148 0 (nI 0) = s1 at h1 h2 h3 h4 hv ⊢
  rw [bnd_eq, mnone_at h1 hp hz]
  dsimp only
  rw [if_pos (show nI 0 = 0 by decide), bnd_eq, hzc, h3, if_neg (show ¬ nI 3 = nI 0 by decide), if_neg (show ¬ nI 3 = nI 1 by decide), if_neg (show ¬ nI 3 = nI 2 by decide), if_pos (show nI 3 = nI 3 from rfl), bnd_eq, h4, nI_clamp (show 2560 < 2 ^ 31 by decide), if_neg (show ¬ nI 2560 = 0 by decide), if_neg (nI_nneg (by omega)), if_neg (fun q => absurd ((nI_ltI (by decide) (by omega)).mp q) (by omega)), bnd_eq, nI_clamp (show y < 2 ^ 31 by omega), bnd_eq, h2, nI_clamp (show tl < 2 ^ 31 by omega), if_pos g2, bnd_eq, bnd_eq, hv]
  dsimp only
  rw [bnd_eq]
  by_cases q : zz = 0
  · rw [if_pos q, if_pos q, bnd_eq, mfail_eq]
  · rw [if_neg q, if_neg q, bnd_eq, F_MH_markSize_0]
    dsimp only
    rw [bnd_eq, bnd_eq]
theorem esg_0 {s : Sto} {pn z tl : Nat} {v2 : Int32} (h : s.1 148 3 = nI pn) (hp : pn ≤ 8) (hz : z < pn) (ht : s.1 148 1 = nI tl) (htl : tl ≤ 16384) (e : s.1 170 z = nI 3) (eh : s.1 171 z = nI 2560) (hc : ctx 32 tl v2) (hE : E_M_sign (nI z) v2 s) : EMS0 (162 + z) 149 16384 v2 tl 151 (sI s 148 0 (nI 0)) := by
  have h1 : (sI s 148 0 (nI 0)).1 148 3 = nI pn := by rw [th_off (by decide)]; exact h
  have h2 : (sI s 148 0 (nI 0)).1 148 1 = nI tl := by rw [th_off (by decide)]; exact ht
  have h3 : (sI s 148 0 (nI 0)).1 170 z = nI 3 := by rw [th_ne (by decide)]; exact e
  have h4 : (sI s 148 0 (nI 0)).1 171 z = nI 2560 := by rw [th_ne (by decide)]; exact eh
  have hzc : (nI z).toNatClampNeg = z := nI_clamp (by omega)
  obtain ⟨y, g1, rfl, g2⟩ := hc
  have eE : ∃ R : Prop, E_M_sign (nI z) (nI y) s = (E_MH_sign_0 (162 + z) 149 16384 (nI y) tl 151 (sI s 148 0 (nI 0)) ∧ R) := by
    rw [E_M_sign, bnd_eq]
    generalize sI s 148 0 (nI 0) = s1 at h1 h2 h3 h4 ⊢
    rw [bnd_eq, mnone_at h1 hp hz]
    dsimp only
    rw [if_pos (show nI 0 = 0 by decide), bnd_eq, hzc, h3, if_neg (show ¬ nI 3 = nI 0 by decide), if_neg (show ¬ nI 3 = nI 1 by decide), if_neg (show ¬ nI 3 = nI 2 by decide), if_pos (show nI 3 = nI 3 from rfl), bnd_eq, h4, nI_clamp (show 2560 < 2 ^ 31 by decide), if_neg (show ¬ nI 2560 = 0 by decide), if_neg (nI_nneg (by omega)), if_neg (fun q => absurd ((nI_ltI (by decide) (by omega)).mp q) (by omega)), bnd_eq, nI_clamp (show y < 2 ^ 31 by omega), bnd_eq, h2, nI_clamp (show tl < 2 ^ 31 by omega), if_pos g2, bnd_eq]
    exact ⟨_, rfl⟩
  obtain ⟨R, eE⟩ := eE
  rw [← EMS0_eq] at eE
  exact (Eq.mp eE hE).1
noncomputable def EMS1 (a b n : Nat) (c : Int32) (l q : Nat) (t : Sto) : Prop := Classical.choose (show ∃ p : Prop, p = E_MH_sign_1 a b n c l q t from ⟨_, rfl⟩)
theorem EMS1_eq (a b n : Nat) (c : Int32) (l q : Nat) (t : Sto) : EMS1 a b n c l q t = E_MH_sign_1 a b n c l q t := Classical.choose_spec (show ∃ p : Prop, p = E_MH_sign_1 a b n c l q t from ⟨_, rfl⟩)
theorem dsign1_sameO {psk ptp n len pt qsk qb n3 qt : Nat} {cl_ : Int32} {s t : Sto} (hP : apS1 psk ptp pt) (hQ : qsk ≠ 172 ∧ ¬ (225 ≤ qsk ∧ qsk ≤ 378) ∧ qb ≠ 172 ∧ ¬ (225 ≤ qb ∧ qb ≤ 378) ∧ ¬ (225 ≤ qt ∧ qt ≤ 378)) (hl : 32 ≤ len) (hK : ∀ x, x < 4032 → s.1 psk x = t.1 qsk x) (hB : ∀ x, x < len → s.1 ptp x = t.1 qb x) (hE : EMS1 qsk qb n3 cl_ len qt t) : ∃ (z : Int32) (s1 t1 : Sto), F_DA_makeSignature_1 psk ptp n len cl_ pt s = (z, s1) ∧ F_MH_sign_1 qsk qb n3 cl_ len qt t = (z, t1) ∧ frm (fun k => (16 ≤ k ∧ k ≤ 18) ∨ (38 ≤ k ∧ k ≤ 147) ∨ k = pt) s s1 ∧ frm (fun k => k = 172 ∨ (225 ≤ k ∧ k ≤ 378) ∨ k = qt) t t1 ∧ (z = nI 0 ∨ ∀ x, x < 3309 → s1.1 pt x = t1.1 qt x) :=
  dsign1_same hP hQ hl hK hB (by rw [← EMS1_eq]; exact hE)
theorem sgl1 {zz : Int32} (n i : Nat) (s : Sto) : ∃ s1, F_M_sign_L1 zz n i s = (zz, sI s1 148 1 (nI 0)) ∧ onl 150 s s1 ∧ ∀ k, i ≤ k → k < i + n → s1.1 150 k = vp_nar .byte (s.1 151 k) := by
  obtain ⟨s1, a, b, c, -⟩ := cp_loop (pt := 150) (pr_ := 151) (o := 0) (r := 0) (G := F_M_sign_L1 zz) (K := fun s => (zz, sI s 148 1 (nI 0))) (by decide) (fun i s => by rw [F_M_sign_L1, bnd_eq, bnd_eq]) (fun n i s => by rw [F_M_sign_L1, bnd_eq, bnd_eq, Nat.zero_add]) n i s
  refine ⟨s1, a, b, fun k u v => ?_⟩
  have := c k u v
  rw [Nat.zero_add] at this
  exact this
theorem msg_1_a {s : Sto} {pn z tl : Nat} {v2 : Int32} (h : s.1 148 3 = nI pn) (hp : pn ≤ 8) (hz : z < pn) (ht : s.1 148 1 = nI tl) (htl : tl ≤ 16384) (e : s.1 170 z = nI 4) (eh : s.1 171 z = nI 4032) (hc : ¬ ctx 32 tl v2) : F_M_sign (nI z) v2 s = (nI 0, sI (sI s 148 0 (nI 0)) 148 0 (nI 2)) := by
  have h1 : (sI s 148 0 (nI 0)).1 148 3 = nI pn := by rw [th_off (by decide)]; exact h
  have h2 : (sI s 148 0 (nI 0)).1 148 1 = nI tl := by rw [th_off (by decide)]; exact ht
  have h3 : (sI s 148 0 (nI 0)).1 170 z = nI 4 := by rw [th_ne (by decide)]; exact e
  have h4 : (sI s 148 0 (nI 0)).1 171 z = nI 4032 := by rw [th_ne (by decide)]; exact eh
  have hzc : (nI z).toNatClampNeg = z := nI_clamp (by omega)
  rw [F_M_sign, bnd_eq]
  generalize sI s 148 0 (nI 0) = s1 at h1 h2 h3 h4 ⊢
  rw [bnd_eq, mnone_at h1 hp hz]
  dsimp only
  rw [if_pos (show nI 0 = 0 by decide), bnd_eq, hzc, h3, if_neg (show ¬ nI 4 = nI 0 by decide), if_neg (show ¬ nI 4 = nI 1 by decide), if_neg (show ¬ nI 4 = nI 2 by decide), if_neg (show ¬ nI 4 = nI 3 by decide), if_pos (show nI 4 = nI 4 from rfl), bnd_eq, h4, nI_clamp (show 4032 < 2 ^ 31 by decide), if_neg (show ¬ nI 4032 = 0 by decide)]
  by_cases q0 : v2 < 0
  · rw [if_pos q0, bnd_eq, mfail_eq]
  · rw [if_neg q0]
    by_cases q1 : nI 255 < v2
    · rw [if_pos q1, bnd_eq, mfail_eq]
    · obtain ⟨y, g1, rfl, g2⟩ := ctx_no hc q0 q1
      rw [if_neg q1, bnd_eq, nI_clamp (show y < 2 ^ 31 by omega), bnd_eq, h2, nI_clamp (show tl < 2 ^ 31 by omega), if_neg g2, bnd_eq, mfail_eq]
theorem msg_1_z {s : Sto} {pn z : Nat} {v2 : Int32} (h : s.1 148 3 = nI pn) (hp : pn ≤ 8) (hz : z < pn) (e : s.1 170 z = nI 4) (eh : s.1 171 z = nI 0) : F_M_sign (nI z) v2 s = (nI 0, sI (sI s 148 0 (nI 0)) 148 0 (nI 1)) := by
  have h1 : (sI s 148 0 (nI 0)).1 148 3 = nI pn := by rw [th_off (by decide)]; exact h
  have h3 : (sI s 148 0 (nI 0)).1 170 z = nI 4 := by rw [th_ne (by decide)]; exact e
  have h4 : (sI s 148 0 (nI 0)).1 171 z = nI 0 := by rw [th_ne (by decide)]; exact eh
  have hzc : (nI z).toNatClampNeg = z := nI_clamp (by omega)
  rw [F_M_sign, bnd_eq]
  generalize sI s 148 0 (nI 0) = s1 at h1 h3 h4 ⊢
  rw [bnd_eq, mnone_at h1 hp hz]
  dsimp only
  rw [if_pos (show nI 0 = 0 by decide), bnd_eq, hzc, h3, if_neg (show ¬ nI 4 = nI 0 by decide), if_neg (show ¬ nI 4 = nI 1 by decide), if_neg (show ¬ nI 4 = nI 2 by decide), if_neg (show ¬ nI 4 = nI 3 by decide), if_pos (show nI 4 = nI 4 from rfl), bnd_eq, h4, nI_clamp (show 0 < 2 ^ 31 by decide), if_pos (show nI 0 = 0 by decide), bnd_eq, mfail_eq]
theorem msg_1_c {s t2 : Sto} {pn z tl : Nat} {v2 zz : Int32} (h : s.1 148 3 = nI pn) (hp : pn ≤ 8) (hz : z < pn) (ht : s.1 148 1 = nI tl) (htl : tl ≤ 16384) (e : s.1 170 z = nI 4) (eh : s.1 171 z = nI 4032) (hc : ctx 32 tl v2) (hv : F_MH_sign_1 (162 + z) 149 16384 v2 tl 151 (sI s 148 0 (nI 0)) = (zz, t2)) : F_M_sign (nI z) v2 s = if zz = 0 then (nI 0, sI t2 148 0 (nI 3)) else F_M_sign_L1 zz 3309 0 (sI t2 148 2 (nI 3309)) := by
  have h1 : (sI s 148 0 (nI 0)).1 148 3 = nI pn := by rw [th_off (by decide)]; exact h
  have h2 : (sI s 148 0 (nI 0)).1 148 1 = nI tl := by rw [th_off (by decide)]; exact ht
  have h3 : (sI s 148 0 (nI 0)).1 170 z = nI 4 := by rw [th_ne (by decide)]; exact e
  have h4 : (sI s 148 0 (nI 0)).1 171 z = nI 4032 := by rw [th_ne (by decide)]; exact eh
  have hzc : (nI z).toNatClampNeg = z := nI_clamp (by omega)
  obtain ⟨y, g1, rfl, g2⟩ := hc
  rw [F_M_sign, bnd_eq]
  generalize sI s 148 0 (nI 0) = s1 at h1 h2 h3 h4 hv ⊢
  rw [bnd_eq, mnone_at h1 hp hz]
  dsimp only
  rw [if_pos (show nI 0 = 0 by decide), bnd_eq, hzc, h3, if_neg (show ¬ nI 4 = nI 0 by decide), if_neg (show ¬ nI 4 = nI 1 by decide), if_neg (show ¬ nI 4 = nI 2 by decide), if_neg (show ¬ nI 4 = nI 3 by decide), if_pos (show nI 4 = nI 4 from rfl), bnd_eq, h4, nI_clamp (show 4032 < 2 ^ 31 by decide), if_neg (show ¬ nI 4032 = 0 by decide), if_neg (nI_nneg (by omega)), if_neg (fun q => absurd ((nI_ltI (by decide) (by omega)).mp q) (by omega)), bnd_eq, nI_clamp (show y < 2 ^ 31 by omega), bnd_eq, h2, nI_clamp (show tl < 2 ^ 31 by omega), if_pos g2, bnd_eq, bnd_eq, hv]
  dsimp only
  rw [bnd_eq]
  by_cases q : zz = 0
  · rw [if_pos q, if_pos q, bnd_eq, mfail_eq]
  · rw [if_neg q, if_neg q, bnd_eq, F_MH_markSize_1]
    dsimp only
    rw [bnd_eq, bnd_eq]
theorem esg_1 {s : Sto} {pn z tl : Nat} {v2 : Int32} (h : s.1 148 3 = nI pn) (hp : pn ≤ 8) (hz : z < pn) (ht : s.1 148 1 = nI tl) (htl : tl ≤ 16384) (e : s.1 170 z = nI 4) (eh : s.1 171 z = nI 4032) (hc : ctx 32 tl v2) (hE : E_M_sign (nI z) v2 s) : EMS1 (162 + z) 149 16384 v2 tl 151 (sI s 148 0 (nI 0)) := by
  have h1 : (sI s 148 0 (nI 0)).1 148 3 = nI pn := by rw [th_off (by decide)]; exact h
  have h2 : (sI s 148 0 (nI 0)).1 148 1 = nI tl := by rw [th_off (by decide)]; exact ht
  have h3 : (sI s 148 0 (nI 0)).1 170 z = nI 4 := by rw [th_ne (by decide)]; exact e
  have h4 : (sI s 148 0 (nI 0)).1 171 z = nI 4032 := by rw [th_ne (by decide)]; exact eh
  have hzc : (nI z).toNatClampNeg = z := nI_clamp (by omega)
  obtain ⟨y, g1, rfl, g2⟩ := hc
  have eE : ∃ R : Prop, E_M_sign (nI z) (nI y) s = (E_MH_sign_1 (162 + z) 149 16384 (nI y) tl 151 (sI s 148 0 (nI 0)) ∧ R) := by
    rw [E_M_sign, bnd_eq]
    generalize sI s 148 0 (nI 0) = s1 at h1 h2 h3 h4 ⊢
    rw [bnd_eq, mnone_at h1 hp hz]
    dsimp only
    rw [if_pos (show nI 0 = 0 by decide), bnd_eq, hzc, h3, if_neg (show ¬ nI 4 = nI 0 by decide), if_neg (show ¬ nI 4 = nI 1 by decide), if_neg (show ¬ nI 4 = nI 2 by decide), if_neg (show ¬ nI 4 = nI 3 by decide), if_pos (show nI 4 = nI 4 from rfl), bnd_eq, h4, nI_clamp (show 4032 < 2 ^ 31 by decide), if_neg (show ¬ nI 4032 = 0 by decide), if_neg (nI_nneg (by omega)), if_neg (fun q => absurd ((nI_ltI (by decide) (by omega)).mp q) (by omega)), bnd_eq, nI_clamp (show y < 2 ^ 31 by omega), bnd_eq, h2, nI_clamp (show tl < 2 ^ 31 by omega), if_pos g2, bnd_eq]
    exact ⟨_, rfl⟩
  obtain ⟨R, eE⟩ := eE
  rw [← EMS1_eq] at eE
  exact (Eq.mp eE hE).1
noncomputable def EMS2 (a b n : Nat) (c : Int32) (l q : Nat) (t : Sto) : Prop := Classical.choose (show ∃ p : Prop, p = E_MH_sign_2 a b n c l q t from ⟨_, rfl⟩)
theorem EMS2_eq (a b n : Nat) (c : Int32) (l q : Nat) (t : Sto) : EMS2 a b n c l q t = E_MH_sign_2 a b n c l q t := Classical.choose_spec (show ∃ p : Prop, p = E_MH_sign_2 a b n c l q t from ⟨_, rfl⟩)
theorem dsign2_sameO {psk ptp n len pt qsk qb n3 qt : Nat} {cl_ : Int32} {s t : Sto} (hP : apS2 psk ptp pt) (hQ : qsk ≠ 172 ∧ ¬ (225 ≤ qsk ∧ qsk ≤ 378) ∧ qb ≠ 172 ∧ ¬ (225 ≤ qb ∧ qb ≤ 378) ∧ ¬ (225 ≤ qt ∧ qt ≤ 378)) (hl : 32 ≤ len) (hK : ∀ x, x < 4896 → s.1 psk x = t.1 qsk x) (hB : ∀ x, x < len → s.1 ptp x = t.1 qb x) (hE : EMS2 qsk qb n3 cl_ len qt t) : ∃ (z : Int32) (s1 t1 : Sto), F_DA_makeSignature_2 psk ptp n len cl_ pt s = (z, s1) ∧ F_MH_sign_2 qsk qb n3 cl_ len qt t = (z, t1) ∧ frm (fun k => (16 ≤ k ∧ k ≤ 18) ∨ (38 ≤ k ∧ k ≤ 147) ∨ k = pt) s s1 ∧ frm (fun k => k = 172 ∨ (225 ≤ k ∧ k ≤ 378) ∨ k = qt) t t1 ∧ (z = nI 0 ∨ ∀ x, x < 4627 → s1.1 pt x = t1.1 qt x) :=
  dsign2_same hP hQ hl hK hB (by rw [← EMS2_eq]; exact hE)
theorem sgl2 {zz : Int32} (n i : Nat) (s : Sto) : ∃ s1, F_M_sign_L2 zz n i s = (zz, sI s1 148 1 (nI 0)) ∧ onl 150 s s1 ∧ ∀ k, i ≤ k → k < i + n → s1.1 150 k = vp_nar .byte (s.1 151 k) := by
  obtain ⟨s1, a, b, c, -⟩ := cp_loop (pt := 150) (pr_ := 151) (o := 0) (r := 0) (G := F_M_sign_L2 zz) (K := fun s => (zz, sI s 148 1 (nI 0))) (by decide) (fun i s => by rw [F_M_sign_L2, bnd_eq, bnd_eq]) (fun n i s => by rw [F_M_sign_L2, bnd_eq, bnd_eq, Nat.zero_add]) n i s
  refine ⟨s1, a, b, fun k u v => ?_⟩
  have := c k u v
  rw [Nat.zero_add] at this
  exact this
theorem msg_2_a {s : Sto} {pn z tl : Nat} {v2 : Int32} (h : s.1 148 3 = nI pn) (hp : pn ≤ 8) (hz : z < pn) (ht : s.1 148 1 = nI tl) (htl : tl ≤ 16384) (e : s.1 170 z = nI 5) (eh : s.1 171 z = nI 4896) (hc : ¬ ctx 32 tl v2) : F_M_sign (nI z) v2 s = (nI 0, sI (sI s 148 0 (nI 0)) 148 0 (nI 2)) := by
  have h1 : (sI s 148 0 (nI 0)).1 148 3 = nI pn := by rw [th_off (by decide)]; exact h
  have h2 : (sI s 148 0 (nI 0)).1 148 1 = nI tl := by rw [th_off (by decide)]; exact ht
  have h3 : (sI s 148 0 (nI 0)).1 170 z = nI 5 := by rw [th_ne (by decide)]; exact e
  have h4 : (sI s 148 0 (nI 0)).1 171 z = nI 4896 := by rw [th_ne (by decide)]; exact eh
  have hzc : (nI z).toNatClampNeg = z := nI_clamp (by omega)
  rw [F_M_sign, bnd_eq]
  generalize sI s 148 0 (nI 0) = s1 at h1 h2 h3 h4 ⊢
  rw [bnd_eq, mnone_at h1 hp hz]
  dsimp only
  rw [if_pos (show nI 0 = 0 by decide), bnd_eq, hzc, h3, if_neg (show ¬ nI 5 = nI 0 by decide), if_neg (show ¬ nI 5 = nI 1 by decide), if_neg (show ¬ nI 5 = nI 2 by decide), if_neg (show ¬ nI 5 = nI 3 by decide), if_neg (show ¬ nI 5 = nI 4 by decide), bnd_eq, h4, nI_clamp (show 4896 < 2 ^ 31 by decide), if_neg (show ¬ nI 4896 = 0 by decide)]
  by_cases q0 : v2 < 0
  · rw [if_pos q0, bnd_eq, mfail_eq]
  · rw [if_neg q0]
    by_cases q1 : nI 255 < v2
    · rw [if_pos q1, bnd_eq, mfail_eq]
    · obtain ⟨y, g1, rfl, g2⟩ := ctx_no hc q0 q1
      rw [if_neg q1, bnd_eq, nI_clamp (show y < 2 ^ 31 by omega), bnd_eq, h2, nI_clamp (show tl < 2 ^ 31 by omega), if_neg g2, bnd_eq, mfail_eq]
theorem msg_2_z {s : Sto} {pn z : Nat} {v2 : Int32} (h : s.1 148 3 = nI pn) (hp : pn ≤ 8) (hz : z < pn) (e : s.1 170 z = nI 5) (eh : s.1 171 z = nI 0) : F_M_sign (nI z) v2 s = (nI 0, sI (sI s 148 0 (nI 0)) 148 0 (nI 1)) := by
  have h1 : (sI s 148 0 (nI 0)).1 148 3 = nI pn := by rw [th_off (by decide)]; exact h
  have h3 : (sI s 148 0 (nI 0)).1 170 z = nI 5 := by rw [th_ne (by decide)]; exact e
  have h4 : (sI s 148 0 (nI 0)).1 171 z = nI 0 := by rw [th_ne (by decide)]; exact eh
  have hzc : (nI z).toNatClampNeg = z := nI_clamp (by omega)
  rw [F_M_sign, bnd_eq]
  generalize sI s 148 0 (nI 0) = s1 at h1 h3 h4 ⊢
  rw [bnd_eq, mnone_at h1 hp hz]
  dsimp only
  rw [if_pos (show nI 0 = 0 by decide), bnd_eq, hzc, h3, if_neg (show ¬ nI 5 = nI 0 by decide), if_neg (show ¬ nI 5 = nI 1 by decide), if_neg (show ¬ nI 5 = nI 2 by decide), if_neg (show ¬ nI 5 = nI 3 by decide), if_neg (show ¬ nI 5 = nI 4 by decide), bnd_eq, h4, nI_clamp (show 0 < 2 ^ 31 by decide), if_pos (show nI 0 = 0 by decide), bnd_eq, mfail_eq]
theorem msg_2_c {s t2 : Sto} {pn z tl : Nat} {v2 zz : Int32} (h : s.1 148 3 = nI pn) (hp : pn ≤ 8) (hz : z < pn) (ht : s.1 148 1 = nI tl) (htl : tl ≤ 16384) (e : s.1 170 z = nI 5) (eh : s.1 171 z = nI 4896) (hc : ctx 32 tl v2) (hv : F_MH_sign_2 (162 + z) 149 16384 v2 tl 151 (sI s 148 0 (nI 0)) = (zz, t2)) : F_M_sign (nI z) v2 s = if zz = 0 then (nI 0, sI t2 148 0 (nI 3)) else F_M_sign_L2 zz 4627 0 (sI t2 148 2 (nI 4627)) := by
  have h1 : (sI s 148 0 (nI 0)).1 148 3 = nI pn := by rw [th_off (by decide)]; exact h
  have h2 : (sI s 148 0 (nI 0)).1 148 1 = nI tl := by rw [th_off (by decide)]; exact ht
  have h3 : (sI s 148 0 (nI 0)).1 170 z = nI 5 := by rw [th_ne (by decide)]; exact e
  have h4 : (sI s 148 0 (nI 0)).1 171 z = nI 4896 := by rw [th_ne (by decide)]; exact eh
  have hzc : (nI z).toNatClampNeg = z := nI_clamp (by omega)
  obtain ⟨y, g1, rfl, g2⟩ := hc
  rw [F_M_sign, bnd_eq]
  generalize sI s 148 0 (nI 0) = s1 at h1 h2 h3 h4 hv ⊢
  rw [bnd_eq, mnone_at h1 hp hz]
  dsimp only
  rw [if_pos (show nI 0 = 0 by decide), bnd_eq, hzc, h3, if_neg (show ¬ nI 5 = nI 0 by decide), if_neg (show ¬ nI 5 = nI 1 by decide), if_neg (show ¬ nI 5 = nI 2 by decide), if_neg (show ¬ nI 5 = nI 3 by decide), if_neg (show ¬ nI 5 = nI 4 by decide), bnd_eq, h4, nI_clamp (show 4896 < 2 ^ 31 by decide), if_neg (show ¬ nI 4896 = 0 by decide), if_neg (nI_nneg (by omega)), if_neg (fun q => absurd ((nI_ltI (by decide) (by omega)).mp q) (by omega)), bnd_eq, nI_clamp (show y < 2 ^ 31 by omega), bnd_eq, h2, nI_clamp (show tl < 2 ^ 31 by omega), if_pos g2, bnd_eq, bnd_eq, hv]
  dsimp only
  rw [bnd_eq]
  by_cases q : zz = 0
  · rw [if_pos q, if_pos q, bnd_eq, mfail_eq]
  · rw [if_neg q, if_neg q, bnd_eq, F_MH_markSize_2]
    dsimp only
    rw [bnd_eq, bnd_eq]
theorem esg_2 {s : Sto} {pn z tl : Nat} {v2 : Int32} (h : s.1 148 3 = nI pn) (hp : pn ≤ 8) (hz : z < pn) (ht : s.1 148 1 = nI tl) (htl : tl ≤ 16384) (e : s.1 170 z = nI 5) (eh : s.1 171 z = nI 4896) (hc : ctx 32 tl v2) (hE : E_M_sign (nI z) v2 s) : EMS2 (162 + z) 149 16384 v2 tl 151 (sI s 148 0 (nI 0)) := by
  have h1 : (sI s 148 0 (nI 0)).1 148 3 = nI pn := by rw [th_off (by decide)]; exact h
  have h2 : (sI s 148 0 (nI 0)).1 148 1 = nI tl := by rw [th_off (by decide)]; exact ht
  have h3 : (sI s 148 0 (nI 0)).1 170 z = nI 5 := by rw [th_ne (by decide)]; exact e
  have h4 : (sI s 148 0 (nI 0)).1 171 z = nI 4896 := by rw [th_ne (by decide)]; exact eh
  have hzc : (nI z).toNatClampNeg = z := nI_clamp (by omega)
  obtain ⟨y, g1, rfl, g2⟩ := hc
  have eE : ∃ R : Prop, E_M_sign (nI z) (nI y) s = (E_MH_sign_2 (162 + z) 149 16384 (nI y) tl 151 (sI s 148 0 (nI 0)) ∧ R) := by
    rw [E_M_sign, bnd_eq]
    generalize sI s 148 0 (nI 0) = s1 at h1 h2 h3 h4 ⊢
    rw [bnd_eq, mnone_at h1 hp hz]
    dsimp only
    rw [if_pos (show nI 0 = 0 by decide), bnd_eq, hzc, h3, if_neg (show ¬ nI 5 = nI 0 by decide), if_neg (show ¬ nI 5 = nI 1 by decide), if_neg (show ¬ nI 5 = nI 2 by decide), if_neg (show ¬ nI 5 = nI 3 by decide), if_neg (show ¬ nI 5 = nI 4 by decide), bnd_eq, h4, nI_clamp (show 4896 < 2 ^ 31 by decide), if_neg (show ¬ nI 4896 = 0 by decide), if_neg (nI_nneg (by omega)), if_neg (fun q => absurd ((nI_ltI (by decide) (by omega)).mp q) (by omega)), bnd_eq, nI_clamp (show y < 2 ^ 31 by omega), bnd_eq, h2, nI_clamp (show tl < 2 ^ 31 by omega), if_pos g2, bnd_eq]
    exact ⟨_, rfl⟩
  obtain ⟨R, eE⟩ := eE
  rw [← EMS2_eq] at eE
  exact (Eq.mp eE hE).1
theorem ksg0_a {z tl : Nat} {v2 : Int32} {s : Sto} (h : F_K_findDsa (nI z) s = (nI 4, s)) (h1 : s.1 0 1 = nI tl) (ht : tl ≤ 16384) (hc : ¬ ctx 32 tl v2) : F_K_sign (nI z) v2 s = (nI 2, nI 0, s) := by
  rw [F_K_sign, bnd_eq, h]
  dsimp only
  rw [if_neg (show ¬ nI 4 = nI 0 by decide), if_pos (show nI 4 = nI 4 from rfl), bnd_eq, bnd_eq, kholds_n h1 ht hc]
  dsimp only
  rw [if_pos (show nI 0 = 0 by decide)]
theorem ksg0_c {z tl : Nat} {v2 zz : Int32} {s s1 : Sto} (h : F_K_findDsa (nI z) s = (nI 4, s)) (hz : z < 8) (h1 : s.1 0 1 = nI tl) (ht : tl ≤ 16384) (hc : ctx 32 tl v2) (e : F_DA_makeSignature_0 (379 + 36 * z + 11) 1 16384 tl v2 2 s = (zz, s1)) : F_K_sign (nI z) v2 s = if zz = 0 then (nI 3, nI 0, s1) else (nI 0, zz, sI (sI s1 0 1 (nI 0)) 0 3 (nI 2420)) := by
  rw [F_K_sign, bnd_eq, h]
  dsimp only
  rw [if_neg (show ¬ nI 4 = nI 0 by decide), if_pos (show nI 4 = nI 4 from rfl), bnd_eq, nI_clamp (show z < 2 ^ 31 by omega), bnd_eq, kholds_y h1 ht hc]
  dsimp only
  rw [if_neg (show ¬ nI 1 = 0 by decide), bnd_eq, h1, nI_clamp (show tl < 2 ^ 31 by omega), bnd_eq, e]
  dsimp only
  rw [bnd_eq]
  by_cases q : zz = 0
  · rw [if_pos q, if_pos q]
  · rw [if_neg q, if_neg q, bnd_eq, bnd_eq]
theorem ksg0_n {z : Nat} {v2 : Int32} {s : Sto} (h : F_K_findDsa (nI z) s = (nI 10, s)) : F_K_sign (nI z) v2 s = (nI 1, nI 0, s) := by
  rw [F_K_sign, bnd_eq, h]
  dsimp only
  rw [if_neg (show ¬ nI 10 = nI 0 by decide), if_neg (show ¬ nI 10 = nI 4 by decide), if_neg (show ¬ nI 10 = nI 5 by decide), if_neg (show ¬ nI 10 = nI 6 by decide), if_pos (show nI 10 = nI 10 from rfl), bnd_eq]
set_option maxRecDepth 100000 in
theorem sign_c0 {tl al pn z : Nat} {v2 : Int32} {s : Sto} (h : SAME tl al pn s) (hz : z < pn) (hf : F_K_findDsa (nI z) s = (nI 4, s)) (e2 : s.1 170 z = nI 3) (e3 : s.1 171 z = nI 2560) (e5 : ∀ j, j < 2560 → s.1 (379 + 36 * z + 11) j = s.1 (162 + z) j) (hF : frm M_K_sign s (F_K_sign (nI z) v2 s).2.2) (hA : (F_K_sign (nI z) v2 s).1 = nI 3 → (F_K_sign (nI z) v2 s).2.2.1 2 = s.1 2) (hB : ∀ x, x < 8192 → isb ((F_K_sign (nI z) v2 s).2.2.1 2 x)) (hE : E_M_sign (nI z) v2 (F_K_sign (nI z) v2 s).2.2) : ALIKE (F_K_sign (nI z) v2 s) (F_M_sign (nI z) v2) := by
  obtain ⟨⟨a1, a2, a3⟩, ⟨b1, b2, b3⟩, ⟨c1, c2, c3⟩, d, e, f⟩ := id h
  by_cases hc : ctx 32 tl v2
  · have hlen : 32 ≤ tl := by obtain ⟨y, -, -, q⟩ := hc; omega
    obtain ⟨s1, hs1⟩ : ∃ x, x = (F_K_sign (nI z) v2 s).2.2 := ⟨_, rfl⟩
    rw [← hs1] at hE hF hA hB
    have f1 : s1.1 148 = s.1 148 := hF 148 (by unfold M_K_sign; omega)
    have f2 : s1.1 149 = s.1 149 := hF 149 (by unfold M_K_sign; omega)
    have f3 : s1.1 170 = s.1 170 := hF 170 (by unfold M_K_sign; omega)
    have f4 : s1.1 171 = s.1 171 := hF 171 (by unfold M_K_sign; omega)
    have f5 : s1.1 (162 + z) = s.1 (162 + z) := hF (162 + z) (by unfold M_K_sign; omega)
    have hE1 := esg_0 (by rw [f1]; exact c2) c3 hz (by rw [f1]; exact a2) a3 (by rw [f3]; exact e2) (by rw [f4]; exact e3) hc hE
    obtain ⟨zz, sB_, t2, g1, g2, g3, g4, g5⟩ := dsign0_sameO (psk := 379 + 36 * z + 11) (ptp := 1) (n := 16384) (len := tl) (pt := 2) (qsk := 162 + z) (qb := 149) (n3 := 16384) (qt := 151) (cl_ := v2) (s := s) (t := sI s1 148 0 (nI 0)) (by unfold apS0; omega) (by omega) hlen (fun j hj => by rw [th_ne (by omega), f5]; exact e5 j hj) (fun j hj => by rw [th_ne (by decide), f2]; exact d j hj) hE1
    have e6 := ksg0_c hf (by omega) a1 a3 hc g1
    have m6 := msg_0_c (by rw [f1]; exact c2) c3 hz (by rw [f1]; exact a2) a3 (by rw [f3]; exact e2) (by rw [f4]; exact e3) hc g2
    have fM : ∀ k, (k < 14 ∨ 148 ≤ k) → k ≠ 2 → sB_.1 k = s.1 k := fun k u v => g3 k (by show ¬ (_ ∨ _); omega)
    clear g1 g2 hE1
    by_cases q : zz = 0
    · rw [if_pos q] at e6 m6
      have hs : s1 = sB_ := by rw [hs1, e6]
      have hA := hA (by rw [e6])
      rw [e6]
      rw [hs] at m6 hA g4
      refine alike_fail2 (t := t2) (tl := tl) (al := al) (pn := pn) ?_ m6 (by decide)
      have oM : t2.1 148 = (sI sB_ 148 0 (nI 0)).1 148 := g4 148 (by show ¬ (_ ∨ _); omega)
      have o : ∀ k, k ≠ 148 → (k < 14 ∨ (148 ≤ k ∧ k < 172) ∨ 379 ≤ k) → k ≠ 151 → t2.1 k = sB_.1 k := fun k u v w => by rw [g4 k (by show ¬ (_ ∨ _); omega), th_ne u]
      have o2 : ∀ k, k ≠ 2 → k ≠ 148 → (k < 14 ∨ (148 ≤ k ∧ k < 172) ∨ 379 ≤ k) → k ≠ 151 → t2.1 k = s.1 k := fun k w u v x => by rw [o k u v x, fM k (by omega) w]
      have oMj : ∀ j, j ≠ 0 → t2.1 148 j = s.1 148 j := fun j u => by rw [oM, th_off u, fM 148 (by omega) (by omega)]
      refine ⟨⟨by rw [o2 0 (by omega) (by omega) (by omega) (by omega)]; exact a1, by rw [oMj 1 (by decide)]; exact a2, a3⟩, ⟨by rw [o2 0 (by omega) (by omega) (by omega) (by omega)]; exact b1, by rw [oMj 2 (by decide)]; exact b2, b3⟩, ⟨by rw [o2 0 (by omega) (by omega) (by omega) (by omega)]; exact c1, by rw [oMj 3 (by decide)]; exact c2, c3⟩, ?_, ?_, fun i hi => PAIR_c (by omega) (fun k hk => o2 k (by unfold isP at hk; omega) (by unfold isP at hk; omega) (by unfold isP at hk; omega) (by unfold isP at hk; omega)) (f i hi)⟩
      · rw [o2 1 (by omega) (by omega) (by omega) (by omega), o2 149 (by omega) (by omega) (by omega) (by omega)]; exact d
      · rw [o 2 (by omega) (by omega) (by omega), hA, o2 150 (by omega) (by omega) (by omega) (by omega)]; exact e
    · rw [if_neg q] at e6 m6
      have hs : s1 = sI (sI sB_ 0 1 (nI 0)) 0 3 (nI 2420) := by rw [hs1, e6]
      obtain ⟨t4, w1, w2, w3⟩ := sgl0 (zz := zz) 2420 0 (sI t2 148 2 (nI 2420))
      rw [w1] at m6
      have g5 := g5.resolve_left (fun u => q (u.trans (by decide)))
      rw [e6]
      unfold ALIKE
      dsimp only
      rw [← hs, m6]
      obtain ⟨q1, q2⟩ := sign_core (L := 2420) (sB_ := sB_) (t2 := t2) (t4 := t4) h (by decide) fM (fun k u v => by rw [← hs]; exact g4 k (by show ¬ (_ ∨ _); omega)) w2 (fun x hx => by rw [w3 x (Nat.zero_le _) (by omega), th_ne (by decide)]) g5 (fun x hx => by
        have u := hB x (by omega)
        rw [hs, th_ne (by decide), th_ne (by decide)] at u
        exact u)
      exact ⟨⟨0, 2420, pn, q1⟩, q2, fun _ => rfl⟩
  · rw [ksg0_a hf a1 a3 hc]
    exact alike_fail h (msg_0_a c2 c3 hz a2 a3 e2 e3 hc) (by decide)
theorem ksg1_a {z tl : Nat} {v2 : Int32} {s : Sto} (h : F_K_findDsa (nI z) s = (nI 5, s)) (h1 : s.1 0 1 = nI tl) (ht : tl ≤ 16384) (hc : ¬ ctx 32 tl v2) : F_K_sign (nI z) v2 s = (nI 2, nI 0, s) := by
  rw [F_K_sign, bnd_eq, h]
  dsimp only
  rw [if_neg (show ¬ nI 5 = nI 0 by decide), if_neg (show ¬ nI 5 = nI 4 by decide), if_pos (show nI 5 = nI 5 from rfl), bnd_eq, bnd_eq, kholds_n h1 ht hc]
  dsimp only
  rw [if_pos (show nI 0 = 0 by decide)]
theorem ksg1_c {z tl : Nat} {v2 zz : Int32} {s s1 : Sto} (h : F_K_findDsa (nI z) s = (nI 5, s)) (hz : z < 8) (h1 : s.1 0 1 = nI tl) (ht : tl ≤ 16384) (hc : ctx 32 tl v2) (e : F_DA_makeSignature_1 (379 + 36 * z + 14) 1 16384 tl v2 2 s = (zz, s1)) : F_K_sign (nI z) v2 s = if zz = 0 then (nI 3, nI 0, s1) else (nI 0, zz, sI (sI s1 0 1 (nI 0)) 0 3 (nI 3309)) := by
  rw [F_K_sign, bnd_eq, h]
  dsimp only
  rw [if_neg (show ¬ nI 5 = nI 0 by decide), if_neg (show ¬ nI 5 = nI 4 by decide), if_pos (show nI 5 = nI 5 from rfl), bnd_eq, nI_clamp (show z < 2 ^ 31 by omega), bnd_eq, kholds_y h1 ht hc]
  dsimp only
  rw [if_neg (show ¬ nI 1 = 0 by decide), bnd_eq, h1, nI_clamp (show tl < 2 ^ 31 by omega), bnd_eq, e]
  dsimp only
  rw [bnd_eq]
  by_cases q : zz = 0
  · rw [if_pos q, if_pos q]
  · rw [if_neg q, if_neg q, bnd_eq, bnd_eq]
theorem ksg1_n {z : Nat} {v2 : Int32} {s : Sto} (h : F_K_findDsa (nI z) s = (nI 11, s)) : F_K_sign (nI z) v2 s = (nI 1, nI 0, s) := by
  rw [F_K_sign, bnd_eq, h]
  dsimp only
  rw [if_neg (show ¬ nI 11 = nI 0 by decide), if_neg (show ¬ nI 11 = nI 4 by decide), if_neg (show ¬ nI 11 = nI 5 by decide), if_neg (show ¬ nI 11 = nI 6 by decide), if_neg (show ¬ nI 11 = nI 10 by decide), if_pos (show nI 11 = nI 11 from rfl), bnd_eq]
set_option maxRecDepth 100000 in
theorem sign_c1 {tl al pn z : Nat} {v2 : Int32} {s : Sto} (h : SAME tl al pn s) (hz : z < pn) (hf : F_K_findDsa (nI z) s = (nI 5, s)) (e2 : s.1 170 z = nI 4) (e3 : s.1 171 z = nI 4032) (e5 : ∀ j, j < 4032 → s.1 (379 + 36 * z + 14) j = s.1 (162 + z) j) (hF : frm M_K_sign s (F_K_sign (nI z) v2 s).2.2) (hA : (F_K_sign (nI z) v2 s).1 = nI 3 → (F_K_sign (nI z) v2 s).2.2.1 2 = s.1 2) (hB : ∀ x, x < 8192 → isb ((F_K_sign (nI z) v2 s).2.2.1 2 x)) (hE : E_M_sign (nI z) v2 (F_K_sign (nI z) v2 s).2.2) : ALIKE (F_K_sign (nI z) v2 s) (F_M_sign (nI z) v2) := by
  obtain ⟨⟨a1, a2, a3⟩, ⟨b1, b2, b3⟩, ⟨c1, c2, c3⟩, d, e, f⟩ := id h
  by_cases hc : ctx 32 tl v2
  · have hlen : 32 ≤ tl := by obtain ⟨y, -, -, q⟩ := hc; omega
    obtain ⟨s1, hs1⟩ : ∃ x, x = (F_K_sign (nI z) v2 s).2.2 := ⟨_, rfl⟩
    rw [← hs1] at hE hF hA hB
    have f1 : s1.1 148 = s.1 148 := hF 148 (by unfold M_K_sign; omega)
    have f2 : s1.1 149 = s.1 149 := hF 149 (by unfold M_K_sign; omega)
    have f3 : s1.1 170 = s.1 170 := hF 170 (by unfold M_K_sign; omega)
    have f4 : s1.1 171 = s.1 171 := hF 171 (by unfold M_K_sign; omega)
    have f5 : s1.1 (162 + z) = s.1 (162 + z) := hF (162 + z) (by unfold M_K_sign; omega)
    have hE1 := esg_1 (by rw [f1]; exact c2) c3 hz (by rw [f1]; exact a2) a3 (by rw [f3]; exact e2) (by rw [f4]; exact e3) hc hE
    obtain ⟨zz, sB_, t2, g1, g2, g3, g4, g5⟩ := dsign1_sameO (psk := 379 + 36 * z + 14) (ptp := 1) (n := 16384) (len := tl) (pt := 2) (qsk := 162 + z) (qb := 149) (n3 := 16384) (qt := 151) (cl_ := v2) (s := s) (t := sI s1 148 0 (nI 0)) (by unfold apS1; omega) (by omega) hlen (fun j hj => by rw [th_ne (by omega), f5]; exact e5 j hj) (fun j hj => by rw [th_ne (by decide), f2]; exact d j hj) hE1
    have e6 := ksg1_c hf (by omega) a1 a3 hc g1
    have m6 := msg_1_c (by rw [f1]; exact c2) c3 hz (by rw [f1]; exact a2) a3 (by rw [f3]; exact e2) (by rw [f4]; exact e3) hc g2
    have fM : ∀ k, (k < 14 ∨ 148 ≤ k) → k ≠ 2 → sB_.1 k = s.1 k := fun k u v => g3 k (by show ¬ (_ ∨ _); omega)
    clear g1 g2 hE1
    by_cases q : zz = 0
    · rw [if_pos q] at e6 m6
      have hs : s1 = sB_ := by rw [hs1, e6]
      have hA := hA (by rw [e6])
      rw [e6]
      rw [hs] at m6 hA g4
      refine alike_fail2 (t := t2) (tl := tl) (al := al) (pn := pn) ?_ m6 (by decide)
      have oM : t2.1 148 = (sI sB_ 148 0 (nI 0)).1 148 := g4 148 (by show ¬ (_ ∨ _); omega)
      have o : ∀ k, k ≠ 148 → (k < 14 ∨ (148 ≤ k ∧ k < 172) ∨ 379 ≤ k) → k ≠ 151 → t2.1 k = sB_.1 k := fun k u v w => by rw [g4 k (by show ¬ (_ ∨ _); omega), th_ne u]
      have o2 : ∀ k, k ≠ 2 → k ≠ 148 → (k < 14 ∨ (148 ≤ k ∧ k < 172) ∨ 379 ≤ k) → k ≠ 151 → t2.1 k = s.1 k := fun k w u v x => by rw [o k u v x, fM k (by omega) w]
      have oMj : ∀ j, j ≠ 0 → t2.1 148 j = s.1 148 j := fun j u => by rw [oM, th_off u, fM 148 (by omega) (by omega)]
      refine ⟨⟨by rw [o2 0 (by omega) (by omega) (by omega) (by omega)]; exact a1, by rw [oMj 1 (by decide)]; exact a2, a3⟩, ⟨by rw [o2 0 (by omega) (by omega) (by omega) (by omega)]; exact b1, by rw [oMj 2 (by decide)]; exact b2, b3⟩, ⟨by rw [o2 0 (by omega) (by omega) (by omega) (by omega)]; exact c1, by rw [oMj 3 (by decide)]; exact c2, c3⟩, ?_, ?_, fun i hi => PAIR_c (by omega) (fun k hk => o2 k (by unfold isP at hk; omega) (by unfold isP at hk; omega) (by unfold isP at hk; omega) (by unfold isP at hk; omega)) (f i hi)⟩
      · rw [o2 1 (by omega) (by omega) (by omega) (by omega), o2 149 (by omega) (by omega) (by omega) (by omega)]; exact d
      · rw [o 2 (by omega) (by omega) (by omega), hA, o2 150 (by omega) (by omega) (by omega) (by omega)]; exact e
    · rw [if_neg q] at e6 m6
      have hs : s1 = sI (sI sB_ 0 1 (nI 0)) 0 3 (nI 3309) := by rw [hs1, e6]
      obtain ⟨t4, w1, w2, w3⟩ := sgl1 (zz := zz) 3309 0 (sI t2 148 2 (nI 3309))
      rw [w1] at m6
      have g5 := g5.resolve_left (fun u => q (u.trans (by decide)))
      rw [e6]
      unfold ALIKE
      dsimp only
      rw [← hs, m6]
      obtain ⟨q1, q2⟩ := sign_core (L := 3309) (sB_ := sB_) (t2 := t2) (t4 := t4) h (by decide) fM (fun k u v => by rw [← hs]; exact g4 k (by show ¬ (_ ∨ _); omega)) w2 (fun x hx => by rw [w3 x (Nat.zero_le _) (by omega), th_ne (by decide)]) g5 (fun x hx => by
        have u := hB x (by omega)
        rw [hs, th_ne (by decide), th_ne (by decide)] at u
        exact u)
      exact ⟨⟨0, 3309, pn, q1⟩, q2, fun _ => rfl⟩
  · rw [ksg1_a hf a1 a3 hc]
    exact alike_fail h (msg_1_a c2 c3 hz a2 a3 e2 e3 hc) (by decide)
theorem ksg2_a {z tl : Nat} {v2 : Int32} {s : Sto} (h : F_K_findDsa (nI z) s = (nI 6, s)) (h1 : s.1 0 1 = nI tl) (ht : tl ≤ 16384) (hc : ¬ ctx 32 tl v2) : F_K_sign (nI z) v2 s = (nI 2, nI 0, s) := by
  rw [F_K_sign, bnd_eq, h]
  dsimp only
  rw [if_neg (show ¬ nI 6 = nI 0 by decide), if_neg (show ¬ nI 6 = nI 4 by decide), if_neg (show ¬ nI 6 = nI 5 by decide), if_pos (show nI 6 = nI 6 from rfl), bnd_eq, bnd_eq, kholds_n h1 ht hc]
  dsimp only
  rw [if_pos (show nI 0 = 0 by decide)]
theorem ksg2_c {z tl : Nat} {v2 zz : Int32} {s s1 : Sto} (h : F_K_findDsa (nI z) s = (nI 6, s)) (hz : z < 8) (h1 : s.1 0 1 = nI tl) (ht : tl ≤ 16384) (hc : ctx 32 tl v2) (e : F_DA_makeSignature_2 (379 + 36 * z + 17) 1 16384 tl v2 2 s = (zz, s1)) : F_K_sign (nI z) v2 s = if zz = 0 then (nI 3, nI 0, s1) else (nI 0, zz, sI (sI s1 0 1 (nI 0)) 0 3 (nI 4627)) := by
  rw [F_K_sign, bnd_eq, h]
  dsimp only
  rw [if_neg (show ¬ nI 6 = nI 0 by decide), if_neg (show ¬ nI 6 = nI 4 by decide), if_neg (show ¬ nI 6 = nI 5 by decide), if_pos (show nI 6 = nI 6 from rfl), bnd_eq, nI_clamp (show z < 2 ^ 31 by omega), bnd_eq, kholds_y h1 ht hc]
  dsimp only
  rw [if_neg (show ¬ nI 1 = 0 by decide), bnd_eq, h1, nI_clamp (show tl < 2 ^ 31 by omega), bnd_eq, e]
  dsimp only
  rw [bnd_eq]
  by_cases q : zz = 0
  · rw [if_pos q, if_pos q]
  · rw [if_neg q, if_neg q, bnd_eq, bnd_eq]
theorem ksg2_n {z : Nat} {v2 : Int32} {s : Sto} (h : F_K_findDsa (nI z) s = (nI 12, s)) : F_K_sign (nI z) v2 s = (nI 1, nI 0, s) := by
  rw [F_K_sign, bnd_eq, h]
  dsimp only
  rw [if_neg (show ¬ nI 12 = nI 0 by decide), if_neg (show ¬ nI 12 = nI 4 by decide), if_neg (show ¬ nI 12 = nI 5 by decide), if_neg (show ¬ nI 12 = nI 6 by decide), if_neg (show ¬ nI 12 = nI 10 by decide), if_neg (show ¬ nI 12 = nI 11 by decide), if_pos (show nI 12 = nI 12 from rfl), bnd_eq]
set_option maxRecDepth 100000 in
theorem sign_c2 {tl al pn z : Nat} {v2 : Int32} {s : Sto} (h : SAME tl al pn s) (hz : z < pn) (hf : F_K_findDsa (nI z) s = (nI 6, s)) (e2 : s.1 170 z = nI 5) (e3 : s.1 171 z = nI 4896) (e5 : ∀ j, j < 4896 → s.1 (379 + 36 * z + 17) j = s.1 (162 + z) j) (hF : frm M_K_sign s (F_K_sign (nI z) v2 s).2.2) (hA : (F_K_sign (nI z) v2 s).1 = nI 3 → (F_K_sign (nI z) v2 s).2.2.1 2 = s.1 2) (hB : ∀ x, x < 8192 → isb ((F_K_sign (nI z) v2 s).2.2.1 2 x)) (hE : E_M_sign (nI z) v2 (F_K_sign (nI z) v2 s).2.2) : ALIKE (F_K_sign (nI z) v2 s) (F_M_sign (nI z) v2) := by
  obtain ⟨⟨a1, a2, a3⟩, ⟨b1, b2, b3⟩, ⟨c1, c2, c3⟩, d, e, f⟩ := id h
  by_cases hc : ctx 32 tl v2
  · have hlen : 32 ≤ tl := by obtain ⟨y, -, -, q⟩ := hc; omega
    obtain ⟨s1, hs1⟩ : ∃ x, x = (F_K_sign (nI z) v2 s).2.2 := ⟨_, rfl⟩
    rw [← hs1] at hE hF hA hB
    have f1 : s1.1 148 = s.1 148 := hF 148 (by unfold M_K_sign; omega)
    have f2 : s1.1 149 = s.1 149 := hF 149 (by unfold M_K_sign; omega)
    have f3 : s1.1 170 = s.1 170 := hF 170 (by unfold M_K_sign; omega)
    have f4 : s1.1 171 = s.1 171 := hF 171 (by unfold M_K_sign; omega)
    have f5 : s1.1 (162 + z) = s.1 (162 + z) := hF (162 + z) (by unfold M_K_sign; omega)
    have hE1 := esg_2 (by rw [f1]; exact c2) c3 hz (by rw [f1]; exact a2) a3 (by rw [f3]; exact e2) (by rw [f4]; exact e3) hc hE
    obtain ⟨zz, sB_, t2, g1, g2, g3, g4, g5⟩ := dsign2_sameO (psk := 379 + 36 * z + 17) (ptp := 1) (n := 16384) (len := tl) (pt := 2) (qsk := 162 + z) (qb := 149) (n3 := 16384) (qt := 151) (cl_ := v2) (s := s) (t := sI s1 148 0 (nI 0)) (by unfold apS2; omega) (by omega) hlen (fun j hj => by rw [th_ne (by omega), f5]; exact e5 j hj) (fun j hj => by rw [th_ne (by decide), f2]; exact d j hj) hE1
    have e6 := ksg2_c hf (by omega) a1 a3 hc g1
    have m6 := msg_2_c (by rw [f1]; exact c2) c3 hz (by rw [f1]; exact a2) a3 (by rw [f3]; exact e2) (by rw [f4]; exact e3) hc g2
    have fM : ∀ k, (k < 14 ∨ 148 ≤ k) → k ≠ 2 → sB_.1 k = s.1 k := fun k u v => g3 k (by show ¬ (_ ∨ _); omega)
    clear g1 g2 hE1
    by_cases q : zz = 0
    · rw [if_pos q] at e6 m6
      have hs : s1 = sB_ := by rw [hs1, e6]
      have hA := hA (by rw [e6])
      rw [e6]
      rw [hs] at m6 hA g4
      refine alike_fail2 (t := t2) (tl := tl) (al := al) (pn := pn) ?_ m6 (by decide)
      have oM : t2.1 148 = (sI sB_ 148 0 (nI 0)).1 148 := g4 148 (by show ¬ (_ ∨ _); omega)
      have o : ∀ k, k ≠ 148 → (k < 14 ∨ (148 ≤ k ∧ k < 172) ∨ 379 ≤ k) → k ≠ 151 → t2.1 k = sB_.1 k := fun k u v w => by rw [g4 k (by show ¬ (_ ∨ _); omega), th_ne u]
      have o2 : ∀ k, k ≠ 2 → k ≠ 148 → (k < 14 ∨ (148 ≤ k ∧ k < 172) ∨ 379 ≤ k) → k ≠ 151 → t2.1 k = s.1 k := fun k w u v x => by rw [o k u v x, fM k (by omega) w]
      have oMj : ∀ j, j ≠ 0 → t2.1 148 j = s.1 148 j := fun j u => by rw [oM, th_off u, fM 148 (by omega) (by omega)]
      refine ⟨⟨by rw [o2 0 (by omega) (by omega) (by omega) (by omega)]; exact a1, by rw [oMj 1 (by decide)]; exact a2, a3⟩, ⟨by rw [o2 0 (by omega) (by omega) (by omega) (by omega)]; exact b1, by rw [oMj 2 (by decide)]; exact b2, b3⟩, ⟨by rw [o2 0 (by omega) (by omega) (by omega) (by omega)]; exact c1, by rw [oMj 3 (by decide)]; exact c2, c3⟩, ?_, ?_, fun i hi => PAIR_c (by omega) (fun k hk => o2 k (by unfold isP at hk; omega) (by unfold isP at hk; omega) (by unfold isP at hk; omega) (by unfold isP at hk; omega)) (f i hi)⟩
      · rw [o2 1 (by omega) (by omega) (by omega) (by omega), o2 149 (by omega) (by omega) (by omega) (by omega)]; exact d
      · rw [o 2 (by omega) (by omega) (by omega), hA, o2 150 (by omega) (by omega) (by omega) (by omega)]; exact e
    · rw [if_neg q] at e6 m6
      have hs : s1 = sI (sI sB_ 0 1 (nI 0)) 0 3 (nI 4627) := by rw [hs1, e6]
      obtain ⟨t4, w1, w2, w3⟩ := sgl2 (zz := zz) 4627 0 (sI t2 148 2 (nI 4627))
      rw [w1] at m6
      have g5 := g5.resolve_left (fun u => q (u.trans (by decide)))
      rw [e6]
      unfold ALIKE
      dsimp only
      rw [← hs, m6]
      obtain ⟨q1, q2⟩ := sign_core (L := 4627) (sB_ := sB_) (t2 := t2) (t4 := t4) h (by decide) fM (fun k u v => by rw [← hs]; exact g4 k (by show ¬ (_ ∨ _); omega)) w2 (fun x hx => by rw [w3 x (Nat.zero_le _) (by omega), th_ne (by decide)]) g5 (fun x hx => by
        have u := hB x (by omega)
        rw [hs, th_ne (by decide), th_ne (by decide)] at u
        exact u)
      exact ⟨⟨0, 4627, pn, q1⟩, q2, fun _ => rfl⟩
  · rw [ksg2_a hf a1 a3 hc]
    exact alike_fail h (msg_2_a c2 c3 hz a2 a3 e2 e3 hc) (by decide)
theorem sign_alike {tl al pn : Nat} {v v2 : Int32} {s : Sto} (h : SAME tl al pn s) (hF : frm M_K_sign s (F_K_sign v v2 s).2.2) (hA : (F_K_sign v v2 s).1 = nI 3 → (F_K_sign v v2 s).2.2.1 2 = s.1 2) (hB : ∀ x, x < 8192 → isb ((F_K_sign v v2 s).2.2.1 2 x)) (hE : E_M_sign v v2 (F_K_sign v v2 s).2.2) : ALIKE (F_K_sign v v2 s) (F_M_sign v v2) := by
  obtain ⟨-, -, ⟨h1, h2, h3⟩, -, -, hp⟩ := id h
  by_cases hv : v < 0 ∨ ¬ v < nI pn
  · rw [ksgN (kfd0 (kfind_no h1 h3 hv))]
    exact alike_fail h (msg_n h2 h3 hv) (by decide)
  · obtain ⟨z, hz, rfl⟩ := i32_out hv (by omega)
    obtain ⟨c, hc, e1, e2, e3, e4, e5⟩ := hp z hz
    have hf : F_K_find (nI z) s = (nI (c + 1), s) := by rw [kfind_at h1 h3 hz, e1]
    have h9 : c = 0 ∨ c = 1 ∨ c = 2 ∨ c = 3 ∨ c = 4 ∨ c = 5 ∨ c = 6 ∨ c = 7 ∨ c = 8 ∨ c = 9 ∨ c = 10 ∨ c = 11 := by omega
    rcases h9 with rfl | rfl | rfl | rfl | rfl | rfl | rfl | rfl | rfl | rfl | rfl | rfl
    · rw [ksgN (kfd_0 hf)]
      exact alike_fail h (msg_k (J := 0) h2 h3 hz e2 (by decide)) (by decide)
    · rw [ksgN (kfd_1 hf)]
      exact alike_fail h (msg_k (J := 1) h2 h3 hz e2 (by decide)) (by decide)
    · rw [ksgN (kfd_2 hf)]
      exact alike_fail h (msg_k (J := 2) h2 h3 hz e2 (by decide)) (by decide)
    · exact sign_c0 h hz (kfd_3 hf) e2 e3 (e5.1 (by decide)) hF hA hB hE
    · exact sign_c1 h hz (kfd_4 hf) e2 e3 (e5.1 (by decide)) hF hA hB hE
    · exact sign_c2 h hz (kfd_5 hf) e2 e3 (e5.1 (by decide)) hF hA hB hE
    · rw [ksgN (kfd_6 hf)]
      exact alike_fail h (msg_k (J := 0) h2 h3 hz e2 (by decide)) (by decide)
    · rw [ksgN (kfd_7 hf)]
      exact alike_fail h (msg_k (J := 1) h2 h3 hz e2 (by decide)) (by decide)
    · rw [ksgN (kfd_8 hf)]
      exact alike_fail h (msg_k (J := 2) h2 h3 hz e2 (by decide)) (by decide)
    · rw [ksg0_n (kfd_9 hf)]
      exact alike_fail h (msg_0_z h2 h3 hz e2 e3) (by decide)
    · rw [ksg1_n (kfd_10 hf)]
      exact alike_fail h (msg_1_z h2 h3 hz e2 e3) (by decide)
    · rw [ksg2_n (kfd_11 hf)]
      exact alike_fail h (msg_2_z h2 h3 hz e2 e3) (by decide)
