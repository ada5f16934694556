set_option linter.all false
/-! verify -/
theorem alike_fail1 {tl al pn k : Nat} {s : Sto} {f : Sto → Int32 × Sto} (h : SAME tl al pn s) (e : f s = (nI 0, sI s 148 0 (nI k))) (hk : ¬ nI k = nI 0) : ALIKE (nI k, nI 0, s) f := by
  unfold ALIKE
  dsimp only
  rw [e]
  exact ⟨⟨tl, al, pn, SAME_onlM h onlM1⟩, th_at, fun q => absurd q hk⟩
theorem kfd_0 {v : Int32} {s : Sto} (h : F_K_find v s = (nI 1, s)) : F_K_findDsa v s = (nI 0, s) := by
  rw [F_K_findDsa, bnd_eq, h]
  dsimp only
  rw [if_neg (show ¬ nI 1 = nI 0 by decide), if_pos (show nI 1 = nI 1 from rfl), bnd_eq]
theorem kfd_1 {v : Int32} {s : Sto} (h : F_K_find v s = (nI 2, s)) : F_K_findDsa v s = (nI 0, s) := by
  rw [F_K_findDsa, bnd_eq, h]
  dsimp only
  rw [if_neg (show ¬ nI 2 = nI 0 by decide), if_neg (show ¬ nI 2 = nI 1 by decide), if_pos (show nI 2 = nI 2 from rfl), bnd_eq]
theorem kfd_2 {v : Int32} {s : Sto} (h : F_K_find v s = (nI 3, s)) : F_K_findDsa v s = (nI 0, s) := by
  rw [F_K_findDsa, bnd_eq, h]
  dsimp only
  rw [if_neg (show ¬ nI 3 = nI 0 by decide), if_neg (show ¬ nI 3 = nI 1 by decide), if_neg (show ¬ nI 3 = nI 2 by decide), if_pos (show nI 3 = nI 3 from rfl), bnd_eq]
theorem kfd_3 {v : Int32} {s : Sto} (h : F_K_find v s = (nI 4, s)) : F_K_findDsa v s = (nI 4, s) := by
  rw [F_K_findDsa, bnd_eq, h]
  dsimp only
  rw [if_neg (show ¬ nI 4 = nI 0 by decide), if_neg (show ¬ nI 4 = nI 1 by decide), if_neg (show ¬ nI 4 = nI 2 by decide), if_neg (show ¬ nI 4 = nI 3 by decide), if_pos (show nI 4 = nI 4 from rfl), bnd_eq]
theorem kfd_4 {v : Int32} {s : Sto} (h : F_K_find v s = (nI 5, s)) : F_K_findDsa v s = (nI 5, s) := by
  rw [F_K_findDsa, bnd_eq, h]
  dsimp only
  rw [if_neg (show ¬ nI 5 = nI 0 by decide), if_neg (show ¬ nI 5 = nI 1 by decide), if_neg (show ¬ nI 5 = nI 2 by decide), if_neg (show ¬ nI 5 = nI 3 by decide), if_neg (show ¬ nI 5 = nI 4 by decide), if_pos (show nI 5 = nI 5 from rfl), bnd_eq]
theorem kfd_5 {v : Int32} {s : Sto} (h : F_K_find v s = (nI 6, s)) : F_K_findDsa v s = (nI 6, s) := by
  rw [F_K_findDsa, bnd_eq, h]
  dsimp only
  rw [if_neg (show ¬ nI 6 = nI 0 by decide), if_neg (show ¬ nI 6 = nI 1 by decide), if_neg (show ¬ nI 6 = nI 2 by decide), if_neg (show ¬ nI 6 = nI 3 by decide), if_neg (show ¬ nI 6 = nI 4 by decide), if_neg (show ¬ nI 6 = nI 5 by decide), if_pos (show nI 6 = nI 6 from rfl), bnd_eq]
theorem kfd_6 {v : Int32} {s : Sto} (h : F_K_find v s = (nI 7, s)) : F_K_findDsa v s = (nI 0, s) := by
  rw [F_K_findDsa, bnd_eq, h]
  dsimp only
  rw [if_neg (show ¬ nI 7 = nI 0 by decide), if_neg (show ¬ nI 7 = nI 1 by decide), if_neg (show ¬ nI 7 = nI 2 by decide), if_neg (show ¬ nI 7 = nI 3 by decide), if_neg (show ¬ nI 7 = nI 4 by decide), if_neg (show ¬ nI 7 = nI 5 by decide), if_neg (show ¬ nI 7 = nI 6 by decide), if_pos (show nI 7 = nI 7 from rfl), bnd_eq]
theorem kfd_7 {v : Int32} {s : Sto} (h : F_K_find v s = (nI 8, s)) : F_K_findDsa v s = (nI 0, s) := by
  rw [F_K_findDsa, bnd_eq, h]
  dsimp only
  rw [if_neg (show ¬ nI 8 = nI 0 by decide), if_neg (show ¬ nI 8 = nI 1 by decide), if_neg (show ¬ nI 8 = nI 2 by decide), if_neg (show ¬ nI 8 = nI 3 by decide), if_neg (show ¬ nI 8 = nI 4 by decide), if_neg (show ¬ nI 8 = nI 5 by decide), if_neg (show ¬ nI 8 = nI 6 by decide), if_neg (show ¬ nI 8 = nI 7 by decide), if_pos (show nI 8 = nI 8 from rfl), bnd_eq]
theorem kfd_8 {v : Int32} {s : Sto} (h : F_K_find v s = (nI 9, s)) : F_K_findDsa v s = (nI 0, s) := by
  rw [F_K_findDsa, bnd_eq, h]
  dsimp only
  rw [if_neg (show ¬ nI 9 = nI 0 by decide), if_neg (show ¬ nI 9 = nI 1 by decide), if_neg (show ¬ nI 9 = nI 2 by decide), if_neg (show ¬ nI 9 = nI 3 by decide), if_neg (show ¬ nI 9 = nI 4 by decide), if_neg (show ¬ nI 9 = nI 5 by decide), if_neg (show ¬ nI 9 = nI 6 by decide), if_neg (show ¬ nI 9 = nI 7 by decide), if_neg (show ¬ nI 9 = nI 8 by decide), if_pos (show nI 9 = nI 9 from rfl), bnd_eq]
theorem kfd_9 {v : Int32} {s : Sto} (h : F_K_find v s = (nI 10, s)) : F_K_findDsa v s = (nI 10, s) := by
  rw [F_K_findDsa, bnd_eq, h]
  dsimp only
  rw [if_neg (show ¬ nI 10 = nI 0 by decide), if_neg (show ¬ nI 10 = nI 1 by decide), if_neg (show ¬ nI 10 = nI 2 by decide), if_neg (show ¬ nI 10 = nI 3 by decide), if_neg (show ¬ nI 10 = nI 4 by decide), if_neg (show ¬ nI 10 = nI 5 by decide), if_neg (show ¬ nI 10 = nI 6 by decide), if_neg (show ¬ nI 10 = nI 7 by decide), if_neg (show ¬ nI 10 = nI 8 by decide), if_neg (show ¬ nI 10 = nI 9 by decide), if_pos (show nI 10 = nI 10 from rfl), bnd_eq]
theorem kfd_10 {v : Int32} {s : Sto} (h : F_K_find v s = (nI 11, s)) : F_K_findDsa v s = (nI 11, s) := by
  rw [F_K_findDsa, bnd_eq, h]
  dsimp only
  rw [if_neg (show ¬ nI 11 = nI 0 by decide), if_neg (show ¬ nI 11 = nI 1 by decide), if_neg (show ¬ nI 11 = nI 2 by decide), if_neg (show ¬ nI 11 = nI 3 by decide), if_neg (show ¬ nI 11 = nI 4 by decide), if_neg (show ¬ nI 11 = nI 5 by decide), if_neg (show ¬ nI 11 = nI 6 by decide), if_neg (show ¬ nI 11 = nI 7 by decide), if_neg (show ¬ nI 11 = nI 8 by decide), if_neg (show ¬ nI 11 = nI 9 by decide), if_neg (show ¬ nI 11 = nI 10 by decide), if_pos (show nI 11 = nI 11 from rfl), bnd_eq]
theorem kfd_11 {v : Int32} {s : Sto} (h : F_K_find v s = (nI 12, s)) : F_K_findDsa v s = (nI 12, s) := by
  rw [F_K_findDsa, bnd_eq, h]
  dsimp only
  rw [if_neg (show ¬ nI 12 = nI 0 by decide), if_neg (show ¬ nI 12 = nI 1 by decide), if_neg (show ¬ nI 12 = nI 2 by decide), if_neg (show ¬ nI 12 = nI 3 by decide), if_neg (show ¬ nI 12 = nI 4 by decide), if_neg (show ¬ nI 12 = nI 5 by decide), if_neg (show ¬ nI 12 = nI 6 by decide), if_neg (show ¬ nI 12 = nI 7 by decide), if_neg (show ¬ nI 12 = nI 8 by decide), if_neg (show ¬ nI 12 = nI 9 by decide), if_neg (show ¬ nI 12 = nI 10 by decide), if_neg (show ¬ nI 12 = nI 11 by decide), if_pos (show nI 12 = nI 12 from rfl), bnd_eq]
theorem kfd0 {v : Int32} {s : Sto} (h : F_K_find v s = (nI 0, s)) : F_K_findDsa v s = (nI 0, s) := by
  rw [F_K_findDsa, bnd_eq, h]
  dsimp only
  rw [if_pos (show nI 0 = nI 0 from rfl)]
theorem kverN {v v2 : Int32} {s : Sto} (h : F_K_findDsa v s = (nI 0, s)) : F_K_verify v v2 s = (nI 1, nI 0, s) := by
  rw [F_K_verify, bnd_eq, h]
  dsimp only
  rw [if_pos (show nI 0 = nI 0 from rfl)]
/-- a context of that length fits behind so many bytes -/
def ctx (bf tl : Nat) (v : Int32) : Prop := ∃ y : Nat, y ≤ 255 ∧ v = nI y ∧ bf + y ≤ tl
theorem kholds_y {bf tl : Nat} {v : Int32} {s : Sto} (h : s.1 0 1 = nI tl) (ht : tl ≤ 16384) (hc : ctx bf tl v) : F_K_holdsContext bf v s = (nI 1, s) := by
  obtain ⟨y, h1, rfl, h2⟩ := hc
  rw [F_K_holdsContext, if_neg (nI_nneg (by omega)), if_neg (fun q => absurd ((nI_ltI (by decide) (by omega)).mp q) (by omega)), bnd_eq, nI_clamp (show y < 2 ^ 31 by omega), bnd_eq, h, nI_clamp (show tl < 2 ^ 31 by omega), if_neg (by omega)]
theorem ctx_no {bf tl : Nat} {v : Int32} (hc : ¬ ctx bf tl v) (q0 : ¬ v < 0) (q1 : ¬ nI 255 < v) : ∃ y : Nat, y ≤ 255 ∧ v = nI y ∧ ¬ bf + y ≤ tl := by
  obtain ⟨y, h1, h2⟩ := i32_lex q0 (by decide) q1
  exact ⟨y, h1, h2, fun q => hc ⟨y, h1, h2, q⟩⟩
theorem kholds_n {bf tl : Nat} {v : Int32} {s : Sto} (h : s.1 0 1 = nI tl) (ht : tl ≤ 16384) (hc : ¬ ctx bf tl v) : F_K_holdsContext bf v s = (nI 0, s) := by
  rw [F_K_holdsContext]
  by_cases q0 : v < 0
  · rw [if_pos q0]
  · rw [if_neg q0]
    by_cases q1 : nI 255 < v
    · rw [if_pos q1]
    · obtain ⟨y, h1, rfl, h2⟩ := ctx_no hc q0 q1
      rw [if_neg q1, bnd_eq, nI_clamp (show y < 2 ^ 31 by omega), bnd_eq, h, nI_clamp (show tl < 2 ^ 31 by omega), if_pos (by omega)]
theorem mver_n {s : Sto} {pn : Nat} {v v2 : Int32} (h : s.1 148 3 = nI pn) (hp : pn ≤ 8) (hv : v < 0 ∨ ¬ v < nI pn) : F_M_verify v v2 s = (nI 0, sI s 148 0 (nI 1)) := by
  rw [F_M_verify, bnd_eq, mnone_no h hp hv]
  dsimp only
  rw [if_neg (show ¬ nI 1 = 0 by decide), bnd_eq, bnd_eq]
theorem mver_k {J : Nat} {s : Sto} {pn z : Nat} {v2 : Int32} (h : s.1 148 3 = nI pn) (hp : pn ≤ 8) (hz : z < pn) (e : s.1 170 z = nI J) (hJ : J < 3) : F_M_verify (nI z) v2 s = (nI 0, sI s 148 0 (nI 1)) := by
  have hzc : (nI z).toNatClampNeg = z := nI_clamp (by omega)
  rw [F_M_verify, bnd_eq, mnone_at h hp hz]
  dsimp only
  rw [if_pos (show nI 0 = 0 by decide), bnd_eq, hzc, e]
  have h9 : J = 0 ∨ J = 1 ∨ J = 2 := by omega
  rcases h9 with rfl | rfl | rfl
  · rw [if_pos (show nI 0 = nI 0 from rfl), bnd_eq, bnd_eq]
  · rw [if_neg (show ¬ nI 1 = nI 0 by decide), if_pos (show nI 1 = nI 1 from rfl), bnd_eq, bnd_eq]
  · rw [if_neg (show ¬ nI 2 = nI 0 by decide), if_neg (show ¬ nI 2 = nI 1 by decide), if_pos (show nI 2 = nI 2 from rfl), bnd_eq, bnd_eq]
theorem ver_core {tl al pn : Nat} {s sB_ t2 : Sto} (h : SAME tl al pn s)
    (hM : ∀ k, (k < 14 ∨ 148 ≤ k) → sB_.1 k = s.1 k) (hR : ∀ k, (k < 172 ∨ 379 ≤ k) → t2.1 k = (sI (sI sB_ 0 1 (nI 0)) 148 0 (nI 0)).1 k) : SAME 0 al pn (sI t2 148 1 (nI 0)) ∧ (sI t2 148 1 (nI 0)).1 148 0 = nI 0 := by
  obtain ⟨⟨a1, a2, a3⟩, ⟨b1, b2, b3⟩, ⟨c1, c2, c3⟩, d, e, f⟩ := id h
  have t0 := hR 0 (by omega)
  have tM := hR 148 (by omega)
  have tK : ∀ k, k ≠ 0 → k ≠ 148 → (k < 14 ∨ (148 ≤ k ∧ k < 172) ∨ 379 ≤ k) → t2.1 k = s.1 k := fun k u v w => by
    rw [hR k (by omega), th_ne v, th_ne u, hM k (by omega)]
  have r01 : t2.1 0 1 = nI 0 := by rw [t0, th_ne (by decide)]; exact th_at
  have r03 : t2.1 0 3 = nI al := by rw [t0, th_ne (by decide), th_off (by decide), hM 0 (by omega)]; exact b1
  have r05 : t2.1 0 5 = nI pn := by rw [t0, th_ne (by decide), th_off (by decide), hM 0 (by omega)]; exact c1
  have rM0 : t2.1 148 0 = nI 0 := by rw [tM]; exact th_at
  have rM2 : t2.1 148 2 = nI al := by rw [tM, th_off (by decide), th_ne (by decide), hM 148 (by omega)]; exact b2
  have rM3 : t2.1 148 3 = nI pn := by rw [tM, th_off (by decide), th_ne (by decide), hM 148 (by omega)]; exact c2
  refine ⟨⟨⟨by rw [th_ne (by decide)]; exact r01, th_at, by omega⟩, ⟨by rw [th_ne (by decide)]; exact r03, by rw [th_off (by decide)]; exact rM2, b3⟩, ⟨by rw [th_ne (by decide)]; exact r05, by rw [th_off (by decide)]; exact rM3, c3⟩, fun j hj => absurd hj (by omega), ?_, fun i hi => PAIR_c (by omega) (fun k hk => ?_) (f i hi)⟩, by rw [th_off (by decide)]; exact rM0⟩
  · rw [th_ne (show 2 ≠ 148 by decide), th_ne (show 150 ≠ 148 by decide), tK 2 (by omega) (by omega) (by omega), tK 150 (by omega) (by omega) (by omega)]
    exact e
  · unfold isP at hk
    rw [th_ne (by omega), tK k (by omega) (by omega) (by omega)]
theorem mver_0_a {s : Sto} {pn z tl : Nat} {v2 : Int32} (h : s.1 148 3 = nI pn) (hp : pn ≤ 8) (hz : z < pn) (ht : s.1 148 1 = nI tl) (htl : tl ≤ 16384) (e : s.1 170 z = nI 3) (hc : ¬ ctx 2420 tl v2) : F_M_verify (nI z) v2 s = (nI 0, sI s 148 0 (nI 2)) := by
  have hzc : (nI z).toNatClampNeg = z := nI_clamp (by omega)
  rw [F_M_verify, bnd_eq, mnone_at h hp hz]
  dsimp only
  rw [if_pos (show nI 0 = 0 by decide), bnd_eq, hzc, e, if_neg (show ¬ nI 3 = nI 0 by decide), if_neg (show ¬ nI 3 = nI 1 by decide), if_neg (show ¬ nI 3 = nI 2 by decide), if_pos (show nI 3 = nI 3 from rfl)]
  by_cases q0 : v2 < 0
  · rw [if_pos q0, bnd_eq, bnd_eq]
  · rw [if_neg q0]
    by_cases q1 : nI 255 < v2
    · rw [if_pos q1, bnd_eq, bnd_eq]
    · obtain ⟨y, h1, rfl, h2⟩ := ctx_no hc q0 q1
      rw [if_neg q1, bnd_eq, nI_clamp (show y < 2 ^ 31 by omega), bnd_eq, ht, nI_clamp (show tl < 2 ^ 31 by omega), bnd_eq, bnd_eq, if_neg h2, bnd_eq, bnd_eq, show ∀ w : Sto, (F_MH_markSize_0 w).2 = w from fun w => by rw [F_MH_markSize_0]]
theorem mver_0_c {s t1 : Sto} {pn z tl : Nat} {v2 zz : Int32} (h : s.1 148 3 = nI pn) (hp : pn ≤ 8) (hz : z < pn) (ht : s.1 148 1 = nI tl) (htl : tl ≤ 16384) (e : s.1 170 z = nI 3) (hc : ctx 2420 tl v2) (hv : F_MH_verify_0 (153 + z) 149 v2 tl (sI s 148 0 (nI 0)) = (zz, t1)) (hb : zz = nI 1 ∨ zz = nI 0) : F_M_verify (nI z) v2 s = (zz, sI t1 148 1 (nI 0)) := by
  have hzc : (nI z).toNatClampNeg = z := nI_clamp (by omega)
  obtain ⟨y, h1, rfl, h2⟩ := hc
  have hyc : (nI y).toNatClampNeg = y := nI_clamp (by omega)
  have htc : (nI tl).toNatClampNeg = tl := nI_clamp (by omega)
  have k1 : (sI s 148 0 (nI 0)).1 148 1 = nI tl := by rw [th_off (by decide)]; exact ht
  have hzz : nI zz.toNatClampNeg = zz := by
    rcases hb with rfl | rfl
    · rw [nI_clamp (by decide)]
    · rw [nI_clamp (by decide)]
  rw [F_M_verify, bnd_eq, mnone_at h hp hz]
  dsimp only
  rw [if_pos (show nI 0 = 0 by decide), bnd_eq, hzc, e, if_neg (show ¬ nI 3 = nI 0 by decide), if_neg (show ¬ nI 3 = nI 1 by decide), if_neg (show ¬ nI 3 = nI 2 by decide), if_pos (show nI 3 = nI 3 from rfl), if_neg (nI_nneg (by omega)), if_neg (fun q => absurd ((nI_ltI (by decide) (by omega)).mp q) (by omega)), bnd_eq, hyc, bnd_eq, ht, htc, bnd_eq, bnd_eq, if_pos h2, bnd_eq, show ∀ w : Sto, (F_MH_markSize_0 w).2 = w from fun w => by rw [F_MH_markSize_0], bnd_eq, bnd_eq, k1, htc, bnd_eq, hv]
  dsimp only
  rw [bnd_eq, bnd_eq, hzz]
theorem ever_0 {s : Sto} {pn z tl : Nat} {v2 : Int32} (h : s.1 148 3 = nI pn) (hp : pn ≤ 8) (hz : z < pn) (ht : s.1 148 1 = nI tl) (htl : tl ≤ 16384) (e : s.1 170 z = nI 3) (hc : ctx 2420 tl v2) (hE : E_M_verify (nI z) v2 s) : E_MH_verify_0 (153 + z) 149 v2 tl (sI s 148 0 (nI 0)) := by
  have hzc : (nI z).toNatClampNeg = z := nI_clamp (by omega)
  obtain ⟨y, h1, rfl, h2⟩ := hc
  have hyc : (nI y).toNatClampNeg = y := nI_clamp (by omega)
  have htc : (nI tl).toNatClampNeg = tl := nI_clamp (by omega)
  have k1 : (sI s 148 0 (nI 0)).1 148 1 = nI tl := by rw [th_off (by decide)]; exact ht
  rw [E_M_verify, bnd_eq, mnone_at h hp hz] at hE
  dsimp only at hE
  rw [if_pos (show nI 0 = 0 by decide), bnd_eq, hzc, e, if_neg (show ¬ nI 3 = nI 0 by decide), if_neg (show ¬ nI 3 = nI 1 by decide), if_neg (show ¬ nI 3 = nI 2 by decide), if_pos (show nI 3 = nI 3 from rfl), if_neg (nI_nneg (by omega)), if_neg (fun q => absurd ((nI_ltI (by decide) (by omega)).mp q) (by omega)), bnd_eq, hyc, bnd_eq, ht, htc, bnd_eq, bnd_eq, if_pos h2, bnd_eq, show ∀ w : Sto, (F_MH_markSize_0 w).2 = w from fun w => by rw [F_MH_markSize_0], bnd_eq, bnd_eq, k1, htc] at hE
  exact hE.1
theorem mver_1_a {s : Sto} {pn z tl : Nat} {v2 : Int32} (h : s.1 148 3 = nI pn) (hp : pn ≤ 8) (hz : z < pn) (ht : s.1 148 1 = nI tl) (htl : tl ≤ 16384) (e : s.1 170 z = nI 4) (hc : ¬ ctx 3309 tl v2) : F_M_verify (nI z) v2 s = (nI 0, sI s 148 0 (nI 2)) := by
  have hzc : (nI z).toNatClampNeg = z := nI_clamp (by omega)
  rw [F_M_verify, bnd_eq, mnone_at h hp hz]
  dsimp only
  rw [if_pos (show nI 0 = 0 by decide), bnd_eq, hzc, e, if_neg (show ¬ nI 4 = nI 0 by decide), if_neg (show ¬ nI 4 = nI 1 by decide), if_neg (show ¬ nI 4 = nI 2 by decide), if_neg (show ¬ nI 4 = nI 3 by decide), if_pos (show nI 4 = nI 4 from rfl)]
  by_cases q0 : v2 < 0
  · rw [if_pos q0, bnd_eq, bnd_eq]
  · rw [if_neg q0]
    by_cases q1 : nI 255 < v2
    · rw [if_pos q1, bnd_eq, bnd_eq]
    · obtain ⟨y, h1, rfl, h2⟩ := ctx_no hc q0 q1
      rw [if_neg q1, bnd_eq, nI_clamp (show y < 2 ^ 31 by omega), bnd_eq, ht, nI_clamp (show tl < 2 ^ 31 by omega), bnd_eq, bnd_eq, if_neg h2, bnd_eq, bnd_eq, show ∀ w : Sto, (F_MH_markSize_1 w).2 = w from fun w => by rw [F_MH_markSize_1]]
theorem mver_1_c {s t1 : Sto} {pn z tl : Nat} {v2 zz : Int32} (h : s.1 148 3 = nI pn) (hp : pn ≤ 8) (hz : z < pn) (ht : s.1 148 1 = nI tl) (htl : tl ≤ 16384) (e : s.1 170 z = nI 4) (hc : ctx 3309 tl v2) (hv : F_MH_verify_1 (153 + z) 149 v2 tl (sI s 148 0 (nI 0)) = (zz, t1)) (hb : zz = nI 1 ∨ zz = nI 0) : F_M_verify (nI z) v2 s = (zz, sI t1 148 1 (nI 0)) := by
  have hzc : (nI z).toNatClampNeg = z := nI_clamp (by omega)
  obtain ⟨y, h1, rfl, h2⟩ := hc
  have hyc : (nI y).toNatClampNeg = y := nI_clamp (by omega)
  have htc : (nI tl).toNatClampNeg = tl := nI_clamp (by omega)
  have k1 : (sI s 148 0 (nI 0)).1 148 1 = nI tl := by rw [th_off (by decide)]; exact ht
  have hzz : nI zz.toNatClampNeg = zz := by
    rcases hb with rfl | rfl
    · rw [nI_clamp (by decide)]
    · rw [nI_clamp (by decide)]
  rw [F_M_verify, bnd_eq, mnone_at h hp hz]
  dsimp only
  rw [if_pos (show nI 0 = 0 by decide), bnd_eq, hzc, e, if_neg (show ¬ nI 4 = nI 0 by decide), if_neg (show ¬ nI 4 = nI 1 by decide), if_neg (show ¬ nI 4 = nI 2 by decide), if_neg (show ¬ nI 4 = nI 3 by decide), if_pos (show nI 4 = nI 4 from rfl), if_neg (nI_nneg (by omega)), if_neg (fun q => absurd ((nI_ltI (by decide) (by omega)).mp q) (by omega)), bnd_eq, hyc, bnd_eq, ht, htc, bnd_eq, bnd_eq, if_pos h2, bnd_eq, show ∀ w : Sto, (F_MH_markSize_1 w).2 = w from fun w => by rw [F_MH_markSize_1], bnd_eq, bnd_eq, k1, htc, bnd_eq, hv]
  dsimp only
  rw [bnd_eq, bnd_eq, hzz]
theorem ever_1 {s : Sto} {pn z tl : Nat} {v2 : Int32} (h : s.1 148 3 = nI pn) (hp : pn ≤ 8) (hz : z < pn) (ht : s.1 148 1 = nI tl) (htl : tl ≤ 16384) (e : s.1 170 z = nI 4) (hc : ctx 3309 tl v2) (hE : E_M_verify (nI z) v2 s) : E_MH_verify_1 (153 + z) 149 v2 tl (sI s 148 0 (nI 0)) := by
  have hzc : (nI z).toNatClampNeg = z := nI_clamp (by omega)
  obtain ⟨y, h1, rfl, h2⟩ := hc
  have hyc : (nI y).toNatClampNeg = y := nI_clamp (by omega)
  have htc : (nI tl).toNatClampNeg = tl := nI_clamp (by omega)
  have k1 : (sI s 148 0 (nI 0)).1 148 1 = nI tl := by rw [th_off (by decide)]; exact ht
  rw [E_M_verify, bnd_eq, mnone_at h hp hz] at hE
  dsimp only at hE
  rw [if_pos (show nI 0 = 0 by decide), bnd_eq, hzc, e, if_neg (show ¬ nI 4 = nI 0 by decide), if_neg (show ¬ nI 4 = nI 1 by decide), if_neg (show ¬ nI 4 = nI 2 by decide), if_neg (show ¬ nI 4 = nI 3 by decide), if_pos (show nI 4 = nI 4 from rfl), if_neg (nI_nneg (by omega)), if_neg (fun q => absurd ((nI_ltI (by decide) (by omega)).mp q) (by omega)), bnd_eq, hyc, bnd_eq, ht, htc, bnd_eq, bnd_eq, if_pos h2, bnd_eq, show ∀ w : Sto, (F_MH_markSize_1 w).2 = w from fun w => by rw [F_MH_markSize_1], bnd_eq, bnd_eq, k1, htc] at hE
  exact hE.1
theorem mver_2_a {s : Sto} {pn z tl : Nat} {v2 : Int32} (h : s.1 148 3 = nI pn) (hp : pn ≤ 8) (hz : z < pn) (ht : s.1 148 1 = nI tl) (htl : tl ≤ 16384) (e : s.1 170 z = nI 5) (hc : ¬ ctx 4627 tl v2) : F_M_verify (nI z) v2 s = (nI 0, sI s 148 0 (nI 2)) := by
  have hzc : (nI z).toNatClampNeg = z := nI_clamp (by omega)
  rw [F_M_verify, bnd_eq, mnone_at h hp hz]
  dsimp only
  rw [if_pos (show nI 0 = 0 by decide), bnd_eq, hzc, e, if_neg (show ¬ nI 5 = nI 0 by decide), if_neg (show ¬ nI 5 = nI 1 by decide), if_neg (show ¬ nI 5 = nI 2 by decide), if_neg (show ¬ nI 5 = nI 3 by decide), if_neg (show ¬ nI 5 = nI 4 by decide)]
  by_cases q0 : v2 < 0
  · rw [if_pos q0, bnd_eq, bnd_eq]
  · rw [if_neg q0]
    by_cases q1 : nI 255 < v2
    · rw [if_pos q1, bnd_eq, bnd_eq]
    · obtain ⟨y, h1, rfl, h2⟩ := ctx_no hc q0 q1
      rw [if_neg q1, bnd_eq, nI_clamp (show y < 2 ^ 31 by omega), bnd_eq, ht, nI_clamp (show tl < 2 ^ 31 by omega), bnd_eq, bnd_eq, if_neg h2, bnd_eq, bnd_eq, show ∀ w : Sto, (F_MH_markSize_2 w).2 = w from fun w => by rw [F_MH_markSize_2]]
theorem mver_2_c {s t1 : Sto} {pn z tl : Nat} {v2 zz : Int32} (h : s.1 148 3 = nI pn) (hp : pn ≤ 8) (hz : z < pn) (ht : s.1 148 1 = nI tl) (htl : tl ≤ 16384) (e : s.1 170 z = nI 5) (hc : ctx 4627 tl v2) (hv : F_MH_verify_2 (153 + z) 149 v2 tl (sI s 148 0 (nI 0)) = (zz, t1)) (hb : zz = nI 1 ∨ zz = nI 0) : F_M_verify (nI z) v2 s = (zz, sI t1 148 1 (nI 0)) := by
  have hzc : (nI z).toNatClampNeg = z := nI_clamp (by omega)
  obtain ⟨y, h1, rfl, h2⟩ := hc
  have hyc : (nI y).toNatClampNeg = y := nI_clamp (by omega)
  have htc : (nI tl).toNatClampNeg = tl := nI_clamp (by omega)
  have k1 : (sI s 148 0 (nI 0)).1 148 1 = nI tl := by rw [th_off (by decide)]; exact ht
  have hzz : nI zz.toNatClampNeg = zz := by
    rcases hb with rfl | rfl
    · rw [nI_clamp (by decide)]
    · rw [nI_clamp (by decide)]
  rw [F_M_verify, bnd_eq, mnone_at h hp hz]
  dsimp only
  rw [if_pos (show nI 0 = 0 by decide), bnd_eq, hzc, e, if_neg (show ¬ nI 5 = nI 0 by decide), if_neg (show ¬ nI 5 = nI 1 by decide), if_neg (show ¬ nI 5 = nI 2 by decide), if_neg (show ¬ nI 5 = nI 3 by decide), if_neg (show ¬ nI 5 = nI 4 by decide), if_neg (nI_nneg (by omega)), if_neg (fun q => absurd ((nI_ltI (by decide) (by omega)).mp q) (by omega)), bnd_eq, hyc, bnd_eq, ht, htc, bnd_eq, bnd_eq, if_pos h2, bnd_eq, show ∀ w : Sto, (F_MH_markSize_2 w).2 = w from fun w => by rw [F_MH_markSize_2], bnd_eq, bnd_eq, k1, htc, bnd_eq, hv]
  dsimp only
  rw [bnd_eq, bnd_eq, hzz]
theorem ever_2 {s : Sto} {pn z tl : Nat} {v2 : Int32} (h : s.1 148 3 = nI pn) (hp : pn ≤ 8) (hz : z < pn) (ht : s.1 148 1 = nI tl) (htl : tl ≤ 16384) (e : s.1 170 z = nI 5) (hc : ctx 4627 tl v2) (hE : E_M_verify (nI z) v2 s) : E_MH_verify_2 (153 + z) 149 v2 tl (sI s 148 0 (nI 0)) := by
  have hzc : (nI z).toNatClampNeg = z := nI_clamp (by omega)
  obtain ⟨y, h1, rfl, h2⟩ := hc
  have hyc : (nI y).toNatClampNeg = y := nI_clamp (by omega)
  have htc : (nI tl).toNatClampNeg = tl := nI_clamp (by omega)
  have k1 : (sI s 148 0 (nI 0)).1 148 1 = nI tl := by rw [th_off (by decide)]; exact ht
  rw [E_M_verify, bnd_eq, mnone_at h hp hz] at hE
  dsimp only at hE
  rw [if_pos (show nI 0 = 0 by decide), bnd_eq, hzc, e, if_neg (show ¬ nI 5 = nI 0 by decide), if_neg (show ¬ nI 5 = nI 1 by decide), if_neg (show ¬ nI 5 = nI 2 by decide), if_neg (show ¬ nI 5 = nI 3 by decide), if_neg (show ¬ nI 5 = nI 4 by decide), if_neg (nI_nneg (by omega)), if_neg (fun q => absurd ((nI_ltI (by decide) (by omega)).mp q) (by omega)), bnd_eq, hyc, bnd_eq, ht, htc, bnd_eq, bnd_eq, if_pos h2, bnd_eq, show ∀ w : Sto, (F_MH_markSize_2 w).2 = w from fun w => by rw [F_MH_markSize_2], bnd_eq, bnd_eq, k1, htc] at hE
  exact hE.1
theorem kv3_a {z tl : Nat} {v2 : Int32} {s : Sto} (h : F_K_findDsa (nI z) s = (nI 4, s)) (h1 : s.1 0 1 = nI tl) (ht : tl ≤ 16384) (hc : ¬ ctx 2420 tl v2) : F_K_verify (nI z) v2 s = (nI 2, nI 0, s) := by
  rw [F_K_verify, bnd_eq, h]
  dsimp only
  rw [if_neg (show ¬ nI 4 = nI 0 by decide), if_pos (show nI 4 = nI 4 from rfl), bnd_eq, bnd_eq, kholds_n h1 ht hc]
  dsimp only
  rw [if_pos (show nI 0 = 0 by decide)]
theorem kv3_c {z tl : Nat} {v2 : Int32} {s : Sto} (h : F_K_findDsa (nI z) s = (nI 4, s)) (hz : z < 8) (h1 : s.1 0 1 = nI tl) (ht : tl ≤ 16384) (hc : ctx 2420 tl v2) : F_K_verify (nI z) v2 s = (nI 0, (F_DA_accepts_0 (379 + 36 * z + 10) 1 16384 tl v2 s).1, sI (F_DA_accepts_0 (379 + 36 * z + 10) 1 16384 tl v2 s).2 0 1 (nI 0)) := by
  rw [F_K_verify, bnd_eq, h]
  dsimp only
  rw [if_neg (show ¬ nI 4 = nI 0 by decide), if_pos (show nI 4 = nI 4 from rfl), bnd_eq, nI_clamp (show z < 2 ^ 31 by omega), bnd_eq, kholds_y h1 ht hc]
  dsimp only
  rw [if_neg (show ¬ nI 1 = 0 by decide), bnd_eq, h1, nI_clamp (show tl < 2 ^ 31 by omega), bnd_eq, bnd_eq, bnd_eq]
theorem ver_c3 {tl al pn z : Nat} {v2 : Int32} {s : Sto} (h : SAME tl al pn s) (hN : NB s) (hz : z < pn) (hf : F_K_findDsa (nI z) s = (nI 4, s)) (e2 : s.1 170 z = nI 3) (e4 : ∀ j, j < 1312 → s.1 (379 + 36 * z + 10) j = s.1 (153 + z) j) (hF : frm M_K_verify s (F_K_verify (nI z) v2 s).2.2) (hE : E_M_verify (nI z) v2 (F_K_verify (nI z) v2 s).2.2) : ALIKE (F_K_verify (nI z) v2 s) (F_M_verify (nI z) v2) := by
  obtain ⟨⟨a1, a2, a3⟩, ⟨b1, b2, b3⟩, ⟨c1, c2, c3⟩, d, e, f⟩ := id h
  by_cases hc : ctx 2420 tl v2
  · have hlen : 2420 ≤ tl := by obtain ⟨y, -, -, q⟩ := hc; omega
    have e1 := kv3_c hf (by omega) a1 a3 hc
    obtain ⟨s1, hs1⟩ : ∃ x, x = (F_K_verify (nI z) v2 s).2.2 := ⟨_, rfl⟩
    rw [← hs1] at hE hF
    have f1 : s1.1 148 = s.1 148 := hF 148 (by unfold M_K_verify; omega)
    have f2 : s1.1 149 = s.1 149 := hF 149 (by unfold M_K_verify; omega)
    have f3 : s1.1 170 = s.1 170 := hF 170 (by unfold M_K_verify; omega)
    have f4 : s1.1 (153 + z) = s.1 (153 + z) := hF (153 + z) (by unfold M_K_verify; omega)
    have hE1 := ever_0 (by rw [f1]; exact c2) c3 hz (by rw [f1]; exact a2) a3 (by rw [f3]; exact e2) hc hE
    obtain ⟨zz, sB_, t2, g1, g2, g3, g4, g5⟩ := dver0_same (pp := 379 + 36 * z + 10) (ptp := 1) (n := 16384) (len := tl) (qp := 153 + z) (qb := 149) (cl_ := v2) (s := s) (t := sI s1 148 0 (nI 0)) (by omega) (by omega) hlen (fun j hj => by rw [th_ne (by omega), f4]; exact e4 j hj) (fun j hj => by rw [th_ne (by decide), f2]; exact d j hj) (fun j hj => by rw [th_ne (by decide), f2]; exact hN.1 j (by omega)) hE1
    rw [g1] at e1
    dsimp only at e1
    have hs : s1 = sI sB_ 0 1 (nI 0) := by rw [hs1, e1]
    rw [e1]
    unfold ALIKE
    dsimp only
    rw [← hs, mver_0_c (by rw [f1]; exact c2) c3 hz (by rw [f1]; exact a2) a3 (by rw [f3]; exact e2) hc g2 g3]
    obtain ⟨q1, q2⟩ := ver_core (sB_ := sB_) (t2 := t2) h (fun k u => g4 k (by show ¬ (_ ∨ _); omega)) (fun k u => by rw [← hs]; exact g5 k (by show ¬ (_ ∨ _); omega))
    exact ⟨⟨0, al, pn, q1⟩, q2, fun _ => rfl⟩
  · rw [kv3_a hf a1 a3 hc]
    exact alike_fail1 h (mver_0_a c2 c3 hz a2 a3 e2 hc) (by decide)
theorem kv4_a {z tl : Nat} {v2 : Int32} {s : Sto} (h : F_K_findDsa (nI z) s = (nI 5, s)) (h1 : s.1 0 1 = nI tl) (ht : tl ≤ 16384) (hc : ¬ ctx 3309 tl v2) : F_K_verify (nI z) v2 s = (nI 2, nI 0, s) := by
  rw [F_K_verify, bnd_eq, h]
  dsimp only
  rw [if_neg (show ¬ nI 5 = nI 0 by decide), if_neg (show ¬ nI 5 = nI 4 by decide), if_pos (show nI 5 = nI 5 from rfl), bnd_eq, bnd_eq, kholds_n h1 ht hc]
  dsimp only
  rw [if_pos (show nI 0 = 0 by decide)]
theorem kv4_c {z tl : Nat} {v2 : Int32} {s : Sto} (h : F_K_findDsa (nI z) s = (nI 5, s)) (hz : z < 8) (h1 : s.1 0 1 = nI tl) (ht : tl ≤ 16384) (hc : ctx 3309 tl v2) : F_K_verify (nI z) v2 s = (nI 0, (F_DA_accepts_1 (379 + 36 * z + 13) 1 16384 tl v2 s).1, sI (F_DA_accepts_1 (379 + 36 * z + 13) 1 16384 tl v2 s).2 0 1 (nI 0)) := by
  rw [F_K_verify, bnd_eq, h]
  dsimp only
  rw [if_neg (show ¬ nI 5 = nI 0 by decide), if_neg (show ¬ nI 5 = nI 4 by decide), if_pos (show nI 5 = nI 5 from rfl), bnd_eq, nI_clamp (show z < 2 ^ 31 by omega), bnd_eq, kholds_y h1 ht hc]
  dsimp only
  rw [if_neg (show ¬ nI 1 = 0 by decide), bnd_eq, h1, nI_clamp (show tl < 2 ^ 31 by omega), bnd_eq, bnd_eq, bnd_eq]
theorem ver_c4 {tl al pn z : Nat} {v2 : Int32} {s : Sto} (h : SAME tl al pn s) (hN : NB s) (hz : z < pn) (hf : F_K_findDsa (nI z) s = (nI 5, s)) (e2 : s.1 170 z = nI 4) (e4 : ∀ j, j < 1952 → s.1 (379 + 36 * z + 13) j = s.1 (153 + z) j) (hF : frm M_K_verify s (F_K_verify (nI z) v2 s).2.2) (hE : E_M_verify (nI z) v2 (F_K_verify (nI z) v2 s).2.2) : ALIKE (F_K_verify (nI z) v2 s) (F_M_verify (nI z) v2) := by
  obtain ⟨⟨a1, a2, a3⟩, ⟨b1, b2, b3⟩, ⟨c1, c2, c3⟩, d, e, f⟩ := id h
  by_cases hc : ctx 3309 tl v2
  · have hlen : 3309 ≤ tl := by obtain ⟨y, -, -, q⟩ := hc; omega
    have e1 := kv4_c hf (by omega) a1 a3 hc
    obtain ⟨s1, hs1⟩ : ∃ x, x = (F_K_verify (nI z) v2 s).2.2 := ⟨_, rfl⟩
    rw [← hs1] at hE hF
    have f1 : s1.1 148 = s.1 148 := hF 148 (by unfold M_K_verify; omega)
    have f2 : s1.1 149 = s.1 149 := hF 149 (by unfold M_K_verify; omega)
    have f3 : s1.1 170 = s.1 170 := hF 170 (by unfold M_K_verify; omega)
    have f4 : s1.1 (153 + z) = s.1 (153 + z) := hF (153 + z) (by unfold M_K_verify; omega)
    have hE1 := ever_1 (by rw [f1]; exact c2) c3 hz (by rw [f1]; exact a2) a3 (by rw [f3]; exact e2) hc hE
    obtain ⟨zz, sB_, t2, g1, g2, g3, g4, g5⟩ := dver1_same (pp := 379 + 36 * z + 13) (ptp := 1) (n := 16384) (len := tl) (qp := 153 + z) (qb := 149) (cl_ := v2) (s := s) (t := sI s1 148 0 (nI 0)) (by omega) (by omega) hlen (fun j hj => by rw [th_ne (by omega), f4]; exact e4 j hj) (fun j hj => by rw [th_ne (by decide), f2]; exact d j hj) (fun j hj => by rw [th_ne (by decide), f2]; exact hN.1 j (by omega)) hE1
    rw [g1] at e1
    dsimp only at e1
    have hs : s1 = sI sB_ 0 1 (nI 0) := by rw [hs1, e1]
    rw [e1]
    unfold ALIKE
    dsimp only
    rw [← hs, mver_1_c (by rw [f1]; exact c2) c3 hz (by rw [f1]; exact a2) a3 (by rw [f3]; exact e2) hc g2 g3]
    obtain ⟨q1, q2⟩ := ver_core (sB_ := sB_) (t2 := t2) h (fun k u => g4 k (by show ¬ (_ ∨ _); omega)) (fun k u => by rw [← hs]; exact g5 k (by show ¬ (_ ∨ _); omega))
    exact ⟨⟨0, al, pn, q1⟩, q2, fun _ => rfl⟩
  · rw [kv4_a hf a1 a3 hc]
    exact alike_fail1 h (mver_1_a c2 c3 hz a2 a3 e2 hc) (by decide)
theorem kv5_a {z tl : Nat} {v2 : Int32} {s : Sto} (h : F_K_findDsa (nI z) s = (nI 6, s)) (h1 : s.1 0 1 = nI tl) (ht : tl ≤ 16384) (hc : ¬ ctx 4627 tl v2) : F_K_verify (nI z) v2 s = (nI 2, nI 0, s) := by
  rw [F_K_verify, bnd_eq, h]
  dsimp only
  rw [if_neg (show ¬ nI 6 = nI 0 by decide), if_neg (show ¬ nI 6 = nI 4 by decide), if_neg (show ¬ nI 6 = nI 5 by decide), if_pos (show nI 6 = nI 6 from rfl), bnd_eq, bnd_eq, kholds_n h1 ht hc]
  dsimp only
  rw [if_pos (show nI 0 = 0 by decide)]
theorem kv5_c {z tl : Nat} {v2 : Int32} {s : Sto} (h : F_K_findDsa (nI z) s = (nI 6, s)) (hz : z < 8) (h1 : s.1 0 1 = nI tl) (ht : tl ≤ 16384) (hc : ctx 4627 tl v2) : F_K_verify (nI z) v2 s = (nI 0, (F_DA_accepts_2 (379 + 36 * z + 16) 1 16384 tl v2 s).1, sI (F_DA_accepts_2 (379 + 36 * z + 16) 1 16384 tl v2 s).2 0 1 (nI 0)) := by
  rw [F_K_verify, bnd_eq, h]
  dsimp only
  rw [if_neg (show ¬ nI 6 = nI 0 by decide), if_neg (show ¬ nI 6 = nI 4 by decide), if_neg (show ¬ nI 6 = nI 5 by decide), if_pos (show nI 6 = nI 6 from rfl), bnd_eq, nI_clamp (show z < 2 ^ 31 by omega), bnd_eq, kholds_y h1 ht hc]
  dsimp only
  rw [if_neg (show ¬ nI 1 = 0 by decide), bnd_eq, h1, nI_clamp (show tl < 2 ^ 31 by omega), bnd_eq, bnd_eq, bnd_eq]
theorem ver_c5 {tl al pn z : Nat} {v2 : Int32} {s : Sto} (h : SAME tl al pn s) (hN : NB s) (hz : z < pn) (hf : F_K_findDsa (nI z) s = (nI 6, s)) (e2 : s.1 170 z = nI 5) (e4 : ∀ j, j < 2592 → s.1 (379 + 36 * z + 16) j = s.1 (153 + z) j) (hF : frm M_K_verify s (F_K_verify (nI z) v2 s).2.2) (hE : E_M_verify (nI z) v2 (F_K_verify (nI z) v2 s).2.2) : ALIKE (F_K_verify (nI z) v2 s) (F_M_verify (nI z) v2) := by
  obtain ⟨⟨a1, a2, a3⟩, ⟨b1, b2, b3⟩, ⟨c1, c2, c3⟩, d, e, f⟩ := id h
  by_cases hc : ctx 4627 tl v2
  · have hlen : 4627 ≤ tl := by obtain ⟨y, -, -, q⟩ := hc; omega
    have e1 := kv5_c hf (by omega) a1 a3 hc
    obtain ⟨s1, hs1⟩ : ∃ x, x = (F_K_verify (nI z) v2 s).2.2 := ⟨_, rfl⟩
    rw [← hs1] at hE hF
    have f1 : s1.1 148 = s.1 148 := hF 148 (by unfold M_K_verify; omega)
    have f2 : s1.1 149 = s.1 149 := hF 149 (by unfold M_K_verify; omega)
    have f3 : s1.1 170 = s.1 170 := hF 170 (by unfold M_K_verify; omega)
    have f4 : s1.1 (153 + z) = s.1 (153 + z) := hF (153 + z) (by unfold M_K_verify; omega)
    have hE1 := ever_2 (by rw [f1]; exact c2) c3 hz (by rw [f1]; exact a2) a3 (by rw [f3]; exact e2) hc hE
    obtain ⟨zz, sB_, t2, g1, g2, g3, g4, g5⟩ := dver2_same (pp := 379 + 36 * z + 16) (ptp := 1) (n := 16384) (len := tl) (qp := 153 + z) (qb := 149) (cl_ := v2) (s := s) (t := sI s1 148 0 (nI 0)) (by omega) (by omega) hlen (fun j hj => by rw [th_ne (by omega), f4]; exact e4 j hj) (fun j hj => by rw [th_ne (by decide), f2]; exact d j hj) (fun j hj => by rw [th_ne (by decide), f2]; exact hN.1 j (by omega)) hE1
    rw [g1] at e1
    dsimp only at e1
    have hs : s1 = sI sB_ 0 1 (nI 0) := by rw [hs1, e1]
    rw [e1]
    unfold ALIKE
    dsimp only
    rw [← hs, mver_2_c (by rw [f1]; exact c2) c3 hz (by rw [f1]; exact a2) a3 (by rw [f3]; exact e2) hc g2 g3]
    obtain ⟨q1, q2⟩ := ver_core (sB_ := sB_) (t2 := t2) h (fun k u => g4 k (by show ¬ (_ ∨ _); omega)) (fun k u => by rw [← hs]; exact g5 k (by show ¬ (_ ∨ _); omega))
    exact ⟨⟨0, al, pn, q1⟩, q2, fun _ => rfl⟩
  · rw [kv5_a hf a1 a3 hc]
    exact alike_fail1 h (mver_2_a c2 c3 hz a2 a3 e2 hc) (by decide)
theorem kv9_a {z tl : Nat} {v2 : Int32} {s : Sto} (h : F_K_findDsa (nI z) s = (nI 10, s)) (h1 : s.1 0 1 = nI tl) (ht : tl ≤ 16384) (hc : ¬ ctx 2420 tl v2) : F_K_verify (nI z) v2 s = (nI 2, nI 0, s) := by
  rw [F_K_verify, bnd_eq, h]
  dsimp only
  rw [if_neg (show ¬ nI 10 = nI 0 by decide), if_neg (show ¬ nI 10 = nI 4 by decide), if_neg (show ¬ nI 10 = nI 5 by decide), if_neg (show ¬ nI 10 = nI 6 by decide), if_pos (show nI 10 = nI 10 from rfl), bnd_eq, bnd_eq, kholds_n h1 ht hc]
  dsimp only
  rw [if_pos (show nI 0 = 0 by decide)]
theorem kv9_c {z tl : Nat} {v2 : Int32} {s : Sto} (h : F_K_findDsa (nI z) s = (nI 10, s)) (hz : z < 8) (h1 : s.1 0 1 = nI tl) (ht : tl ≤ 16384) (hc : ctx 2420 tl v2) : F_K_verify (nI z) v2 s = (nI 0, (F_DA_accepts_0 (379 + 36 * z + 28) 1 16384 tl v2 s).1, sI (F_DA_accepts_0 (379 + 36 * z + 28) 1 16384 tl v2 s).2 0 1 (nI 0)) := by
  rw [F_K_verify, bnd_eq, h]
  dsimp only
  rw [if_neg (show ¬ nI 10 = nI 0 by decide), if_neg (show ¬ nI 10 = nI 4 by decide), if_neg (show ¬ nI 10 = nI 5 by decide), if_neg (show ¬ nI 10 = nI 6 by decide), if_pos (show nI 10 = nI 10 from rfl), bnd_eq, nI_clamp (show z < 2 ^ 31 by omega), bnd_eq, kholds_y h1 ht hc]
  dsimp only
  rw [if_neg (show ¬ nI 1 = 0 by decide), bnd_eq, h1, nI_clamp (show tl < 2 ^ 31 by omega), bnd_eq, bnd_eq, bnd_eq]
theorem ver_c9 {tl al pn z : Nat} {v2 : Int32} {s : Sto} (h : SAME tl al pn s) (hN : NB s) (hz : z < pn) (hf : F_K_findDsa (nI z) s = (nI 10, s)) (e2 : s.1 170 z = nI 3) (e4 : ∀ j, j < 1312 → s.1 (379 + 36 * z + 28) j = s.1 (153 + z) j) (hF : frm M_K_verify s (F_K_verify (nI z) v2 s).2.2) (hE : E_M_verify (nI z) v2 (F_K_verify (nI z) v2 s).2.2) : ALIKE (F_K_verify (nI z) v2 s) (F_M_verify (nI z) v2) := by
  obtain ⟨⟨a1, a2, a3⟩, ⟨b1, b2, b3⟩, ⟨c1, c2, c3⟩, d, e, f⟩ := id h
  by_cases hc : ctx 2420 tl v2
  · have hlen : 2420 ≤ tl := by obtain ⟨y, -, -, q⟩ := hc; omega
    have e1 := kv9_c hf (by omega) a1 a3 hc
    obtain ⟨s1, hs1⟩ : ∃ x, x = (F_K_verify (nI z) v2 s).2.2 := ⟨_, rfl⟩
    rw [← hs1] at hE hF
    have f1 : s1.1 148 = s.1 148 := hF 148 (by unfold M_K_verify; omega)
    have f2 : s1.1 149 = s.1 149 := hF 149 (by unfold M_K_verify; omega)
    have f3 : s1.1 170 = s.1 170 := hF 170 (by unfold M_K_verify; omega)
    have f4 : s1.1 (153 + z) = s.1 (153 + z) := hF (153 + z) (by unfold M_K_verify; omega)
    have hE1 := ever_0 (by rw [f1]; exact c2) c3 hz (by rw [f1]; exact a2) a3 (by rw [f3]; exact e2) hc hE
    obtain ⟨zz, sB_, t2, g1, g2, g3, g4, g5⟩ := dver0_same (pp := 379 + 36 * z + 28) (ptp := 1) (n := 16384) (len := tl) (qp := 153 + z) (qb := 149) (cl_ := v2) (s := s) (t := sI s1 148 0 (nI 0)) (by omega) (by omega) hlen (fun j hj => by rw [th_ne (by omega), f4]; exact e4 j hj) (fun j hj => by rw [th_ne (by decide), f2]; exact d j hj) (fun j hj => by rw [th_ne (by decide), f2]; exact hN.1 j (by omega)) hE1
    rw [g1] at e1
    dsimp only at e1
    have hs : s1 = sI sB_ 0 1 (nI 0) := by rw [hs1, e1]
    rw [e1]
    unfold ALIKE
    dsimp only
    rw [← hs, mver_0_c (by rw [f1]; exact c2) c3 hz (by rw [f1]; exact a2) a3 (by rw [f3]; exact e2) hc g2 g3]
    obtain ⟨q1, q2⟩ := ver_core (sB_ := sB_) (t2 := t2) h (fun k u => g4 k (by show ¬ (_ ∨ _); omega)) (fun k u => by rw [← hs]; exact g5 k (by show ¬ (_ ∨ _); omega))
    exact ⟨⟨0, al, pn, q1⟩, q2, fun _ => rfl⟩
  · rw [kv9_a hf a1 a3 hc]
    exact alike_fail1 h (mver_0_a c2 c3 hz a2 a3 e2 hc) (by decide)
theorem kv10_a {z tl : Nat} {v2 : Int32} {s : Sto} (h : F_K_findDsa (nI z) s = (nI 11, s)) (h1 : s.1 0 1 = nI tl) (ht : tl ≤ 16384) (hc : ¬ ctx 3309 tl v2) : F_K_verify (nI z) v2 s = (nI 2, nI 0, s) := by
  rw [F_K_verify, bnd_eq, h]
  dsimp only
  rw [if_neg (show ¬ nI 11 = nI 0 by decide), if_neg (show ¬ nI 11 = nI 4 by decide), if_neg (show ¬ nI 11 = nI 5 by decide), if_neg (show ¬ nI 11 = nI 6 by decide), if_neg (show ¬ nI 11 = nI 10 by decide), if_pos (show nI 11 = nI 11 from rfl), bnd_eq, bnd_eq, kholds_n h1 ht hc]
  dsimp only
  rw [if_pos (show nI 0 = 0 by decide)]
theorem kv10_c {z tl : Nat} {v2 : Int32} {s : Sto} (h : F_K_findDsa (nI z) s = (nI 11, s)) (hz : z < 8) (h1 : s.1 0 1 = nI tl) (ht : tl ≤ 16384) (hc : ctx 3309 tl v2) : F_K_verify (nI z) v2 s = (nI 0, (F_DA_accepts_1 (379 + 36 * z + 31) 1 16384 tl v2 s).1, sI (F_DA_accepts_1 (379 + 36 * z + 31) 1 16384 tl v2 s).2 0 1 (nI 0)) := by
  rw [F_K_verify, bnd_eq, h]
  dsimp only
  rw [if_neg (show ¬ nI 11 = nI 0 by decide), if_neg (show ¬ nI 11 = nI 4 by decide), if_neg (show ¬ nI 11 = nI 5 by decide), if_neg (show ¬ nI 11 = nI 6 by decide), if_neg (show ¬ nI 11 = nI 10 by decide), if_pos (show nI 11 = nI 11 from rfl), bnd_eq, nI_clamp (show z < 2 ^ 31 by omega), bnd_eq, kholds_y h1 ht hc]
  dsimp only
  rw [if_neg (show ¬ nI 1 = 0 by decide), bnd_eq, h1, nI_clamp (show tl < 2 ^ 31 by omega), bnd_eq, bnd_eq, bnd_eq]
theorem ver_c10 {tl al pn z : Nat} {v2 : Int32} {s : Sto} (h : SAME tl al pn s) (hN : NB s) (hz : z < pn) (hf : F_K_findDsa (nI z) s = (nI 11, s)) (e2 : s.1 170 z = nI 4) (e4 : ∀ j, j < 1952 → s.1 (379 + 36 * z + 31) j = s.1 (153 + z) j) (hF : frm M_K_verify s (F_K_verify (nI z) v2 s).2.2) (hE : E_M_verify (nI z) v2 (F_K_verify (nI z) v2 s).2.2) : ALIKE (F_K_verify (nI z) v2 s) (F_M_verify (nI z) v2) := by
  obtain ⟨⟨a1, a2, a3⟩, ⟨b1, b2, b3⟩, ⟨c1, c2, c3⟩, d, e, f⟩ := id h
  by_cases hc : ctx 3309 tl v2
  · have hlen : 3309 ≤ tl := by obtain ⟨y, -, -, q⟩ := hc; omega
    have e1 := kv10_c hf (by omega) a1 a3 hc
    obtain ⟨s1, hs1⟩ : ∃ x, x = (F_K_verify (nI z) v2 s).2.2 := ⟨_, rfl⟩
    rw [← hs1] at hE hF
    have f1 : s1.1 148 = s.1 148 := hF 148 (by unfold M_K_verify; omega)
    have f2 : s1.1 149 = s.1 149 := hF 149 (by unfold M_K_verify; omega)
    have f3 : s1.1 170 = s.1 170 := hF 170 (by unfold M_K_verify; omega)
    have f4 : s1.1 (153 + z) = s.1 (153 + z) := hF (153 + z) (by unfold M_K_verify; omega)
    have hE1 := ever_1 (by rw [f1]; exact c2) c3 hz (by rw [f1]; exact a2) a3 (by rw [f3]; exact e2) hc hE
    obtain ⟨zz, sB_, t2, g1, g2, g3, g4, g5⟩ := dver1_same (pp := 379 + 36 * z + 31) (ptp := 1) (n := 16384) (len := tl) (qp := 153 + z) (qb := 149) (cl_ := v2) (s := s) (t := sI s1 148 0 (nI 0)) (by omega) (by omega) hlen (fun j hj => by rw [th_ne (by omega), f4]; exact e4 j hj) (fun j hj => by rw [th_ne (by decide), f2]; exact d j hj) (fun j hj => by rw [th_ne (by decide), f2]; exact hN.1 j (by omega)) hE1
    rw [g1] at e1
    dsimp only at e1
    have hs : s1 = sI sB_ 0 1 (nI 0) := by rw [hs1, e1]
    rw [e1]
    unfold ALIKE
    dsimp only
    rw [← hs, mver_1_c (by rw [f1]; exact c2) c3 hz (by rw [f1]; exact a2) a3 (by rw [f3]; exact e2) hc g2 g3]
    obtain ⟨q1, q2⟩ := ver_core (sB_ := sB_) (t2 := t2) h (fun k u => g4 k (by show ¬ (_ ∨ _); omega)) (fun k u => by rw [← hs]; exact g5 k (by show ¬ (_ ∨ _); omega))
    exact ⟨⟨0, al, pn, q1⟩, q2, fun _ => rfl⟩
  · rw [kv10_a hf a1 a3 hc]
    exact alike_fail1 h (mver_1_a c2 c3 hz a2 a3 e2 hc) (by decide)
theorem kv11_a {z tl : Nat} {v2 : Int32} {s : Sto} (h : F_K_findDsa (nI z) s = (nI 12, s)) (h1 : s.1 0 1 = nI tl) (ht : tl ≤ 16384) (hc : ¬ ctx 4627 tl v2) : F_K_verify (nI z) v2 s = (nI 2, nI 0, s) := by
  rw [F_K_verify, bnd_eq, h]
  dsimp only
  rw [if_neg (show ¬ nI 12 = nI 0 by decide), if_neg (show ¬ nI 12 = nI 4 by decide), if_neg (show ¬ nI 12 = nI 5 by decide), if_neg (show ¬ nI 12 = nI 6 by decide), if_neg (show ¬ nI 12 = nI 10 by decide), if_neg (show ¬ nI 12 = nI 11 by decide), if_pos (show nI 12 = nI 12 from rfl), bnd_eq, bnd_eq, kholds_n h1 ht hc]
  dsimp only
  rw [if_pos (show nI 0 = 0 by decide)]
theorem kv11_c {z tl : Nat} {v2 : Int32} {s : Sto} (h : F_K_findDsa (nI z) s = (nI 12, s)) (hz : z < 8) (h1 : s.1 0 1 = nI tl) (ht : tl ≤ 16384) (hc : ctx 4627 tl v2) : F_K_verify (nI z) v2 s = (nI 0, (F_DA_accepts_2 (379 + 36 * z + 34) 1 16384 tl v2 s).1, sI (F_DA_accepts_2 (379 + 36 * z + 34) 1 16384 tl v2 s).2 0 1 (nI 0)) := by
  rw [F_K_verify, bnd_eq, h]
  dsimp only
  rw [if_neg (show ¬ nI 12 = nI 0 by decide), if_neg (show ¬ nI 12 = nI 4 by decide), if_neg (show ¬ nI 12 = nI 5 by decide), if_neg (show ¬ nI 12 = nI 6 by decide), if_neg (show ¬ nI 12 = nI 10 by decide), if_neg (show ¬ nI 12 = nI 11 by decide), if_pos (show nI 12 = nI 12 from rfl), bnd_eq, nI_clamp (show z < 2 ^ 31 by omega), bnd_eq, kholds_y h1 ht hc]
  dsimp only
  rw [if_neg (show ¬ nI 1 = 0 by decide), bnd_eq, h1, nI_clamp (show tl < 2 ^ 31 by omega), bnd_eq, bnd_eq, bnd_eq]
theorem ver_c11 {tl al pn z : Nat} {v2 : Int32} {s : Sto} (h : SAME tl al pn s) (hN : NB s) (hz : z < pn) (hf : F_K_findDsa (nI z) s = (nI 12, s)) (e2 : s.1 170 z = nI 5) (e4 : ∀ j, j < 2592 → s.1 (379 + 36 * z + 34) j = s.1 (153 + z) j) (hF : frm M_K_verify s (F_K_verify (nI z) v2 s).2.2) (hE : E_M_verify (nI z) v2 (F_K_verify (nI z) v2 s).2.2) : ALIKE (F_K_verify (nI z) v2 s) (F_M_verify (nI z) v2) := by
  obtain ⟨⟨a1, a2, a3⟩, ⟨b1, b2, b3⟩, ⟨c1, c2, c3⟩, d, e, f⟩ := id h
  by_cases hc : ctx 4627 tl v2
  · have hlen : 4627 ≤ tl := by obtain ⟨y, -, -, q⟩ := hc; omega
    have e1 := kv11_c hf (by omega) a1 a3 hc
    obtain ⟨s1, hs1⟩ : ∃ x, x = (F_K_verify (nI z) v2 s).2.2 := ⟨_, rfl⟩
    rw [← hs1] at hE hF
    have f1 : s1.1 148 = s.1 148 := hF 148 (by unfold M_K_verify; omega)
    have f2 : s1.1 149 = s.1 149 := hF 149 (by unfold M_K_verify; omega)
    have f3 : s1.1 170 = s.1 170 := hF 170 (by unfold M_K_verify; omega)
    have f4 : s1.1 (153 + z) = s.1 (153 + z) := hF (153 + z) (by unfold M_K_verify; omega)
    have hE1 := ever_2 (by rw [f1]; exact c2) c3 hz (by rw [f1]; exact a2) a3 (by rw [f3]; exact e2) hc hE
    obtain ⟨zz, sB_, t2, g1, g2, g3, g4, g5⟩ := dver2_same (pp := 379 + 36 * z + 34) (ptp := 1) (n := 16384) (len := tl) (qp := 153 + z) (qb := 149) (cl_ := v2) (s := s) (t := sI s1 148 0 (nI 0)) (by omega) (by omega) hlen (fun j hj => by rw [th_ne (by omega), f4]; exact e4 j hj) (fun j hj => by rw [th_ne (by decide), f2]; exact d j hj) (fun j hj => by rw [th_ne (by decide), f2]; exact hN.1 j (by omega)) hE1
    rw [g1] at e1
    dsimp only at e1
    have hs : s1 = sI sB_ 0 1 (nI 0) := by rw [hs1, e1]
    rw [e1]
    unfold ALIKE
    dsimp only
    rw [← hs, mver_2_c (by rw [f1]; exact c2) c3 hz (by rw [f1]; exact a2) a3 (by rw [f3]; exact e2) hc g2 g3]
    obtain ⟨q1, q2⟩ := ver_core (sB_ := sB_) (t2 := t2) h (fun k u => g4 k (by show ¬ (_ ∨ _); omega)) (fun k u => by rw [← hs]; exact g5 k (by show ¬ (_ ∨ _); omega))
    exact ⟨⟨0, al, pn, q1⟩, q2, fun _ => rfl⟩
  · rw [kv11_a hf a1 a3 hc]
    exact alike_fail1 h (mver_2_a c2 c3 hz a2 a3 e2 hc) (by decide)
theorem verify_alike {tl al pn : Nat} {v v2 : Int32} {s : Sto} (h : SAME tl al pn s) (hN : NB s) (hF : frm M_K_verify s (F_K_verify v v2 s).2.2) (hE : E_M_verify v v2 (F_K_verify v v2 s).2.2) : ALIKE (F_K_verify v v2 s) (F_M_verify v v2) := by
  obtain ⟨-, -, ⟨h1, h2, h3⟩, -, -, hp⟩ := id h
  by_cases hv : v < 0 ∨ ¬ v < nI pn
  · rw [kverN (kfd0 (kfind_no h1 h3 hv))]
    exact alike_fail1 h (mver_n h2 h3 hv) (by decide)
  · obtain ⟨z, hz, rfl⟩ := i32_out hv (by omega)
    obtain ⟨c, hc, e1, e2, -, e4, -⟩ := hp z hz
    have hf : F_K_find (nI z) s = (nI (c + 1), s) := by rw [kfind_at h1 h3 hz, e1]
    have h9 : c = 0 ∨ c = 1 ∨ c = 2 ∨ c = 3 ∨ c = 4 ∨ c = 5 ∨ c = 6 ∨ c = 7 ∨ c = 8 ∨ c = 9 ∨ c = 10 ∨ c = 11 := by omega
    rcases h9 with rfl | rfl | rfl | rfl | rfl | rfl | rfl | rfl | rfl | rfl | rfl | rfl
    · rw [kverN (kfd_0 hf)]
      exact alike_fail1 h (mver_k (J := 0) h2 h3 hz e2 (by decide)) (by decide)
    · rw [kverN (kfd_1 hf)]
      exact alike_fail1 h (mver_k (J := 1) h2 h3 hz e2 (by decide)) (by decide)
    · rw [kverN (kfd_2 hf)]
      exact alike_fail1 h (mver_k (J := 2) h2 h3 hz e2 (by decide)) (by decide)
    · exact ver_c3 h hN hz (kfd_3 hf) e2 e4 hF hE
    · exact ver_c4 h hN hz (kfd_4 hf) e2 e4 hF hE
    · exact ver_c5 h hN hz (kfd_5 hf) e2 e4 hF hE
    · rw [kverN (kfd_6 hf)]
      exact alike_fail1 h (mver_k (J := 0) h2 h3 hz e2 (by decide)) (by decide)
    · rw [kverN (kfd_7 hf)]
      exact alike_fail1 h (mver_k (J := 1) h2 h3 hz e2 (by decide)) (by decide)
    · rw [kverN (kfd_8 hf)]
      exact alike_fail1 h (mver_k (J := 2) h2 h3 hz e2 (by decide)) (by decide)
    · exact ver_c9 h hN hz (kfd_9 hf) e2 e4 hF hE
    · exact ver_c10 h hN hz (kfd_10 hf) e2 e4 hF hE
    · exact ver_c11 h hN hz (kfd_11 hf) e2 e4 hF hE
