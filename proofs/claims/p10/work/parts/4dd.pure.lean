set_option linter.all false
/-- show -/
def showv (n nm : Nat) (s : Sto) : Int32 × Int32 × Sto := if n = 0 then (nI 1, nI 0, s) else (nI 0, nI n, sI (sC s nm 2 0 0 n) 0 3 (nI n))
theorem kshN {v sc : Int32} {s : Sto} (h : F_K_partOf v sc s = (nI 0, s)) : F_K_show v sc s = (nI 1, nI 0, s) := by
  rw [F_K_show, bnd_eq, h]
  dsimp only
  by_cases q : sc = 0
  · rw [if_pos q, if_pos (show nI 0 = nI 0 from rfl)]
  · rw [if_neg q, if_pos (show nI 0 = nI 0 from rfl)]
theorem ksp0 {v sc : Int32} {s : Sto} (h : F_K_partOf v sc s = (nI 1, s)) (q : sc = 0) : F_K_show v sc s = showv 800 (379 + 36 * v.toNatClampNeg + 1) s := by
  rw [F_K_show, bnd_eq, h]
  dsimp only
  rw [if_pos q, if_neg (show ¬ nI 1 = nI 0 by decide), if_pos (show nI 1 = nI 1 from rfl), bnd_eq, bnd_eq, bnd_eq, bnd_eq, th_at, nI_clamp (by decide), showv, if_neg (show ¬ (800 : Nat) = 0 by decide)]
theorem kss0 {v sc : Int32} {s : Sto} (h : F_K_partOf v sc s = (nI 1, s)) (q : ¬ sc = 0) : F_K_show v sc s = showv 1632 (379 + 36 * v.toNatClampNeg + 2) s := by
  rw [F_K_show, bnd_eq, h]
  dsimp only
  rw [if_neg q, if_neg (show ¬ nI 1 = nI 0 by decide), if_pos (show nI 1 = nI 1 from rfl), bnd_eq, bnd_eq, bnd_eq, bnd_eq, th_at, nI_clamp (by decide), showv, if_neg (show ¬ (1632 : Nat) = 0 by decide)]
theorem ksp1 {v sc : Int32} {s : Sto} (h : F_K_partOf v sc s = (nI 2, s)) (q : sc = 0) : F_K_show v sc s = showv 1184 (379 + 36 * v.toNatClampNeg + 4) s := by
  rw [F_K_show, bnd_eq, h]
  dsimp only
  rw [if_pos q, if_neg (show ¬ nI 2 = nI 0 by decide), if_neg (show ¬ nI 2 = nI 1 by decide), if_pos (show nI 2 = nI 2 from rfl), bnd_eq, bnd_eq, bnd_eq, bnd_eq, th_at, nI_clamp (by decide), showv, if_neg (show ¬ (1184 : Nat) = 0 by decide)]
theorem kss1 {v sc : Int32} {s : Sto} (h : F_K_partOf v sc s = (nI 2, s)) (q : ¬ sc = 0) : F_K_show v sc s = showv 2400 (379 + 36 * v.toNatClampNeg + 5) s := by
  rw [F_K_show, bnd_eq, h]
  dsimp only
  rw [if_neg q, if_neg (show ¬ nI 2 = nI 0 by decide), if_neg (show ¬ nI 2 = nI 1 by decide), if_pos (show nI 2 = nI 2 from rfl), bnd_eq, bnd_eq, bnd_eq, bnd_eq, th_at, nI_clamp (by decide), showv, if_neg (show ¬ (2400 : Nat) = 0 by decide)]
theorem ksp2 {v sc : Int32} {s : Sto} (h : F_K_partOf v sc s = (nI 3, s)) (q : sc = 0) : F_K_show v sc s = showv 1568 (379 + 36 * v.toNatClampNeg + 7) s := by
  rw [F_K_show, bnd_eq, h]
  dsimp only
  rw [if_pos q, if_neg (show ¬ nI 3 = nI 0 by decide), if_neg (show ¬ nI 3 = nI 1 by decide), if_neg (show ¬ nI 3 = nI 2 by decide), if_pos (show nI 3 = nI 3 from rfl), bnd_eq, bnd_eq, bnd_eq, bnd_eq, th_at, nI_clamp (by decide), showv, if_neg (show ¬ (1568 : Nat) = 0 by decide)]
theorem kss2 {v sc : Int32} {s : Sto} (h : F_K_partOf v sc s = (nI 3, s)) (q : ¬ sc = 0) : F_K_show v sc s = showv 3168 (379 + 36 * v.toNatClampNeg + 8) s := by
  rw [F_K_show, bnd_eq, h]
  dsimp only
  rw [if_neg q, if_neg (show ¬ nI 3 = nI 0 by decide), if_neg (show ¬ nI 3 = nI 1 by decide), if_neg (show ¬ nI 3 = nI 2 by decide), if_pos (show nI 3 = nI 3 from rfl), bnd_eq, bnd_eq, bnd_eq, bnd_eq, th_at, nI_clamp (by decide), showv, if_neg (show ¬ (3168 : Nat) = 0 by decide)]
theorem ksp3 {v sc : Int32} {s : Sto} (h : F_K_partOf v sc s = (nI 4, s)) (q : sc = 0) : F_K_show v sc s = showv 1312 (379 + 36 * v.toNatClampNeg + 10) s := by
  rw [F_K_show, bnd_eq, h]
  dsimp only
  rw [if_pos q, if_neg (show ¬ nI 4 = nI 0 by decide), if_neg (show ¬ nI 4 = nI 1 by decide), if_neg (show ¬ nI 4 = nI 2 by decide), if_neg (show ¬ nI 4 = nI 3 by decide), if_pos (show nI 4 = nI 4 from rfl), bnd_eq, bnd_eq, bnd_eq, bnd_eq, th_at, nI_clamp (by decide), showv, if_neg (show ¬ (1312 : Nat) = 0 by decide)]
theorem kss3 {v sc : Int32} {s : Sto} (h : F_K_partOf v sc s = (nI 4, s)) (q : ¬ sc = 0) : F_K_show v sc s = showv 2560 (379 + 36 * v.toNatClampNeg + 11) s := by
  rw [F_K_show, bnd_eq, h]
  dsimp only
  rw [if_neg q, if_neg (show ¬ nI 4 = nI 0 by decide), if_neg (show ¬ nI 4 = nI 1 by decide), if_neg (show ¬ nI 4 = nI 2 by decide), if_neg (show ¬ nI 4 = nI 3 by decide), if_pos (show nI 4 = nI 4 from rfl), bnd_eq, bnd_eq, bnd_eq, bnd_eq, th_at, nI_clamp (by decide), showv, if_neg (show ¬ (2560 : Nat) = 0 by decide)]
theorem ksp4 {v sc : Int32} {s : Sto} (h : F_K_partOf v sc s = (nI 5, s)) (q : sc = 0) : F_K_show v sc s = showv 1952 (379 + 36 * v.toNatClampNeg + 13) s := by
  rw [F_K_show, bnd_eq, h]
  dsimp only
  rw [if_pos q, if_neg (show ¬ nI 5 = nI 0 by decide), if_neg (show ¬ nI 5 = nI 1 by decide), if_neg (show ¬ nI 5 = nI 2 by decide), if_neg (show ¬ nI 5 = nI 3 by decide), if_neg (show ¬ nI 5 = nI 4 by decide), if_pos (show nI 5 = nI 5 from rfl), bnd_eq, bnd_eq, bnd_eq, bnd_eq, th_at, nI_clamp (by decide), showv, if_neg (show ¬ (1952 : Nat) = 0 by decide)]
theorem kss4 {v sc : Int32} {s : Sto} (h : F_K_partOf v sc s = (nI 5, s)) (q : ¬ sc = 0) : F_K_show v sc s = showv 4032 (379 + 36 * v.toNatClampNeg + 14) s := by
  rw [F_K_show, bnd_eq, h]
  dsimp only
  rw [if_neg q, if_neg (show ¬ nI 5 = nI 0 by decide), if_neg (show ¬ nI 5 = nI 1 by decide), if_neg (show ¬ nI 5 = nI 2 by decide), if_neg (show ¬ nI 5 = nI 3 by decide), if_neg (show ¬ nI 5 = nI 4 by decide), if_pos (show nI 5 = nI 5 from rfl), bnd_eq, bnd_eq, bnd_eq, bnd_eq, th_at, nI_clamp (by decide), showv, if_neg (show ¬ (4032 : Nat) = 0 by decide)]
theorem ksp5 {v sc : Int32} {s : Sto} (h : F_K_partOf v sc s = (nI 6, s)) (q : sc = 0) : F_K_show v sc s = showv 2592 (379 + 36 * v.toNatClampNeg + 16) s := by
  rw [F_K_show, bnd_eq, h]
  dsimp only
  rw [if_pos q, if_neg (show ¬ nI 6 = nI 0 by decide), if_neg (show ¬ nI 6 = nI 1 by decide), if_neg (show ¬ nI 6 = nI 2 by decide), if_neg (show ¬ nI 6 = nI 3 by decide), if_neg (show ¬ nI 6 = nI 4 by decide), if_neg (show ¬ nI 6 = nI 5 by decide), if_pos (show nI 6 = nI 6 from rfl), bnd_eq, bnd_eq, bnd_eq, bnd_eq, th_at, nI_clamp (by decide), showv, if_neg (show ¬ (2592 : Nat) = 0 by decide)]
theorem kss5 {v sc : Int32} {s : Sto} (h : F_K_partOf v sc s = (nI 6, s)) (q : ¬ sc = 0) : F_K_show v sc s = showv 4896 (379 + 36 * v.toNatClampNeg + 17) s := by
  rw [F_K_show, bnd_eq, h]
  dsimp only
  rw [if_neg q, if_neg (show ¬ nI 6 = nI 0 by decide), if_neg (show ¬ nI 6 = nI 1 by decide), if_neg (show ¬ nI 6 = nI 2 by decide), if_neg (show ¬ nI 6 = nI 3 by decide), if_neg (show ¬ nI 6 = nI 4 by decide), if_neg (show ¬ nI 6 = nI 5 by decide), if_pos (show nI 6 = nI 6 from rfl), bnd_eq, bnd_eq, bnd_eq, bnd_eq, th_at, nI_clamp (by decide), showv, if_neg (show ¬ (4896 : Nat) = 0 by decide)]
theorem ksp6 {v sc : Int32} {s : Sto} (h : F_K_partOf v sc s = (nI 7, s)) (q : sc = 0) : F_K_show v sc s = showv 800 (379 + 36 * v.toNatClampNeg + 19) s := by
  rw [F_K_show, bnd_eq, h]
  dsimp only
  rw [if_pos q, if_neg (show ¬ nI 7 = nI 0 by decide), if_neg (show ¬ nI 7 = nI 1 by decide), if_neg (show ¬ nI 7 = nI 2 by decide), if_neg (show ¬ nI 7 = nI 3 by decide), if_neg (show ¬ nI 7 = nI 4 by decide), if_neg (show ¬ nI 7 = nI 5 by decide), if_neg (show ¬ nI 7 = nI 6 by decide), if_pos (show nI 7 = nI 7 from rfl), bnd_eq, bnd_eq, bnd_eq, bnd_eq, th_at, nI_clamp (by decide), showv, if_neg (show ¬ (800 : Nat) = 0 by decide)]
theorem ksp7 {v sc : Int32} {s : Sto} (h : F_K_partOf v sc s = (nI 8, s)) (q : sc = 0) : F_K_show v sc s = showv 1184 (379 + 36 * v.toNatClampNeg + 22) s := by
  rw [F_K_show, bnd_eq, h]
  dsimp only
  rw [if_pos q, if_neg (show ¬ nI 8 = nI 0 by decide), if_neg (show ¬ nI 8 = nI 1 by decide), if_neg (show ¬ nI 8 = nI 2 by decide), if_neg (show ¬ nI 8 = nI 3 by decide), if_neg (show ¬ nI 8 = nI 4 by decide), if_neg (show ¬ nI 8 = nI 5 by decide), if_neg (show ¬ nI 8 = nI 6 by decide), if_neg (show ¬ nI 8 = nI 7 by decide), if_pos (show nI 8 = nI 8 from rfl), bnd_eq, bnd_eq, bnd_eq, bnd_eq, th_at, nI_clamp (by decide), showv, if_neg (show ¬ (1184 : Nat) = 0 by decide)]
theorem ksp8 {v sc : Int32} {s : Sto} (h : F_K_partOf v sc s = (nI 9, s)) (q : sc = 0) : F_K_show v sc s = showv 1568 (379 + 36 * v.toNatClampNeg + 25) s := by
  rw [F_K_show, bnd_eq, h]
  dsimp only
  rw [if_pos q, if_neg (show ¬ nI 9 = nI 0 by decide), if_neg (show ¬ nI 9 = nI 1 by decide), if_neg (show ¬ nI 9 = nI 2 by decide), if_neg (show ¬ nI 9 = nI 3 by decide), if_neg (show ¬ nI 9 = nI 4 by decide), if_neg (show ¬ nI 9 = nI 5 by decide), if_neg (show ¬ nI 9 = nI 6 by decide), if_neg (show ¬ nI 9 = nI 7 by decide), if_neg (show ¬ nI 9 = nI 8 by decide), if_pos (show nI 9 = nI 9 from rfl), bnd_eq, bnd_eq, bnd_eq, bnd_eq, th_at, nI_clamp (by decide), showv, if_neg (show ¬ (1568 : Nat) = 0 by decide)]
theorem ksp9 {v sc : Int32} {s : Sto} (h : F_K_partOf v sc s = (nI 10, s)) (q : sc = 0) : F_K_show v sc s = showv 1312 (379 + 36 * v.toNatClampNeg + 28) s := by
  rw [F_K_show, bnd_eq, h]
  dsimp only
  rw [if_pos q, if_neg (show ¬ nI 10 = nI 0 by decide), if_neg (show ¬ nI 10 = nI 1 by decide), if_neg (show ¬ nI 10 = nI 2 by decide), if_neg (show ¬ nI 10 = nI 3 by decide), if_neg (show ¬ nI 10 = nI 4 by decide), if_neg (show ¬ nI 10 = nI 5 by decide), if_neg (show ¬ nI 10 = nI 6 by decide), if_neg (show ¬ nI 10 = nI 7 by decide), if_neg (show ¬ nI 10 = nI 8 by decide), if_neg (show ¬ nI 10 = nI 9 by decide), if_pos (show nI 10 = nI 10 from rfl), bnd_eq, bnd_eq, bnd_eq, bnd_eq, th_at, nI_clamp (by decide), showv, if_neg (show ¬ (1312 : Nat) = 0 by decide)]
theorem ksp10 {v sc : Int32} {s : Sto} (h : F_K_partOf v sc s = (nI 11, s)) (q : sc = 0) : F_K_show v sc s = showv 1952 (379 + 36 * v.toNatClampNeg + 31) s := by
  rw [F_K_show, bnd_eq, h]
  dsimp only
  rw [if_pos q, if_neg (show ¬ nI 11 = nI 0 by decide), if_neg (show ¬ nI 11 = nI 1 by decide), if_neg (show ¬ nI 11 = nI 2 by decide), if_neg (show ¬ nI 11 = nI 3 by decide), if_neg (show ¬ nI 11 = nI 4 by decide), if_neg (show ¬ nI 11 = nI 5 by decide), if_neg (show ¬ nI 11 = nI 6 by decide), if_neg (show ¬ nI 11 = nI 7 by decide), if_neg (show ¬ nI 11 = nI 8 by decide), if_neg (show ¬ nI 11 = nI 9 by decide), if_neg (show ¬ nI 11 = nI 10 by decide), if_pos (show nI 11 = nI 11 from rfl), bnd_eq, bnd_eq, bnd_eq, bnd_eq, th_at, nI_clamp (by decide), showv, if_neg (show ¬ (1952 : Nat) = 0 by decide)]
theorem ksp11 {v sc : Int32} {s : Sto} (h : F_K_partOf v sc s = (nI 12, s)) (q : sc = 0) : F_K_show v sc s = showv 2592 (379 + 36 * v.toNatClampNeg + 34) s := by
  rw [F_K_show, bnd_eq, h]
  dsimp only
  rw [if_pos q, if_neg (show ¬ nI 12 = nI 0 by decide), if_neg (show ¬ nI 12 = nI 1 by decide), if_neg (show ¬ nI 12 = nI 2 by decide), if_neg (show ¬ nI 12 = nI 3 by decide), if_neg (show ¬ nI 12 = nI 4 by decide), if_neg (show ¬ nI 12 = nI 5 by decide), if_neg (show ¬ nI 12 = nI 6 by decide), if_neg (show ¬ nI 12 = nI 7 by decide), if_neg (show ¬ nI 12 = nI 8 by decide), if_neg (show ¬ nI 12 = nI 9 by decide), if_neg (show ¬ nI 12 = nI 10 by decide), if_neg (show ¬ nI 12 = nI 11 by decide), if_pos (show nI 12 = nI 12 from rfl), bnd_eq, bnd_eq, bnd_eq, bnd_eq, th_at, nI_clamp (by decide), showv, if_neg (show ¬ (2592 : Nat) = 0 by decide)]
theorem kshow_at {s : Sto} {pn z c : Nat} {sc : Int32} (h : s.1 0 5 = nI pn) (hp : pn ≤ 8) (hz : z < pn) (hc : c < 12) (e : s.1 3 z = nI (c + 1)) : F_K_show (nI z) sc s = showv (if sc = 0 then kpub (c % 6) else if c < 6 then ksec c else 0) (379 + 36 * z + (3 * c + if sc = 0 then 1 else 2)) s := by
  have hf : F_K_find (nI z) s = (nI (c + 1), s) := by rw [kfind_at h hp hz, e]
  have hzc : (nI z).toNatClampNeg = z := nI_clamp (by omega)
  have h9 : c = 0 ∨ c = 1 ∨ c = 2 ∨ c = 3 ∨ c = 4 ∨ c = 5 ∨ c = 6 ∨ c = 7 ∨ c = 8 ∨ c = 9 ∨ c = 10 ∨ c = 11 := by omega
  by_cases q : sc = 0
  · rw [if_pos q, if_pos q]
    rcases h9 with rfl | rfl | rfl | rfl | rfl | rfl | rfl | rfl | rfl | rfl | rfl | rfl
    · have := ksp0 ((kpo0 hf).trans (if_pos q)) q
      rw [hzc] at this
      exact this
    · have := ksp1 ((kpo1 hf).trans (if_pos q)) q
      rw [hzc] at this
      exact this
    · have := ksp2 ((kpo2 hf).trans (if_pos q)) q
      rw [hzc] at this
      exact this
    · have := ksp3 ((kpo3 hf).trans (if_pos q)) q
      rw [hzc] at this
      exact this
    · have := ksp4 ((kpo4 hf).trans (if_pos q)) q
      rw [hzc] at this
      exact this
    · have := ksp5 ((kpo5 hf).trans (if_pos q)) q
      rw [hzc] at this
      exact this
    · have := ksp6 ((kpo6 hf).trans (if_pos q)) q
      rw [hzc] at this
      exact this
    · have := ksp7 ((kpo7 hf).trans (if_pos q)) q
      rw [hzc] at this
      exact this
    · have := ksp8 ((kpo8 hf).trans (if_pos q)) q
      rw [hzc] at this
      exact this
    · have := ksp9 ((kpo9 hf).trans (if_pos q)) q
      rw [hzc] at this
      exact this
    · have := ksp10 ((kpo10 hf).trans (if_pos q)) q
      rw [hzc] at this
      exact this
    · have := ksp11 ((kpo11 hf).trans (if_pos q)) q
      rw [hzc] at this
      exact this
  · rw [if_neg q, if_neg q]
    rcases h9 with rfl | rfl | rfl | rfl | rfl | rfl | rfl | rfl | rfl | rfl | rfl | rfl
    · have := kss0 ((kpo0 hf).trans (if_neg q)) q
      rw [hzc] at this
      exact this
    · have := kss1 ((kpo1 hf).trans (if_neg q)) q
      rw [hzc] at this
      exact this
    · have := kss2 ((kpo2 hf).trans (if_neg q)) q
      rw [hzc] at this
      exact this
    · have := kss3 ((kpo3 hf).trans (if_neg q)) q
      rw [hzc] at this
      exact this
    · have := kss4 ((kpo4 hf).trans (if_neg q)) q
      rw [hzc] at this
      exact this
    · have := kss5 ((kpo5 hf).trans (if_neg q)) q
      rw [hzc] at this
      exact this
    · exact kshN ((kpo6 hf).trans (if_neg q))
    · exact kshN ((kpo7 hf).trans (if_neg q))
    · exact kshN ((kpo8 hf).trans (if_neg q))
    · exact kshN ((kpo9 hf).trans (if_neg q))
    · exact kshN ((kpo10 hf).trans (if_neg q))
    · exact kshN ((kpo11 hf).trans (if_neg q))
theorem mshow_no {s : Sto} {pn : Nat} {v sc : Int32} (h : s.1 148 3 = nI pn) (hp : pn ≤ 8) (hv : v < 0 ∨ ¬ v < nI pn) : F_M_show v sc s = (nI 0, sI (sI s 148 0 (nI 0)) 148 0 (nI 1)) := by
  have h1 : (sI s 148 0 (nI 0)).1 148 3 = nI pn := by rw [th_off (by decide)]; exact h
  rw [F_M_show, bnd_eq]
  generalize sI s 148 0 (nI 0) = s1 at h1 ⊢
  rw [bnd_eq, mnone_no h1 hp hv]
  dsimp only
  rw [if_neg (show ¬ nI 1 = 0 by decide), bnd_eq, mfail_eq]
theorem mshow_at {s : Sto} {pn z n : Nat} {sc : Int32} (h : s.1 148 3 = nI pn) (hp : pn ≤ 8) (hz : z < pn) (hn : n ≤ 4896) (e : F_M_size z sc (sI s 148 0 (nI 0)) = (nI n, sI s 148 0 (nI 0))) : F_M_show (nI z) sc s = if n = 0 then (nI 0, sI (sI s 148 0 (nI 0)) 148 0 (nI 1)) else F_M_show_L0 sc z n 0 (sI (sI s 148 0 (nI 0)) 148 2 (nI n)) := by
  have h1 : (sI s 148 0 (nI 0)).1 148 3 = nI pn := by rw [th_off (by decide)]; exact h
  have hzc : (nI z).toNatClampNeg = z := nI_clamp (by omega)
  have hnc : (nI n).toNatClampNeg = n := nI_clamp (by omega)
  rw [F_M_show, bnd_eq]
  generalize sI s 148 0 (nI 0) = s1 at e h1 ⊢
  rw [bnd_eq, mnone_at h1 hp hz]
  dsimp only
  rw [if_pos (show nI 0 = 0 by decide), bnd_eq, hzc, bnd_eq, e]
  dsimp only
  rw [bnd_eq, hnc]
  by_cases h0 : n = 0
  · subst h0
    rw [if_pos (show nI 0 = 0 by decide), if_pos (show (0 : Nat) = 0 from rfl), bnd_eq, mfail_eq]
  · have h2 : ¬ nI n = 0 := fun q => h0 ((nI_eq (b := 0) (by omega) (by decide)).mp q)
    rw [if_neg h2, if_neg h0, bnd_eq, e]
    dsimp only
    rw [bnd_eq, hnc, bnd_eq]
theorem show_loop {sc : Int32} {z : Nat} (hz : z < 8) (n i : Nat) (s : Sto) : ∃ s1, F_M_show_L0 sc z n i s = (nI (s1.1 148 2).toNatClampNeg, s1) ∧ onl 150 s s1 ∧ ∀ k, i ≤ k → k < i + n → s1.1 150 k = vp_nar .byte (s.1 (if sc = 0 then 153 + z else 162 + z) k) := by
  obtain ⟨s1, a, b, c, -⟩ := cp_loop (pt := 150) (pr_ := if sc = 0 then 153 + z else 162 + z) (o := 0) (r := 0) (G := F_M_show_L0 sc z) (K := fun s => (nI (s.1 148 2).toNatClampNeg, s)) (by by_cases q : sc = 0; rw [if_pos q]; omega; rw [if_neg q]; omega) (fun i s => by rw [F_M_show_L0, bnd_eq, bnd_eq]) (fun n i s => by
    rw [F_M_show_L0, bnd_eq, Nat.zero_add]
    by_cases q : sc = 0
    · rw [if_pos q, if_pos q, bnd_eq]
    · rw [if_neg q, if_neg q, bnd_eq]) n i s
  refine ⟨s1, a, b, fun k u v => ?_⟩
  have := c k u v
  rw [Nat.zero_add] at this
  exact this
theorem show_core {tl al pn z n nm : Nat} {sc : Int32} {s : Sto} (h : SAME tl al pn s) (hz : z < pn) (hn : 0 < n ∧ n ≤ 4896) (hnm : 379 ≤ nm) (hB : ∀ j, j < n → s.1 nm j = s.1 (if sc = 0 then 153 + z else 162 + z) j) (hN : ∀ j, j < n → isb (s.1 (if sc = 0 then 153 + z else 162 + z) j)) (hs : ∀ t : Sto, t.1 170 = s.1 170 → t.1 171 = s.1 171 → F_M_size z sc t = (nI n, t)) : ALIKE (nI 0, nI n, sI (sC s nm 2 0 0 n) 0 3 (nI n)) (F_M_show (nI z) sc) := by
  obtain ⟨⟨a1, a2, a3⟩, ⟨b1, b2, b3⟩, ⟨c1, c2, c3⟩, d, e, f⟩ := id h
  have hnc : (nI n).toNatClampNeg = n := nI_clamp (by omega)
  obtain ⟨p, hp⟩ : ∃ p, p = if sc = 0 then 153 + z else 162 + z := ⟨_, rfl⟩
  have hpr : (153 ≤ p ∧ p < 153 + 8) ∨ (162 ≤ p ∧ p < 162 + 8) := by
    by_cases q : sc = 0
    · rw [if_pos q] at hp; omega
    · rw [if_neg q] at hp; omega
  rw [← hp] at hB hN
  have q1 : ∀ j, j < n → (sC s nm 2 0 0 n).1 2 j = s.1 nm j := fun j hj => by
    have := sC_in (s := s) (k0 := nm) (k1 := 2) (sp := 0) (dp := 0) hj
    rw [Nat.zero_add] at this
    exact this
  have q3 : ∀ k, k ≠ 2 → (sC s nm 2 0 0 n).1 k = s.1 k := fun k hk => uA_ne hk
  unfold ALIKE
  dsimp only
  generalize sC s nm 2 0 0 n = s0 at q1 q3
  have t0 : ∀ k, k ≠ 0 → k ≠ 2 → k ≠ 148 → (sI (sI s0 0 3 (nI n)) 148 0 (nI 0)).1 k = s.1 k := fun k u v w => by rw [th_ne w, th_ne u, q3 k v]
  have t2 : (sI (sI s0 0 3 (nI n)) 148 0 (nI 0)).1 2 = s0.1 2 := by rw [th_ne (by decide), th_ne (by decide)]
  have tM : ∀ j, j ≠ 0 → (sI (sI s0 0 3 (nI n)) 148 0 (nI 0)).1 148 j = s.1 148 j := fun j u => by rw [th_off u, th_ne (by decide), q3 148 (by decide)]
  have tH : (sI (sI s0 0 3 (nI n)) 148 0 (nI 0)).1 148 0 = nI 0 := th_at
  have tA : (sI (sI s0 0 3 (nI n)) 148 0 (nI 0)).1 0 3 = nI n := by rw [th_ne (by decide)]; exact th_at
  have tB : ∀ j, j ≠ 3 → (sI (sI s0 0 3 (nI n)) 148 0 (nI 0)).1 0 j = s.1 0 j := fun j u => by rw [th_ne (by decide), th_off u, q3 0 (by decide)]
  have hU : F_M_show (nI z) sc (sI s0 0 3 (nI n)) = F_M_show_L0 sc z n 0 (sI (sI (sI s0 0 3 (nI n)) 148 0 (nI 0)) 148 2 (nI n)) := by
    rw [mshow_at (pn := pn) (n := n) (by rw [th_ne (by decide), q3 148 (by decide)]; exact c2) c3 hz (by omega) (hs _ (t0 _ (by decide) (by decide) (by decide)) (t0 _ (by decide) (by decide) (by decide))), if_neg (by omega)]
  generalize sI (sI s0 0 3 (nI n)) 148 0 (nI 0) = s1 at t0 t2 tM tH tA tB hU
  obtain ⟨s2, r0, r1, r2⟩ := show_loop (sc := sc) (z := z) (by omega) n 0 (sI s1 148 2 (nI n))
  have u2 : s2.1 148 2 = nI n := by rw [r1.1 148 (by decide)]; exact th_at
  rw [hU, r0, u2, hnc]
  have o : ∀ k, k ≠ 0 → k ≠ 2 → k ≠ 148 → k ≠ 150 → s2.1 k = s.1 k := fun k u v w x => by rw [r1.1 k x, th_ne w, t0 k u v w]
  have o0 : s2.1 0 = s1.1 0 := by rw [r1.1 0 (by decide), th_ne (by decide)]
  have oM : ∀ j, j ≠ 0 → j ≠ 2 → s2.1 148 j = s.1 148 j := fun j u v => by rw [r1.1 148 (by decide), th_off v, tM j u]
  refine ⟨⟨tl, n, pn, ⟨by rw [o0, tB 1 (by decide)]; exact a1, by rw [oM 1 (by decide) (by decide)]; exact a2, a3⟩, ⟨by rw [o0]; exact tA, u2, by omega⟩, ⟨by rw [o0, tB 5 (by decide)]; exact c1, by rw [oM 3 (by decide) (by decide)]; exact c2, c3⟩, ?_, fun j hj => ?_, fun i hi => PAIR_c (by omega) (fun k hk => o k (by unfold isP at hk; omega) (by unfold isP at hk; omega) (by unfold isP at hk; omega) (by unfold isP at hk; omega)) (f i hi)⟩, ?_, fun _ => rfl⟩
  · rw [o 1 (by decide) (by decide) (by decide) (by decide), o 149 (by decide) (by decide) (by decide) (by decide)]; exact d
  · have hb := hB j hj
    have hr := r2 j (Nat.zero_le _) (by omega)
    rw [← hp, th_ne (by omega), t0 p (by omega) (by omega) (by omega), show vp_nar .byte (s.1 p j) = s.1 p j from hN j hj] at hr
    rw [r1.1 2 (by decide), th_ne (show 2 ≠ 148 by decide), t2, q1 j hj, hr]
    exact hb
  · rw [r1.1 148 (by decide), th_off (by decide)]; exact tH
theorem show_alike {tl al pn : Nat} {v sc : Int32} {s : Sto} (h : SAME tl al pn s) (hN : NB s) : ALIKE (F_K_show v sc s) (F_M_show v sc) := by
  obtain ⟨-, -, ⟨h1, h2, h3⟩, -, -, hp⟩ := id h
  by_cases hv : v < 0 ∨ ¬ v < nI pn
  · rw [kshN (kpart0 (kfind_no h1 h3 hv))]
    exact alike_fail h (mshow_no h2 h3 hv) (by decide)
  · obtain ⟨z, hz, rfl⟩ := i32_out hv (by omega)
    obtain ⟨c, hc, e1, e2, e3, e4, e5⟩ := hp z hz
    rw [kshow_at h1 h3 hz hc e1, showv]
    by_cases q : sc = 0
    · have b := kpub_le (c := c % 6) (by omega)
      rw [if_pos q, if_pos q, if_neg (by omega)]
      refine show_core h hz ⟨b.1, by omega⟩ (by omega) ?_ ?_ (fun t ht _ => msize_p q (by omega) (by rw [ht]; exact e2))
      · rw [if_pos q]; exact e4
      · rw [if_pos q]; exact fun j hj => (hN.2.2 z (by omega)).1 j (by omega)
    · by_cases q6 : c < 6
      · have b := ksec_le q6
        rw [if_pos q6] at e3
        rw [if_neg q, if_neg q, if_pos q6, if_neg (by omega)]
        refine show_core h hz b (by omega) ?_ ?_ (fun t _ ht => msize_s q (by omega) (by rw [ht]; exact e3))
        · rw [if_neg q]; exact e5.1 q6
        · rw [if_neg q]; exact fun j hj => (hN.2.2 z (by omega)).2 j (by omega)
      · rw [if_neg q6] at e3
        rw [if_neg q, if_neg q, if_neg q6, if_pos rfl]
        refine alike_fail h ?_ (by decide)
        rw [mshow_at h2 h3 hz (n := 0) (by omega) (msize_s q (by omega) (by rw [th_ne (by decide)]; exact e3)), if_pos rfl]
