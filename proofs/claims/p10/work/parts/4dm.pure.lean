set_option linter.all false
theorem ko0_a {z tl : Nat} {s : Sto} (h : F_K_findKem (nI z) s = (nI 1, s)) (h1 : s.1 0 1 = nI tl) (ht : tl ≤ 16384) (hn : ¬ tl = 768) : F_K_open (nI z) s = (nI 2, nI 0, s) := by
  rw [F_K_open, bnd_eq, h]
  dsimp only
  rw [if_neg (show ¬ nI 1 = nI 0 by decide), if_pos (show nI 1 = nI 1 from rfl), bnd_eq, bnd_eq, h1, nI_clamp (show tl < 2 ^ 31 by omega), if_neg hn]
theorem ko0_c {z : Nat} {s : Sto} (h : F_K_findKem (nI z) s = (nI 1, s)) (hz : z < 8) (h1 : s.1 0 1 = nI 768) : F_K_open (nI z) s = (nI 0, nI 32, sI (sI (F_KM_decapsulate_0 (379 + 36 * z + 0) (379 + 36 * z + 1) (379 + 36 * z + 2) 1 16384 2 s) 0 1 (nI 0)) 0 3 (nI 32)) := by
  rw [F_K_open, bnd_eq, h]
  dsimp only
  rw [if_neg (show ¬ nI 1 = nI 0 by decide), if_pos (show nI 1 = nI 1 from rfl), bnd_eq, nI_clamp (show z < 2 ^ 31 by omega), bnd_eq, h1, nI_clamp (show 768 < 2 ^ 31 by decide), if_pos (show (768 : Nat) = 768 from rfl), bnd_eq, bnd_eq, bnd_eq, bnd_eq, th_at, nI_clamp (show 32 < 2 ^ 31 by decide)]
theorem ko0_n {z : Nat} {s : Sto} (h : F_K_findKem (nI z) s = (nI 7, s)) : F_K_open (nI z) s = (nI 1, nI 0, s) := by
  rw [F_K_open, bnd_eq, h]
  dsimp only
  rw [if_neg (show ¬ nI 7 = nI 0 by decide), if_neg (show ¬ nI 7 = nI 1 by decide), if_neg (show ¬ nI 7 = nI 2 by decide), if_neg (show ¬ nI 7 = nI 3 by decide), if_pos (show nI 7 = nI 7 from rfl), bnd_eq]
theorem open_c0 {tl al pn z : Nat} {s : Sto} (h : SAME tl al pn s) (hN : NB s) (hC : ∀ j, j < 800 → s.1 (153 + z) j = s.1 (162 + z) (768 + j)) (hz : z < pn) (hf : F_K_findKem (nI z) s = (nI 1, s)) (e1 : s.1 3 z = nI 1) (e2 : s.1 170 z = nI 0) (e3 : s.1 171 z = nI 1632) (e4 : ∀ j, j < 800 → s.1 (379 + 36 * z + 1) j = s.1 (153 + z) j) (e5 : ∀ j, j < 1632 → s.1 (379 + 36 * z + 2) j = s.1 (162 + z) j) (hF : frm M_K_open s (F_K_open (nI z) s).2.2) (hE : E_M_open (nI z) (F_K_open (nI z) s).2.2) : ALIKE (F_K_open (nI z) s) (F_M_open (nI z)) := by
  obtain ⟨⟨a1, a2, a3⟩, ⟨b1, b2, b3⟩, ⟨c1, c2, c3⟩, d, e, f⟩ := id h
  by_cases ht : tl = 768
  · subst ht
    have e6 := ko0_c hf (by omega) a1
    obtain ⟨s1, hs1⟩ : ∃ x, x = (F_K_open (nI z) s).2.2 := ⟨_, rfl⟩
    rw [← hs1] at hE hF
    have f1 : s1.1 148 = s.1 148 := hF 148 (by unfold M_K_open; omega)
    have f2 : s1.1 149 = s.1 149 := hF 149 (by unfold M_K_open; omega)
    have f3 : s1.1 170 = s.1 170 := hF 170 (by unfold M_K_open; omega)
    have f4 : s1.1 171 = s.1 171 := hF 171 (by unfold M_K_open; omega)
    have f5 : s1.1 (162 + z) = s.1 (162 + z) := hF (162 + z) (by unfold M_K_open; omega)
    obtain ⟨k1, hE1⟩ := mopen_0 (s := s1) (pn := pn) (z := z) (by rw [f1]; exact c2) c3 hz (by rw [f1]; exact a2) (by rw [f3]; exact e2) (by rw [f4]; exact e3)
    have y5 : (sI (sI (sI s1 148 0 (nI 0)) 148 1 (nI 0)) 148 2 (nI 32)).1 (162 + z) = s.1 (162 + z) := by rw [th_ne (by omega), th_ne (by omega), th_ne (by omega), f5]
    have y2 : (sI (sI (sI s1 148 0 (nI 0)) 148 1 (nI 0)) 148 2 (nI 32)).1 149 = s.1 149 := by rw [th_ne (by decide), th_ne (by decide), th_ne (by decide), f2]
    obtain ⟨g1, g2, g3⟩ := open0_sameO (kn := 379 + 36 * z + 0) (pp := 379 + 36 * z + 1) (psn := 379 + 36 * z + 2) (pc_ := 1) (n := 16384) (pt := 2) (pdk := 162 + z) (pct := 149) (qt := 150) (s := s) (t := sI (sI (sI s1 148 0 (nI 0)) 148 1 (nI 0)) 148 2 (nI 32)) (by unfold apD; omega) (by unfold apT; omega) (by unfold apC; omega) (by omega) (by omega) (fun j hj => by rw [y2]; exact d j hj) (fun j hj => by rw [y5]; exact e5 j hj) (fun j hj => by rw [y5, e4 j hj]; exact hC j hj) (fun j hj => by rw [y5]; exact (hN.2.2 z (by omega)).2 j (by omega)) (hE1 hE)
    have fM : ∀ k, (k < 14 ∨ 148 ≤ k) → k ≠ 2 → (F_KM_decapsulate_0 (379 + 36 * z + 0) (379 + 36 * z + 1) (379 + 36 * z + 2) 1 16384 2 s).1 k = s.1 k := fun k u v => g1 k (by show ¬ (_ ∨ _); omega)
    generalize F_KM_decapsulate_0 (379 + 36 * z + 0) (379 + 36 * z + 1) (379 + 36 * z + 2) 1 16384 2 s = sB_ at g1 g3 fM e6
    have hs : s1 = sI (sI sB_ 0 1 (nI 0)) 0 3 (nI 32) := by rw [hs1, e6]
    have k2 := k1 (by rw [g2 148 (by show ¬ (_ ∨ _); omega)]; exact th_at)
    clear k1 hE1
    generalize F_ME_open_0 (162 + z) 149 150 (sI (sI (sI s1 148 0 (nI 0)) 148 1 (nI 0)) 148 2 (nI 32)) = t2 at g2 g3 k2
    rw [hs] at k2
    obtain ⟨q1, q2⟩ := open_core (sB_ := sB_) (t2 := t2) h fM (fun k u v => by rw [← hs]; exact g2 k (by show ¬ (_ ∨ _); omega)) g3
    rw [e6]
    exact alike_mk k2 q1 q2 (fun _ => rfl)
  · rw [ko0_a hf a1 a3 ht]
    exact alike_fail h (mopen_0_a c2 c3 hz a2 a3 e2 e3 ht) (by decide)
theorem ko1_a {z tl : Nat} {s : Sto} (h : F_K_findKem (nI z) s = (nI 2, s)) (h1 : s.1 0 1 = nI tl) (ht : tl ≤ 16384) (hn : ¬ tl = 1088) : F_K_open (nI z) s = (nI 2, nI 0, s) := by
  rw [F_K_open, bnd_eq, h]
  dsimp only
  rw [if_neg (show ¬ nI 2 = nI 0 by decide), if_neg (show ¬ nI 2 = nI 1 by decide), if_pos (show nI 2 = nI 2 from rfl), bnd_eq, bnd_eq, h1, nI_clamp (show tl < 2 ^ 31 by omega), if_neg hn]
theorem ko1_c {z : Nat} {s : Sto} (h : F_K_findKem (nI z) s = (nI 2, s)) (hz : z < 8) (h1 : s.1 0 1 = nI 1088) : F_K_open (nI z) s = (nI 0, nI 32, sI (sI (F_KM_decapsulate_1 (379 + 36 * z + 3) (379 + 36 * z + 4) (379 + 36 * z + 5) 1 16384 2 s) 0 1 (nI 0)) 0 3 (nI 32)) := by
  rw [F_K_open, bnd_eq, h]
  dsimp only
  rw [if_neg (show ¬ nI 2 = nI 0 by decide), if_neg (show ¬ nI 2 = nI 1 by decide), if_pos (show nI 2 = nI 2 from rfl), bnd_eq, nI_clamp (show z < 2 ^ 31 by omega), bnd_eq, h1, nI_clamp (show 1088 < 2 ^ 31 by decide), if_pos (show (1088 : Nat) = 1088 from rfl), bnd_eq, bnd_eq, bnd_eq, bnd_eq, th_at, nI_clamp (show 32 < 2 ^ 31 by decide)]
theorem ko1_n {z : Nat} {s : Sto} (h : F_K_findKem (nI z) s = (nI 8, s)) : F_K_open (nI z) s = (nI 1, nI 0, s) := by
  rw [F_K_open, bnd_eq, h]
  dsimp only
  rw [if_neg (show ¬ nI 8 = nI 0 by decide), if_neg (show ¬ nI 8 = nI 1 by decide), if_neg (show ¬ nI 8 = nI 2 by decide), if_neg (show ¬ nI 8 = nI 3 by decide), if_neg (show ¬ nI 8 = nI 7 by decide), if_pos (show nI 8 = nI 8 from rfl), bnd_eq]
theorem open_c1 {tl al pn z : Nat} {s : Sto} (h : SAME tl al pn s) (hN : NB s) (hC : ∀ j, j < 1184 → s.1 (153 + z) j = s.1 (162 + z) (1152 + j)) (hz : z < pn) (hf : F_K_findKem (nI z) s = (nI 2, s)) (e1 : s.1 3 z = nI 2) (e2 : s.1 170 z = nI 1) (e3 : s.1 171 z = nI 2400) (e4 : ∀ j, j < 1184 → s.1 (379 + 36 * z + 4) j = s.1 (153 + z) j) (e5 : ∀ j, j < 2400 → s.1 (379 + 36 * z + 5) j = s.1 (162 + z) j) (hF : frm M_K_open s (F_K_open (nI z) s).2.2) (hE : E_M_open (nI z) (F_K_open (nI z) s).2.2) : ALIKE (F_K_open (nI z) s) (F_M_open (nI z)) := by
  obtain ⟨⟨a1, a2, a3⟩, ⟨b1, b2, b3⟩, ⟨c1, c2, c3⟩, d, e, f⟩ := id h
  by_cases ht : tl = 1088
  · subst ht
    have e6 := ko1_c hf (by omega) a1
    obtain ⟨s1, hs1⟩ : ∃ x, x = (F_K_open (nI z) s).2.2 := ⟨_, rfl⟩
    rw [← hs1] at hE hF
    have f1 : s1.1 148 = s.1 148 := hF 148 (by unfold M_K_open; omega)
    have f2 : s1.1 149 = s.1 149 := hF 149 (by unfold M_K_open; omega)
    have f3 : s1.1 170 = s.1 170 := hF 170 (by unfold M_K_open; omega)
    have f4 : s1.1 171 = s.1 171 := hF 171 (by unfold M_K_open; omega)
    have f5 : s1.1 (162 + z) = s.1 (162 + z) := hF (162 + z) (by unfold M_K_open; omega)
    obtain ⟨k1, hE1⟩ := mopen_1 (s := s1) (pn := pn) (z := z) (by rw [f1]; exact c2) c3 hz (by rw [f1]; exact a2) (by rw [f3]; exact e2) (by rw [f4]; exact e3)
    have y5 : (sI (sI (sI s1 148 0 (nI 0)) 148 1 (nI 0)) 148 2 (nI 32)).1 (162 + z) = s.1 (162 + z) := by rw [th_ne (by omega), th_ne (by omega), th_ne (by omega), f5]
    have y2 : (sI (sI (sI s1 148 0 (nI 0)) 148 1 (nI 0)) 148 2 (nI 32)).1 149 = s.1 149 := by rw [th_ne (by decide), th_ne (by decide), th_ne (by decide), f2]
    obtain ⟨g1, g2, g3⟩ := open1_sameO (kn := 379 + 36 * z + 3) (pp := 379 + 36 * z + 4) (psn := 379 + 36 * z + 5) (pc_ := 1) (n := 16384) (pt := 2) (pdk := 162 + z) (pct := 149) (qt := 150) (s := s) (t := sI (sI (sI s1 148 0 (nI 0)) 148 1 (nI 0)) 148 2 (nI 32)) (by unfold apD; omega) (by unfold apT; omega) (by unfold apC; omega) (by omega) (by omega) (fun j hj => by rw [y2]; exact d j hj) (fun j hj => by rw [y5]; exact e5 j hj) (fun j hj => by rw [y5, e4 j hj]; exact hC j hj) (fun j hj => by rw [y5]; exact (hN.2.2 z (by omega)).2 j (by omega)) (hE1 hE)
    have fM : ∀ k, (k < 14 ∨ 148 ≤ k) → k ≠ 2 → (F_KM_decapsulate_1 (379 + 36 * z + 3) (379 + 36 * z + 4) (379 + 36 * z + 5) 1 16384 2 s).1 k = s.1 k := fun k u v => g1 k (by show ¬ (_ ∨ _); omega)
    generalize F_KM_decapsulate_1 (379 + 36 * z + 3) (379 + 36 * z + 4) (379 + 36 * z + 5) 1 16384 2 s = sB_ at g1 g3 fM e6
    have hs : s1 = sI (sI sB_ 0 1 (nI 0)) 0 3 (nI 32) := by rw [hs1, e6]
    have k2 := k1 (by rw [g2 148 (by show ¬ (_ ∨ _); omega)]; exact th_at)
    clear k1 hE1
    generalize F_ME_open_1 (162 + z) 149 150 (sI (sI (sI s1 148 0 (nI 0)) 148 1 (nI 0)) 148 2 (nI 32)) = t2 at g2 g3 k2
    rw [hs] at k2
    obtain ⟨q1, q2⟩ := open_core (sB_ := sB_) (t2 := t2) h fM (fun k u v => by rw [← hs]; exact g2 k (by show ¬ (_ ∨ _); omega)) g3
    rw [e6]
    exact alike_mk k2 q1 q2 (fun _ => rfl)
  · rw [ko1_a hf a1 a3 ht]
    exact alike_fail h (mopen_1_a c2 c3 hz a2 a3 e2 e3 ht) (by decide)
theorem ko2_a {z tl : Nat} {s : Sto} (h : F_K_findKem (nI z) s = (nI 3, s)) (h1 : s.1 0 1 = nI tl) (ht : tl ≤ 16384) (hn : ¬ tl = 1568) : F_K_open (nI z) s = (nI 2, nI 0, s) := by
  rw [F_K_open, bnd_eq, h]
  dsimp only
  rw [if_neg (show ¬ nI 3 = nI 0 by decide), if_neg (show ¬ nI 3 = nI 1 by decide), if_neg (show ¬ nI 3 = nI 2 by decide), if_pos (show nI 3 = nI 3 from rfl), bnd_eq, bnd_eq, h1, nI_clamp (show tl < 2 ^ 31 by omega), if_neg hn]
theorem ko2_c {z : Nat} {s : Sto} (h : F_K_findKem (nI z) s = (nI 3, s)) (hz : z < 8) (h1 : s.1 0 1 = nI 1568) : F_K_open (nI z) s = (nI 0, nI 32, sI (sI (F_KM_decapsulate_2 (379 + 36 * z + 6) (379 + 36 * z + 7) (379 + 36 * z + 8) 1 16384 2 s) 0 1 (nI 0)) 0 3 (nI 32)) := by
  rw [F_K_open, bnd_eq, h]
  dsimp only
  rw [if_neg (show ¬ nI 3 = nI 0 by decide), if_neg (show ¬ nI 3 = nI 1 by decide), if_neg (show ¬ nI 3 = nI 2 by decide), if_pos (show nI 3 = nI 3 from rfl), bnd_eq, nI_clamp (show z < 2 ^ 31 by omega), bnd_eq, h1, nI_clamp (show 1568 < 2 ^ 31 by decide), if_pos (show (1568 : Nat) = 1568 from rfl), bnd_eq, bnd_eq, bnd_eq, bnd_eq, th_at, nI_clamp (show 32 < 2 ^ 31 by decide)]
theorem ko2_n {z : Nat} {s : Sto} (h : F_K_findKem (nI z) s = (nI 9, s)) : F_K_open (nI z) s = (nI 1, nI 0, s) := by
  rw [F_K_open, bnd_eq, h]
  dsimp only
  rw [if_neg (show ¬ nI 9 = nI 0 by decide), if_neg (show ¬ nI 9 = nI 1 by decide), if_neg (show ¬ nI 9 = nI 2 by decide), if_neg (show ¬ nI 9 = nI 3 by decide), if_neg (show ¬ nI 9 = nI 7 by decide), if_neg (show ¬ nI 9 = nI 8 by decide), if_pos (show nI 9 = nI 9 from rfl), bnd_eq]
theorem open_c2 {tl al pn z : Nat} {s : Sto} (h : SAME tl al pn s) (hN : NB s) (hC : ∀ j, j < 1568 → s.1 (153 + z) j = s.1 (162 + z) (1536 + j)) (hz : z < pn) (hf : F_K_findKem (nI z) s = (nI 3, s)) (e1 : s.1 3 z = nI 3) (e2 : s.1 170 z = nI 2) (e3 : s.1 171 z = nI 3168) (e4 : ∀ j, j < 1568 → s.1 (379 + 36 * z + 7) j = s.1 (153 + z) j) (e5 : ∀ j, j < 3168 → s.1 (379 + 36 * z + 8) j = s.1 (162 + z) j) (hF : frm M_K_open s (F_K_open (nI z) s).2.2) (hE : E_M_open (nI z) (F_K_open (nI z) s).2.2) : ALIKE (F_K_open (nI z) s) (F_M_open (nI z)) := by
  obtain ⟨⟨a1, a2, a3⟩, ⟨b1, b2, b3⟩, ⟨c1, c2, c3⟩, d, e, f⟩ := id h
  by_cases ht : tl = 1568
  · subst ht
    have e6 := ko2_c hf (by omega) a1
    obtain ⟨s1, hs1⟩ : ∃ x, x = (F_K_open (nI z) s).2.2 := ⟨_, rfl⟩
    rw [← hs1] at hE hF
    have f1 : s1.1 148 = s.1 148 := hF 148 (by unfold M_K_open; omega)
    have f2 : s1.1 149 = s.1 149 := hF 149 (by unfold M_K_open; omega)
    have f3 : s1.1 170 = s.1 170 := hF 170 (by unfold M_K_open; omega)
    have f4 : s1.1 171 = s.1 171 := hF 171 (by unfold M_K_open; omega)
    have f5 : s1.1 (162 + z) = s.1 (162 + z) := hF (162 + z) (by unfold M_K_open; omega)
    obtain ⟨k1, hE1⟩ := mopen_2 (s := s1) (pn := pn) (z := z) (by rw [f1]; exact c2) c3 hz (by rw [f1]; exact a2) (by rw [f3]; exact e2) (by rw [f4]; exact e3)
    have y5 : (sI (sI (sI s1 148 0 (nI 0)) 148 1 (nI 0)) 148 2 (nI 32)).1 (162 + z) = s.1 (162 + z) := by rw [th_ne (by omega), th_ne (by omega), th_ne (by omega), f5]
    have y2 : (sI (sI (sI s1 148 0 (nI 0)) 148 1 (nI 0)) 148 2 (nI 32)).1 149 = s.1 149 := by rw [th_ne (by decide), th_ne (by decide), th_ne (by decide), f2]
    obtain ⟨g1, g2, g3⟩ := open2_sameO (kn := 379 + 36 * z + 6) (pp := 379 + 36 * z + 7) (psn := 379 + 36 * z + 8) (pc_ := 1) (n := 16384) (pt := 2) (pdk := 162 + z) (pct := 149) (qt := 150) (s := s) (t := sI (sI (sI s1 148 0 (nI 0)) 148 1 (nI 0)) 148 2 (nI 32)) (by unfold apD; omega) (by unfold apT; omega) (by unfold apC; omega) (by omega) (by omega) (fun j hj => by rw [y2]; exact d j hj) (fun j hj => by rw [y5]; exact e5 j hj) (fun j hj => by rw [y5, e4 j hj]; exact hC j hj) (fun j hj => by rw [y5]; exact (hN.2.2 z (by omega)).2 j (by omega)) (hE1 hE)
    have fM : ∀ k, (k < 14 ∨ 148 ≤ k) → k ≠ 2 → (F_KM_decapsulate_2 (379 + 36 * z + 6) (379 + 36 * z + 7) (379 + 36 * z + 8) 1 16384 2 s).1 k = s.1 k := fun k u v => g1 k (by show ¬ (_ ∨ _); omega)
    generalize F_KM_decapsulate_2 (379 + 36 * z + 6) (379 + 36 * z + 7) (379 + 36 * z + 8) 1 16384 2 s = sB_ at g1 g3 fM e6
    have hs : s1 = sI (sI sB_ 0 1 (nI 0)) 0 3 (nI 32) := by rw [hs1, e6]
    have k2 := k1 (by rw [g2 148 (by show ¬ (_ ∨ _); omega)]; exact th_at)
    clear k1 hE1
    generalize F_ME_open_2 (162 + z) 149 150 (sI (sI (sI s1 148 0 (nI 0)) 148 1 (nI 0)) 148 2 (nI 32)) = t2 at g2 g3 k2
    rw [hs] at k2
    obtain ⟨q1, q2⟩ := open_core (sB_ := sB_) (t2 := t2) h fM (fun k u v => by rw [← hs]; exact g2 k (by show ¬ (_ ∨ _); omega)) g3
    rw [e6]
    exact alike_mk k2 q1 q2 (fun _ => rfl)
  · rw [ko2_a hf a1 a3 ht]
    exact alike_fail h (mopen_2_a c2 c3 hz a2 a3 e2 e3 ht) (by decide)
theorem open_alike {tl al pn : Nat} {v : Int32} {s : Sto} (h : SAME tl al pn s) (hN : NB s) (hF : frm M_K_open s (F_K_open v s).2.2) (hE : E_M_open v (F_K_open v s).2.2) : ALIKE (F_K_open v s) (F_M_open v) := by
  obtain ⟨-, -, ⟨h1, h2, h3⟩, -, -, hp⟩ := id h
  by_cases hv : v < 0 ∨ ¬ v < nI pn
  · rw [kopenN (kfk0 (kfind_no h1 h3 hv))]
    exact alike_fail h (mopen_n h2 h3 hv) (by decide)
  · obtain ⟨z, hz, rfl⟩ := i32_out hv (by omega)
    obtain ⟨c, hc, e1, e2, e3, e4, e5⟩ := hp z hz
    have hf : F_K_find (nI z) s = (nI (c + 1), s) := by rw [kfind_at h1 h3 hz, e1]
    have h9 : c = 0 ∨ c = 1 ∨ c = 2 ∨ c = 3 ∨ c = 4 ∨ c = 5 ∨ c = 6 ∨ c = 7 ∨ c = 8 ∨ c = 9 ∨ c = 10 ∨ c = 11 := by omega
    rcases h9 with rfl | rfl | rfl | rfl | rfl | rfl | rfl | rfl | rfl | rfl | rfl | rfl
    · exact open_c0 h hN (e5.2 (by decide)) hz (kfk_0 hf) e1 e2 e3 e4 (e5.1 (by decide)) hF hE
    · exact open_c1 h hN (e5.2 (by decide)) hz (kfk_1 hf) e1 e2 e3 e4 (e5.1 (by decide)) hF hE
    · exact open_c2 h hN (e5.2 (by decide)) hz (kfk_2 hf) e1 e2 e3 e4 (e5.1 (by decide)) hF hE
    · rw [kopenN (kfk_3 hf)]
      exact alike_fail h (mopen_d (J := 3) h2 h3 hz e2 (by decide)) (by decide)
    · rw [kopenN (kfk_4 hf)]
      exact alike_fail h (mopen_d (J := 4) h2 h3 hz e2 (by decide)) (by decide)
    · rw [kopenN (kfk_5 hf)]
      exact alike_fail h (mopen_d (J := 5) h2 h3 hz e2 (by decide)) (by decide)
    · rw [ko0_n (kfk_6 hf)]
      exact alike_fail h (mopen_0_z h2 h3 hz e2 e3) (by decide)
    · rw [ko1_n (kfk_7 hf)]
      exact alike_fail h (mopen_1_z h2 h3 hz e2 e3) (by decide)
    · rw [ko2_n (kfk_8 hf)]
      exact alike_fail h (mopen_2_z h2 h3 hz e2 e3) (by decide)
    · rw [kopenN (kfk_9 hf)]
      exact alike_fail h (mopen_d (J := 3) h2 h3 hz e2 (by decide)) (by decide)
    · rw [kopenN (kfk_10 hf)]
      exact alike_fail h (mopen_d (J := 4) h2 h3 hz e2 (by decide)) (by decide)
    · rw [kopenN (kfk_11 hf)]
      exact alike_fail h (mopen_d (J := 5) h2 h3 hz e2 (by decide)) (by decide)
