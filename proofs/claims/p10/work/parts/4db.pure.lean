set_option linter.all false
theorem alike_fail {tl al pn k : Nat} {s : Sto} {f : Sto → Int32 × Sto} (h : SAME tl al pn s) (e : f s = (nI 0, sI (sI s 148 0 (nI 0)) 148 0 (nI k))) (hk : ¬ nI k = nI 0) : ALIKE (nI k, nI 0, s) f := by
  unfold ALIKE
  dsimp only
  rw [e]
  exact ⟨⟨tl, al, pn, SAME_onlM h (onlM_tr onlM1 onlM1)⟩, th_at, fun q => absurd q hk⟩
theorem i32_out {v : Int32} {n : Nat} (h : ¬ (v < 0 ∨ ¬ v < nI n)) (hn : n < 2 ^ 31) : ∃ z, z < n ∧ v = nI z :=
  i32_ltc (fun q => h (Or.inl q)) hn (Classical.byContradiction fun q => h (Or.inr q))
theorem i32_oul {v : Int32} {n : Nat} (h : ¬ (v < 0 ∨ ¬ v ≤ nI n)) (hn : n < 2 ^ 31) : ∃ z, z ≤ n ∧ v = nI z :=
  i32_le (fun q => h (Or.inl q)) hn (Classical.byContradiction fun q => h (Or.inr q))
/-- result -/
theorem result_alike {tl al pn : Nat} {v : Int32} {s : Sto} (h : SAME tl al pn s) : ALIKE (F_K_result v s) (F_M_result v) := by
  obtain ⟨-, ⟨b1, b2, b3⟩, -, -, e, -⟩ := id h
  have b4 : (sI s 148 0 (nI 0)).1 148 2 = nI al := by rw [th_off (by decide)]; exact b2
  have hc : (nI al).toNatClampNeg = al := nI_clamp (by omega)
  by_cases hv : v < 0 ∨ ¬ v < nI al
  · have k1 : F_K_result v s = (nI 1, nI 0, s) := by
      rw [F_K_result]
      by_cases q : v < 0
      · rw [if_pos q]
      · rw [if_neg q, bnd_eq, b1, hc, if_neg (hv.resolve_left q)]
    have k2 : F_M_result v s = (nI 0, sI (sI s 148 0 (nI 0)) 148 0 (nI 1)) := by
      rw [F_M_result, bnd_eq]
      by_cases q : v < 0
      · rw [if_pos q, bnd_eq, mfail_eq]
      · rw [if_neg q, bnd_eq, b4, hc, if_neg (hv.resolve_left q), bnd_eq, mfail_eq]
    rw [k1]
    exact alike_fail h k2 (by decide)
  · obtain ⟨z, hz, rfl⟩ := i32_out hv (by omega)
    have hzc : (nI z).toNatClampNeg = z := nI_clamp (by omega)
    have k1 : F_K_result (nI z) s = (nI 0, (s.1 2 z) &&& nI 255, s) := by
      rw [F_K_result, if_neg (nI_nneg (by omega)), bnd_eq, b1, hc, if_pos (nI_lt hz (by omega)), bnd_eq, hzc]
    have k2 : F_M_result (nI z) s = (((sI s 148 0 (nI 0)).1 150 z) &&& nI 255, sI s 148 0 (nI 0)) := by
      rw [F_M_result, bnd_eq, if_neg (nI_nneg (by omega)), bnd_eq, b4, hc, if_pos (nI_lt hz (by omega)), bnd_eq, hzc]
    rw [k1]
    unfold ALIKE
    dsimp only
    rw [k2]
    refine ⟨⟨tl, al, pn, SAME_onlM h onlM1⟩, th_at, fun _ => ?_⟩
    show ((sI s 148 0 (nI 0)).1 150 z) &&& nI 255 = (s.1 2 z) &&& nI 255
    rw [th_ne (by decide), e z hz]
/-- count: it throws nothing -/
theorem count_alike {tl al pn : Nat} {v : Int32} {s : Sto} (h : SAME tl al pn s) : ALIKE (nI 0, F_K_count v s) (F_M_count v) := by
  obtain ⟨⟨a1, a2, a3⟩, ⟨b1, b2, b3⟩, ⟨c1, c2, c3⟩, -, -, -⟩ := id h
  have n1 : (sI s 148 0 (nI 0)).1 148 1 = nI tl := by rw [th_off (by decide)]; exact a2
  have n2 : (sI s 148 0 (nI 0)).1 148 2 = nI al := by rw [th_off (by decide)]; exact b2
  have n3 : (sI s 148 0 (nI 0)).1 148 3 = nI pn := by rw [th_off (by decide)]; exact c2
  have key : ∃ x : Int32, F_K_count v s = (x, s) ∧ F_M_count v s = (x, sI s 148 0 (nI 0)) := by
    by_cases q0 : v = nI 0
    · refine ⟨nI tl, ?_, ?_⟩
      · rw [F_K_count, if_pos q0, bnd_eq, a1, nI_clamp (by omega)]
      · rw [F_M_count, bnd_eq, if_pos (show v = 0 from q0.trans (by decide)), bnd_eq, n1, nI_clamp (by omega)]
    · have q0' : ¬ v = 0 := fun q => q0 (q.trans (by decide))
      by_cases q1 : v = nI 1
      · refine ⟨nI pn, ?_, ?_⟩
        · rw [F_K_count, if_neg q0, if_pos q1, bnd_eq, c1, nI_clamp (by omega)]
        · rw [F_M_count, bnd_eq, if_neg q0', if_pos q1, bnd_eq, n3, nI_clamp (by omega)]
      · by_cases q2 : v = nI 2
        · refine ⟨nI al, ?_, ?_⟩
          · rw [F_K_count, if_neg q0, if_neg q1, if_pos q2, bnd_eq, b1, nI_clamp (by omega)]
          · rw [F_M_count, bnd_eq, if_neg q0', if_neg q1, if_pos q2, bnd_eq, n2, nI_clamp (by omega)]
        · refine ⟨-1, ?_, ?_⟩
          · rw [F_K_count, if_neg q0, if_neg q1, if_neg q2]
          · rw [F_M_count, bnd_eq, if_neg q0', if_neg q1, if_neg q2]
  obtain ⟨x, k1, k2⟩ := key
  rw [k1]
  unfold ALIKE
  dsimp only
  rw [k2]
  exact ⟨⟨tl, al, pn, SAME_onlM h onlM1⟩, th_at, fun _ => rfl⟩
/-- end -/
theorem end_alike {tl al pn : Nat} {v : Int32} {s : Sto} (h : SAME tl al pn s) : ALIKE (F_K_end v s) (F_M_end v) := by
  obtain ⟨⟨a1, a2, a3⟩, ⟨b1, b2, b3⟩, ⟨c1, c2, c3⟩, d, e, f⟩ := id h
  have hc : (nI tl).toNatClampNeg = tl := nI_clamp (by omega)
  by_cases hv : v < 0 ∨ ¬ v ≤ nI tl
  · have n1 : (sI s 148 0 (nI 0)).1 148 1 = nI tl := by rw [th_off (by decide)]; exact a2
    have k1 : F_K_end v s = (nI 1, nI 0, s) := by
      rw [F_K_end]
      by_cases q : v < 0
      · rw [if_pos q]
      · rw [if_neg q, bnd_eq, a1, hc, if_neg (hv.resolve_left q)]
    have k2 : F_M_end v s = (nI 0, sI (sI s 148 0 (nI 0)) 148 0 (nI 1)) := by
      rw [F_M_end, bnd_eq]
      by_cases q : v < 0
      · rw [if_pos q, bnd_eq, mfail_eq]
      · rw [if_neg q, bnd_eq, n1, hc, if_neg (hv.resolve_left q), bnd_eq, mfail_eq]
    rw [k1]
    exact alike_fail h k2 (by decide)
  · have hle : v ≤ nI tl := Classical.byContradiction fun q => hv (Or.inr q)
    have h0 : ¬ v < 0 := fun q => hv (Or.inl q)
    obtain ⟨z, hz, rfl⟩ := i32_oul hv (by omega)
    have hzc : (nI z).toNatClampNeg = z := nI_clamp (by omega)
    have k1 : F_K_end (nI z) s = (nI 0, nI z, sI s 0 1 (nI z)) := by
      rw [F_K_end, if_neg h0, bnd_eq, a1, hc, if_pos hle, bnd_eq, hzc, bnd_eq]
    have m1 : (sI (sI s 0 1 (nI z)) 148 0 (nI 0)).1 148 1 = nI tl := by rw [th_off (by decide), th_ne (by decide)]; exact a2
    have k2 : F_M_end (nI z) (sI s 0 1 (nI z)) = (nI z, sI (sI (sI s 0 1 (nI z)) 148 0 (nI 0)) 148 1 (nI z)) := by
      rw [F_M_end, bnd_eq, if_neg h0, bnd_eq, m1, hc, if_pos hle, bnd_eq, hzc, bnd_eq]
    rw [k1]
    unfold ALIKE
    dsimp only
    rw [k2]
    have o : ∀ k, k ≠ 0 → k ≠ 148 → (sI (sI (sI s 0 1 (nI z)) 148 0 (nI 0)) 148 1 (nI z)).1 k = s.1 k := fun k u v => by rw [th_ne v, th_ne v, th_ne u]
    have o0 : ∀ j, j ≠ 1 → (sI (sI (sI s 0 1 (nI z)) 148 0 (nI 0)) 148 1 (nI z)).1 0 j = s.1 0 j := fun j u => by rw [th_ne (by decide), th_ne (by decide), th_off u]
    have oM : ∀ j, j ≠ 0 → j ≠ 1 → (sI (sI (sI s 0 1 (nI z)) 148 0 (nI 0)) 148 1 (nI z)).1 148 j = s.1 148 j := fun j u v => by rw [th_off v, th_off u, th_ne (by decide)]
    refine ⟨⟨z, al, pn, ⟨?_, th_at, by omega⟩, ⟨by rw [o0 3 (by decide)]; exact b1, by rw [oM 2 (by decide) (by decide)]; exact b2, b3⟩, ⟨by rw [o0 5 (by decide)]; exact c1, by rw [oM 3 (by decide) (by decide)]; exact c2, c3⟩, fun j hj => ?_, ?_, fun i hi => PAIR_c (by omega) (fun k hk => o k (by unfold isP at hk; omega) (by unfold isP at hk; omega)) (f i hi)⟩, ?_, fun _ => rfl⟩
    · rw [th_ne (by decide), th_ne (by decide)]; exact th_at
    · rw [o 1 (by decide) (by decide), o 149 (by decide) (by decide)]; exact d j (by omega)
    · rw [o 2 (by decide) (by decide), o 150 (by decide) (by decide)]; exact e
    · rw [th_off (by decide)]; exact th_at
/-- alter -/
theorem alter_alike {tl al pn : Nat} {v v2 : Int32} {s : Sto} (h : SAME tl al pn s) : ALIKE (F_K_alter v v2 s) (F_M_alter v v2) := by
  obtain ⟨⟨a1, a2, a3⟩, ⟨b1, b2, b3⟩, ⟨c1, c2, c3⟩, d, e, f⟩ := id h
  have hc : (nI tl).toNatClampNeg = tl := nI_clamp (by omega)
  by_cases hv : v < 0 ∨ ¬ v < nI tl
  · have n1 : (sI s 148 0 (nI 0)).1 148 1 = nI tl := by rw [th_off (by decide)]; exact a2
    have k1 : F_K_alter v v2 s = (nI 1, nI 0, s) := by
      rw [F_K_alter]
      by_cases q : v < 0
      · rw [if_pos q]
      · rw [if_neg q, bnd_eq, a1, hc, if_neg (hv.resolve_left q)]
    have k2 : F_M_alter v v2 s = (nI 0, sI (sI s 148 0 (nI 0)) 148 0 (nI 1)) := by
      rw [F_M_alter, bnd_eq]
      by_cases q : v < 0
      · rw [if_pos q, bnd_eq, mfail_eq]
      · rw [if_neg q, bnd_eq, n1, hc, if_neg (hv.resolve_left q), bnd_eq, mfail_eq]
    rw [k1]
    exact alike_fail h k2 (by decide)
  · obtain ⟨z, hz, rfl⟩ := i32_out hv (by omega)
    have hzc : (nI z).toNatClampNeg = z := nI_clamp (by omega)
    obtain ⟨y, hy⟩ : ∃ y : Int32, y = ((s.1 1 z) ^^^ v2.toInt8.toInt32).toInt8.toInt32 := ⟨_, rfl⟩
    have hyn : vp_nar .byte y = y := by rw [hy, pk_vb]
    have k1 : F_K_alter (nI z) v2 s = (nI 0, ((sI s 1 z y).1 1 z) &&& nI 255, sI s 1 z y) := by
      rw [F_K_alter, if_neg (nI_nneg (by omega)), bnd_eq, a1, hc, if_pos (nI_lt hz (by omega)), bnd_eq, hzc, bnd_eq, ← hy, sB, hyn]
    have m1 : (sI (sI s 1 z y) 148 0 (nI 0)).1 148 1 = nI tl := by rw [th_off (by decide), th_ne (by decide)]; exact a2
    have m2 : (sI (sI s 1 z y) 148 0 (nI 0)).1 149 z = s.1 1 z := by rw [th_ne (by decide), th_ne (by decide)]; exact (d z hz).symm
    have k2 : F_M_alter (nI z) v2 (sI s 1 z y) = (((sI (sI (sI s 1 z y) 148 0 (nI 0)) 149 z y).1 149 z) &&& nI 255, sI (sI (sI s 1 z y) 148 0 (nI 0)) 149 z y) := by
      rw [F_M_alter, bnd_eq, if_neg (nI_nneg (by omega)), bnd_eq, m1, hc, if_pos (nI_lt hz (by omega)), bnd_eq, hzc, m2, bnd_eq, ← hy, sB, hyn]
    rw [k1]
    unfold ALIKE
    dsimp only
    rw [k2]
    have o : ∀ k, k ≠ 1 → k ≠ 148 → k ≠ 149 → (sI (sI (sI s 1 z y) 148 0 (nI 0)) 149 z y).1 k = s.1 k := fun k u v w => by rw [th_ne w, th_ne v, th_ne u]
    have oM : ∀ j, j ≠ 0 → (sI (sI (sI s 1 z y) 148 0 (nI 0)) 149 z y).1 148 j = s.1 148 j := fun j u => by rw [th_ne (by decide), th_off u, th_ne (by decide)]
    have o0 := o 0 (by decide) (by decide) (by decide)
    refine ⟨⟨tl, al, pn, ⟨by rw [o0]; exact a1, by rw [oM 1 (by decide)]; exact a2, a3⟩, ⟨by rw [o0]; exact b1, by rw [oM 2 (by decide)]; exact b2, b3⟩, ⟨by rw [o0]; exact c1, by rw [oM 3 (by decide)]; exact c2, c3⟩, fun j hj => ?_, ?_, fun i hi => PAIR_c (by omega) (fun k hk => o k (by unfold isP at hk; omega) (by unfold isP at hk; omega) (by unfold isP at hk; omega)) (f i hi)⟩, ?_, fun _ => ?_⟩
    · by_cases w : j = z
      · subst w
        rw [th_at, th_ne (by decide), th_ne (by decide), th_at]
      · rw [th_off w, th_ne (by decide), th_ne (by decide), th_off w, th_ne (by decide), th_ne (by decide)]
        exact d j hj
    · rw [o 2 (by decide) (by decide) (by decide), o 150 (by decide) (by decide) (by decide)]; exact e
    · rw [th_ne (by decide)]; exact th_at
    · rw [th_at, th_at]
