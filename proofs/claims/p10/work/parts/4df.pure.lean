set_option linter.all false
/-! feed: a number's four bytes, and both sides' ways to write them -/
theorem shb24 (v : Int32) : (((v).toUInt32 >>> ((nI 24).toUInt32 &&& Int32.toUInt32 31)).toInt32).toInt8.toInt32 = (v >>> ((nI 24) &&& 31)).toInt8.toInt32 := by
  have h1 := pk_ushr v (nI 24) 24 (by decide)
  have h2 := pk_shr v (nI 24 &&& 31) 24 (by decide)
  have h3 : v.toInt = if 2 * v.toBitVec.toNat < 2 ^ 32 then (v.toBitVec.toNat : Int) else (v.toBitVec.toNat : Int) - (2 ^ 32 : Nat) := BitVec.toInt_eq_toNat_cond _
  have hN := v.toBitVec.isLt
  generalize ((v).toUInt32 >>> ((nI 24).toUInt32 &&& Int32.toUInt32 31)).toInt32 = x at h1 ⊢
  generalize v >>> ((nI 24) &&& 31) = y at h2 ⊢
  have h4 : x.toInt = if 2 * x.toBitVec.toNat < 2 ^ 32 then (x.toBitVec.toNat : Int) else (x.toBitVec.toNat : Int) - (2 ^ 32 : Nat) := BitVec.toInt_eq_toNat_cond _
  refine congrArg Int8.toInt32 (Int8.toInt_inj.mp ?_)
  rw [Int32.toInt_toInt8, Int32.toInt_toInt8]
  rw [Int.shiftRight_eq_div_pow] at h2
  have e : x.toInt % ((2 ^ 8 : Nat) : Int) = y.toInt % ((2 ^ 8 : Nat) : Int) := by
    rw [h1] at h4
    generalize v.toBitVec.toNat = N at *
    generalize x.toInt = X at *
    generalize y.toInt = Y at *
    generalize v.toInt = V at *
    simp only [Nat.reducePow] at h2 h3 h4 hN ⊢
    split at h3 <;> split at h4 <;> omega
  unfold Int.bmod
  rw [e]
theorem shb16 (v : Int32) : (((v).toUInt32 >>> ((nI 16).toUInt32 &&& Int32.toUInt32 31)).toInt32).toInt8.toInt32 = (v >>> ((nI 16) &&& 31)).toInt8.toInt32 := by
  have h1 := pk_ushr v (nI 16) 16 (by decide)
  have h2 := pk_shr v (nI 16 &&& 31) 16 (by decide)
  have h3 : v.toInt = if 2 * v.toBitVec.toNat < 2 ^ 32 then (v.toBitVec.toNat : Int) else (v.toBitVec.toNat : Int) - (2 ^ 32 : Nat) := BitVec.toInt_eq_toNat_cond _
  have hN := v.toBitVec.isLt
  generalize ((v).toUInt32 >>> ((nI 16).toUInt32 &&& Int32.toUInt32 31)).toInt32 = x at h1 ⊢
  generalize v >>> ((nI 16) &&& 31) = y at h2 ⊢
  have h4 : x.toInt = if 2 * x.toBitVec.toNat < 2 ^ 32 then (x.toBitVec.toNat : Int) else (x.toBitVec.toNat : Int) - (2 ^ 32 : Nat) := BitVec.toInt_eq_toNat_cond _
  refine congrArg Int8.toInt32 (Int8.toInt_inj.mp ?_)
  rw [Int32.toInt_toInt8, Int32.toInt_toInt8]
  rw [Int.shiftRight_eq_div_pow] at h2
  have e : x.toInt % ((2 ^ 8 : Nat) : Int) = y.toInt % ((2 ^ 8 : Nat) : Int) := by
    rw [h1] at h4
    generalize v.toBitVec.toNat = N at *
    generalize x.toInt = X at *
    generalize y.toInt = Y at *
    generalize v.toInt = V at *
    simp only [Nat.reducePow] at h2 h3 h4 hN ⊢
    split at h3 <;> split at h4 <;> omega
  unfold Int.bmod
  rw [e]
theorem shb8 (v : Int32) : (((v).toUInt32 >>> ((nI 8).toUInt32 &&& Int32.toUInt32 31)).toInt32).toInt8.toInt32 = (v >>> ((nI 8) &&& 31)).toInt8.toInt32 := by
  have h1 := pk_ushr v (nI 8) 8 (by decide)
  have h2 := pk_shr v (nI 8 &&& 31) 8 (by decide)
  have h3 : v.toInt = if 2 * v.toBitVec.toNat < 2 ^ 32 then (v.toBitVec.toNat : Int) else (v.toBitVec.toNat : Int) - (2 ^ 32 : Nat) := BitVec.toInt_eq_toNat_cond _
  have hN := v.toBitVec.isLt
  generalize ((v).toUInt32 >>> ((nI 8).toUInt32 &&& Int32.toUInt32 31)).toInt32 = x at h1 ⊢
  generalize v >>> ((nI 8) &&& 31) = y at h2 ⊢
  have h4 : x.toInt = if 2 * x.toBitVec.toNat < 2 ^ 32 then (x.toBitVec.toNat : Int) else (x.toBitVec.toNat : Int) - (2 ^ 32 : Nat) := BitVec.toInt_eq_toNat_cond _
  refine congrArg Int8.toInt32 (Int8.toInt_inj.mp ?_)
  rw [Int32.toInt_toInt8, Int32.toInt_toInt8]
  rw [Int.shiftRight_eq_div_pow] at h2
  have e : x.toInt % ((2 ^ 8 : Nat) : Int) = y.toInt % ((2 ^ 8 : Nat) : Int) := by
    rw [h1] at h4
    generalize v.toBitVec.toNat = N at *
    generalize x.toInt = X at *
    generalize y.toInt = Y at *
    generalize v.toInt = V at *
    simp only [Nat.reducePow] at h2 h3 h4 hN ⊢
    split at h3 <;> split at h4 <;> omega
  unfold Int.bmod
  rw [e]
theorem shb0 (v : Int32) : (v >>> ((nI 0) &&& 31)).toInt8.toInt32 = v.toInt8.toInt32 := by
  have h2 := pk_shr v (nI 0 &&& 31) 0 (by decide)
  rw [show v >>> ((nI 0) &&& 31) = v from Int32.toInt_inj.mp (by rw [h2, Int.shiftRight_eq_div_pow]; simp)]
/-- the j-th byte of a number -/
def wb (v : Int32) (j : Nat) : Int32 := if j = 0 then (v >>> ((nI 24) &&& 31)).toInt8.toInt32 else if j = 1 then (v >>> ((nI 16) &&& 31)).toInt8.toInt32 else if j = 2 then (v >>> ((nI 8) &&& 31)).toInt8.toInt32 else v.toInt8.toInt32
/-- a number is written at a -/
def WR (ko kt a : Nat) (v : Int32) (s s' : Sto) : Prop := s'.1 ko 1 = nI (a + 4) ∧ (∀ j, j ≠ 1 → s'.1 ko j = s.1 ko j) ∧ (∀ k, k ≠ ko → k ≠ kt → s'.1 k = s.1 k) ∧ (∀ j, j < 4 → s'.1 kt (a + j) = wb v j) ∧ ∀ j, j < a → s'.1 kt j = s.1 kt j
theorem kwn {a : Nat} {v : Int32} {s : Sto} (h : s.1 0 1 = nI a) (ha : a + 4 ≤ 16384) : WR 0 1 a v s (F_K_writeNumber v s) := by
  have hc : (nI a).toNatClampNeg = a := nI_clamp (by omega)
  obtain ⟨y0, e0⟩ : ∃ y, y = (v >>> ((nI 24) &&& 31)).toInt8.toInt32 := ⟨_, rfl⟩
  obtain ⟨y1, e1⟩ : ∃ y, y = (v >>> ((nI 16) &&& 31)).toInt8.toInt32 := ⟨_, rfl⟩
  obtain ⟨y2, e2⟩ : ∃ y, y = (v >>> ((nI 8) &&& 31)).toInt8.toInt32 := ⟨_, rfl⟩
  obtain ⟨y3, e3⟩ : ∃ y, y = v.toInt8.toInt32 := ⟨_, rfl⟩
  have n0 : ∀ w : Sto, ∀ i, sB w 1 i ((((v).toUInt32 >>> ((nI 24).toUInt32 &&& Int32.toUInt32 31)).toInt32).toInt8.toInt32) = sI w 1 i y0 := fun w i => by rw [sB, shb24, pk_vb, e0]
  have n1 : ∀ w : Sto, ∀ i, sB w 1 i ((((v).toUInt32 >>> ((nI 16).toUInt32 &&& Int32.toUInt32 31)).toInt32).toInt8.toInt32) = sI w 1 i y1 := fun w i => by rw [sB, shb16, pk_vb, e1]
  have n2 : ∀ w : Sto, ∀ i, sB w 1 i ((((v).toUInt32 >>> ((nI 8).toUInt32 &&& Int32.toUInt32 31)).toInt32).toInt8.toInt32) = sI w 1 i y2 := fun w i => by rw [sB, shb8, pk_vb, e2]
  have n3 : ∀ w : Sto, ∀ i, sB w 1 i (v.toInt8.toInt32) = sI w 1 i y3 := fun w i => by rw [sB, pk_vb, e3]
  have g : ∀ (w : Sto) (i : Nat) (x : Int32), (sI w 1 i x).1 0 = w.1 0 := fun w i x => th_ne (by decide)
  have hU : F_K_writeNumber v s = sI (sI (sI (sI (sI s 1 a y0) 1 (a + 1) y1) 1 (a + 2) y2) 1 (a + 3) y3) 0 1 (nI (a + 4)) := by
    rw [F_K_writeNumber, bnd_eq, h, hc, bnd_eq, n0, bnd_eq, g, h, hc, bnd_eq, n1, bnd_eq, g, g, h, hc, bnd_eq, n2, bnd_eq, g, g, g, h, hc, bnd_eq, n3, bnd_eq, g, g, g, g, h, hc, bnd_eq]
  rw [hU]
  refine ⟨th_at, fun j hj => by rw [th_off hj, g, g, g, g], fun k u w => by rw [th_ne u, th_ne w, th_ne w, th_ne w, th_ne w], fun j hj => ?_, fun j hj => by rw [th_ne (by decide), th_off (by omega), th_off (by omega), th_off (by omega), th_off (by omega)]⟩
  rw [th_ne (by decide)]
  unfold wb
  have h9 : j = 0 ∨ j = 1 ∨ j = 2 ∨ j = 3 := by omega
  rcases h9 with rfl | rfl | rfl | rfl
  · rw [th_off (by omega), th_off (by omega), th_off (by omega), if_pos rfl, ← e0]; exact th_at
  · rw [th_off (by omega), th_off (by omega), if_neg (by decide), if_pos rfl, ← e1]; exact th_at
  · rw [th_off (by omega), if_neg (by decide), if_neg (by decide), if_pos rfl, ← e2]; exact th_at
  · rw [if_neg (by decide), if_neg (by decide), if_neg (by decide), ← e3]; exact th_at
theorem mfr {a : Nat} {v : Int32} {s : Sto} (h : s.1 148 1 = nI a) (ha : a + 4 ≤ 16384) : WR 148 149 a v s (F_M_four v s) := by
  obtain ⟨y0, e0⟩ : ∃ y, y = (v >>> ((nI 24) &&& 31)).toInt8.toInt32 := ⟨_, rfl⟩
  obtain ⟨y1, e1⟩ : ∃ y, y = (v >>> ((nI 16) &&& 31)).toInt8.toInt32 := ⟨_, rfl⟩
  obtain ⟨y2, e2⟩ : ∃ y, y = (v >>> ((nI 8) &&& 31)).toInt8.toInt32 := ⟨_, rfl⟩
  obtain ⟨y3, e3⟩ : ∃ y, y = v.toInt8.toInt32 := ⟨_, rfl⟩
  have n0 : ∀ w : Sto, ∀ i, sB w 149 i ((v >>> ((nI 24) &&& 31)).toInt8.toInt32) = sI w 149 i y0 := fun w i => by rw [sB, pk_vb, e0]
  have n1 : ∀ w : Sto, ∀ i, sB w 149 i ((v >>> ((nI 16) &&& 31)).toInt8.toInt32) = sI w 149 i y1 := fun w i => by rw [sB, pk_vb, e1]
  have n2 : ∀ w : Sto, ∀ i, sB w 149 i ((v >>> ((nI 8) &&& 31)).toInt8.toInt32) = sI w 149 i y2 := fun w i => by rw [sB, pk_vb, e2]
  have n3 : ∀ w : Sto, ∀ i, sB w 149 i ((v >>> ((nI 0) &&& 31)).toInt8.toInt32) = sI w 149 i y3 := fun w i => by rw [sB, shb0, pk_vb, e3]
  have g : ∀ (w : Sto) (i : Nat) (x : Int32), (sI w 149 i x).1 148 = w.1 148 := fun w i x => th_ne (by decide)
  have q : ∀ b, b < 16384 → (nI b).toNatClampNeg = b := fun b hb => nI_clamp (by omega)
  have hU : F_M_four v s = sI (sI (sI (sI (sI (sI (sI (sI s 149 a y0) 148 1 (nI (a + 1))) 149 (a + 1) y1) 148 1 (nI (a + 1 + 1))) 149 (a + 1 + 1) y2) 148 1 (nI (a + 1 + 1 + 1))) 149 (a + 1 + 1 + 1) y3) 148 1 (nI (a + 1 + 1 + 1 + 1)) := by
    rw [F_M_four, bnd_eq, h, q a (by omega), bnd_eq, n0, bnd_eq, g, h, q a (by omega), bnd_eq, bnd_eq, th_at, q (a + 1) (by omega), bnd_eq, n1, bnd_eq, g, th_at, q (a + 1) (by omega), bnd_eq, bnd_eq, th_at, q (a + 1 + 1) (by omega), bnd_eq, n2, bnd_eq, g, th_at, q (a + 1 + 1) (by omega), bnd_eq, bnd_eq, th_at, q (a + 1 + 1 + 1) (by omega), bnd_eq, n3, bnd_eq, g, th_at, q (a + 1 + 1 + 1) (by omega), bnd_eq]
  have m : ∀ (w : Sto) (x : Int32), (sI w 148 1 x).1 149 = w.1 149 := fun w x => th_ne (by decide)
  rw [hU]
  refine ⟨th_at, fun j hj => by rw [th_off hj, g, th_off hj, g, th_off hj, g, th_off hj, g], fun k u w => by rw [th_ne u, th_ne w, th_ne u, th_ne w, th_ne u, th_ne w, th_ne u, th_ne w], fun j hj => ?_, fun j hj => by rw [m, th_off (by omega), m, th_off (by omega), m, th_off (by omega), m, th_off (by omega)]⟩
  unfold wb
  have h9 : j = 0 ∨ j = 1 ∨ j = 2 ∨ j = 3 := by omega
  rcases h9 with rfl | rfl | rfl | rfl
  · rw [m, th_off (by omega), m, th_off (by omega), m, th_off (by omega), m, if_pos rfl, ← e0]; exact th_at
  · rw [m, th_off (by omega), m, th_off (by omega), m, if_neg (by decide), if_pos rfl, ← e1]; exact th_at
  · rw [m, th_off (by omega), m, if_neg (by decide), if_neg (by decide), if_pos rfl, ← e2]; exact th_at
  · rw [m, if_neg (by decide), if_neg (by decide), if_neg (by decide), ← e3]; exact th_at
/-- many numbers -/
def wbl (vs : List Int32) (j : Nat) : Int32 := wb (vs.getD (j / 4) 0) (j % 4)
def WRs (ko kt a : Nat) (vs : List Int32) (s s' : Sto) : Prop := s'.1 ko 1 = nI (a + 4 * vs.length) ∧ (∀ j, j ≠ 1 → s'.1 ko j = s.1 ko j) ∧ (∀ k, k ≠ ko → k ≠ kt → s'.1 k = s.1 k) ∧ (∀ j, j < 4 * vs.length → s'.1 kt (a + j) = wbl vs j) ∧ ∀ j, j < a → s'.1 kt j = s.1 kt j
theorem WRs_n {ko kt a : Nat} {s : Sto} (h : s.1 ko 1 = nI a) : WRs ko kt a [] s s := ⟨h, fun _ _ => rfl, fun _ _ _ => rfl, fun j hj => absurd hj (Nat.not_lt_zero j), fun _ _ => rfl⟩
theorem WRs_c {ko kt a : Nat} {v : Int32} {vs : List Int32} {s s1 s2 : Sto} (h : WR ko kt a v s s1) (h1 : WRs ko kt (a + 4) vs s1 s2) : WRs ko kt a (v :: vs) s s2 := by
  obtain ⟨a1, a2, a3, a4, a5⟩ := h
  obtain ⟨b1, b2, b3, b4, b5⟩ := h1
  have hl : (v :: vs).length = vs.length + 1 := rfl
  refine ⟨by rw [b1, hl, show a + 4 + 4 * vs.length = a + 4 * (vs.length + 1) by omega], fun j hj => (b2 j hj).trans (a2 j hj), fun k u w => (b3 k u w).trans (a3 k u w), fun j hj => ?_, fun j hj => (b5 j (by omega)).trans (a5 j hj)⟩
  rw [hl] at hj
  by_cases w : j < 4
  · rw [b5 (a + j) (by omega), a4 j w, wbl, Nat.div_eq_of_lt w, Nat.mod_eq_of_lt w]
    rfl
  · obtain ⟨i, rfl⟩ : ∃ i, j = i + 4 := ⟨j - 4, by omega⟩
    rw [show a + (i + 4) = a + 4 + i by omega, b4 i (by omega), wbl, wbl, show (i + 4) / 4 = i / 4 + 1 by omega, show (i + 4) % 4 = i % 4 by omega]
    rfl
theorem feed_alike {tl al pn : Nat} {v1 v2 v3 v4 v5 : Int32} {s : Sto} (h : SAME tl al pn s) : ALIKE (F_K_feed v1 v2 v3 v4 v5 s) (F_M_feed v1 v2 v3 v4 v5) := by
  obtain ⟨⟨a1, a2, a3⟩, ⟨b1, b2, b3⟩, ⟨c1, c2, c3⟩, d, e, f⟩ := id h
  have hc : (nI tl).toNatClampNeg = tl := nI_clamp (by omega)
  by_cases hv : tl ≤ 16364
  · have w1 := kwn (v := v1) a1 (by omega)
    have w2 := kwn (v := v2) w1.1 (by omega)
    have w3 := kwn (v := v3) w2.1 (by omega)
    have w4 := kwn (v := v4) w3.1 (by omega)
    have w5 := kwn (v := v5) w4.1 (by omega)
    have W : WRs 0 1 tl [v1, v2, v3, v4, v5] s (F_K_writeNumber v5 (F_K_writeNumber v4 (F_K_writeNumber v3 (F_K_writeNumber v2 (F_K_writeNumber v1 s))))) := WRs_c w1 (WRs_c w2 (WRs_c w3 (WRs_c w4 (WRs_c w5 (WRs_n w5.1)))))
    have k1 : F_K_feed v1 v2 v3 v4 v5 s = (nI 0, nI (tl + 20), F_K_writeNumber v5 (F_K_writeNumber v4 (F_K_writeNumber v3 (F_K_writeNumber v2 (F_K_writeNumber v1 s))))) := by
      rw [F_K_feed, bnd_eq, a1, hc, if_pos hv, bnd_eq, bnd_eq, bnd_eq, bnd_eq, bnd_eq, bnd_eq, W.1, nI_clamp (show tl + 4 * [v1, v2, v3, v4, v5].length < 2 ^ 31 by show tl + 20 < 2 ^ 31; omega)]
      rfl
    rw [k1]
    unfold ALIKE
    dsimp only
    generalize F_K_writeNumber v5 (F_K_writeNumber v4 (F_K_writeNumber v3 (F_K_writeNumber v2 (F_K_writeNumber v1 s)))) = s1 at W
    obtain ⟨W1, W2, W3, W4, W5⟩ := W
    have n1 : (sI s1 148 0 (nI 0)).1 148 1 = nI tl := by rw [th_off (by decide), W3 148 (by decide) (by decide)]; exact a2
    have q1 := mfr (v := v1) n1 (by omega)
    have q2 := mfr (v := v2) q1.1 (by omega)
    have q3 := mfr (v := v3) q2.1 (by omega)
    have q4 := mfr (v := v4) q3.1 (by omega)
    have q5 := mfr (v := v5) q4.1 (by omega)
    have Q : WRs 148 149 tl [v1, v2, v3, v4, v5] (sI s1 148 0 (nI 0)) (F_M_four v5 (F_M_four v4 (F_M_four v3 (F_M_four v2 (F_M_four v1 (sI s1 148 0 (nI 0))))))) := WRs_c q1 (WRs_c q2 (WRs_c q3 (WRs_c q4 (WRs_c q5 (WRs_n q5.1)))))
    have k2 : F_M_feed v1 v2 v3 v4 v5 s1 = (nI (tl + 20), F_M_four v5 (F_M_four v4 (F_M_four v3 (F_M_four v2 (F_M_four v1 (sI s1 148 0 (nI 0))))))) := by
      rw [F_M_feed, bnd_eq, bnd_eq, n1, hc, if_pos (by omega), bnd_eq, bnd_eq, bnd_eq, bnd_eq, bnd_eq, bnd_eq, Q.1, nI_clamp (show tl + 4 * [v1, v2, v3, v4, v5].length < 2 ^ 31 by show tl + 20 < 2 ^ 31; omega)]
      rfl
    rw [k2]
    generalize F_M_four v5 (F_M_four v4 (F_M_four v3 (F_M_four v2 (F_M_four v1 (sI s1 148 0 (nI 0)))))) = t at Q
    obtain ⟨Q1, Q2, Q3, Q4, Q5⟩ := Q
    have o : ∀ k, k ≠ 0 → k ≠ 1 → k ≠ 148 → k ≠ 149 → t.1 k = s.1 k := fun k u v w x => by rw [Q3 k w x, th_ne w, W3 k u v]
    have o0 : t.1 0 = s1.1 0 := by rw [Q3 0 (by decide) (by decide), th_ne (by decide)]
    have o1 : t.1 1 = s1.1 1 := by rw [Q3 1 (by decide) (by decide), th_ne (by decide)]
    have oM : ∀ j, j ≠ 0 → j ≠ 1 → t.1 148 j = s.1 148 j := fun j u v => by rw [Q2 j v, th_off u, W3 148 (by decide) (by decide)]
    refine ⟨⟨tl + 20, al, pn, ⟨by rw [o0]; exact W1, Q1, by omega⟩, ⟨by rw [o0, W2 3 (by decide)]; exact b1, by rw [oM 2 (by decide) (by decide)]; exact b2, b3⟩, ⟨by rw [o0, W2 5 (by decide)]; exact c1, by rw [oM 3 (by decide) (by decide)]; exact c2, c3⟩, fun j hj => ?_, ?_, fun i hi => PAIR_c (by omega) (fun k hk => o k (by unfold isP at hk; omega) (by unfold isP at hk; omega) (by unfold isP at hk; omega) (by unfold isP at hk; omega)) (f i hi)⟩, ?_, fun _ => rfl⟩
    · rw [o1]
      by_cases w : j < tl
      · rw [W5 j w, Q5 j w, th_ne (by decide), W3 149 (by decide) (by decide)]
        exact d j w
      · obtain ⟨i, rfl⟩ : ∃ i, j = tl + i := ⟨j - tl, by omega⟩
        have hi : i < 4 * [v1, v2, v3, v4, v5].length := by show i < 20; omega
        rw [W4 i hi, Q4 i hi]
    · rw [o 2 (by decide) (by decide) (by decide) (by decide), o 150 (by decide) (by decide) (by decide) (by decide)]; exact e
    · rw [Q2 0 (by decide)]; exact th_at
  · have n1 : (sI s 148 0 (nI 0)).1 148 1 = nI tl := by rw [th_off (by decide)]; exact a2
    have k1 : F_K_feed v1 v2 v3 v4 v5 s = (nI 1, nI 0, s) := by rw [F_K_feed, bnd_eq, a1, hc, if_neg hv]
    have k2 : F_M_feed v1 v2 v3 v4 v5 s = (nI 0, sI (sI s 148 0 (nI 0)) 148 0 (nI 1)) := by rw [F_M_feed, bnd_eq, bnd_eq, n1, hc, if_neg (by omega), bnd_eq, mfail_eq]
    rw [k1]
    exact alike_fail h k2 (by decide)
