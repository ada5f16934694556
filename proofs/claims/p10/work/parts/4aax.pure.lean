set_option linter.all false
/-! products of transformed rows (ML-KEM) -/
def vn (r : Nat → Int32) (k : Nat) : Nat := (r k).toNatClampNeg
theorem vn_n {r : Nat → Int32} {k n : Nat} (h : r k = nI n) (hn : n < 2 ^ 31) : vn r k = n := by
  unfold vn
  rw [h, nI_clamp hn]
theorem vn_c {r r' : Nat → Int32} {k : Nat} (h : r k = r' k) : vn r k = vn r' k := by
  unfold vn
  rw [h]
def peF (w : Nat) (S F G : Nat → Int32) (b : Nat) : Nat := (vn S (2 * b) + (vn F (2 * b) * vn G (2 * b) + vn F (2 * b + 1) * vn G (2 * b + 1) % 3329 * w)) % 3329
def poF (S F G : Nat → Int32) (b : Nat) : Nat := (vn S (2 * b + 1) + (vn F (2 * b) * vn G (2 * b + 1) + vn F (2 * b + 1) * vn G (2 * b))) % 3329
theorem peF_c {w b : Nat} {S F G S' F' G' : Nat → Int32} (hS : ∀ k, k < 256 → S k = S' k) (hF : ∀ k, k < 256 → F k = F' k) (hG : ∀ k, k < 256 → G k = G' k) (hb : b < 128) : peF w S F G b = peF w S' F' G' b := by
  unfold peF
  rw [vn_c (hS (2 * b) (by omega)), vn_c (hF (2 * b) (by omega)), vn_c (hG (2 * b) (by omega)), vn_c (hF (2 * b + 1) (by omega)), vn_c (hG (2 * b + 1) (by omega))]
theorem poF_c {b : Nat} {S F G S' F' G' : Nat → Int32} (hS : ∀ k, k < 256 → S k = S' k) (hF : ∀ k, k < 256 → F k = F' k) (hG : ∀ k, k < 256 → G k = G' k) (hb : b < 128) : poF S F G b = poF S' F' G' b := by
  unfold poF
  rw [vn_c (hS (2 * b + 1) (by omega)), vn_c (hF (2 * b) (by omega)), vn_c (hG (2 * b) (by omega)), vn_c (hF (2 * b + 1) (by omega)), vn_c (hG (2 * b + 1) (by omega))]
/-- what one pair of a product does -/
def prR (w b ps : Nat) (F G : Nat → Int32) (s s' : Sto) : Prop := onl ps s s' ∧ s'.1 ps (2 * b) = nI (peF w (s.1 ps) F G b) ∧ s'.1 ps (2 * b + 1) = nI (poF (s.1 ps) F G b) ∧ ∀ k, k ≠ 2 * b → k ≠ 2 * b + 1 → s'.1 ps k = s.1 ps k
theorem prR_mk {w b ps X Y : Nat} {F G : Nat → Int32} {s : Sto} (hX : X = peF w (s.1 ps) F G b) (hY : Y = poF (s.1 ps) F G b) : prR w b ps F G s (sI (sI s ps (2 * b) (nI X)) ps (2 * b + 1) (nI Y)) := by
  refine ⟨onl_tr onl_sI onl_sI, ?_, ?_, fun k u v => ?_⟩
  · rw [sI_row, sI_row, upd_n (by omega), upd_s, hX]
  · rw [sI_row, upd_s, hY]
  · rw [sI_row, sI_row, upd_n v, upd_n u]
theorem ap7 {ps pf pg b w : Nat} {s : Sto} (hb : b < 128) (hw : w ≤ 3329) (hS : rdc 3329 (s.1 ps)) (hF : rdc 3329 (s.1 pf)) (hG : rdc 3329 (s.1 pg)) : prR w b ps (s.1 pf) (s.1 pg) s (F_RG_addPair_7 ps pf pg (2 * b) (lN w) s) := by
  obtain ⟨f0, hf0, ef0⟩ := hF (2 * b) (by omega)
  obtain ⟨f1, hf1, ef1⟩ := hF (2 * b + 1) (by omega)
  obtain ⟨g0, hg0, eg0⟩ := hG (2 * b) (by omega)
  obtain ⟨g1, hg1, eg1⟩ := hG (2 * b + 1) (by omega)
  obtain ⟨a0, ha0, ea0⟩ := hS (2 * b) (by omega)
  obtain ⟨a1, ha1, ea1⟩ := hS (2 * b + 1) (by omega)
  have m1 : f1 * g1 ≤ 3329 * 3329 := Nat.mul_le_mul (by omega) (by omega)
  have m0 : f0 * g0 ≤ 3329 * 3329 := Nat.mul_le_mul (by omega) (by omega)
  have m2 : f0 * g1 ≤ 3329 * 3329 := Nat.mul_le_mul (by omega) (by omega)
  have m3 : f1 * g0 ≤ 3329 * 3329 := Nat.mul_le_mul (by omega) (by omega)
  have m4 : f1 * g1 % 3329 * w ≤ 3329 * 3329 := Nat.mul_le_mul (by omega) (by omega)
  have y1 : ((s.1 pf (2 * b + 1)).toInt64 * (s.1 pg (2 * b + 1)).toInt64) - ((s.1 pf (2 * b + 1)).toInt64 * (s.1 pg (2 * b + 1)).toInt64) / (nI 3329).toInt64 * (nI 3329).toInt64 = lN (f1 * g1 % 3329) := by
    rw [ef1, eg1, nI_l (n := f1) (by omega), nI_l (n := g1) (by omega), lN_mul, lN_rem7 (by omega)]
  have y2 : ((s.1 pf (2 * b)).toInt64 * (s.1 pg (2 * b)).toInt64) + (lN (f1 * g1 % 3329) * lN w) = lN (f0 * g0 + f1 * g1 % 3329 * w) := by
    rw [ef0, eg0, nI_l (n := f0) (by omega), nI_l (n := g0) (by omega), lN_mul, lN_mul, lN_add]
  have y3 : ((s.1 pf (2 * b)).toInt64 * (s.1 pg (2 * b + 1)).toInt64) + ((s.1 pf (2 * b + 1)).toInt64 * (s.1 pg (2 * b)).toInt64) = lN (f0 * g1 + f1 * g0) := by
    rw [ef0, eg1, ef1, eg0, nI_l (n := f0) (by omega), nI_l (n := g1) (by omega), nI_l (n := f1) (by omega), nI_l (n := g0) (by omega), lN_mul, lN_mul, lN_add]
  have z1 : ∀ (a Y : Nat) (x : Int32), x = nI a → a < 3329 → Y < 2 ^ 60 → ((x.toInt64 + lN Y) - (x.toInt64 + lN Y) / (nI 3329).toInt64 * (nI 3329).toInt64).toInt32 = nI ((a + Y) % 3329) := fun a Y x hx ha hY => by
    rw [hx, nI_l (n := a) (by omega), lN_add, lN_rem7 (by omega), lN_i]
  have hU : F_RG_addPair_7 ps pf pg (2 * b) (lN w) s = sI (sI s ps (2 * b) (nI ((a0 + (f0 * g0 + f1 * g1 % 3329 * w)) % 3329))) ps (2 * b + 1) (nI ((a1 + (f0 * g1 + f1 * g0)) % 3329)) := by
    rw [F_RG_addPair_7, y1, bnd_eq, y2, bnd_eq, y3, bnd_eq, z1 a0 _ _ ea0 ha0 (by omega), bnd_eq, z1 a1 _ _ (by rw [sI_off (by omega)]; exact ea1) ha1 (by omega), bnd_eq]
  rw [hU]
  refine prR_mk ?_ ?_
  · unfold peF
    rw [vn_n ea0 (by omega), vn_n ef0 (by omega), vn_n eg0 (by omega), vn_n ef1 (by omega), vn_n eg1 (by omega)]
  · unfold poF
    rw [vn_n ea1 (by omega), vn_n ef0 (by omega), vn_n eg0 (by omega), vn_n ef1 (by omega), vn_n eg1 (by omega)]
/-- the whole product: from the pair b0 on -/
def prA (x : Nat → Nat) (b0 ps : Nat) (F G : Nat → Int32) (s s' : Sto) : Prop := onl ps s s' ∧ rdc 3329 (s'.1 ps) ∧ (∀ b, b0 ≤ b → b < 128 → s'.1 ps (2 * b) = nI (peF (x b) (s.1 ps) F G b) ∧ s'.1 ps (2 * b + 1) = nI (poF (s.1 ps) F G b)) ∧ ∀ k, k < 2 * b0 → s'.1 ps k = s.1 ps k
theorem prR_rdc {w b ps : Nat} {F G : Nat → Int32} {s s' : Sto} (h : prR w b ps F G s s') (hS : rdc 3329 (s.1 ps)) : rdc 3329 (s'.1 ps) := fun k hk => by
  by_cases u : k = 2 * b
  · subst u
    exact ⟨_, Nat.mod_lt _ (by decide), h.2.1⟩
  · by_cases v : k = 2 * b + 1
    · subst v
      exact ⟨_, Nat.mod_lt _ (by decide), h.2.2.1⟩
    · rw [h.2.2.2 k u v]
      exact hS k hk
theorem prA_cons {x : Nat → Nat} {w b0 ps : Nat} {F G : Nat → Int32} {s s1 s' : Sto} (h : prR w b0 ps F G s s1) (hw : w = x b0) (h1 : prA x (b0 + 1) ps F G s1 s') : prA x b0 ps F G s s' := by
  obtain ⟨q1, q2, q3, q4⟩ := h1
  refine ⟨onl_tr h.1 q1, q2, fun b u v => ?_, fun k u => ?_⟩
  · by_cases w' : b = b0
    · subst w'
      subst hw
      exact ⟨(q4 (2 * b) (by omega)).trans h.2.1, (q4 (2 * b + 1) (by omega)).trans h.2.2.1⟩
    · obtain ⟨r1, r2⟩ := q3 b (by omega) v
      have e0 := h.2.2.2 (2 * b) (by omega) (by omega)
      have e1 := h.2.2.2 (2 * b + 1) (by omega) (by omega)
      refine ⟨r1.trans (congrArg nI ?_), r2.trans (congrArg nI ?_)⟩
      · unfold peF
        rw [vn_c e0]
      · unfold poF
        rw [vn_c e1]
  · rw [q4 k (by omega), h.2.2.2 k (by omega) (by omega)]
theorem P_addProduct7 {ps pf pg : Nat} (h1 : pf ≠ ps) (h2 : pg ≠ ps) : ∀ (n i : Nat) (s : Sto), i + n = 64 → rdc 3329 (s.1 ps) → rdc 3329 (s.1 pf) → rdc 3329 (s.1 pg) → prA (fun b => xn7 (128 + b)) (2 * i) ps (s.1 pf) (s.1 pg) s (F_RG_addProduct_7_L0 ps pf pg n i s)
  | 0, i, s, hi, hS, _, _ => ⟨onl_rf, hS, fun b u v => by omega, fun _ _ => rfl⟩
  | n + 1, i, s, hi, hS, hF, hG => by
    have hc := ct1_lq (64 + i) (by omega)
    have a1 := ap7 (b := 2 * i) (w := xn7 (128 + 2 * i)) (pg := pg) (by omega) (by rw [show 128 + 2 * i = 2 * (64 + i) by omega, xn7_e (by omega)]; omega) hS hF hG
    have hU : F_RG_addProduct_7_L0 ps pf pg (n + 1) i s = F_RG_addProduct_7_L0 ps pf pg n (i + 1) (F_RG_addPair_7 ps pf pg (2 * (2 * i + 1)) (lN (xn7 (128 + (2 * i + 1)))) (F_RG_addPair_7 ps pf pg (2 * (2 * i)) (lN (xn7 (128 + 2 * i))) s)) := by
      have e1 : xn7 (128 + 2 * i) = ct1.getD (64 + i) 0 := by rw [show 128 + 2 * i = 2 * (64 + i) by omega, xn7_e (by omega)]
      have e2 : xn7 (128 + (2 * i + 1)) = 3329 - ct1.getD (64 + i) 0 := by rw [show 128 + (2 * i + 1) = 2 * (64 + i) + 1 by omega, xn7_o (by omega)]
      have e3 : (nI 3329 - ctI 1 (64 + i)).toInt64 = lN (3329 - ct1.getD (64 + i) 0) := by
        show (nI 3329 - nI (ct1.getD (64 + i) 0)).toInt64 = _
        rw [pk_sub (by omega), nI_l (by omega)]
      rw [F_RG_addProduct_7_L0, bnd_eq, bnd_eq, bnd_eq, ctI1_l (by omega), e3, e1, e2, show 2 * (2 * i + 1) = 4 * i + 2 by omega, show 2 * (2 * i) = 4 * i by omega]
    generalize F_RG_addPair_7 ps pf pg (2 * (2 * i)) (lN (xn7 (128 + 2 * i))) s = s1 at a1 hU
    have f1 : s1.1 pf = s.1 pf := a1.1.1 pf h1
    have g1 : s1.1 pg = s.1 pg := a1.1.1 pg h2
    have hS1 := prR_rdc a1 hS
    have a2 := ap7 (b := 2 * i + 1) (w := xn7 (128 + (2 * i + 1))) (ps := ps) (pf := pf) (pg := pg) (s := s1) (by omega) (by rw [show 128 + (2 * i + 1) = 2 * (64 + i) + 1 by omega, xn7_o (by omega)]; omega) hS1 (by rw [f1]; exact hF) (by rw [g1]; exact hG)
    generalize F_RG_addPair_7 ps pf pg (2 * (2 * i + 1)) (lN (xn7 (128 + (2 * i + 1)))) s1 = s2 at a2 hU
    have f2 : s2.1 pf = s.1 pf := (a2.1.1 pf h1).trans f1
    have g2 : s2.1 pg = s.1 pg := (a2.1.1 pg h2).trans g1
    have hS2 := prR_rdc a2 hS1
    have c := P_addProduct7 h1 h2 n (i + 1) s2 (by omega) hS2 (by rw [f2]; exact hF) (by rw [g2]; exact hG)
    rw [f1, g1] at a2
    rw [f2, g2] at c
    rw [hU]
    exact prA_cons a1 rfl (prA_cons a2 rfl c)
theorem pr7 {pt pf pg b n : Nat} {s : Sto} (hb : b < 128) (hS : rdc 3329 (s.1 pt)) (hF : rdc 3329 (s.1 pf)) (hG : rdc 3329 (s.1 pg)) : ∃ s1, F_ME_product_L0 pf pg pt (n + 1) (2 * b) s = F_ME_product_L0 pf pg pt n (2 * (b + 1)) s1 ∧ prR (cl1.getD (ct3.getD b 0) 0) b pt (s.1 pf) (s.1 pg) s s1 := by
  obtain ⟨f0, hf0, ef0⟩ := hF (2 * b) (by omega)
  obtain ⟨f1, hf1, ef1⟩ := hF (2 * b + 1) (by omega)
  obtain ⟨g0, hg0, eg0⟩ := hG (2 * b) (by omega)
  obtain ⟨g1, hg1, eg1⟩ := hG (2 * b + 1) (by omega)
  obtain ⟨a0, ha0, ea0⟩ := hS (2 * b) (by omega)
  obtain ⟨a1, ha1, ea1⟩ := hS (2 * b + 1) (by omega)
  have hw := cl1_lq _ (ct3_lt b hb)
  generalize hw0 : cl1.getD (ct3.getD b 0) 0 = w at hw
  have m1 : f1 * g1 ≤ 3329 * 3329 := Nat.mul_le_mul (by omega) (by omega)
  have m0 : f0 * g0 ≤ 3329 * 3329 := Nat.mul_le_mul (by omega) (by omega)
  have m2 : f0 * g1 ≤ 3329 * 3329 := Nat.mul_le_mul (by omega) (by omega)
  have m3 : f1 * g0 ≤ 3329 * 3329 := Nat.mul_le_mul (by omega) (by omega)
  have m4 : f1 * g1 % 3329 * w ≤ 3329 * 3329 := Nat.mul_le_mul (by omega) (by omega)
  have y1 : ((s.1 pf (2 * b + 1) * s.1 pg (2 * b + 1)) - (s.1 pf (2 * b + 1) * s.1 pg (2 * b + 1)) / nI 3329 * nI 3329) = nI (f1 * g1 % 3329) := by
    rw [ef1, eg1, pk_mul, pk_rem (by omega) (by decide) (by decide)]
  have y2 : ((s.1 pf (2 * b) * s.1 pg (2 * b)).toInt64) + ((nI (f1 * g1 % 3329)).toInt64 * lN w) = lN (f0 * g0 + f1 * g1 % 3329 * w) := by
    rw [ef0, eg0, pk_mul, nI_l (n := f0 * g0) (by omega), nI_l (n := f1 * g1 % 3329) (by omega), lN_mul, lN_add]
  have y3 : (s.1 pf (2 * b) * s.1 pg (2 * b + 1)) + (s.1 pf (2 * b + 1) * s.1 pg (2 * b)) = nI (f0 * g1 + f1 * g0) := by
    rw [ef0, eg1, ef1, eg0, pk_mul, pk_mul, nI_add]
  have z1 : ((s.1 pt (2 * b)).toInt64 + lN (f0 * g0 + f1 * g1 % 3329 * w) - ((s.1 pt (2 * b)).toInt64 + lN (f0 * g0 + f1 * g1 % 3329 * w)) / 3329 * 3329).toInt32 = nI ((a0 + (f0 * g0 + f1 * g1 % 3329 * w)) % 3329) := by
    rw [ea0, nI_l (n := a0) (by omega), lN_add]
    show (lN (a0 + (f0 * g0 + f1 * g1 % 3329 * w)) - lN (a0 + (f0 * g0 + f1 * g1 % 3329 * w)) / lN 3329 * lN 3329).toInt32 = _
    rw [pk_lRem (by omega) (by decide) (by decide), lN_i]
  refine ⟨sI (sI s pt (2 * b) (nI ((a0 + (f0 * g0 + f1 * g1 % 3329 * w)) % 3329))) pt (2 * b + 1) (nI ((a1 + (f0 * g1 + f1 * g0)) % 3329)), ?_, prR_mk ?_ ?_⟩
  · have z2 : ∀ x : Int32, x = nI a1 → (x + nI (f0 * g1 + f1 * g0)) - (x + nI (f0 * g1 + f1 * g0)) / nI 3329 * nI 3329 = nI ((a1 + (f0 * g1 + f1 * g0)) % 3329) := fun x hx => by
      rw [hx, nI_add, pk_rem (by omega) (by decide) (by decide)]
    have hR : F_MR_root (2 * b / 2) s = (lN w, s) := by
      rw [F_MR_root, show 2 * b / 2 = b by omega, ← hw0]
      rfl
    rw [F_ME_product_L0, hR, bnd_eq]
    show bnd (((s.1 pf (2 * b) * s.1 pg (2 * b)).toInt64) + (((s.1 pf (2 * b + 1) * s.1 pg (2 * b + 1)) - (s.1 pf (2 * b + 1) * s.1 pg (2 * b + 1)) / nI 3329 * nI 3329).toInt64 * lN w)) _ = _
    rw [y1, y2, bnd_eq]
    show bnd ((s.1 pf (2 * b) * s.1 pg (2 * b + 1)) + (s.1 pf (2 * b + 1) * s.1 pg (2 * b))) _ = _
    rw [y3, bnd_eq]
    show bnd (sI s pt (2 * b) (((s.1 pt (2 * b)).toInt64 + lN (f0 * g0 + f1 * g1 % 3329 * w) - ((s.1 pt (2 * b)).toInt64 + lN (f0 * g0 + f1 * g1 % 3329 * w)) / 3329 * 3329).toInt32)) _ = _
    rw [z1, bnd_eq, z2 _ (by rw [sI_off (by omega)]; exact ea1), bnd_eq, show 2 * (b + 1) = 2 * b + 2 by omega]
  · unfold peF
    rw [vn_n ea0 (by omega), vn_n ef0 (by omega), vn_n eg0 (by omega), vn_n ef1 (by omega), vn_n eg1 (by omega)]
  · unfold poF
    rw [vn_n ea1 (by omega), vn_n ef0 (by omega), vn_n eg0 (by omega), vn_n ef1 (by omega), vn_n eg1 (by omega)]
theorem Q_product {pt pf pg : Nat} (h1 : pf ≠ pt) (h2 : pg ≠ pt) : ∀ (n b : Nat) (s : Sto), b + n = 128 → rdc 3329 (s.1 pt) → rdc 3329 (s.1 pf) → rdc 3329 (s.1 pg) → prA (fun b => cl1.getD (ct3.getD b 0) 0) b pt (s.1 pf) (s.1 pg) s (F_ME_product_L0 pf pg pt n (2 * b) s)
  | 0, b, s, hi, hS, _, _ => ⟨onl_rf, hS, fun b u v => by omega, fun _ _ => rfl⟩
  | n + 1, b, s, hi, hS, hF, hG => by
    obtain ⟨s1, e, a1⟩ := pr7 (n := n) (b := b) (pt := pt) (pf := pf) (pg := pg) (s := s) (by omega) hS hF hG
    have f1 : s1.1 pf = s.1 pf := a1.1.1 pf h1
    have g1 : s1.1 pg = s.1 pg := a1.1.1 pg h2
    have c := Q_product h1 h2 n (b + 1) s1 (by omega) (prR_rdc a1 hS) (by rw [f1]; exact hF) (by rw [g1]; exact hG)
    rw [f1, g1] at c
    rw [e]
    exact prA_cons a1 rfl c
theorem leaf7_e : ∀ b, b < 128 → xn7 (128 + b) = cl1.getD (ct3.getD b 0) 0 := by decide +kernel
/-- ML-KEM: the program's product of two transformed rows and the reference's -/
theorem product_same {ps pf pg qs qf qg : Nat} {s t : Sto} (h1 : pf ≠ ps) (h2 : pg ≠ ps) (h3 : qf ≠ qs) (h4 : qg ≠ qs) (hS : rdc 3329 (s.1 ps)) (hF : rdc 3329 (s.1 pf)) (hG : rdc 3329 (s.1 pg)) (eS : ∀ k, k < 256 → s.1 ps k = t.1 qs k) (eF : ∀ k, k < 256 → s.1 pf k = t.1 qf k) (eG : ∀ k, k < 256 → s.1 pg k = t.1 qg k) :
    onl ps s (F_RG_addProduct_7 ps pf pg s) ∧ onl qs t (F_ME_product qf qg qs t) ∧ rdc 3329 ((F_RG_addProduct_7 ps pf pg s).1 ps) ∧ ∀ k, k < 256 → (F_RG_addProduct_7 ps pf pg s).1 ps k = (F_ME_product qf qg qs t).1 qs k := by
  have hU : F_RG_addProduct_7 ps pf pg s = F_RG_addProduct_7_L0 ps pf pg 64 0 s := by rw [F_RG_addProduct_7]
  have hV : F_ME_product qf qg qs t = F_ME_product_L0 qf qg qs 128 (2 * 0) t := by rw [F_ME_product]
  obtain ⟨a1, a2, a3, -⟩ := P_addProduct7 h1 h2 64 0 s rfl hS hF hG
  obtain ⟨b1, -, b3, -⟩ := Q_product h3 h4 128 0 t rfl (rdc_c hS fun k hk => (eS k hk).symm) (rdc_c hF fun k hk => (eF k hk).symm) (rdc_c hG fun k hk => (eG k hk).symm)
  rw [hU, hV]
  refine ⟨a1, b1, a2, fun k hk => ?_⟩
  obtain ⟨c1, c2⟩ := a3 (k / 2) (Nat.zero_le _) (by omega)
  obtain ⟨d1, d2⟩ := b3 (k / 2) (Nat.zero_le _) (by omega)
  rcases Nat.mod_two_eq_zero_or_one k with z | z
  · rw [show 2 * (k / 2) = k by omega] at c1 d1
    rw [c1, d1]
    show nI (peF (xn7 (128 + k / 2)) (s.1 ps) (s.1 pf) (s.1 pg) (k / 2)) = nI (peF (cl1.getD (ct3.getD (k / 2) 0) 0) (t.1 qs) (t.1 qf) (t.1 qg) (k / 2))
    rw [leaf7_e (k / 2) (by omega), peF_c eS eF eG (by omega)]
  · rw [show 2 * (k / 2) + 1 = k by omega] at c2 d2
    rw [c2, d2, poF_c eS eF eG (by omega)]
