set_option linter.all false
/-! number by number: sums, rounding, reduction -/
theorem el_loop {pf : Nat} {G : Nat → Nat → Sto → Sto} {K : Sto → Sto} {e : Nat → Sto → Int32} (h0 : ∀ i s, G 0 i s = K s) (h1 : ∀ n i s, G (n + 1) i s = G n (i + 1) (sI s pf i (e i s))) (he : ∀ i s s', onl pf s s' → s'.1 pf i = s.1 pf i → e i s' = e i s) : ∀ (n i : Nat) (s : Sto), ∃ s1, G n i s = K s1 ∧ onl pf s s1 ∧ (∀ k, i ≤ k → k < i + n → s1.1 pf k = e k s) ∧ ∀ k, (k < i ∨ i + n ≤ k) → s1.1 pf k = s.1 pf k
  | 0, i, s => ⟨s, h0 i s, onl_rf, fun k u v => by omega, fun _ _ => rfl⟩
  | n + 1, i, s => by
    have o1 : onl pf s (sI s pf i (e i s)) := onl_sI
    have r1 : (sI s pf i (e i s)).1 pf = upd (s.1 pf) i (e i s) := sI_row
    have hU := h1 n i s
    generalize sI s pf i (e i s) = s0 at hU o1 r1
    obtain ⟨s1, a, b, c, d⟩ := el_loop h0 h1 he n (i + 1) s0
    refine ⟨s1, hU.trans a, onl_tr o1 b, fun k u v => ?_, fun k u => ?_⟩
    · by_cases w : k = i
      · subst w
        rw [d k (by omega), r1, upd_s]
      · rw [c k (by omega) (by omega)]
        exact he k s s0 o1 (by rw [r1, upd_n w])
    · rw [d k (by omega), r1, upd_n (by omega)]
theorem e_if {c : Prop} [Decidable c] {G : Sto → Sto} {s : Sto} {pf j : Nat} {x y : Int32} : (if c then bnd (sI s pf j x) (fun s2 => G s2) else bnd (sI s pf j y) (fun s2 => G s2)) = G (sI s pf j (if c then x else y)) := by
  by_cases h : c <;> simp [bnd, h]
/-- two rows, the same and reduced -/
def sr (q : Nat) (r r' : Nat → Int32) : Prop := ∀ k, k < 256 → ∃ n : Nat, n < q ∧ r k = nI n ∧ r' k = nI n
theorem sr_of {q : Nat} {r r' : Nat → Int32} (h : rdc q r) (e : ∀ k, k < 256 → r k = r' k) : sr q r r' := fun k hk => by
  obtain ⟨n, h1, h2⟩ := h k hk
  exact ⟨n, h1, h2, (e k hk).symm.trans h2⟩
theorem sr_l {q : Nat} {r r' : Nat → Int32} (h : sr q r r') : rdc q r := fun k hk => by
  obtain ⟨n, h1, h2, -⟩ := h k hk
  exact ⟨n, h1, h2⟩
theorem sr_r {q : Nat} {r r' : Nat → Int32} (h : sr q r r') : rdc q r' := fun k hk => by
  obtain ⟨n, h1, -, h2⟩ := h k hk
  exact ⟨n, h1, h2⟩
theorem sr_e {q : Nat} {r r' : Nat → Int32} (h : sr q r r') : ∀ k, k < 256 → r k = r' k := fun k hk => by
  obtain ⟨n, -, h2, h3⟩ := h k hk
  rw [h2, h3]
theorem sr_lt {q q' : Nat} {r r' : Nat → Int32} (h : sr q r r') (hq : q ≤ q') : sr q' r r' := fun k hk => by
  obtain ⟨n, h1, h2, h3⟩ := h k hk
  exact ⟨n, by omega, h2, h3⟩
theorem P_add {pf pg : Nat} {s : Sto} (hne : pg ≠ pf) : onl pf s (F_RG_add_7 pf pg s) ∧ ∀ k, k < 256 → (F_RG_add_7 pf pg s).1 pf k = if s.1 pf k + s.1 pg k < nI 3329 then s.1 pf k + s.1 pg k else s.1 pf k + s.1 pg k - nI 3329 := by
  obtain ⟨s1, a, b, c, -⟩ := el_loop (pf := pf) (G := F_RG_add_7_L0 pf pg) (K := fun s => s) (e := fun i s => if s.1 pf i + s.1 pg i < nI 3329 then s.1 pf i + s.1 pg i else s.1 pf i + s.1 pg i - nI 3329) (fun i s => by rw [F_RG_add_7_L0]) (fun n i s => by rw [F_RG_add_7_L0, bnd_eq]; exact e_if) (fun i s s' o h => by simp only [h, o.1 pg hne]) 256 0 s
  rw [F_RG_add_7, a]
  exact ⟨b, fun k hk => c k (Nat.zero_le _) (by omega)⟩
theorem P_subtract {pf pg : Nat} {s : Sto} (hne : pg ≠ pf) : onl pf s (F_RG_subtract_7 pf pg s) ∧ ∀ k, k < 256 → (F_RG_subtract_7 pf pg s).1 pf k = if 0 ≤ s.1 pf k - s.1 pg k then s.1 pf k - s.1 pg k else s.1 pf k - s.1 pg k + nI 3329 := by
  obtain ⟨s1, a, b, c, -⟩ := el_loop (pf := pf) (G := F_RG_subtract_7_L0 pf pg) (K := fun s => s) (e := fun i s => if 0 ≤ s.1 pf i - s.1 pg i then s.1 pf i - s.1 pg i else s.1 pf i - s.1 pg i + nI 3329) (fun i s => by rw [F_RG_subtract_7_L0]) (fun n i s => by rw [F_RG_subtract_7_L0, bnd_eq]; exact e_if) (fun i s s' o h => by simp only [h, o.1 pg hne]) 256 0 s
  rw [F_RG_subtract_7, a]
  exact ⟨b, fun k hk => c k (Nat.zero_le _) (by omega)⟩
theorem Q_plus {pf pg : Nat} {s : Sto} (hne : pg ≠ pf) : onl pf s (F_ME_plus pf pg s) ∧ ∀ k, k < 256 → (F_ME_plus pf pg s).1 pf k = (s.1 pf k + s.1 pg k) - (s.1 pf k + s.1 pg k) / nI 3329 * nI 3329 := by
  obtain ⟨s1, a, b, c, -⟩ := el_loop (pf := pf) (G := F_ME_plus_L0 pf pg) (K := fun s => s) (e := fun i s => (s.1 pf i + s.1 pg i) - (s.1 pf i + s.1 pg i) / nI 3329 * nI 3329) (fun i s => by rw [F_ME_plus_L0]) (fun n i s => by rw [F_ME_plus_L0, bnd_eq]) (fun i s s' o h => by simp only [h, o.1 pg hne]) 256 0 s
  rw [F_ME_plus, a]
  exact ⟨b, fun k hk => c k (Nat.zero_le _) (by omega)⟩
theorem add_same {pf pg qf qg : Nat} {s t : Sto} (h1 : pg ≠ pf) (h2 : qg ≠ qf) (hF : sr 3329 (s.1 pf) (t.1 qf)) (hG : sr 3329 (s.1 pg) (t.1 qg)) : onl pf s (F_RG_add_7 pf pg s) ∧ onl qf t (F_ME_plus qf qg t) ∧ sr 3329 ((F_RG_add_7 pf pg s).1 pf) ((F_ME_plus qf qg t).1 qf) := by
  obtain ⟨a1, a2⟩ := P_add (s := s) h1
  obtain ⟨b1, b2⟩ := Q_plus (s := t) h2
  refine ⟨a1, b1, fun k hk => ?_⟩
  obtain ⟨a, ha, e1, e2⟩ := hF k hk
  obtain ⟨b, hb, e3, e4⟩ := hG k hk
  refine ⟨(a + b) % 3329, Nat.mod_lt _ (by decide), ?_, ?_⟩
  · rw [a2 k hk, e1, e3, nI_add]
    by_cases z : a + b < 3329
    · rw [if_pos ((nI_ltI (by omega) (by decide)).mpr z), Nat.mod_eq_of_lt z]
    · rw [if_neg (fun c => z ((nI_ltI (by omega) (by decide)).mp c)), pk_sub (by omega)]
      exact congrArg nI (by omega)
  · rw [b2 k hk, e2, e4, nI_add, pk_rem (by omega) (by decide) (by decide)]
theorem Q_proper {pf : Nat} {s : Sto} : onl pf s (F_ME_proper pf s) ∧ ∀ k, k < 256 → (F_ME_proper pf s).1 pf k = s.1 pf k - s.1 pf k / nI 3329 * nI 3329 := by
  obtain ⟨s1, a, b, c, -⟩ := el_loop (pf := pf) (G := F_ME_proper_L0 pf) (K := fun s => s) (e := fun i s => s.1 pf i - s.1 pf i / nI 3329 * nI 3329) (fun i s => by rw [F_ME_proper_L0]) (fun n i s => by rw [F_ME_proper_L0, bnd_eq]) (fun i s s' o h => by simp only [h]) 256 0 s
  rw [F_ME_proper, a]
  exact ⟨b, fun k hk => c k (Nat.zero_le _) (by omega)⟩
theorem P_reduceL {s : Sto} : onl 31 s (F_KM_readReduced_L0 256 0 s) ∧ ∀ k, k < 256 → (F_KM_readReduced_L0 256 0 s).1 31 k = if s.1 31 k < nI 3329 then s.1 31 k else s.1 31 k - nI 3329 := by
  obtain ⟨s1, a, b, c, -⟩ := el_loop (pf := 31) (G := F_KM_readReduced_L0) (K := fun s => s) (e := fun i s => if s.1 31 i < nI 3329 then s.1 31 i else s.1 31 i - nI 3329) (fun i s => by rw [F_KM_readReduced_L0]) (fun n i s => by rw [F_KM_readReduced_L0]; exact e_if) (fun i s s' o h => by simp only [h]) 256 0 s
  rw [a]
  exact ⟨b, fun k hk => c k (Nat.zero_le _) (by omega)⟩
/-- ByteDecode_12, with what is too large reduced -/
theorem reduced_same {pb n at_ qb m bt qf : Nat} {s t : Sto} (h1 : pb ≠ 31) (h2 : qb ≠ qf) (hB : ∀ j, j < 384 → s.1 pb (at_ + j) = t.1 qb (bt + j)) :
    onl 31 s (F_KM_readReduced pb n at_ s) ∧ onl qf t (F_ME_proper qf (F_ME_read_12 qb m bt qf t)) ∧ sr 3329 ((F_KM_readReduced pb n at_ s).1 31) ((F_ME_proper qf (F_ME_read_12 qb m bt qf t)).1 qf) := by
  obtain ⟨a1, b1, c1⟩ := read12_same (n := n) (m := m) h1 h2 (fun j hj => hB j (by omega))
  have hU : F_KM_readReduced pb n at_ s = F_KM_readReduced_L0 256 0 (F_BT_unpack 31 12 pb n at_ s) := by rw [F_KM_readReduced, bnd_eq]
  rw [hU]
  generalize F_BT_unpack 31 12 pb n at_ s = s1 at a1 c1
  generalize F_ME_read_12 qb m bt qf t = t1 at b1 c1
  obtain ⟨a2, a3⟩ := P_reduceL (s := s1)
  obtain ⟨b2, b3⟩ := Q_proper (pf := qf) (s := t1)
  refine ⟨onl_tr a1 a2, onl_tr b1 b2, fun k hk => ?_⟩
  obtain ⟨v, hv, e1, e2⟩ := c1 k hk
  have hv' : v < 4096 := hv
  refine ⟨v % 3329, Nat.mod_lt _ (by decide), ?_, ?_⟩
  · rw [a3 k hk, e1]
    by_cases z : v < 3329
    · rw [if_pos ((nI_ltI (by omega) (by decide)).mpr z), Nat.mod_eq_of_lt z]
    · rw [if_neg (fun c => z ((nI_ltI (by omega) (by decide)).mp c)), pk_sub (by omega)]
      exact congrArg nI (by omega)
  · rw [b3 k hk, e2, pk_rem (by omega) (by decide) (by decide)]
theorem P_fill {pf : Nat} {v : Int32} {s : Sto} : onl pf s (F_AR_fillI pf 256 v s) ∧ ∀ k, k < 256 → (F_AR_fillI pf 256 v s).1 pf k = v := by
  obtain ⟨s1, a, b, c, -⟩ := el_loop (pf := pf) (G := F_AR_fillI_L0 pf v) (K := fun s => s) (e := fun _ _ => v) (fun i s => by rw [F_AR_fillI_L0]) (fun n i s => by rw [F_AR_fillI_L0, bnd_eq]) (fun i s s' o h => rfl) 256 0 s
  rw [F_AR_fillI, a]
  exact ⟨b, fun k hk => c k (Nat.zero_le _) (by omega)⟩
theorem Q_clear {pf : Nat} {s : Sto} : onl pf s (F_ME_clear pf s) ∧ ∀ k, k < 256 → (F_ME_clear pf s).1 pf k = nI 0 := by
  obtain ⟨s1, a, b, c, -⟩ := el_loop (pf := pf) (G := F_ME_clear_L0 pf) (K := fun s => s) (e := fun _ _ => nI 0) (fun i s => by rw [F_ME_clear_L0]) (fun n i s => by rw [F_ME_clear_L0, bnd_eq]) (fun i s s' o h => rfl) 256 0 s
  rw [F_ME_clear, a]
  exact ⟨b, fun k hk => c k (Nat.zero_le _) (by omega)⟩
theorem Q_less1 {pf : Nat} {s : Sto} : onl pf s (F_ME_less_1 pf s) ∧ ∀ k, k < 256 → (F_ME_less_1 pf s).1 pf k = (((s.1 pf k <<< (nI 2 &&& 31)) + nI 3329) / nI 6658) - (((s.1 pf k <<< (nI 2 &&& 31)) + nI 3329) / nI 6658) / nI 2 * nI 2 := by
  obtain ⟨s1, a, b, c, -⟩ := el_loop (pf := pf) (G := F_ME_less_1_L0 pf) (K := fun s => s) (e := fun i s => (((s.1 pf i <<< (nI 2 &&& 31)) + nI 3329) / nI 6658) - (((s.1 pf i <<< (nI 2 &&& 31)) + nI 3329) / nI 6658) / nI 2 * nI 2) (fun i s => by rw [F_ME_less_1_L0]) (fun n i s => by rw [F_ME_less_1_L0, bnd_eq]) (fun i s s' o h => by simp only [h]) 256 0 s
  rw [F_ME_less_1, a]
  exact ⟨b, fun k hk => c k (Nat.zero_le _) (by omega)⟩
theorem Q_more1 {pf : Nat} {s : Sto} : onl pf s (F_ME_more_1 pf s) ∧ ∀ k, k < 256 → (F_ME_more_1 pf s).1 pf k = ((s.1 pf k * nI 3329) + nI 1) >>> (nI 1 &&& 31) := by
  obtain ⟨s1, a, b, c, -⟩ := el_loop (pf := pf) (G := F_ME_more_1_L0 pf) (K := fun s => s) (e := fun i s => ((s.1 pf i * nI 3329) + nI 1) >>> (nI 1 &&& 31)) (fun i s => by rw [F_ME_more_1_L0]) (fun n i s => by rw [F_ME_more_1_L0, bnd_eq]) (fun i s s' o h => by simp only [h]) 256 0 s
  rw [F_ME_more_1, a]
  exact ⟨b, fun k hk => c k (Nat.zero_le _) (by omega)⟩
/-- Compress and ByteEncode, 1 bits -/
theorem rounded1_same {pf pt n at_ qf qt m bt : Nat} {s t : Sto} (h1 : pf ≠ pt) (h2 : qf ≠ qt) (hF : sr 3329 (s.1 pf) (t.1 qf)) :
    (∀ k, k ≠ pf → k ≠ pt → (F_KM_writeRounded pf 1 pt n at_ s).1 k = s.1 k) ∧ (∀ k, k ≠ qf → k ≠ qt → (F_ME_write_1 qf qt m bt (F_ME_less_1 qf t)).1 k = t.1 k) ∧ (∀ j, j < 32 * 1 → (F_KM_writeRounded pf 1 pt n at_ s).1 pt (at_ + j) = (F_ME_write_1 qf qt m bt (F_ME_less_1 qf t)).1 qt (bt + j)) ∧ (∀ k, (k < at_ ∨ at_ + 32 * 1 ≤ k) → (F_KM_writeRounded pf 1 pt n at_ s).1 pt k = s.1 pt k) ∧ ∀ k, (k < bt ∨ bt + 32 * 1 ≤ k) → (F_ME_write_1 qf qt m bt (F_ME_less_1 qf t)).1 qt k = t.1 qt k := by
  obtain ⟨s1, a, b, c, -⟩ := el_loop (pf := pf) (G := F_KM_writeRounded_L0 pf 1 pt n at_ (nI (2 ^ 1 - 1))) (K := F_BT_pack pf 1 pt n at_) (e := fun i s => (((s.1 pf i <<< (nI 1 &&& 31)) + nI 1664) / nI 3329) &&& nI (2 ^ 1 - 1)) (fun i s => by rw [F_KM_writeRounded_L0, bnd_eq]) (fun n i s => by rw [F_KM_writeRounded_L0, bnd_eq]) (fun i s s' o h => by simp only [h]) 256 0 s
  have hU : F_KM_writeRounded pf 1 pt n at_ s = F_BT_pack pf 1 pt n at_ s1 := by
    rw [F_KM_writeRounded, mask_n (by decide), bnd_eq, a]
  obtain ⟨d1, d2⟩ := Q_less1 (pf := qf) (s := t)
  have key : sr 2 (s1.1 pf) ((F_ME_less_1 qf t).1 qf) := fun k hk => by
    obtain ⟨x, hx, e1, e2⟩ := hF k hk
    refine ⟨(x * 2 ^ 1 + 1664) / 3329 % 2 ^ 1, Nat.mod_lt _ (by decide), ?_, ?_⟩
    · rw [c k (Nat.zero_le _) (by omega)]
      show (((s.1 pf k <<< (nI 1 &&& 31)) + nI 1664) / nI 3329) &&& nI (2 ^ 1 - 1) = _
      rw [e1, pk_shlN _ 1 (by decide) (by omega), nI_add, pk_div (by omega) (by decide) (by decide), pk_andN (by omega) 1 (by decide)]
    · rw [d2 k hk, e2, pk_shlN _ 2 (by decide) (by omega), nI_add, pk_div (by omega) (by decide) (by decide), pk_rem (by omega) (by decide) (by decide)]
      exact congrArg (fun y => nI (y % 2 ^ 1)) (show (x * 2 ^ 2 + 3329) / 6658 = (x * 2 ^ 1 + 1664) / 3329 by omega)
  obtain ⟨w1, w2, w3, w4, w5⟩ := write1_same (n := n) (at_ := at_) (m := m) (bt := bt) h1 h2 (fun k hk => by obtain ⟨v, hv, e, -⟩ := key k hk; exact ⟨v, hv, e⟩) (sr_e key)
  rw [hU]
  refine ⟨fun k u v => (w1.1 k v).trans (b.1 k u), fun k u v => (w2.1 k v).trans (d1.1 k u), w3, fun k hk => (w4 k hk).trans (by rw [b.1 pt (Ne.symm h1)]), fun k hk => (w5 k hk).trans (by rw [d1.1 qt (Ne.symm h2)])⟩
/-- ByteDecode and Decompress, 1 bits -/
theorem spread1_same {pf pr_ n at_ qf qr m bt : Nat} {s t : Sto} (h1 : pr_ ≠ pf) (h2 : qr ≠ qf) (hB : ∀ j, j < 32 * 1 → s.1 pr_ (at_ + j) = t.1 qr (bt + j)) :
    onl pf s (F_KM_readRounded pf 1 pr_ n at_ s) ∧ onl qf t (F_ME_more_1 qf (F_ME_read_1 qr m bt qf t)) ∧ sr 3329 ((F_KM_readRounded pf 1 pr_ n at_ s).1 pf) ((F_ME_more_1 qf (F_ME_read_1 qr m bt qf t)).1 qf) := by
  obtain ⟨a1, b1, c1⟩ := read1_same (n := n) (m := m) h1 h2 hB
  have hU : F_KM_readRounded pf 1 pr_ n at_ s = F_KM_readRounded_L0 pf 1 256 0 (F_BT_unpack pf 1 pr_ n at_ s) := by rw [F_KM_readRounded, bnd_eq]
  rw [hU]
  generalize F_BT_unpack pf 1 pr_ n at_ s = s1 at a1 c1
  generalize F_ME_read_1 qr m bt qf t = t1 at b1 c1
  obtain ⟨s2, a, b, c, -⟩ := el_loop (pf := pf) (G := F_KM_readRounded_L0 pf 1) (K := fun s => s) (e := fun i s => ((s.1 pf i * nI 3329) + (nI 1 <<< (nI (1 - 1) &&& 31))) >>> (nI 1 &&& 31)) (fun i s => by rw [F_KM_readRounded_L0]) (fun n i s => by rw [F_KM_readRounded_L0, bnd_eq]) (fun i s s' o h => by simp only [h]) 256 0 s1
  obtain ⟨d1, d2⟩ := Q_more1 (pf := qf) (s := t1)
  rw [a]
  refine ⟨onl_tr a1 b, onl_tr b1 d1, fun k hk => ?_⟩
  obtain ⟨v, hv, e1, e2⟩ := c1 k hk
  have hv' : v < 2 := hv
  refine ⟨(v * 3329 + 1) / 2 ^ 1, by omega, ?_, ?_⟩
  · rw [c k (Nat.zero_le _) (by omega)]
    show ((s1.1 pf k * nI 3329) + (nI 1 <<< (nI (1 - 1) &&& 31))) >>> (nI 1 &&& 31) = _
    rw [e1, show nI 1 <<< (nI (1 - 1) &&& 31) = nI 1 by decide, pk_mul, nI_add, pk_shrN (by omega) _ 1 (by decide)]
  · rw [d2 k hk, e2, pk_mul, nI_add, pk_shrN (by omega) _ 1 (by decide)]
theorem Q_less4 {pf : Nat} {s : Sto} : onl pf s (F_ME_less_4 pf s) ∧ ∀ k, k < 256 → (F_ME_less_4 pf s).1 pf k = (((s.1 pf k <<< (nI 5 &&& 31)) + nI 3329) / nI 6658) - (((s.1 pf k <<< (nI 5 &&& 31)) + nI 3329) / nI 6658) / nI 16 * nI 16 := by
  obtain ⟨s1, a, b, c, -⟩ := el_loop (pf := pf) (G := F_ME_less_4_L0 pf) (K := fun s => s) (e := fun i s => (((s.1 pf i <<< (nI 5 &&& 31)) + nI 3329) / nI 6658) - (((s.1 pf i <<< (nI 5 &&& 31)) + nI 3329) / nI 6658) / nI 16 * nI 16) (fun i s => by rw [F_ME_less_4_L0]) (fun n i s => by rw [F_ME_less_4_L0, bnd_eq]) (fun i s s' o h => by simp only [h]) 256 0 s
  rw [F_ME_less_4, a]
  exact ⟨b, fun k hk => c k (Nat.zero_le _) (by omega)⟩
theorem Q_more4 {pf : Nat} {s : Sto} : onl pf s (F_ME_more_4 pf s) ∧ ∀ k, k < 256 → (F_ME_more_4 pf s).1 pf k = ((s.1 pf k * nI 3329) + nI 8) >>> (nI 4 &&& 31) := by
  obtain ⟨s1, a, b, c, -⟩ := el_loop (pf := pf) (G := F_ME_more_4_L0 pf) (K := fun s => s) (e := fun i s => ((s.1 pf i * nI 3329) + nI 8) >>> (nI 4 &&& 31)) (fun i s => by rw [F_ME_more_4_L0]) (fun n i s => by rw [F_ME_more_4_L0, bnd_eq]) (fun i s s' o h => by simp only [h]) 256 0 s
  rw [F_ME_more_4, a]
  exact ⟨b, fun k hk => c k (Nat.zero_le _) (by omega)⟩
/-- Compress and ByteEncode, 4 bits -/
theorem rounded4_same {pf pt n at_ qf qt m bt : Nat} {s t : Sto} (h1 : pf ≠ pt) (h2 : qf ≠ qt) (hF : sr 3329 (s.1 pf) (t.1 qf)) :
    (∀ k, k ≠ pf → k ≠ pt → (F_KM_writeRounded pf 4 pt n at_ s).1 k = s.1 k) ∧ (∀ k, k ≠ qf → k ≠ qt → (F_ME_write_4 qf qt m bt (F_ME_less_4 qf t)).1 k = t.1 k) ∧ (∀ j, j < 32 * 4 → (F_KM_writeRounded pf 4 pt n at_ s).1 pt (at_ + j) = (F_ME_write_4 qf qt m bt (F_ME_less_4 qf t)).1 qt (bt + j)) ∧ (∀ k, (k < at_ ∨ at_ + 32 * 4 ≤ k) → (F_KM_writeRounded pf 4 pt n at_ s).1 pt k = s.1 pt k) ∧ ∀ k, (k < bt ∨ bt + 32 * 4 ≤ k) → (F_ME_write_4 qf qt m bt (F_ME_less_4 qf t)).1 qt k = t.1 qt k := by
  obtain ⟨s1, a, b, c, -⟩ := el_loop (pf := pf) (G := F_KM_writeRounded_L0 pf 4 pt n at_ (nI (2 ^ 4 - 1))) (K := F_BT_pack pf 4 pt n at_) (e := fun i s => (((s.1 pf i <<< (nI 4 &&& 31)) + nI 1664) / nI 3329) &&& nI (2 ^ 4 - 1)) (fun i s => by rw [F_KM_writeRounded_L0, bnd_eq]) (fun n i s => by rw [F_KM_writeRounded_L0, bnd_eq]) (fun i s s' o h => by simp only [h]) 256 0 s
  have hU : F_KM_writeRounded pf 4 pt n at_ s = F_BT_pack pf 4 pt n at_ s1 := by
    rw [F_KM_writeRounded, mask_n (by decide), bnd_eq, a]
  obtain ⟨d1, d2⟩ := Q_less4 (pf := qf) (s := t)
  have key : sr 16 (s1.1 pf) ((F_ME_less_4 qf t).1 qf) := fun k hk => by
    obtain ⟨x, hx, e1, e2⟩ := hF k hk
    refine ⟨(x * 2 ^ 4 + 1664) / 3329 % 2 ^ 4, Nat.mod_lt _ (by decide), ?_, ?_⟩
    · rw [c k (Nat.zero_le _) (by omega)]
      show (((s.1 pf k <<< (nI 4 &&& 31)) + nI 1664) / nI 3329) &&& nI (2 ^ 4 - 1) = _
      rw [e1, pk_shlN _ 4 (by decide) (by omega), nI_add, pk_div (by omega) (by decide) (by decide), pk_andN (by omega) 4 (by decide)]
    · rw [d2 k hk, e2, pk_shlN _ 5 (by decide) (by omega), nI_add, pk_div (by omega) (by decide) (by decide), pk_rem (by omega) (by decide) (by decide)]
      exact congrArg (fun y => nI (y % 2 ^ 4)) (show (x * 2 ^ 5 + 3329) / 6658 = (x * 2 ^ 4 + 1664) / 3329 by omega)
  obtain ⟨w1, w2, w3, w4, w5⟩ := write4_same (n := n) (at_ := at_) (m := m) (bt := bt) h1 h2 (fun k hk => by obtain ⟨v, hv, e, -⟩ := key k hk; exact ⟨v, hv, e⟩) (sr_e key)
  rw [hU]
  refine ⟨fun k u v => (w1.1 k v).trans (b.1 k u), fun k u v => (w2.1 k v).trans (d1.1 k u), w3, fun k hk => (w4 k hk).trans (by rw [b.1 pt (Ne.symm h1)]), fun k hk => (w5 k hk).trans (by rw [d1.1 qt (Ne.symm h2)])⟩
/-- ByteDecode and Decompress, 4 bits -/
theorem spread4_same {pf pr_ n at_ qf qr m bt : Nat} {s t : Sto} (h1 : pr_ ≠ pf) (h2 : qr ≠ qf) (hB : ∀ j, j < 32 * 4 → s.1 pr_ (at_ + j) = t.1 qr (bt + j)) :
    onl pf s (F_KM_readRounded pf 4 pr_ n at_ s) ∧ onl qf t (F_ME_more_4 qf (F_ME_read_4 qr m bt qf t)) ∧ sr 3329 ((F_KM_readRounded pf 4 pr_ n at_ s).1 pf) ((F_ME_more_4 qf (F_ME_read_4 qr m bt qf t)).1 qf) := by
  obtain ⟨a1, b1, c1⟩ := read4_same (n := n) (m := m) h1 h2 hB
  have hU : F_KM_readRounded pf 4 pr_ n at_ s = F_KM_readRounded_L0 pf 4 256 0 (F_BT_unpack pf 4 pr_ n at_ s) := by rw [F_KM_readRounded, bnd_eq]
  rw [hU]
  generalize F_BT_unpack pf 4 pr_ n at_ s = s1 at a1 c1
  generalize F_ME_read_4 qr m bt qf t = t1 at b1 c1
  obtain ⟨s2, a, b, c, -⟩ := el_loop (pf := pf) (G := F_KM_readRounded_L0 pf 4) (K := fun s => s) (e := fun i s => ((s.1 pf i * nI 3329) + (nI 1 <<< (nI (4 - 1) &&& 31))) >>> (nI 4 &&& 31)) (fun i s => by rw [F_KM_readRounded_L0]) (fun n i s => by rw [F_KM_readRounded_L0, bnd_eq]) (fun i s s' o h => by simp only [h]) 256 0 s1
  obtain ⟨d1, d2⟩ := Q_more4 (pf := qf) (s := t1)
  rw [a]
  refine ⟨onl_tr a1 b, onl_tr b1 d1, fun k hk => ?_⟩
  obtain ⟨v, hv, e1, e2⟩ := c1 k hk
  have hv' : v < 16 := hv
  refine ⟨(v * 3329 + 8) / 2 ^ 4, by omega, ?_, ?_⟩
  · rw [c k (Nat.zero_le _) (by omega)]
    show ((s1.1 pf k * nI 3329) + (nI 1 <<< (nI (4 - 1) &&& 31))) >>> (nI 4 &&& 31) = _
    rw [e1, show nI 1 <<< (nI (4 - 1) &&& 31) = nI 8 by decide, pk_mul, nI_add, pk_shrN (by omega) _ 4 (by decide)]
  · rw [d2 k hk, e2, pk_mul, nI_add, pk_shrN (by omega) _ 4 (by decide)]
theorem Q_less5 {pf : Nat} {s : Sto} : onl pf s (F_ME_less_5 pf s) ∧ ∀ k, k < 256 → (F_ME_less_5 pf s).1 pf k = (((s.1 pf k <<< (nI 6 &&& 31)) + nI 3329) / nI 6658) - (((s.1 pf k <<< (nI 6 &&& 31)) + nI 3329) / nI 6658) / nI 32 * nI 32 := by
  obtain ⟨s1, a, b, c, -⟩ := el_loop (pf := pf) (G := F_ME_less_5_L0 pf) (K := fun s => s) (e := fun i s => (((s.1 pf i <<< (nI 6 &&& 31)) + nI 3329) / nI 6658) - (((s.1 pf i <<< (nI 6 &&& 31)) + nI 3329) / nI 6658) / nI 32 * nI 32) (fun i s => by rw [F_ME_less_5_L0]) (fun n i s => by rw [F_ME_less_5_L0, bnd_eq]) (fun i s s' o h => by simp only [h]) 256 0 s
  rw [F_ME_less_5, a]
  exact ⟨b, fun k hk => c k (Nat.zero_le _) (by omega)⟩
theorem Q_more5 {pf : Nat} {s : Sto} : onl pf s (F_ME_more_5 pf s) ∧ ∀ k, k < 256 → (F_ME_more_5 pf s).1 pf k = ((s.1 pf k * nI 3329) + nI 16) >>> (nI 5 &&& 31) := by
  obtain ⟨s1, a, b, c, -⟩ := el_loop (pf := pf) (G := F_ME_more_5_L0 pf) (K := fun s => s) (e := fun i s => ((s.1 pf i * nI 3329) + nI 16) >>> (nI 5 &&& 31)) (fun i s => by rw [F_ME_more_5_L0]) (fun n i s => by rw [F_ME_more_5_L0, bnd_eq]) (fun i s s' o h => by simp only [h]) 256 0 s
  rw [F_ME_more_5, a]
  exact ⟨b, fun k hk => c k (Nat.zero_le _) (by omega)⟩
/-- Compress and ByteEncode, 5 bits -/
theorem rounded5_same {pf pt n at_ qf qt m bt : Nat} {s t : Sto} (h1 : pf ≠ pt) (h2 : qf ≠ qt) (hF : sr 3329 (s.1 pf) (t.1 qf)) :
    (∀ k, k ≠ pf → k ≠ pt → (F_KM_writeRounded pf 5 pt n at_ s).1 k = s.1 k) ∧ (∀ k, k ≠ qf → k ≠ qt → (F_ME_write_5 qf qt m bt (F_ME_less_5 qf t)).1 k = t.1 k) ∧ (∀ j, j < 32 * 5 → (F_KM_writeRounded pf 5 pt n at_ s).1 pt (at_ + j) = (F_ME_write_5 qf qt m bt (F_ME_less_5 qf t)).1 qt (bt + j)) ∧ (∀ k, (k < at_ ∨ at_ + 32 * 5 ≤ k) → (F_KM_writeRounded pf 5 pt n at_ s).1 pt k = s.1 pt k) ∧ ∀ k, (k < bt ∨ bt + 32 * 5 ≤ k) → (F_ME_write_5 qf qt m bt (F_ME_less_5 qf t)).1 qt k = t.1 qt k := by
  obtain ⟨s1, a, b, c, -⟩ := el_loop (pf := pf) (G := F_KM_writeRounded_L0 pf 5 pt n at_ (nI (2 ^ 5 - 1))) (K := F_BT_pack pf 5 pt n at_) (e := fun i s => (((s.1 pf i <<< (nI 5 &&& 31)) + nI 1664) / nI 3329) &&& nI (2 ^ 5 - 1)) (fun i s => by rw [F_KM_writeRounded_L0, bnd_eq]) (fun n i s => by rw [F_KM_writeRounded_L0, bnd_eq]) (fun i s s' o h => by simp only [h]) 256 0 s
  have hU : F_KM_writeRounded pf 5 pt n at_ s = F_BT_pack pf 5 pt n at_ s1 := by
    rw [F_KM_writeRounded, mask_n (by decide), bnd_eq, a]
  obtain ⟨d1, d2⟩ := Q_less5 (pf := qf) (s := t)
  have key : sr 32 (s1.1 pf) ((F_ME_less_5 qf t).1 qf) := fun k hk => by
    obtain ⟨x, hx, e1, e2⟩ := hF k hk
    refine ⟨(x * 2 ^ 5 + 1664) / 3329 % 2 ^ 5, Nat.mod_lt _ (by decide), ?_, ?_⟩
    · rw [c k (Nat.zero_le _) (by omega)]
      show (((s.1 pf k <<< (nI 5 &&& 31)) + nI 1664) / nI 3329) &&& nI (2 ^ 5 - 1) = _
      rw [e1, pk_shlN _ 5 (by decide) (by omega), nI_add, pk_div (by omega) (by decide) (by decide), pk_andN (by omega) 5 (by decide)]
    · rw [d2 k hk, e2, pk_shlN _ 6 (by decide) (by omega), nI_add, pk_div (by omega) (by decide) (by decide), pk_rem (by omega) (by decide) (by decide)]
      exact congrArg (fun y => nI (y % 2 ^ 5)) (show (x * 2 ^ 6 + 3329) / 6658 = (x * 2 ^ 5 + 1664) / 3329 by omega)
  obtain ⟨w1, w2, w3, w4, w5⟩ := write5_same (n := n) (at_ := at_) (m := m) (bt := bt) h1 h2 (fun k hk => by obtain ⟨v, hv, e, -⟩ := key k hk; exact ⟨v, hv, e⟩) (sr_e key)
  rw [hU]
  refine ⟨fun k u v => (w1.1 k v).trans (b.1 k u), fun k u v => (w2.1 k v).trans (d1.1 k u), w3, fun k hk => (w4 k hk).trans (by rw [b.1 pt (Ne.symm h1)]), fun k hk => (w5 k hk).trans (by rw [d1.1 qt (Ne.symm h2)])⟩
/-- ByteDecode and Decompress, 5 bits -/
theorem spread5_same {pf pr_ n at_ qf qr m bt : Nat} {s t : Sto} (h1 : pr_ ≠ pf) (h2 : qr ≠ qf) (hB : ∀ j, j < 32 * 5 → s.1 pr_ (at_ + j) = t.1 qr (bt + j)) :
    onl pf s (F_KM_readRounded pf 5 pr_ n at_ s) ∧ onl qf t (F_ME_more_5 qf (F_ME_read_5 qr m bt qf t)) ∧ sr 3329 ((F_KM_readRounded pf 5 pr_ n at_ s).1 pf) ((F_ME_more_5 qf (F_ME_read_5 qr m bt qf t)).1 qf) := by
  obtain ⟨a1, b1, c1⟩ := read5_same (n := n) (m := m) h1 h2 hB
  have hU : F_KM_readRounded pf 5 pr_ n at_ s = F_KM_readRounded_L0 pf 5 256 0 (F_BT_unpack pf 5 pr_ n at_ s) := by rw [F_KM_readRounded, bnd_eq]
  rw [hU]
  generalize F_BT_unpack pf 5 pr_ n at_ s = s1 at a1 c1
  generalize F_ME_read_5 qr m bt qf t = t1 at b1 c1
  obtain ⟨s2, a, b, c, -⟩ := el_loop (pf := pf) (G := F_KM_readRounded_L0 pf 5) (K := fun s => s) (e := fun i s => ((s.1 pf i * nI 3329) + (nI 1 <<< (nI (5 - 1) &&& 31))) >>> (nI 5 &&& 31)) (fun i s => by rw [F_KM_readRounded_L0]) (fun n i s => by rw [F_KM_readRounded_L0, bnd_eq]) (fun i s s' o h => by simp only [h]) 256 0 s1
  obtain ⟨d1, d2⟩ := Q_more5 (pf := qf) (s := t1)
  rw [a]
  refine ⟨onl_tr a1 b, onl_tr b1 d1, fun k hk => ?_⟩
  obtain ⟨v, hv, e1, e2⟩ := c1 k hk
  have hv' : v < 32 := hv
  refine ⟨(v * 3329 + 16) / 2 ^ 5, by omega, ?_, ?_⟩
  · rw [c k (Nat.zero_le _) (by omega)]
    show ((s1.1 pf k * nI 3329) + (nI 1 <<< (nI (5 - 1) &&& 31))) >>> (nI 5 &&& 31) = _
    rw [e1, show nI 1 <<< (nI (5 - 1) &&& 31) = nI 16 by decide, pk_mul, nI_add, pk_shrN (by omega) _ 5 (by decide)]
  · rw [d2 k hk, e2, pk_mul, nI_add, pk_shrN (by omega) _ 5 (by decide)]
theorem Q_less10 {pf : Nat} {s : Sto} : onl pf s (F_ME_less_10 pf s) ∧ ∀ k, k < 256 → (F_ME_less_10 pf s).1 pf k = (((s.1 pf k <<< (nI 11 &&& 31)) + nI 3329) / nI 6658) - (((s.1 pf k <<< (nI 11 &&& 31)) + nI 3329) / nI 6658) / nI 1024 * nI 1024 := by
  obtain ⟨s1, a, b, c, -⟩ := el_loop (pf := pf) (G := F_ME_less_10_L0 pf) (K := fun s => s) (e := fun i s => (((s.1 pf i <<< (nI 11 &&& 31)) + nI 3329) / nI 6658) - (((s.1 pf i <<< (nI 11 &&& 31)) + nI 3329) / nI 6658) / nI 1024 * nI 1024) (fun i s => by rw [F_ME_less_10_L0]) (fun n i s => by rw [F_ME_less_10_L0, bnd_eq]) (fun i s s' o h => by simp only [h]) 256 0 s
  rw [F_ME_less_10, a]
  exact ⟨b, fun k hk => c k (Nat.zero_le _) (by omega)⟩
theorem Q_more10 {pf : Nat} {s : Sto} : onl pf s (F_ME_more_10 pf s) ∧ ∀ k, k < 256 → (F_ME_more_10 pf s).1 pf k = ((s.1 pf k * nI 3329) + nI 512) >>> (nI 10 &&& 31) := by
  obtain ⟨s1, a, b, c, -⟩ := el_loop (pf := pf) (G := F_ME_more_10_L0 pf) (K := fun s => s) (e := fun i s => ((s.1 pf i * nI 3329) + nI 512) >>> (nI 10 &&& 31)) (fun i s => by rw [F_ME_more_10_L0]) (fun n i s => by rw [F_ME_more_10_L0, bnd_eq]) (fun i s s' o h => by simp only [h]) 256 0 s
  rw [F_ME_more_10, a]
  exact ⟨b, fun k hk => c k (Nat.zero_le _) (by omega)⟩
/-- Compress and ByteEncode, 10 bits -/
theorem rounded10_same {pf pt n at_ qf qt m bt : Nat} {s t : Sto} (h1 : pf ≠ pt) (h2 : qf ≠ qt) (hF : sr 3329 (s.1 pf) (t.1 qf)) :
    (∀ k, k ≠ pf → k ≠ pt → (F_KM_writeRounded pf 10 pt n at_ s).1 k = s.1 k) ∧ (∀ k, k ≠ qf → k ≠ qt → (F_ME_write_10 qf qt m bt (F_ME_less_10 qf t)).1 k = t.1 k) ∧ (∀ j, j < 32 * 10 → (F_KM_writeRounded pf 10 pt n at_ s).1 pt (at_ + j) = (F_ME_write_10 qf qt m bt (F_ME_less_10 qf t)).1 qt (bt + j)) ∧ (∀ k, (k < at_ ∨ at_ + 32 * 10 ≤ k) → (F_KM_writeRounded pf 10 pt n at_ s).1 pt k = s.1 pt k) ∧ ∀ k, (k < bt ∨ bt + 32 * 10 ≤ k) → (F_ME_write_10 qf qt m bt (F_ME_less_10 qf t)).1 qt k = t.1 qt k := by
  obtain ⟨s1, a, b, c, -⟩ := el_loop (pf := pf) (G := F_KM_writeRounded_L0 pf 10 pt n at_ (nI (2 ^ 10 - 1))) (K := F_BT_pack pf 10 pt n at_) (e := fun i s => (((s.1 pf i <<< (nI 10 &&& 31)) + nI 1664) / nI 3329) &&& nI (2 ^ 10 - 1)) (fun i s => by rw [F_KM_writeRounded_L0, bnd_eq]) (fun n i s => by rw [F_KM_writeRounded_L0, bnd_eq]) (fun i s s' o h => by simp only [h]) 256 0 s
  have hU : F_KM_writeRounded pf 10 pt n at_ s = F_BT_pack pf 10 pt n at_ s1 := by
    rw [F_KM_writeRounded, mask_n (by decide), bnd_eq, a]
  obtain ⟨d1, d2⟩ := Q_less10 (pf := qf) (s := t)
  have key : sr 1024 (s1.1 pf) ((F_ME_less_10 qf t).1 qf) := fun k hk => by
    obtain ⟨x, hx, e1, e2⟩ := hF k hk
    refine ⟨(x * 2 ^ 10 + 1664) / 3329 % 2 ^ 10, Nat.mod_lt _ (by decide), ?_, ?_⟩
    · rw [c k (Nat.zero_le _) (by omega)]
      show (((s.1 pf k <<< (nI 10 &&& 31)) + nI 1664) / nI 3329) &&& nI (2 ^ 10 - 1) = _
      rw [e1, pk_shlN _ 10 (by decide) (by omega), nI_add, pk_div (by omega) (by decide) (by decide), pk_andN (by omega) 10 (by decide)]
    · rw [d2 k hk, e2, pk_shlN _ 11 (by decide) (by omega), nI_add, pk_div (by omega) (by decide) (by decide), pk_rem (by omega) (by decide) (by decide)]
      exact congrArg (fun y => nI (y % 2 ^ 10)) (show (x * 2 ^ 11 + 3329) / 6658 = (x * 2 ^ 10 + 1664) / 3329 by omega)
  obtain ⟨w1, w2, w3, w4, w5⟩ := write10_same (n := n) (at_ := at_) (m := m) (bt := bt) h1 h2 (fun k hk => by obtain ⟨v, hv, e, -⟩ := key k hk; exact ⟨v, hv, e⟩) (sr_e key)
  rw [hU]
  refine ⟨fun k u v => (w1.1 k v).trans (b.1 k u), fun k u v => (w2.1 k v).trans (d1.1 k u), w3, fun k hk => (w4 k hk).trans (by rw [b.1 pt (Ne.symm h1)]), fun k hk => (w5 k hk).trans (by rw [d1.1 qt (Ne.symm h2)])⟩
/-- ByteDecode and Decompress, 10 bits -/
theorem spread10_same {pf pr_ n at_ qf qr m bt : Nat} {s t : Sto} (h1 : pr_ ≠ pf) (h2 : qr ≠ qf) (hB : ∀ j, j < 32 * 10 → s.1 pr_ (at_ + j) = t.1 qr (bt + j)) :
    onl pf s (F_KM_readRounded pf 10 pr_ n at_ s) ∧ onl qf t (F_ME_more_10 qf (F_ME_read_10 qr m bt qf t)) ∧ sr 3329 ((F_KM_readRounded pf 10 pr_ n at_ s).1 pf) ((F_ME_more_10 qf (F_ME_read_10 qr m bt qf t)).1 qf) := by
  obtain ⟨a1, b1, c1⟩ := read10_same (n := n) (m := m) h1 h2 hB
  have hU : F_KM_readRounded pf 10 pr_ n at_ s = F_KM_readRounded_L0 pf 10 256 0 (F_BT_unpack pf 10 pr_ n at_ s) := by rw [F_KM_readRounded, bnd_eq]
  rw [hU]
  generalize F_BT_unpack pf 10 pr_ n at_ s = s1 at a1 c1
  generalize F_ME_read_10 qr m bt qf t = t1 at b1 c1
  obtain ⟨s2, a, b, c, -⟩ := el_loop (pf := pf) (G := F_KM_readRounded_L0 pf 10) (K := fun s => s) (e := fun i s => ((s.1 pf i * nI 3329) + (nI 1 <<< (nI (10 - 1) &&& 31))) >>> (nI 10 &&& 31)) (fun i s => by rw [F_KM_readRounded_L0]) (fun n i s => by rw [F_KM_readRounded_L0, bnd_eq]) (fun i s s' o h => by simp only [h]) 256 0 s1
  obtain ⟨d1, d2⟩ := Q_more10 (pf := qf) (s := t1)
  rw [a]
  refine ⟨onl_tr a1 b, onl_tr b1 d1, fun k hk => ?_⟩
  obtain ⟨v, hv, e1, e2⟩ := c1 k hk
  have hv' : v < 1024 := hv
  refine ⟨(v * 3329 + 512) / 2 ^ 10, by omega, ?_, ?_⟩
  · rw [c k (Nat.zero_le _) (by omega)]
    show ((s1.1 pf k * nI 3329) + (nI 1 <<< (nI (10 - 1) &&& 31))) >>> (nI 10 &&& 31) = _
    rw [e1, show nI 1 <<< (nI (10 - 1) &&& 31) = nI 512 by decide, pk_mul, nI_add, pk_shrN (by omega) _ 10 (by decide)]
  · rw [d2 k hk, e2, pk_mul, nI_add, pk_shrN (by omega) _ 10 (by decide)]
theorem Q_less11 {pf : Nat} {s : Sto} : onl pf s (F_ME_less_11 pf s) ∧ ∀ k, k < 256 → (F_ME_less_11 pf s).1 pf k = (((s.1 pf k <<< (nI 12 &&& 31)) + nI 3329) / nI 6658) - (((s.1 pf k <<< (nI 12 &&& 31)) + nI 3329) / nI 6658) / nI 2048 * nI 2048 := by
  obtain ⟨s1, a, b, c, -⟩ := el_loop (pf := pf) (G := F_ME_less_11_L0 pf) (K := fun s => s) (e := fun i s => (((s.1 pf i <<< (nI 12 &&& 31)) + nI 3329) / nI 6658) - (((s.1 pf i <<< (nI 12 &&& 31)) + nI 3329) / nI 6658) / nI 2048 * nI 2048) (fun i s => by rw [F_ME_less_11_L0]) (fun n i s => by rw [F_ME_less_11_L0, bnd_eq]) (fun i s s' o h => by simp only [h]) 256 0 s
  rw [F_ME_less_11, a]
  exact ⟨b, fun k hk => c k (Nat.zero_le _) (by omega)⟩
theorem Q_more11 {pf : Nat} {s : Sto} : onl pf s (F_ME_more_11 pf s) ∧ ∀ k, k < 256 → (F_ME_more_11 pf s).1 pf k = ((s.1 pf k * nI 3329) + nI 1024) >>> (nI 11 &&& 31) := by
  obtain ⟨s1, a, b, c, -⟩ := el_loop (pf := pf) (G := F_ME_more_11_L0 pf) (K := fun s => s) (e := fun i s => ((s.1 pf i * nI 3329) + nI 1024) >>> (nI 11 &&& 31)) (fun i s => by rw [F_ME_more_11_L0]) (fun n i s => by rw [F_ME_more_11_L0, bnd_eq]) (fun i s s' o h => by simp only [h]) 256 0 s
  rw [F_ME_more_11, a]
  exact ⟨b, fun k hk => c k (Nat.zero_le _) (by omega)⟩
/-- Compress and ByteEncode, 11 bits -/
theorem rounded11_same {pf pt n at_ qf qt m bt : Nat} {s t : Sto} (h1 : pf ≠ pt) (h2 : qf ≠ qt) (hF : sr 3329 (s.1 pf) (t.1 qf)) :
    (∀ k, k ≠ pf → k ≠ pt → (F_KM_writeRounded pf 11 pt n at_ s).1 k = s.1 k) ∧ (∀ k, k ≠ qf → k ≠ qt → (F_ME_write_11 qf qt m bt (F_ME_less_11 qf t)).1 k = t.1 k) ∧ (∀ j, j < 32 * 11 → (F_KM_writeRounded pf 11 pt n at_ s).1 pt (at_ + j) = (F_ME_write_11 qf qt m bt (F_ME_less_11 qf t)).1 qt (bt + j)) ∧ (∀ k, (k < at_ ∨ at_ + 32 * 11 ≤ k) → (F_KM_writeRounded pf 11 pt n at_ s).1 pt k = s.1 pt k) ∧ ∀ k, (k < bt ∨ bt + 32 * 11 ≤ k) → (F_ME_write_11 qf qt m bt (F_ME_less_11 qf t)).1 qt k = t.1 qt k := by
  obtain ⟨s1, a, b, c, -⟩ := el_loop (pf := pf) (G := F_KM_writeRounded_L0 pf 11 pt n at_ (nI (2 ^ 11 - 1))) (K := F_BT_pack pf 11 pt n at_) (e := fun i s => (((s.1 pf i <<< (nI 11 &&& 31)) + nI 1664) / nI 3329) &&& nI (2 ^ 11 - 1)) (fun i s => by rw [F_KM_writeRounded_L0, bnd_eq]) (fun n i s => by rw [F_KM_writeRounded_L0, bnd_eq]) (fun i s s' o h => by simp only [h]) 256 0 s
  have hU : F_KM_writeRounded pf 11 pt n at_ s = F_BT_pack pf 11 pt n at_ s1 := by
    rw [F_KM_writeRounded, mask_n (by decide), bnd_eq, a]
  obtain ⟨d1, d2⟩ := Q_less11 (pf := qf) (s := t)
  have key : sr 2048 (s1.1 pf) ((F_ME_less_11 qf t).1 qf) := fun k hk => by
    obtain ⟨x, hx, e1, e2⟩ := hF k hk
    refine ⟨(x * 2 ^ 11 + 1664) / 3329 % 2 ^ 11, Nat.mod_lt _ (by decide), ?_, ?_⟩
    · rw [c k (Nat.zero_le _) (by omega)]
      show (((s.1 pf k <<< (nI 11 &&& 31)) + nI 1664) / nI 3329) &&& nI (2 ^ 11 - 1) = _
      rw [e1, pk_shlN _ 11 (by decide) (by omega), nI_add, pk_div (by omega) (by decide) (by decide), pk_andN (by omega) 11 (by decide)]
    · rw [d2 k hk, e2, pk_shlN _ 12 (by decide) (by omega), nI_add, pk_div (by omega) (by decide) (by decide), pk_rem (by omega) (by decide) (by decide)]
      exact congrArg (fun y => nI (y % 2 ^ 11)) (show (x * 2 ^ 12 + 3329) / 6658 = (x * 2 ^ 11 + 1664) / 3329 by omega)
  obtain ⟨w1, w2, w3, w4, w5⟩ := write11_same (n := n) (at_ := at_) (m := m) (bt := bt) h1 h2 (fun k hk => by obtain ⟨v, hv, e, -⟩ := key k hk; exact ⟨v, hv, e⟩) (sr_e key)
  rw [hU]
  refine ⟨fun k u v => (w1.1 k v).trans (b.1 k u), fun k u v => (w2.1 k v).trans (d1.1 k u), w3, fun k hk => (w4 k hk).trans (by rw [b.1 pt (Ne.symm h1)]), fun k hk => (w5 k hk).trans (by rw [d1.1 qt (Ne.symm h2)])⟩
/-- ByteDecode and Decompress, 11 bits -/
theorem spread11_same {pf pr_ n at_ qf qr m bt : Nat} {s t : Sto} (h1 : pr_ ≠ pf) (h2 : qr ≠ qf) (hB : ∀ j, j < 32 * 11 → s.1 pr_ (at_ + j) = t.1 qr (bt + j)) :
    onl pf s (F_KM_readRounded pf 11 pr_ n at_ s) ∧ onl qf t (F_ME_more_11 qf (F_ME_read_11 qr m bt qf t)) ∧ sr 3329 ((F_KM_readRounded pf 11 pr_ n at_ s).1 pf) ((F_ME_more_11 qf (F_ME_read_11 qr m bt qf t)).1 qf) := by
  obtain ⟨a1, b1, c1⟩ := read11_same (n := n) (m := m) h1 h2 hB
  have hU : F_KM_readRounded pf 11 pr_ n at_ s = F_KM_readRounded_L0 pf 11 256 0 (F_BT_unpack pf 11 pr_ n at_ s) := by rw [F_KM_readRounded, bnd_eq]
  rw [hU]
  generalize F_BT_unpack pf 11 pr_ n at_ s = s1 at a1 c1
  generalize F_ME_read_11 qr m bt qf t = t1 at b1 c1
  obtain ⟨s2, a, b, c, -⟩ := el_loop (pf := pf) (G := F_KM_readRounded_L0 pf 11) (K := fun s => s) (e := fun i s => ((s.1 pf i * nI 3329) + (nI 1 <<< (nI (11 - 1) &&& 31))) >>> (nI 11 &&& 31)) (fun i s => by rw [F_KM_readRounded_L0]) (fun n i s => by rw [F_KM_readRounded_L0, bnd_eq]) (fun i s s' o h => by simp only [h]) 256 0 s1
  obtain ⟨d1, d2⟩ := Q_more11 (pf := qf) (s := t1)
  rw [a]
  refine ⟨onl_tr a1 b, onl_tr b1 d1, fun k hk => ?_⟩
  obtain ⟨v, hv, e1, e2⟩ := c1 k hk
  have hv' : v < 2048 := hv
  refine ⟨(v * 3329 + 1024) / 2 ^ 11, by omega, ?_, ?_⟩
  · rw [c k (Nat.zero_le _) (by omega)]
    show ((s1.1 pf k * nI 3329) + (nI 1 <<< (nI (11 - 1) &&& 31))) >>> (nI 11 &&& 31) = _
    rw [e1, show nI 1 <<< (nI (11 - 1) &&& 31) = nI 1024 by decide, pk_mul, nI_add, pk_shrN (by omega) _ 11 (by decide)]
  · rw [d2 k hk, e2, pk_mul, nI_add, pk_shrN (by omega) _ 11 (by decide)]
