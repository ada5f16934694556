set_option linter.all false
/-! rows of reduced numbers; one butterfly -/
def rdc (q : Nat) (r : Nat → Int32) : Prop := ∀ k, k < 256 → ∃ n : Nat, n < q ∧ r k = nI n
def vl (r : Nat → Int32) (k : Nat) : Int := ((r k).toNatClampNeg : Int)
theorem vl_n {r : Nat → Int32} {k n : Nat} (h : r k = nI n) (hn : n < 2 ^ 31) : vl r k = (n : Int) := by
  unfold vl
  rw [h, nI_clamp hn]
theorem vl_c {r r' : Nat → Int32} {k : Nat} (h : r k = r' k) : vl r k = vl r' k := by
  unfold vl
  rw [h]
theorem rdc_c {q : Nat} {r r' : Nat → Int32} (h : rdc q r) (e : ∀ k, k < 256 → r' k = r k) : rdc q r' := fun k hk => by
  obtain ⟨n, h1, h2⟩ := h k hk
  exact ⟨n, h1, (e k hk).trans h2⟩
/-- two reduced rows with congruent numbers are the same row -/
theorem rd_same {q k : Nat} {r r' : Nat → Int32} (hq : q < 2 ^ 31) (h : rdc q r) (h' : rdc q r') (hk : k < 256) (e : cg (q : Int) (vl r k) (vl r' k)) : r k = r' k := by
  obtain ⟨n, h1, h2⟩ := h k hk
  obtain ⟨m, h3, h4⟩ := h' k hk
  rw [vl_n h2 (by omega), vl_n h4 (by omega)] at e
  rw [h2, h4, cg_nq e h1 h3]
/-- only the ints of the name pf have changed -/
def onl (pf : Nat) (s s' : Sto) : Prop := (∀ k, k ≠ pf → s'.1 k = s.1 k) ∧ s'.2 = s.2
theorem onl_rf {pf : Nat} {s : Sto} : onl pf s s := ⟨fun _ _ => rfl, rfl⟩
theorem onl_tr {pf : Nat} {s s1 s2 : Sto} (h : onl pf s s1) (h1 : onl pf s1 s2) : onl pf s s2 := ⟨fun k hk => (h1.1 k hk).trans (h.1 k hk), h1.2.trans h.2⟩
theorem onl_sI {pf i : Nat} {s : Sto} {x : Int32} : onl pf s (sI s pf i x) := ⟨fun _ hk => uA_ne hk, rfl⟩
theorem upd_s {r : Nat → Int32} {i : Nat} {x : Int32} : upd r i x i = x := by simp [upd]
theorem upd_n {r : Nat → Int32} {i j : Nat} {x : Int32} (h : j ≠ i) : upd r i x j = r j := by simp [upd, h]
theorem nI_sa {a t q : Nat} (h : t ≤ a + q) : nI a - nI t + nI q = nI (a + q - t) := by
  rw [← pk_sub h, ← nI_add, Int32.sub_eq_add_neg, Int32.sub_eq_add_neg, Int32.add_assoc, Int32.add_comm (-nI t), ← Int32.add_assoc]
theorem sub_nn {a t : Nat} (ha : a < 2 ^ 30) (ht : t < 2 ^ 30) : 0 ≤ nI a - nI t ↔ t ≤ a := by
  have h0 : (0 : Int32).toInt = 0 := by decide
  rw [Int32.le_iff_toInt_le, pk_sub_toInt ha ht, h0]
  omega
theorem bf_ok {q a t : Nat} {w : Int} (hq : q < 2 ^ 29) (ha : a < q) (ht : t < q) (hw : cg (q : Int) (t : Int) w) :
    ∃ A B : Nat, A < q ∧ B < q ∧ cg (q : Int) (A : Int) ((a : Int) + w) ∧ cg (q : Int) (B : Int) ((a : Int) - w) ∧ (if nI a + nI t < nI q then nI a + nI t else nI a + nI t - nI q) = nI A ∧ (if 0 ≤ nI a - nI t then nI a - nI t else nI a - nI t + nI q) = nI B := by
  have hs : cg (q : Int) ((a : Int) + (t : Int)) ((a : Int) + w) := cg_add cg_rf hw
  have hd : cg (q : Int) ((a : Int) - (t : Int)) ((a : Int) - w) := cg_sub cg_rf hw
  have k1 : ∃ A : Nat, A < q ∧ cg (q : Int) (A : Int) ((a : Int) + w) ∧ (if nI a + nI t < nI q then nI a + nI t else nI a + nI t - nI q) = nI A := by
    rw [nI_add]
    by_cases z : a + t < q
    · exact ⟨a + t, z, by rw [Int.natCast_add]; exact hs, if_pos ((nI_ltI (by omega) (by omega)).mpr z)⟩
    · refine ⟨a + t - q, by omega, cg_tr ⟨-1, by omega⟩ hs, ?_⟩
      rw [if_neg (fun c => z ((nI_ltI (by omega) (by omega)).mp c)), pk_sub (by omega)]
  have k2 : ∃ B : Nat, B < q ∧ cg (q : Int) (B : Int) ((a : Int) - w) ∧ (if 0 ≤ nI a - nI t then nI a - nI t else nI a - nI t + nI q) = nI B := by
    by_cases z : t ≤ a
    · refine ⟨a - t, by omega, cg_tr (cg_of (by omega)) hd, ?_⟩
      rw [if_pos ((sub_nn (by omega) (by omega)).mpr z), pk_sub z]
    · refine ⟨a + q - t, by omega, cg_tr ⟨1, by omega⟩ hd, ?_⟩
      rw [if_neg (fun c => z ((sub_nn (by omega) (by omega)).mp c)), nI_sa (by omega)]
  obtain ⟨A, a1, a2, a3⟩ := k1
  obtain ⟨B, b1, b2, b3⟩ := k2
  exact ⟨A, B, a1, b1, a2, b2, a3, b3⟩
theorem bf_if {c1 c2 : Prop} [Decidable c1] [Decidable c2] {G : Sto → Sto} {s : Sto} {pf j k : Nat} {x x' y y' : Int32} : (if c1 then bnd (sI s pf j x) (fun s2 => if c2 then bnd (sI s2 pf k y) (fun s3 => G s3) else bnd (sI s2 pf k y') (fun s3 => G s3)) else bnd (sI s pf j x') (fun s2 => if c2 then bnd (sI s2 pf k y) (fun s3 => G s3) else bnd (sI s2 pf k y') (fun s3 => G s3))) = G (sI (sI s pf j (if c1 then x else x')) pf k (if c2 then y else y')) := by
  by_cases h1 : c1 <;> by_cases h2 : c2 <;> simp [bnd, h1, h2]
theorem bg_if {c1 : Prop} [Decidable c1] {G : Sto → Sto} {s : Sto} {pf j k : Nat} {x x' y : Int32} : (if c1 then bnd (sI s pf j x) (fun s2 => bnd (sI s2 pf k y) (fun s3 => G s3)) else bnd (sI s pf j x') (fun s2 => bnd (sI s2 pf k y) (fun s3 => G s3))) = G (sI (sI s pf j (if c1 then x else x')) pf k y) := by
  by_cases h1 : c1 <;> simp [bnd, h1]
theorem mulm {z b q : Nat} (hq : q < 2 ^ 29) (hz : z < q) (hb : b < 2 * q) : (lN z * (nI b).toInt64 - lN z * (nI b).toInt64 / (nI q).toInt64 * (nI q).toInt64).toInt32 = nI (z * b % q) := by
  have h1 : z * b < 2 ^ 63 := by
    have h2 : z * b ≤ 2 ^ 29 * 2 ^ 30 := Nat.mul_le_mul (by omega) (by omega)
    omega
  rw [nI_l (by omega), nI_l (by omega), lN_mul, pk_lRem h1 (by omega) (by omega), lN_i]
/-- n butterflies from j on, of the row r to the row r' -/
def spR (q : Nat) (z : Int) (hf n j : Nat) (r r' : Nat → Int32) : Prop := rdc q r' ∧ (∀ k, j ≤ k → k < j + n → cg (q : Int) (vl r' k) (vl r k + z * vl r (k + hf)) ∧ cg (q : Int) (vl r' (k + hf)) (vl r k - z * vl r (k + hf))) ∧ ∀ k, (k < j ∨ j + n ≤ k) → (k < j + hf ∨ j + n + hf ≤ k) → r' k = r k
def gaR (q : Nat) (z : Int) (hf n j : Nat) (r r' : Nat → Int32) : Prop := rdc q r' ∧ (∀ k, j ≤ k → k < j + n → cg (q : Int) (vl r' k) (vl r k + vl r (k + hf)) ∧ cg (q : Int) (vl r' (k + hf)) (z * (vl r (k + hf) - vl r k))) ∧ ∀ k, (k < j ∨ j + n ≤ k) → (k < j + hf ∨ j + n + hf ≤ k) → r' k = r k
theorem two_sI {s s1 : Sto} {pf j hf A B : Nat} (h0 : 0 < hf) (hs1 : sI (sI s pf j (nI A)) pf (j + hf) (nI B) = s1) : onl pf s s1 ∧ s1.1 pf j = nI A ∧ s1.1 pf (j + hf) = nI B ∧ ∀ k, k ≠ j → k ≠ j + hf → s1.1 pf k = s.1 pf k := by
  subst hs1
  refine ⟨onl_tr onl_sI onl_sI, ?_, ?_, fun k u v => ?_⟩
  · rw [sI_row, sI_row, upd_n (by omega), upd_s]
  · rw [sI_row, upd_s]
  · rw [sI_row, sI_row, upd_n v, upd_n u]
theorem P_spreadG {q pf hf z : Nat} {G : Nat → Nat → Sto → Sto} (hq : q < 2 ^ 29) (hG0 : ∀ j s, G 0 j s = s) (hG : ∀ (n j a b : Nat) (s : Sto), a < q → b < q → s.1 pf j = nI a → s.1 pf (j + hf) = nI b → ∃ A B : Nat, A < q ∧ B < q ∧ cg (q : Int) (A : Int) ((a : Int) + (z : Int) * (b : Int)) ∧ cg (q : Int) (B : Int) ((a : Int) - (z : Int) * (b : Int)) ∧ G (n + 1) j s = G n (j + 1) (sI (sI s pf j (nI A)) pf (j + hf) (nI B))) (h0 : 0 < hf) : ∀ (n j : Nat) (s : Sto), n ≤ hf → j + n + hf ≤ 256 → rdc q (s.1 pf) → spR q (z : Int) hf n j (s.1 pf) ((G n j s).1 pf) ∧ onl pf s (G n j s)
  | 0, j, s, _, _, hr => by
    rw [hG0]
    exact ⟨⟨hr, fun k h1 h2 => by omega, fun _ _ _ => rfl⟩, onl_rf⟩
  | n + 1, j, s, hn, hj, hr => by
    obtain ⟨a, ha, ea⟩ := hr j (by omega)
    obtain ⟨b, hb, eb⟩ := hr (j + hf) (by omega)
    obtain ⟨A, B, hA, hB, cA, cB, e⟩ := hG n j a b s ha hb ea eb
    generalize hs1 : sI (sI s pf j (nI A)) pf (j + hf) (nI B) = s1 at e
    obtain ⟨o1, k1, k2, k3⟩ := two_sI h0 hs1
    have hr1 : rdc q (s1.1 pf) := fun k hk => by
      by_cases u : k = j
      · subst u
        exact ⟨A, hA, k1⟩
      · by_cases v : k = j + hf
        · subst v
          exact ⟨B, hB, k2⟩
        · rw [k3 k u v]
          exact hr k hk
    obtain ⟨⟨q1, q2, q3⟩, q4⟩ := P_spreadG hq hG0 hG h0 n (j + 1) s1 (by omega) (by omega) hr1
    rw [e]
    refine ⟨⟨q1, fun k u v => ?_, fun k u v => ?_⟩, onl_tr o1 q4⟩
    · by_cases w : k = j
      · subst w
        rw [vl_c (q3 k (Or.inl (by omega)) (Or.inl (by omega))), vl_c (q3 (k + hf) (Or.inr (by omega)) (Or.inl (by omega))), vl_n k1 (by omega), vl_n k2 (by omega), vl_n ea (by omega), vl_n eb (by omega)]
        exact ⟨cA, cB⟩
      · have := q2 k (by omega) (by omega)
        rw [vl_c (k3 k w (by omega)), vl_c (k3 (k + hf) (by omega) (by omega))] at this
        exact this
    · rw [q3 k (by omega) (by omega), k3 k (by omega) (by omega)]
theorem P_gatherG {q pf hf z : Nat} {G : Nat → Nat → Sto → Sto} (hq : q < 2 ^ 29) (hG0 : ∀ j s, G 0 j s = s) (hG : ∀ (n j a b : Nat) (s : Sto), a < q → b < q → s.1 pf j = nI a → s.1 pf (j + hf) = nI b → ∃ A B : Nat, A < q ∧ B < q ∧ cg (q : Int) (A : Int) ((a : Int) + (b : Int)) ∧ cg (q : Int) (B : Int) ((z : Int) * ((b : Int) - (a : Int))) ∧ G (n + 1) j s = G n (j + 1) (sI (sI s pf j (nI A)) pf (j + hf) (nI B))) (h0 : 0 < hf) : ∀ (n j : Nat) (s : Sto), n ≤ hf → j + n + hf ≤ 256 → rdc q (s.1 pf) → gaR q (z : Int) hf n j (s.1 pf) ((G n j s).1 pf) ∧ onl pf s (G n j s)
  | 0, j, s, _, _, hr => by
    rw [hG0]
    exact ⟨⟨hr, fun k h1 h2 => by omega, fun _ _ _ => rfl⟩, onl_rf⟩
  | n + 1, j, s, hn, hj, hr => by
    obtain ⟨a, ha, ea⟩ := hr j (by omega)
    obtain ⟨b, hb, eb⟩ := hr (j + hf) (by omega)
    obtain ⟨A, B, hA, hB, cA, cB, e⟩ := hG n j a b s ha hb ea eb
    generalize hs1 : sI (sI s pf j (nI A)) pf (j + hf) (nI B) = s1 at e
    obtain ⟨o1, k1, k2, k3⟩ := two_sI h0 hs1
    have hr1 : rdc q (s1.1 pf) := fun k hk => by
      by_cases u : k = j
      · subst u
        exact ⟨A, hA, k1⟩
      · by_cases v : k = j + hf
        · subst v
          exact ⟨B, hB, k2⟩
        · rw [k3 k u v]
          exact hr k hk
    obtain ⟨⟨q1, q2, q3⟩, q4⟩ := P_gatherG hq hG0 hG h0 n (j + 1) s1 (by omega) (by omega) hr1
    rw [e]
    refine ⟨⟨q1, fun k u v => ?_, fun k u v => ?_⟩, onl_tr o1 q4⟩
    · by_cases w : k = j
      · subst w
        rw [vl_c (q3 k (Or.inl (by omega)) (Or.inl (by omega))), vl_c (q3 (k + hf) (Or.inr (by omega)) (Or.inl (by omega))), vl_n k1 (by omega), vl_n k2 (by omega), vl_n ea (by omega), vl_n eb (by omega)]
        exact ⟨cA, cB⟩
      · have := q2 k (by omega) (by omega)
        rw [vl_c (k3 k w (by omega)), vl_c (k3 (k + hf) (by omega) (by omega))] at this
        exact this
    · rw [q3 k (by omega) (by omega), k3 k (by omega) (by omega)]
theorem sp_body7 {pf hf z a b n j : Nat} {s : Sto} (hz : z < 3329) (ha : a < 3329) (hb : b < 3329) (ea : s.1 pf j = nI a) (eb : s.1 pf (j + hf) = nI b) : ∃ A B : Nat, A < 3329 ∧ B < 3329 ∧ cg ((3329 : Nat) : Int) (A : Int) ((a : Int) + (z : Int) * (b : Int)) ∧ cg ((3329 : Nat) : Int) (B : Int) ((a : Int) - (z : Int) * (b : Int)) ∧ F_RG_spread_7_L0 pf hf (lN z) (n + 1) j s = F_RG_spread_7_L0 pf hf (lN z) n (j + 1) (sI (sI s pf j (nI A)) pf (j + hf) (nI B)) := by
  have hw : cg ((3329 : Nat) : Int) ((z * b % 3329 : Nat) : Int) ((z : Int) * (b : Int)) := by
    have := cg_mod 3329 (z * b)
    rw [Int.natCast_mul] at this
    exact this
  obtain ⟨A, B, h1, h2, h3, h4, h5, h6⟩ := bf_ok (q := 3329) (t := z * b % 3329) (by decide) ha (Nat.mod_lt _ (by decide)) hw
  refine ⟨A, B, h1, h2, h3, h4, ?_⟩
  rw [F_RG_spread_7_L0, eb, mulm (q := 3329) (by decide) hz (by omega), ea, bnd_eq, bnd_eq, bnd_eq, ← h5, ← h6]
  exact bf_if
theorem ga_body7 {pf hf z a b n j : Nat} {s : Sto} (hz : z < 3329) (ha : a < 3329) (hb : b < 3329) (ea : s.1 pf j = nI a) (eb : s.1 pf (j + hf) = nI b) : ∃ A B : Nat, A < 3329 ∧ B < 3329 ∧ cg ((3329 : Nat) : Int) (A : Int) ((a : Int) + (b : Int)) ∧ cg ((3329 : Nat) : Int) (B : Int) ((z : Int) * ((b : Int) - (a : Int))) ∧ F_RG_gather_7_L0 pf hf (lN z) (n + 1) j s = F_RG_gather_7_L0 pf hf (lN z) n (j + 1) (sI (sI s pf j (nI A)) pf (j + hf) (nI B)) := by
  obtain ⟨A, -, h1, -, h3, -, h5, -⟩ := bf_ok (q := 3329) (t := b) (w := (b : Int)) (by decide) ha hb cg_rf
  refine ⟨A, z * (b + 3329 - a) % 3329, h1, Nat.mod_lt _ (by decide), h3, ?_, ?_⟩
  · refine cg_tr (cg_mod 3329 _) ?_
    rw [Int.natCast_mul]
    exact cg_mull ⟨1, by omega⟩
  · rw [F_RG_gather_7_L0, eb, ea, bnd_eq, bnd_eq, nI_sa (by omega), mulm (q := 3329) (by decide) hz (by omega), ← h5]
    exact bg_if
theorem P_spread7 {pf hf z : Nat} (hz : z < 3329) (h0 : 0 < hf) (n j : Nat) (s : Sto) (h1 : n ≤ hf) (h2 : j + n + hf ≤ 256) (h3 : rdc 3329 (s.1 pf)) : spR 3329 (z : Int) hf n j (s.1 pf) ((F_RG_spread_7_L0 pf hf (lN z) n j s).1 pf) ∧ onl pf s (F_RG_spread_7_L0 pf hf (lN z) n j s) :=
  P_spreadG (q := 3329) (G := F_RG_spread_7_L0 pf hf (lN z)) (by decide) (fun j s => by rw [F_RG_spread_7_L0]) (fun n j a b s ha hb ea eb => sp_body7 (n := n) hz ha hb ea eb) h0 n j s h1 h2 h3
theorem P_gather7 {pf hf z : Nat} (hz : z < 3329) (h0 : 0 < hf) (n j : Nat) (s : Sto) (h1 : n ≤ hf) (h2 : j + n + hf ≤ 256) (h3 : rdc 3329 (s.1 pf)) : gaR 3329 (z : Int) hf n j (s.1 pf) ((F_RG_gather_7_L0 pf hf (lN z) n j s).1 pf) ∧ onl pf s (F_RG_gather_7_L0 pf hf (lN z) n j s) :=
  P_gatherG (q := 3329) (G := F_RG_gather_7_L0 pf hf (lN z)) (by decide) (fun j s => by rw [F_RG_gather_7_L0]) (fun n j a b s ha hb ea eb => ga_body7 (n := n) hz ha hb ea eb) h0 n j s h1 h2 h3
theorem sp_body8 {pf hf z a b n j : Nat} {s : Sto} (hz : z < 8380417) (ha : a < 8380417) (hb : b < 8380417) (ea : s.1 pf j = nI a) (eb : s.1 pf (j + hf) = nI b) : ∃ A B : Nat, A < 8380417 ∧ B < 8380417 ∧ cg ((8380417 : Nat) : Int) (A : Int) ((a : Int) + (z : Int) * (b : Int)) ∧ cg ((8380417 : Nat) : Int) (B : Int) ((a : Int) - (z : Int) * (b : Int)) ∧ F_RG_spread_8_L0 pf hf (lN z) (n + 1) j s = F_RG_spread_8_L0 pf hf (lN z) n (j + 1) (sI (sI s pf j (nI A)) pf (j + hf) (nI B)) := by
  have hw : cg ((8380417 : Nat) : Int) ((z * b % 8380417 : Nat) : Int) ((z : Int) * (b : Int)) := by
    have := cg_mod 8380417 (z * b)
    rw [Int.natCast_mul] at this
    exact this
  obtain ⟨A, B, h1, h2, h3, h4, h5, h6⟩ := bf_ok (q := 8380417) (t := z * b % 8380417) (by decide) ha (Nat.mod_lt _ (by decide)) hw
  refine ⟨A, B, h1, h2, h3, h4, ?_⟩
  rw [F_RG_spread_8_L0, eb, mulm (q := 8380417) (by decide) hz (by omega), ea, bnd_eq, bnd_eq, bnd_eq, ← h5, ← h6]
  exact bf_if
theorem ga_body8 {pf hf z a b n j : Nat} {s : Sto} (hz : z < 8380417) (ha : a < 8380417) (hb : b < 8380417) (ea : s.1 pf j = nI a) (eb : s.1 pf (j + hf) = nI b) : ∃ A B : Nat, A < 8380417 ∧ B < 8380417 ∧ cg ((8380417 : Nat) : Int) (A : Int) ((a : Int) + (b : Int)) ∧ cg ((8380417 : Nat) : Int) (B : Int) ((z : Int) * ((b : Int) - (a : Int))) ∧ F_RG_gather_8_L0 pf hf (lN z) (n + 1) j s = F_RG_gather_8_L0 pf hf (lN z) n (j + 1) (sI (sI s pf j (nI A)) pf (j + hf) (nI B)) := by
  obtain ⟨A, -, h1, -, h3, -, h5, -⟩ := bf_ok (q := 8380417) (t := b) (w := (b : Int)) (by decide) ha hb cg_rf
  refine ⟨A, z * (b + 8380417 - a) % 8380417, h1, Nat.mod_lt _ (by decide), h3, ?_, ?_⟩
  · refine cg_tr (cg_mod 8380417 _) ?_
    rw [Int.natCast_mul]
    exact cg_mull ⟨1, by omega⟩
  · rw [F_RG_gather_8_L0, eb, ea, bnd_eq, bnd_eq, nI_sa (by omega), mulm (q := 8380417) (by decide) hz (by omega), ← h5]
    exact bg_if
theorem P_spread8 {pf hf z : Nat} (hz : z < 8380417) (h0 : 0 < hf) (n j : Nat) (s : Sto) (h1 : n ≤ hf) (h2 : j + n + hf ≤ 256) (h3 : rdc 8380417 (s.1 pf)) : spR 8380417 (z : Int) hf n j (s.1 pf) ((F_RG_spread_8_L0 pf hf (lN z) n j s).1 pf) ∧ onl pf s (F_RG_spread_8_L0 pf hf (lN z) n j s) :=
  P_spreadG (q := 8380417) (G := F_RG_spread_8_L0 pf hf (lN z)) (by decide) (fun j s => by rw [F_RG_spread_8_L0]) (fun n j a b s ha hb ea eb => sp_body8 (n := n) hz ha hb ea eb) h0 n j s h1 h2 h3
theorem P_gather8 {pf hf z : Nat} (hz : z < 8380417) (h0 : 0 < hf) (n j : Nat) (s : Sto) (h1 : n ≤ hf) (h2 : j + n + hf ≤ 256) (h3 : rdc 8380417 (s.1 pf)) : gaR 8380417 (z : Int) hf n j (s.1 pf) ((F_RG_gather_8_L0 pf hf (lN z) n j s).1 pf) ∧ onl pf s (F_RG_gather_8_L0 pf hf (lN z) n j s) :=
  P_gatherG (q := 8380417) (G := F_RG_gather_8_L0 pf hf (lN z)) (by decide) (fun j s => by rw [F_RG_gather_8_L0]) (fun n j a b s ha hb ea eb => ga_body8 (n := n) hz ha hb ea eb) h0 n j s h1 h2 h3
