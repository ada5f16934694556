set_option linter.all false
theorem lb_2_64 {q pf N : Nat} {G : Nat → Nat → Sto → Sto} {K : Sto → Sto} {zf : Nat → Int} (h0 : ∀ i s, G 0 i s = K s) (hs : ∀ n i s, i < N → rdc q (s.1 pf) → ∃ s1, G (n + 1) i s = G n (i + 1) s1 ∧ gaR q (zf i) 128 128 (256 * i) (s.1 pf) (s1.1 pf) ∧ onl pf s s1) : ∀ (n i : Nat) (s : Sto), i + n ≤ N → rdc q (s.1 pf) → ∃ s' : Sto, G n i s = K s' ∧ onl pf s s' ∧ rdc q (s'.1 pf) ∧ (∀ b v c, i ≤ b → b < i + n → v < 64 → c < 2 → cg (q : Int) (vl (s'.1 pf) (2 * (2 * 64 * b + v) + c)) (vl (s.1 pf) (2 * (64 * (2 * b) + v) + c) + vl (s.1 pf) (2 * (64 * (2 * b + 1) + v) + c)) ∧ cg (q : Int) (vl (s'.1 pf) (2 * (2 * 64 * b + (64 + v)) + c)) (zf b * (vl (s.1 pf) (2 * (64 * (2 * b + 1) + v) + c) - vl (s.1 pf) (2 * (64 * (2 * b) + v) + c)))) ∧ ∀ k, (k < 256 * i ∨ 256 * (i + n) ≤ k) → s'.1 pf k = s.1 pf k
  | 0, i, s, _, hr => ⟨s, h0 i s, onl_rf, hr, fun b v c h1 h2 => by omega, fun _ _ => rfl⟩
  | n + 1, i, s, hn, hr => by
    obtain ⟨s1, hU, ⟨q1, q2, q3⟩, q4⟩ := hs n i s (by omega) hr
    obtain ⟨s', e, o, r, c', u⟩ := lb_2_64 h0 hs n (i + 1) s1 (by omega) q1
    refine ⟨s', hU.trans e, onl_tr q4 o, r, fun b v c h1 h2 h3 h4 => ?_, fun k hk => ?_⟩
    · by_cases w : b = i
      · subst w
        have h9 := q2 (256 * b + (2 * v + c)) (by omega) (by omega)
        rw [show 2 * (2 * 64 * b + (64 + v)) + c = 256 * b + (2 * v + c) + 128 by omega, show 2 * (2 * 64 * b + v) + c = 256 * b + (2 * v + c) by omega, show 2 * (64 * (2 * b + 1) + v) + c = 256 * b + (2 * v + c) + 128 by omega, show 2 * (64 * (2 * b) + v) + c = 256 * b + (2 * v + c) by omega, vl_c (u (256 * b + (2 * v + c)) (by omega)), vl_c (u (256 * b + (2 * v + c) + 128) (by omega))]
        exact h9
      · have h9 := c' b v c (by omega) (by omega) h3 h4
        rw [vl_c (q3 (2 * (64 * (2 * b) + v) + c) (by omega) (by omega)), vl_c (q3 (2 * (64 * (2 * b + 1) + v) + c) (by omega) (by omega))] at h9
        exact h9
    · rw [u k (by omega), q3 k (by omega) (by omega)]
theorem lb_2_32 {q pf N : Nat} {G : Nat → Nat → Sto → Sto} {K : Sto → Sto} {zf : Nat → Int} (h0 : ∀ i s, G 0 i s = K s) (hs : ∀ n i s, i < N → rdc q (s.1 pf) → ∃ s1, G (n + 1) i s = G n (i + 1) s1 ∧ gaR q (zf i) 64 64 (128 * i) (s.1 pf) (s1.1 pf) ∧ onl pf s s1) : ∀ (n i : Nat) (s : Sto), i + n ≤ N → rdc q (s.1 pf) → ∃ s' : Sto, G n i s = K s' ∧ onl pf s s' ∧ rdc q (s'.1 pf) ∧ (∀ b v c, i ≤ b → b < i + n → v < 32 → c < 2 → cg (q : Int) (vl (s'.1 pf) (2 * (2 * 32 * b + v) + c)) (vl (s.1 pf) (2 * (32 * (2 * b) + v) + c) + vl (s.1 pf) (2 * (32 * (2 * b + 1) + v) + c)) ∧ cg (q : Int) (vl (s'.1 pf) (2 * (2 * 32 * b + (32 + v)) + c)) (zf b * (vl (s.1 pf) (2 * (32 * (2 * b + 1) + v) + c) - vl (s.1 pf) (2 * (32 * (2 * b) + v) + c)))) ∧ ∀ k, (k < 128 * i ∨ 128 * (i + n) ≤ k) → s'.1 pf k = s.1 pf k
  | 0, i, s, _, hr => ⟨s, h0 i s, onl_rf, hr, fun b v c h1 h2 => by omega, fun _ _ => rfl⟩
  | n + 1, i, s, hn, hr => by
    obtain ⟨s1, hU, ⟨q1, q2, q3⟩, q4⟩ := hs n i s (by omega) hr
    obtain ⟨s', e, o, r, c', u⟩ := lb_2_32 h0 hs n (i + 1) s1 (by omega) q1
    refine ⟨s', hU.trans e, onl_tr q4 o, r, fun b v c h1 h2 h3 h4 => ?_, fun k hk => ?_⟩
    · by_cases w : b = i
      · subst w
        have h9 := q2 (128 * b + (2 * v + c)) (by omega) (by omega)
        rw [show 2 * (2 * 32 * b + (32 + v)) + c = 128 * b + (2 * v + c) + 64 by omega, show 2 * (2 * 32 * b + v) + c = 128 * b + (2 * v + c) by omega, show 2 * (32 * (2 * b + 1) + v) + c = 128 * b + (2 * v + c) + 64 by omega, show 2 * (32 * (2 * b) + v) + c = 128 * b + (2 * v + c) by omega, vl_c (u (128 * b + (2 * v + c)) (by omega)), vl_c (u (128 * b + (2 * v + c) + 64) (by omega))]
        exact h9
      · have h9 := c' b v c (by omega) (by omega) h3 h4
        rw [vl_c (q3 (2 * (32 * (2 * b) + v) + c) (by omega) (by omega)), vl_c (q3 (2 * (32 * (2 * b + 1) + v) + c) (by omega) (by omega))] at h9
        exact h9
    · rw [u k (by omega), q3 k (by omega) (by omega)]
theorem lb_2_16 {q pf N : Nat} {G : Nat → Nat → Sto → Sto} {K : Sto → Sto} {zf : Nat → Int} (h0 : ∀ i s, G 0 i s = K s) (hs : ∀ n i s, i < N → rdc q (s.1 pf) → ∃ s1, G (n + 1) i s = G n (i + 1) s1 ∧ gaR q (zf i) 32 32 (64 * i) (s.1 pf) (s1.1 pf) ∧ onl pf s s1) : ∀ (n i : Nat) (s : Sto), i + n ≤ N → rdc q (s.1 pf) → ∃ s' : Sto, G n i s = K s' ∧ onl pf s s' ∧ rdc q (s'.1 pf) ∧ (∀ b v c, i ≤ b → b < i + n → v < 16 → c < 2 → cg (q : Int) (vl (s'.1 pf) (2 * (2 * 16 * b + v) + c)) (vl (s.1 pf) (2 * (16 * (2 * b) + v) + c) + vl (s.1 pf) (2 * (16 * (2 * b + 1) + v) + c)) ∧ cg (q : Int) (vl (s'.1 pf) (2 * (2 * 16 * b + (16 + v)) + c)) (zf b * (vl (s.1 pf) (2 * (16 * (2 * b + 1) + v) + c) - vl (s.1 pf) (2 * (16 * (2 * b) + v) + c)))) ∧ ∀ k, (k < 64 * i ∨ 64 * (i + n) ≤ k) → s'.1 pf k = s.1 pf k
  | 0, i, s, _, hr => ⟨s, h0 i s, onl_rf, hr, fun b v c h1 h2 => by omega, fun _ _ => rfl⟩
  | n + 1, i, s, hn, hr => by
    obtain ⟨s1, hU, ⟨q1, q2, q3⟩, q4⟩ := hs n i s (by omega) hr
    obtain ⟨s', e, o, r, c', u⟩ := lb_2_16 h0 hs n (i + 1) s1 (by omega) q1
    refine ⟨s', hU.trans e, onl_tr q4 o, r, fun b v c h1 h2 h3 h4 => ?_, fun k hk => ?_⟩
    · by_cases w : b = i
      · subst w
        have h9 := q2 (64 * b + (2 * v + c)) (by omega) (by omega)
        rw [show 2 * (2 * 16 * b + (16 + v)) + c = 64 * b + (2 * v + c) + 32 by omega, show 2 * (2 * 16 * b + v) + c = 64 * b + (2 * v + c) by omega, show 2 * (16 * (2 * b + 1) + v) + c = 64 * b + (2 * v + c) + 32 by omega, show 2 * (16 * (2 * b) + v) + c = 64 * b + (2 * v + c) by omega, vl_c (u (64 * b + (2 * v + c)) (by omega)), vl_c (u (64 * b + (2 * v + c) + 32) (by omega))]
        exact h9
      · have h9 := c' b v c (by omega) (by omega) h3 h4
        rw [vl_c (q3 (2 * (16 * (2 * b) + v) + c) (by omega) (by omega)), vl_c (q3 (2 * (16 * (2 * b + 1) + v) + c) (by omega) (by omega))] at h9
        exact h9
    · rw [u k (by omega), q3 k (by omega) (by omega)]
theorem lb_2_8 {q pf N : Nat} {G : Nat → Nat → Sto → Sto} {K : Sto → Sto} {zf : Nat → Int} (h0 : ∀ i s, G 0 i s = K s) (hs : ∀ n i s, i < N → rdc q (s.1 pf) → ∃ s1, G (n + 1) i s = G n (i + 1) s1 ∧ gaR q (zf i) 16 16 (32 * i) (s.1 pf) (s1.1 pf) ∧ onl pf s s1) : ∀ (n i : Nat) (s : Sto), i + n ≤ N → rdc q (s.1 pf) → ∃ s' : Sto, G n i s = K s' ∧ onl pf s s' ∧ rdc q (s'.1 pf) ∧ (∀ b v c, i ≤ b → b < i + n → v < 8 → c < 2 → cg (q : Int) (vl (s'.1 pf) (2 * (2 * 8 * b + v) + c)) (vl (s.1 pf) (2 * (8 * (2 * b) + v) + c) + vl (s.1 pf) (2 * (8 * (2 * b + 1) + v) + c)) ∧ cg (q : Int) (vl (s'.1 pf) (2 * (2 * 8 * b + (8 + v)) + c)) (zf b * (vl (s.1 pf) (2 * (8 * (2 * b + 1) + v) + c) - vl (s.1 pf) (2 * (8 * (2 * b) + v) + c)))) ∧ ∀ k, (k < 32 * i ∨ 32 * (i + n) ≤ k) → s'.1 pf k = s.1 pf k
  | 0, i, s, _, hr => ⟨s, h0 i s, onl_rf, hr, fun b v c h1 h2 => by omega, fun _ _ => rfl⟩
  | n + 1, i, s, hn, hr => by
    obtain ⟨s1, hU, ⟨q1, q2, q3⟩, q4⟩ := hs n i s (by omega) hr
    obtain ⟨s', e, o, r, c', u⟩ := lb_2_8 h0 hs n (i + 1) s1 (by omega) q1
    refine ⟨s', hU.trans e, onl_tr q4 o, r, fun b v c h1 h2 h3 h4 => ?_, fun k hk => ?_⟩
    · by_cases w : b = i
      · subst w
        have h9 := q2 (32 * b + (2 * v + c)) (by omega) (by omega)
        rw [show 2 * (2 * 8 * b + (8 + v)) + c = 32 * b + (2 * v + c) + 16 by omega, show 2 * (2 * 8 * b + v) + c = 32 * b + (2 * v + c) by omega, show 2 * (8 * (2 * b + 1) + v) + c = 32 * b + (2 * v + c) + 16 by omega, show 2 * (8 * (2 * b) + v) + c = 32 * b + (2 * v + c) by omega, vl_c (u (32 * b + (2 * v + c)) (by omega)), vl_c (u (32 * b + (2 * v + c) + 16) (by omega))]
        exact h9
      · have h9 := c' b v c (by omega) (by omega) h3 h4
        rw [vl_c (q3 (2 * (8 * (2 * b) + v) + c) (by omega) (by omega)), vl_c (q3 (2 * (8 * (2 * b + 1) + v) + c) (by omega) (by omega))] at h9
        exact h9
    · rw [u k (by omega), q3 k (by omega) (by omega)]
theorem lb_2_4 {q pf N : Nat} {G : Nat → Nat → Sto → Sto} {K : Sto → Sto} {zf : Nat → Int} (h0 : ∀ i s, G 0 i s = K s) (hs : ∀ n i s, i < N → rdc q (s.1 pf) → ∃ s1, G (n + 1) i s = G n (i + 1) s1 ∧ gaR q (zf i) 8 8 (16 * i) (s.1 pf) (s1.1 pf) ∧ onl pf s s1) : ∀ (n i : Nat) (s : Sto), i + n ≤ N → rdc q (s.1 pf) → ∃ s' : Sto, G n i s = K s' ∧ onl pf s s' ∧ rdc q (s'.1 pf) ∧ (∀ b v c, i ≤ b → b < i + n → v < 4 → c < 2 → cg (q : Int) (vl (s'.1 pf) (2 * (2 * 4 * b + v) + c)) (vl (s.1 pf) (2 * (4 * (2 * b) + v) + c) + vl (s.1 pf) (2 * (4 * (2 * b + 1) + v) + c)) ∧ cg (q : Int) (vl (s'.1 pf) (2 * (2 * 4 * b + (4 + v)) + c)) (zf b * (vl (s.1 pf) (2 * (4 * (2 * b + 1) + v) + c) - vl (s.1 pf) (2 * (4 * (2 * b) + v) + c)))) ∧ ∀ k, (k < 16 * i ∨ 16 * (i + n) ≤ k) → s'.1 pf k = s.1 pf k
  | 0, i, s, _, hr => ⟨s, h0 i s, onl_rf, hr, fun b v c h1 h2 => by omega, fun _ _ => rfl⟩
  | n + 1, i, s, hn, hr => by
    obtain ⟨s1, hU, ⟨q1, q2, q3⟩, q4⟩ := hs n i s (by omega) hr
    obtain ⟨s', e, o, r, c', u⟩ := lb_2_4 h0 hs n (i + 1) s1 (by omega) q1
    refine ⟨s', hU.trans e, onl_tr q4 o, r, fun b v c h1 h2 h3 h4 => ?_, fun k hk => ?_⟩
    · by_cases w : b = i
      · subst w
        have h9 := q2 (16 * b + (2 * v + c)) (by omega) (by omega)
        rw [show 2 * (2 * 4 * b + (4 + v)) + c = 16 * b + (2 * v + c) + 8 by omega, show 2 * (2 * 4 * b + v) + c = 16 * b + (2 * v + c) by omega, show 2 * (4 * (2 * b + 1) + v) + c = 16 * b + (2 * v + c) + 8 by omega, show 2 * (4 * (2 * b) + v) + c = 16 * b + (2 * v + c) by omega, vl_c (u (16 * b + (2 * v + c)) (by omega)), vl_c (u (16 * b + (2 * v + c) + 8) (by omega))]
        exact h9
      · have h9 := c' b v c (by omega) (by omega) h3 h4
        rw [vl_c (q3 (2 * (4 * (2 * b) + v) + c) (by omega) (by omega)), vl_c (q3 (2 * (4 * (2 * b + 1) + v) + c) (by omega) (by omega))] at h9
        exact h9
    · rw [u k (by omega), q3 k (by omega) (by omega)]
theorem lb_2_2 {q pf N : Nat} {G : Nat → Nat → Sto → Sto} {K : Sto → Sto} {zf : Nat → Int} (h0 : ∀ i s, G 0 i s = K s) (hs : ∀ n i s, i < N → rdc q (s.1 pf) → ∃ s1, G (n + 1) i s = G n (i + 1) s1 ∧ gaR q (zf i) 4 4 (8 * i) (s.1 pf) (s1.1 pf) ∧ onl pf s s1) : ∀ (n i : Nat) (s : Sto), i + n ≤ N → rdc q (s.1 pf) → ∃ s' : Sto, G n i s = K s' ∧ onl pf s s' ∧ rdc q (s'.1 pf) ∧ (∀ b v c, i ≤ b → b < i + n → v < 2 → c < 2 → cg (q : Int) (vl (s'.1 pf) (2 * (2 * 2 * b + v) + c)) (vl (s.1 pf) (2 * (2 * (2 * b) + v) + c) + vl (s.1 pf) (2 * (2 * (2 * b + 1) + v) + c)) ∧ cg (q : Int) (vl (s'.1 pf) (2 * (2 * 2 * b + (2 + v)) + c)) (zf b * (vl (s.1 pf) (2 * (2 * (2 * b + 1) + v) + c) - vl (s.1 pf) (2 * (2 * (2 * b) + v) + c)))) ∧ ∀ k, (k < 8 * i ∨ 8 * (i + n) ≤ k) → s'.1 pf k = s.1 pf k
  | 0, i, s, _, hr => ⟨s, h0 i s, onl_rf, hr, fun b v c h1 h2 => by omega, fun _ _ => rfl⟩
  | n + 1, i, s, hn, hr => by
    obtain ⟨s1, hU, ⟨q1, q2, q3⟩, q4⟩ := hs n i s (by omega) hr
    obtain ⟨s', e, o, r, c', u⟩ := lb_2_2 h0 hs n (i + 1) s1 (by omega) q1
    refine ⟨s', hU.trans e, onl_tr q4 o, r, fun b v c h1 h2 h3 h4 => ?_, fun k hk => ?_⟩
    · by_cases w : b = i
      · subst w
        have h9 := q2 (8 * b + (2 * v + c)) (by omega) (by omega)
        rw [show 2 * (2 * 2 * b + (2 + v)) + c = 8 * b + (2 * v + c) + 4 by omega, show 2 * (2 * 2 * b + v) + c = 8 * b + (2 * v + c) by omega, show 2 * (2 * (2 * b + 1) + v) + c = 8 * b + (2 * v + c) + 4 by omega, show 2 * (2 * (2 * b) + v) + c = 8 * b + (2 * v + c) by omega, vl_c (u (8 * b + (2 * v + c)) (by omega)), vl_c (u (8 * b + (2 * v + c) + 4) (by omega))]
        exact h9
      · have h9 := c' b v c (by omega) (by omega) h3 h4
        rw [vl_c (q3 (2 * (2 * (2 * b) + v) + c) (by omega) (by omega)), vl_c (q3 (2 * (2 * (2 * b + 1) + v) + c) (by omega) (by omega))] at h9
        exact h9
    · rw [u k (by omega), q3 k (by omega) (by omega)]
theorem lb_2_1 {q pf N : Nat} {G : Nat → Nat → Sto → Sto} {K : Sto → Sto} {zf : Nat → Int} (h0 : ∀ i s, G 0 i s = K s) (hs : ∀ n i s, i < N → rdc q (s.1 pf) → ∃ s1, G (n + 1) i s = G n (i + 1) s1 ∧ gaR q (zf i) 2 2 (4 * i) (s.1 pf) (s1.1 pf) ∧ onl pf s s1) : ∀ (n i : Nat) (s : Sto), i + n ≤ N → rdc q (s.1 pf) → ∃ s' : Sto, G n i s = K s' ∧ onl pf s s' ∧ rdc q (s'.1 pf) ∧ (∀ b v c, i ≤ b → b < i + n → v < 1 → c < 2 → cg (q : Int) (vl (s'.1 pf) (2 * (2 * 1 * b + v) + c)) (vl (s.1 pf) (2 * (1 * (2 * b) + v) + c) + vl (s.1 pf) (2 * (1 * (2 * b + 1) + v) + c)) ∧ cg (q : Int) (vl (s'.1 pf) (2 * (2 * 1 * b + (1 + v)) + c)) (zf b * (vl (s.1 pf) (2 * (1 * (2 * b + 1) + v) + c) - vl (s.1 pf) (2 * (1 * (2 * b) + v) + c)))) ∧ ∀ k, (k < 4 * i ∨ 4 * (i + n) ≤ k) → s'.1 pf k = s.1 pf k
  | 0, i, s, _, hr => ⟨s, h0 i s, onl_rf, hr, fun b v c h1 h2 => by omega, fun _ _ => rfl⟩
  | n + 1, i, s, hn, hr => by
    obtain ⟨s1, hU, ⟨q1, q2, q3⟩, q4⟩ := hs n i s (by omega) hr
    obtain ⟨s', e, o, r, c', u⟩ := lb_2_1 h0 hs n (i + 1) s1 (by omega) q1
    refine ⟨s', hU.trans e, onl_tr q4 o, r, fun b v c h1 h2 h3 h4 => ?_, fun k hk => ?_⟩
    · by_cases w : b = i
      · subst w
        have h9 := q2 (4 * b + (2 * v + c)) (by omega) (by omega)
        rw [show 2 * (2 * 1 * b + (1 + v)) + c = 4 * b + (2 * v + c) + 2 by omega, show 2 * (2 * 1 * b + v) + c = 4 * b + (2 * v + c) by omega, show 2 * (1 * (2 * b + 1) + v) + c = 4 * b + (2 * v + c) + 2 by omega, show 2 * (1 * (2 * b) + v) + c = 4 * b + (2 * v + c) by omega, vl_c (u (4 * b + (2 * v + c)) (by omega)), vl_c (u (4 * b + (2 * v + c) + 2) (by omega))]
        exact h9
      · have h9 := c' b v c (by omega) (by omega) h3 h4
        rw [vl_c (q3 (2 * (1 * (2 * b) + v) + c) (by omega) (by omega)), vl_c (q3 (2 * (1 * (2 * b + 1) + v) + c) (by omega) (by omega))] at h9
        exact h9
    · rw [u k (by omega), q3 k (by omega) (by omega)]
/-- the tree of roots, back -/
def yl7 : List Nat := [0, 3328, 1600, 1729, 40, 3289, 749, 2580, 2481, 848, 1432, 1897, 2699, 630, 687, 2642, 1583, 1746, 2760, 569, 69, 3260, 543, 2786, 2532, 797, 3136, 193, 1410, 1919, 2267, 1062, 2508, 821, 1355, 1974, 450, 2879, 936, 2393, 447, 2882, 2794, 535, 1235, 2094, 1903, 1426, 1996, 1333, 1089, 2240, 3273, 56, 283, 3046, 1853, 1476, 1990, 1339, 882, 2447, 3033, 296, 2419, 910, 2102, 1227, 219, 3110, 855, 2474, 2681, 648, 1848, 1481, 712, 2617, 682, 2647, 927, 2402, 1795, 1534, 461, 2868, 1891, 1438, 2877, 452, 2522, 807, 1894, 1435, 1010, 2319, 1414, 1915, 2009, 1320, 3296, 33, 464, 2865, 2697, 632, 816, 2513, 1352, 1977, 2679, 650, 1274, 2055, 1052, 2277, 1025, 2304, 2132, 1197, 1573, 1756, 76, 3253, 2998, 331, 3040, 289, 1175, 2154, 2444, 885, 394, 2935, 1219, 2110, 2300, 1029, 1455, 1874, 2117, 1212, 1607, 1722, 2443, 886, 554, 2775, 1179, 2150, 2186, 1143, 2303, 1026, 2926, 403, 2237, 1092, 525, 2804, 735, 2594, 863, 2466, 2768, 561, 1230, 2099, 2572, 757, 556, 2773, 3010, 319, 2266, 1063, 1684, 1645, 1239, 2090, 780, 2549, 2954, 375, 109, 3220, 1292, 2037, 1031, 2298, 1745, 1584, 2688, 641, 3061, 268, 992, 2337, 2596, 733, 941, 2388, 892, 2437, 1021, 2308, 2390, 939, 642, 2687, 1868, 1461, 2377, 952, 1482, 1847, 1540, 1789, 540, 2789, 1678, 1651, 1626, 1703, 279, 3050, 314, 3015, 1173, 2156, 2573, 756, 3096, 233, 48, 3281, 667, 2662, 1920, 1409, 2229, 1100, 1041, 2288, 2606, 723, 1692, 1637, 680, 2649, 2746, 583, 568, 2761, 3312, 17]
def yr7 (k : Nat) : Int := ((yl7.getD k 0 : Nat) : Int)
theorem yl7_sq : ∀ k, k < 128 → 1 ≤ k → (yl7.getD (2 * k) 0 * yl7.getD (2 * k) 0) % 3329 = yl7.getD k 0 % 3329 := by decide +kernel
theorem yl7_o : ∀ k, k < 128 → 1 ≤ k → (yl7.getD (2 * k + 1) 0 + yl7.getD (2 * k) 0) % 3329 = 0 % 3329 := by decide +kernel
theorem yr7_2 {k : Nat} (h : 1 ≤ k) (hk : k < 128) : cg ((3329 : Nat) : Int) (yr7 (2 * k) * yr7 (2 * k)) (yr7 k) := by
  unfold yr7
  rw [← Int.natCast_mul]
  exact cg_md (yl7_sq k hk h)
theorem yr7_3 {k : Nat} (h : 1 ≤ k) (hk : k < 128) : cg ((3329 : Nat) : Int) (yr7 (2 * k + 1)) (-(yr7 (2 * k))) := by
  have h1 := cg_md (yl7_o k hk h)
  rw [Int.natCast_add] at h1
  have h2 := cg_sub h1 (cg_rf (a := yr7 (2 * k)))
  unfold yr7 at h2 ⊢
  exact cg_tr (cg_of (by omega)) (cg_tr h2 (cg_of (by omega)))
theorem leaf7_f : ∀ b, b < 128 → xn7 (128 + b) % 3329 = cl1.getD (ct3.getD b 0) 0 % 3329 := by decide +kernel
theorem leaf7_b : ∀ b, b < 128 → 1 ≤ ct3.getD b 0 ∧ yl7.getD (128 + b) 0 % 3329 = cl1.getD (256 - ct3.getD b 0) 0 % 3329 := by decide +kernel
theorem leaf7_x {b : Nat} (h : b < 128) : cg ((3329 : Nat) : Int) (xr7 (128 + b)) (wf7 b) := cg_tr (cg_md (leaf7_f b h)) (cl1_p _ (ct3_lt b h))
theorem leaf7_y {b : Nat} (h : b < 128) : cg ((3329 : Nat) : Int) (yr7 (128 + b)) (wb7 b) := by
  obtain ⟨h1, h2⟩ := leaf7_b b h
  have h3 := ct3_lt b h
  exact cg_tr (cg_md h2) (cl1_p _ (by omega))
theorem mulr7 {a : Nat} (ha : a < 3329) : (((nI a).toInt64 * (nI 3303).toInt64) - ((nI a).toInt64 * (nI 3303).toInt64) / (nI 3329).toInt64 * (nI 3329).toInt64).toInt32 = nI (a * 3303 % 3329) := by
  rw [nI_l (n := a) (by omega), nI_l (n := 3303) (by decide), lN_mul, lN_rem7 (by omega), lN_i]
theorem sc7 {pf : Nat} : ∀ (n i : Nat) (s : Sto), i + n = 256 → rdc 3329 (s.1 pf) → onl pf s (F_RG_restore_7_L7 pf n i s) ∧ rdc 3329 ((F_RG_restore_7_L7 pf n i s).1 pf) ∧ (∀ k, i ≤ k → k < 256 → cg ((3329 : Nat) : Int) (vl ((F_RG_restore_7_L7 pf n i s).1 pf) k) (vl (s.1 pf) k * 3303)) ∧ ∀ k, k < i → (F_RG_restore_7_L7 pf n i s).1 pf k = s.1 pf k
  | 0, i, s, hi, hr => ⟨onl_rf, hr, fun k h1 h2 => by omega, fun _ _ => rfl⟩
  | n + 1, i, s, hi, hr => by
    obtain ⟨a, ha, ea⟩ := hr i (by omega)
    have hU : F_RG_restore_7_L7 pf (n + 1) i s = F_RG_restore_7_L7 pf n (i + 1) (sI s pf i (nI (a * 3303 % 3329))) := by
      rw [F_RG_restore_7_L7, ea, mulr7 ha, bnd_eq]
    have hlt : a * 3303 % 3329 < 3329 := Nat.mod_lt _ (by decide)
    have o1 : onl pf s (sI s pf i (nI (a * 3303 % 3329))) := onl_sI
    have r1 : (sI s pf i (nI (a * 3303 % 3329))).1 pf = upd (s.1 pf) i (nI (a * 3303 % 3329)) := sI_row
    generalize sI s pf i (nI (a * 3303 % 3329)) = s1 at hU o1 r1
    have hr1 : rdc 3329 (s1.1 pf) := fun k hk => by
      rw [r1]
      by_cases w : k = i
      · subst w
        exact ⟨_, hlt, upd_s⟩
      · rw [upd_n w]
        exact hr k hk
    obtain ⟨q1, q2, q3, q4⟩ := sc7 n (i + 1) s1 (by omega) hr1
    rw [hU]
    refine ⟨onl_tr o1 q1, q2, fun k u v => ?_, fun k u => ?_⟩
    · by_cases w : k = i
      · subst w
        rw [vl_c (q4 k (by omega)), vl_n (show s1.1 pf k = nI (a * 3303 % 3329) by rw [r1, upd_s]) (by omega), vl_n ea (by omega)]
        refine cg_tr (cg_mod _ _) ?_
        rw [Int.natCast_mul]
        exact cg_of rfl
      · have := q3 k (by omega) v
        rw [vl_c (show s1.1 pf k = s.1 pf k by rw [r1, upd_n w])] at this
        exact this
    · rw [q4 k (by omega), r1, upd_n (by omega)]
theorem gr7_0 : ∀ b, b < 64 → (yl7.getD (2 * (64 + b)) 0 + ct1.getD (127 - b) 0) % 3329 = 0 % 3329 ∧ yl7.getD (2 * (64 + b) + 1) 0 % 3329 = ct1.getD (127 - b) 0 % 3329 := by decide +kernel
def zg7_0 (b : Nat) : Int := ((ct1.getD (127 - b) 0 : Nat) : Int)
theorem lb7_0 {pf : Nat} (s : Sto) (hr : rdc 3329 (s.1 pf)) : ∃ s' : Sto, F_RG_restore_7_L0 pf 64 0 s = F_RG_restore_7_L1 pf 32 0 s' ∧ onl pf s s' ∧ rdc 3329 (s'.1 pf) ∧ (∀ b v c, 0 ≤ b → b < 0 + 64 → v < 1 → c < 2 → cg ((3329 : Nat) : Int) (vl (s'.1 pf) (2 * (2 * 1 * b + v) + c)) (vl (s.1 pf) (2 * (1 * (2 * b) + v) + c) + vl (s.1 pf) (2 * (1 * (2 * b + 1) + v) + c)) ∧ cg ((3329 : Nat) : Int) (vl (s'.1 pf) (2 * (2 * 1 * b + (1 + v)) + c)) (zg7_0 b * (vl (s.1 pf) (2 * (1 * (2 * b + 1) + v) + c) - vl (s.1 pf) (2 * (1 * (2 * b) + v) + c)))) ∧ ∀ k, (k < 4 * 0 ∨ 4 * (0 + 64) ≤ k) → s'.1 pf k = s.1 pf k :=
  lb_2_1 (q := 3329) (N := 64) (G := F_RG_restore_7_L0 pf) (K := fun s' => F_RG_restore_7_L1 pf 32 0 s') (zf := zg7_0) (fun i s => by rw [F_RG_restore_7_L0]) (fun n i s hi hr => ⟨F_RG_gather_7_L0 pf 2 (lN (ct1.getD (127 - i) 0)) 2 (4 * i) s, by rw [F_RG_restore_7_L0, bnd_eq, ctI1_l (by omega), F_RG_gather_7, Nat.add_sub_cancel_left], P_gather7 (ct1_lq _ (by omega)) (by decide) 2 (4 * i) s (Nat.le_refl _) (by omega) hr⟩) 64 0 s (Nat.le_refl _) hr
theorem gr7_1 : ∀ b, b < 32 → (yl7.getD (2 * (32 + b)) 0 + ct1.getD (63 - b) 0) % 3329 = 0 % 3329 ∧ yl7.getD (2 * (32 + b) + 1) 0 % 3329 = ct1.getD (63 - b) 0 % 3329 := by decide +kernel
def zg7_1 (b : Nat) : Int := ((ct1.getD (63 - b) 0 : Nat) : Int)
theorem lb7_1 {pf : Nat} (s : Sto) (hr : rdc 3329 (s.1 pf)) : ∃ s' : Sto, F_RG_restore_7_L1 pf 32 0 s = F_RG_restore_7_L2 pf 16 0 s' ∧ onl pf s s' ∧ rdc 3329 (s'.1 pf) ∧ (∀ b v c, 0 ≤ b → b < 0 + 32 → v < 2 → c < 2 → cg ((3329 : Nat) : Int) (vl (s'.1 pf) (2 * (2 * 2 * b + v) + c)) (vl (s.1 pf) (2 * (2 * (2 * b) + v) + c) + vl (s.1 pf) (2 * (2 * (2 * b + 1) + v) + c)) ∧ cg ((3329 : Nat) : Int) (vl (s'.1 pf) (2 * (2 * 2 * b + (2 + v)) + c)) (zg7_1 b * (vl (s.1 pf) (2 * (2 * (2 * b + 1) + v) + c) - vl (s.1 pf) (2 * (2 * (2 * b) + v) + c)))) ∧ ∀ k, (k < 8 * 0 ∨ 8 * (0 + 32) ≤ k) → s'.1 pf k = s.1 pf k :=
  lb_2_2 (q := 3329) (N := 32) (G := F_RG_restore_7_L1 pf) (K := fun s' => F_RG_restore_7_L2 pf 16 0 s') (zf := zg7_1) (fun i s => by rw [F_RG_restore_7_L1]) (fun n i s hi hr => ⟨F_RG_gather_7_L0 pf 4 (lN (ct1.getD (63 - i) 0)) 4 (8 * i) s, by rw [F_RG_restore_7_L1, bnd_eq, ctI1_l (by omega), F_RG_gather_7, Nat.add_sub_cancel_left], P_gather7 (ct1_lq _ (by omega)) (by decide) 4 (8 * i) s (Nat.le_refl _) (by omega) hr⟩) 32 0 s (Nat.le_refl _) hr
theorem gr7_2 : ∀ b, b < 16 → (yl7.getD (2 * (16 + b)) 0 + ct1.getD (31 - b) 0) % 3329 = 0 % 3329 ∧ yl7.getD (2 * (16 + b) + 1) 0 % 3329 = ct1.getD (31 - b) 0 % 3329 := by decide +kernel
def zg7_2 (b : Nat) : Int := ((ct1.getD (31 - b) 0 : Nat) : Int)
theorem lb7_2 {pf : Nat} (s : Sto) (hr : rdc 3329 (s.1 pf)) : ∃ s' : Sto, F_RG_restore_7_L2 pf 16 0 s = F_RG_restore_7_L3 pf 8 0 s' ∧ onl pf s s' ∧ rdc 3329 (s'.1 pf) ∧ (∀ b v c, 0 ≤ b → b < 0 + 16 → v < 4 → c < 2 → cg ((3329 : Nat) : Int) (vl (s'.1 pf) (2 * (2 * 4 * b + v) + c)) (vl (s.1 pf) (2 * (4 * (2 * b) + v) + c) + vl (s.1 pf) (2 * (4 * (2 * b + 1) + v) + c)) ∧ cg ((3329 : Nat) : Int) (vl (s'.1 pf) (2 * (2 * 4 * b + (4 + v)) + c)) (zg7_2 b * (vl (s.1 pf) (2 * (4 * (2 * b + 1) + v) + c) - vl (s.1 pf) (2 * (4 * (2 * b) + v) + c)))) ∧ ∀ k, (k < 16 * 0 ∨ 16 * (0 + 16) ≤ k) → s'.1 pf k = s.1 pf k :=
  lb_2_4 (q := 3329) (N := 16) (G := F_RG_restore_7_L2 pf) (K := fun s' => F_RG_restore_7_L3 pf 8 0 s') (zf := zg7_2) (fun i s => by rw [F_RG_restore_7_L2]) (fun n i s hi hr => ⟨F_RG_gather_7_L0 pf 8 (lN (ct1.getD (31 - i) 0)) 8 (16 * i) s, by rw [F_RG_restore_7_L2, bnd_eq, ctI1_l (by omega), F_RG_gather_7, Nat.add_sub_cancel_left], P_gather7 (ct1_lq _ (by omega)) (by decide) 8 (16 * i) s (Nat.le_refl _) (by omega) hr⟩) 16 0 s (Nat.le_refl _) hr
theorem gr7_3 : ∀ b, b < 8 → (yl7.getD (2 * (8 + b)) 0 + ct1.getD (15 - b) 0) % 3329 = 0 % 3329 ∧ yl7.getD (2 * (8 + b) + 1) 0 % 3329 = ct1.getD (15 - b) 0 % 3329 := by decide +kernel
def zg7_3 (b : Nat) : Int := ((ct1.getD (15 - b) 0 : Nat) : Int)
theorem lb7_3 {pf : Nat} (s : Sto) (hr : rdc 3329 (s.1 pf)) : ∃ s' : Sto, F_RG_restore_7_L3 pf 8 0 s = F_RG_restore_7_L4 pf 4 0 s' ∧ onl pf s s' ∧ rdc 3329 (s'.1 pf) ∧ (∀ b v c, 0 ≤ b → b < 0 + 8 → v < 8 → c < 2 → cg ((3329 : Nat) : Int) (vl (s'.1 pf) (2 * (2 * 8 * b + v) + c)) (vl (s.1 pf) (2 * (8 * (2 * b) + v) + c) + vl (s.1 pf) (2 * (8 * (2 * b + 1) + v) + c)) ∧ cg ((3329 : Nat) : Int) (vl (s'.1 pf) (2 * (2 * 8 * b + (8 + v)) + c)) (zg7_3 b * (vl (s.1 pf) (2 * (8 * (2 * b + 1) + v) + c) - vl (s.1 pf) (2 * (8 * (2 * b) + v) + c)))) ∧ ∀ k, (k < 32 * 0 ∨ 32 * (0 + 8) ≤ k) → s'.1 pf k = s.1 pf k :=
  lb_2_8 (q := 3329) (N := 8) (G := F_RG_restore_7_L3 pf) (K := fun s' => F_RG_restore_7_L4 pf 4 0 s') (zf := zg7_3) (fun i s => by rw [F_RG_restore_7_L3]) (fun n i s hi hr => ⟨F_RG_gather_7_L0 pf 16 (lN (ct1.getD (15 - i) 0)) 16 (32 * i) s, by rw [F_RG_restore_7_L3, bnd_eq, ctI1_l (by omega), F_RG_gather_7, Nat.add_sub_cancel_left], P_gather7 (ct1_lq _ (by omega)) (by decide) 16 (32 * i) s (Nat.le_refl _) (by omega) hr⟩) 8 0 s (Nat.le_refl _) hr
theorem gr7_4 : ∀ b, b < 4 → (yl7.getD (2 * (4 + b)) 0 + ct1.getD (7 - b) 0) % 3329 = 0 % 3329 ∧ yl7.getD (2 * (4 + b) + 1) 0 % 3329 = ct1.getD (7 - b) 0 % 3329 := by decide +kernel
def zg7_4 (b : Nat) : Int := ((ct1.getD (7 - b) 0 : Nat) : Int)
theorem lb7_4 {pf : Nat} (s : Sto) (hr : rdc 3329 (s.1 pf)) : ∃ s' : Sto, F_RG_restore_7_L4 pf 4 0 s = F_RG_restore_7_L5 pf 2 0 s' ∧ onl pf s s' ∧ rdc 3329 (s'.1 pf) ∧ (∀ b v c, 0 ≤ b → b < 0 + 4 → v < 16 → c < 2 → cg ((3329 : Nat) : Int) (vl (s'.1 pf) (2 * (2 * 16 * b + v) + c)) (vl (s.1 pf) (2 * (16 * (2 * b) + v) + c) + vl (s.1 pf) (2 * (16 * (2 * b + 1) + v) + c)) ∧ cg ((3329 : Nat) : Int) (vl (s'.1 pf) (2 * (2 * 16 * b + (16 + v)) + c)) (zg7_4 b * (vl (s.1 pf) (2 * (16 * (2 * b + 1) + v) + c) - vl (s.1 pf) (2 * (16 * (2 * b) + v) + c)))) ∧ ∀ k, (k < 64 * 0 ∨ 64 * (0 + 4) ≤ k) → s'.1 pf k = s.1 pf k :=
  lb_2_16 (q := 3329) (N := 4) (G := F_RG_restore_7_L4 pf) (K := fun s' => F_RG_restore_7_L5 pf 2 0 s') (zf := zg7_4) (fun i s => by rw [F_RG_restore_7_L4]) (fun n i s hi hr => ⟨F_RG_gather_7_L0 pf 32 (lN (ct1.getD (7 - i) 0)) 32 (64 * i) s, by rw [F_RG_restore_7_L4, bnd_eq, ctI1_l (by omega), F_RG_gather_7, Nat.add_sub_cancel_left], P_gather7 (ct1_lq _ (by omega)) (by decide) 32 (64 * i) s (Nat.le_refl _) (by omega) hr⟩) 4 0 s (Nat.le_refl _) hr
theorem gr7_5 : ∀ b, b < 2 → (yl7.getD (2 * (2 + b)) 0 + ct1.getD (3 - b) 0) % 3329 = 0 % 3329 ∧ yl7.getD (2 * (2 + b) + 1) 0 % 3329 = ct1.getD (3 - b) 0 % 3329 := by decide +kernel
def zg7_5 (b : Nat) : Int := ((ct1.getD (3 - b) 0 : Nat) : Int)
theorem lb7_5 {pf : Nat} (s : Sto) (hr : rdc 3329 (s.1 pf)) : ∃ s' : Sto, F_RG_restore_7_L5 pf 2 0 s = F_RG_restore_7_L6 pf 1 0 s' ∧ onl pf s s' ∧ rdc 3329 (s'.1 pf) ∧ (∀ b v c, 0 ≤ b → b < 0 + 2 → v < 32 → c < 2 → cg ((3329 : Nat) : Int) (vl (s'.1 pf) (2 * (2 * 32 * b + v) + c)) (vl (s.1 pf) (2 * (32 * (2 * b) + v) + c) + vl (s.1 pf) (2 * (32 * (2 * b + 1) + v) + c)) ∧ cg ((3329 : Nat) : Int) (vl (s'.1 pf) (2 * (2 * 32 * b + (32 + v)) + c)) (zg7_5 b * (vl (s.1 pf) (2 * (32 * (2 * b + 1) + v) + c) - vl (s.1 pf) (2 * (32 * (2 * b) + v) + c)))) ∧ ∀ k, (k < 128 * 0 ∨ 128 * (0 + 2) ≤ k) → s'.1 pf k = s.1 pf k :=
  lb_2_32 (q := 3329) (N := 2) (G := F_RG_restore_7_L5 pf) (K := fun s' => F_RG_restore_7_L6 pf 1 0 s') (zf := zg7_5) (fun i s => by rw [F_RG_restore_7_L5]) (fun n i s hi hr => ⟨F_RG_gather_7_L0 pf 64 (lN (ct1.getD (3 - i) 0)) 64 (128 * i) s, by rw [F_RG_restore_7_L5, bnd_eq, ctI1_l (by omega), F_RG_gather_7, Nat.add_sub_cancel_left], P_gather7 (ct1_lq _ (by omega)) (by decide) 64 (128 * i) s (Nat.le_refl _) (by omega) hr⟩) 2 0 s (Nat.le_refl _) hr
theorem gr7_6 : ∀ b, b < 1 → (yl7.getD (2 * (1 + b)) 0 + ct1.getD (1 - b) 0) % 3329 = 0 % 3329 ∧ yl7.getD (2 * (1 + b) + 1) 0 % 3329 = ct1.getD (1 - b) 0 % 3329 := by decide +kernel
def zg7_6 (b : Nat) : Int := ((ct1.getD (1 - b) 0 : Nat) : Int)
theorem lb7_6 {pf : Nat} (s : Sto) (hr : rdc 3329 (s.1 pf)) : ∃ s' : Sto, F_RG_restore_7_L6 pf 1 0 s = F_RG_restore_7_L7 pf 256 0 s' ∧ onl pf s s' ∧ rdc 3329 (s'.1 pf) ∧ (∀ b v c, 0 ≤ b → b < 0 + 1 → v < 64 → c < 2 → cg ((3329 : Nat) : Int) (vl (s'.1 pf) (2 * (2 * 64 * b + v) + c)) (vl (s.1 pf) (2 * (64 * (2 * b) + v) + c) + vl (s.1 pf) (2 * (64 * (2 * b + 1) + v) + c)) ∧ cg ((3329 : Nat) : Int) (vl (s'.1 pf) (2 * (2 * 64 * b + (64 + v)) + c)) (zg7_6 b * (vl (s.1 pf) (2 * (64 * (2 * b + 1) + v) + c) - vl (s.1 pf) (2 * (64 * (2 * b) + v) + c)))) ∧ ∀ k, (k < 256 * 0 ∨ 256 * (0 + 1) ≤ k) → s'.1 pf k = s.1 pf k :=
  lb_2_64 (q := 3329) (N := 1) (G := F_RG_restore_7_L6 pf) (K := fun s' => F_RG_restore_7_L7 pf 256 0 s') (zf := zg7_6) (fun i s => by rw [F_RG_restore_7_L6]) (fun n i s hi hr => ⟨F_RG_gather_7_L0 pf 128 (lN (ct1.getD (1 - i) 0)) 128 (256 * i) s, by rw [F_RG_restore_7_L6, bnd_eq, ctI1_l (by omega), F_RG_gather_7, Nat.add_sub_cancel_left], P_gather7 (ct1_lq _ (by omega)) (by decide) 128 (256 * i) s (Nat.le_refl _) (by omega) hr⟩) 1 0 s (Nat.le_refl _) hr
/-- the whole way back of the program -/
theorem P_restore7 {pf : Nat} {s : Sto} (hr : rdc 3329 (s.1 pf)) : onl pf s (F_RG_restore_7 pf s) ∧ rdc 3329 ((F_RG_restore_7 pf s).1 pf) ∧ ∀ v c, v < 128 → c < 2 → cg ((3329 : Nat) : Int) (vl ((F_RG_restore_7 pf s).1 pf) (2 * v + c)) ((sm 128 fun u => vl (s.1 pf) (2 * u + c) * yr7 (128 + u) ^ v) * 3303) := by
  have l0 := lf_start (q := ((3329 : Nat) : Int)) (Y := yr7) (L := 128)
  have f0 := bw_start (q := ((3329 : Nat) : Int)) (Y := yr7) (f := vl (s.1 pf)) (d := 2) (L := 128)
  obtain ⟨s1, e1, o1, r1, c1, -⟩ := lb7_0 s hr
  have l1 : lfI ((3329 : Nat) : Int) yr7 128 64 2 := lf_step (N := 64) (V := 1) (fun b hb => yr7_2 (k := 64 + b) (by omega) (by omega)) (fun b hb => yr7_3 (k := 64 + b) (by omega) (by omega)) l0
  have f1 : bwI ((3329 : Nat) : Int) yr7 (vl (s.1 pf)) 2 128 64 2 (vl (s1.1 pf)) := bw_step (N := 64) (V := 1) (g := (fun k => ((ct1.getD (191 - k) 0 : Nat) : Int))) (fun b hb => by
      have h9 := cg_md (gr7_0 b hb).1
      rw [Int.natCast_add] at h9
      show cg _ (yr7 (2 * (64 + b))) (-((ct1.getD (191 - (64 + b)) 0 : Nat) : Int))
      rw [show 191 - (64 + b) = 127 - b by omega]
      have h8 := cg_sub h9 (cg_rf (a := ((ct1.getD (127 - b) 0 : Nat) : Int)))
      unfold yr7
      exact cg_tr (cg_of (by omega)) (cg_tr h8 (cg_of (by omega)))) (fun b hb => by
      show cg _ (yr7 (2 * (64 + b) + 1)) ((ct1.getD (191 - (64 + b)) 0 : Nat) : Int)
      rw [show 191 - (64 + b) = 127 - b by omega]
      exact cg_md (gr7_0 b hb).2) l0 f0 (fun b v c hb hv hc => by
      show _ ∧ cg _ _ (((ct1.getD (191 - (64 + b)) 0 : Nat) : Int) * _)
      rw [show 191 - (64 + b) = 127 - b by omega]
      exact c1 b v c (Nat.zero_le _) (by omega) hv hc)
  obtain ⟨s2, e2, o2, r2, c2, -⟩ := lb7_1 s1 r1
  have l2 : lfI ((3329 : Nat) : Int) yr7 128 32 4 := lf_step (N := 32) (V := 2) (fun b hb => yr7_2 (k := 32 + b) (by omega) (by omega)) (fun b hb => yr7_3 (k := 32 + b) (by omega) (by omega)) l1
  have f2 : bwI ((3329 : Nat) : Int) yr7 (vl (s.1 pf)) 2 128 32 4 (vl (s2.1 pf)) := bw_step (N := 32) (V := 2) (g := (fun k => ((ct1.getD (95 - k) 0 : Nat) : Int))) (fun b hb => by
      have h9 := cg_md (gr7_1 b hb).1
      rw [Int.natCast_add] at h9
      show cg _ (yr7 (2 * (32 + b))) (-((ct1.getD (95 - (32 + b)) 0 : Nat) : Int))
      rw [show 95 - (32 + b) = 63 - b by omega]
      have h8 := cg_sub h9 (cg_rf (a := ((ct1.getD (63 - b) 0 : Nat) : Int)))
      unfold yr7
      exact cg_tr (cg_of (by omega)) (cg_tr h8 (cg_of (by omega)))) (fun b hb => by
      show cg _ (yr7 (2 * (32 + b) + 1)) ((ct1.getD (95 - (32 + b)) 0 : Nat) : Int)
      rw [show 95 - (32 + b) = 63 - b by omega]
      exact cg_md (gr7_1 b hb).2) l1 f1 (fun b v c hb hv hc => by
      show _ ∧ cg _ _ (((ct1.getD (95 - (32 + b)) 0 : Nat) : Int) * _)
      rw [show 95 - (32 + b) = 63 - b by omega]
      exact c2 b v c (Nat.zero_le _) (by omega) hv hc)
  obtain ⟨s3, e3, o3, r3, c3, -⟩ := lb7_2 s2 r2
  have l3 : lfI ((3329 : Nat) : Int) yr7 128 16 8 := lf_step (N := 16) (V := 4) (fun b hb => yr7_2 (k := 16 + b) (by omega) (by omega)) (fun b hb => yr7_3 (k := 16 + b) (by omega) (by omega)) l2
  have f3 : bwI ((3329 : Nat) : Int) yr7 (vl (s.1 pf)) 2 128 16 8 (vl (s3.1 pf)) := bw_step (N := 16) (V := 4) (g := (fun k => ((ct1.getD (47 - k) 0 : Nat) : Int))) (fun b hb => by
      have h9 := cg_md (gr7_2 b hb).1
      rw [Int.natCast_add] at h9
      show cg _ (yr7 (2 * (16 + b))) (-((ct1.getD (47 - (16 + b)) 0 : Nat) : Int))
      rw [show 47 - (16 + b) = 31 - b by omega]
      have h8 := cg_sub h9 (cg_rf (a := ((ct1.getD (31 - b) 0 : Nat) : Int)))
      unfold yr7
      exact cg_tr (cg_of (by omega)) (cg_tr h8 (cg_of (by omega)))) (fun b hb => by
      show cg _ (yr7 (2 * (16 + b) + 1)) ((ct1.getD (47 - (16 + b)) 0 : Nat) : Int)
      rw [show 47 - (16 + b) = 31 - b by omega]
      exact cg_md (gr7_2 b hb).2) l2 f2 (fun b v c hb hv hc => by
      show _ ∧ cg _ _ (((ct1.getD (47 - (16 + b)) 0 : Nat) : Int) * _)
      rw [show 47 - (16 + b) = 31 - b by omega]
      exact c3 b v c (Nat.zero_le _) (by omega) hv hc)
  obtain ⟨s4, e4, o4, r4, c4, -⟩ := lb7_3 s3 r3
  have l4 : lfI ((3329 : Nat) : Int) yr7 128 8 16 := lf_step (N := 8) (V := 8) (fun b hb => yr7_2 (k := 8 + b) (by omega) (by omega)) (fun b hb => yr7_3 (k := 8 + b) (by omega) (by omega)) l3
  have f4 : bwI ((3329 : Nat) : Int) yr7 (vl (s.1 pf)) 2 128 8 16 (vl (s4.1 pf)) := bw_step (N := 8) (V := 8) (g := (fun k => ((ct1.getD (23 - k) 0 : Nat) : Int))) (fun b hb => by
      have h9 := cg_md (gr7_3 b hb).1
      rw [Int.natCast_add] at h9
      show cg _ (yr7 (2 * (8 + b))) (-((ct1.getD (23 - (8 + b)) 0 : Nat) : Int))
      rw [show 23 - (8 + b) = 15 - b by omega]
      have h8 := cg_sub h9 (cg_rf (a := ((ct1.getD (15 - b) 0 : Nat) : Int)))
      unfold yr7
      exact cg_tr (cg_of (by omega)) (cg_tr h8 (cg_of (by omega)))) (fun b hb => by
      show cg _ (yr7 (2 * (8 + b) + 1)) ((ct1.getD (23 - (8 + b)) 0 : Nat) : Int)
      rw [show 23 - (8 + b) = 15 - b by omega]
      exact cg_md (gr7_3 b hb).2) l3 f3 (fun b v c hb hv hc => by
      show _ ∧ cg _ _ (((ct1.getD (23 - (8 + b)) 0 : Nat) : Int) * _)
      rw [show 23 - (8 + b) = 15 - b by omega]
      exact c4 b v c (Nat.zero_le _) (by omega) hv hc)
  obtain ⟨s5, e5, o5, r5, c5, -⟩ := lb7_4 s4 r4
  have l5 : lfI ((3329 : Nat) : Int) yr7 128 4 32 := lf_step (N := 4) (V := 16) (fun b hb => yr7_2 (k := 4 + b) (by omega) (by omega)) (fun b hb => yr7_3 (k := 4 + b) (by omega) (by omega)) l4
  have f5 : bwI ((3329 : Nat) : Int) yr7 (vl (s.1 pf)) 2 128 4 32 (vl (s5.1 pf)) := bw_step (N := 4) (V := 16) (g := (fun k => ((ct1.getD (11 - k) 0 : Nat) : Int))) (fun b hb => by
      have h9 := cg_md (gr7_4 b hb).1
      rw [Int.natCast_add] at h9
      show cg _ (yr7 (2 * (4 + b))) (-((ct1.getD (11 - (4 + b)) 0 : Nat) : Int))
      rw [show 11 - (4 + b) = 7 - b by omega]
      have h8 := cg_sub h9 (cg_rf (a := ((ct1.getD (7 - b) 0 : Nat) : Int)))
      unfold yr7
      exact cg_tr (cg_of (by omega)) (cg_tr h8 (cg_of (by omega)))) (fun b hb => by
      show cg _ (yr7 (2 * (4 + b) + 1)) ((ct1.getD (11 - (4 + b)) 0 : Nat) : Int)
      rw [show 11 - (4 + b) = 7 - b by omega]
      exact cg_md (gr7_4 b hb).2) l4 f4 (fun b v c hb hv hc => by
      show _ ∧ cg _ _ (((ct1.getD (11 - (4 + b)) 0 : Nat) : Int) * _)
      rw [show 11 - (4 + b) = 7 - b by omega]
      exact c5 b v c (Nat.zero_le _) (by omega) hv hc)
  obtain ⟨s6, e6, o6, r6, c6, -⟩ := lb7_5 s5 r5
  have l6 : lfI ((3329 : Nat) : Int) yr7 128 2 64 := lf_step (N := 2) (V := 32) (fun b hb => yr7_2 (k := 2 + b) (by omega) (by omega)) (fun b hb => yr7_3 (k := 2 + b) (by omega) (by omega)) l5
  have f6 : bwI ((3329 : Nat) : Int) yr7 (vl (s.1 pf)) 2 128 2 64 (vl (s6.1 pf)) := bw_step (N := 2) (V := 32) (g := (fun k => ((ct1.getD (5 - k) 0 : Nat) : Int))) (fun b hb => by
      have h9 := cg_md (gr7_5 b hb).1
      rw [Int.natCast_add] at h9
      show cg _ (yr7 (2 * (2 + b))) (-((ct1.getD (5 - (2 + b)) 0 : Nat) : Int))
      rw [show 5 - (2 + b) = 3 - b by omega]
      have h8 := cg_sub h9 (cg_rf (a := ((ct1.getD (3 - b) 0 : Nat) : Int)))
      unfold yr7
      exact cg_tr (cg_of (by omega)) (cg_tr h8 (cg_of (by omega)))) (fun b hb => by
      show cg _ (yr7 (2 * (2 + b) + 1)) ((ct1.getD (5 - (2 + b)) 0 : Nat) : Int)
      rw [show 5 - (2 + b) = 3 - b by omega]
      exact cg_md (gr7_5 b hb).2) l5 f5 (fun b v c hb hv hc => by
      show _ ∧ cg _ _ (((ct1.getD (5 - (2 + b)) 0 : Nat) : Int) * _)
      rw [show 5 - (2 + b) = 3 - b by omega]
      exact c6 b v c (Nat.zero_le _) (by omega) hv hc)
  obtain ⟨s7, e7, o7, r7, c7, -⟩ := lb7_6 s6 r6
  have l7 : lfI ((3329 : Nat) : Int) yr7 128 1 128 := lf_step (N := 1) (V := 64) (fun b hb => yr7_2 (k := 1 + b) (by omega) (by omega)) (fun b hb => yr7_3 (k := 1 + b) (by omega) (by omega)) l6
  have f7 : bwI ((3329 : Nat) : Int) yr7 (vl (s.1 pf)) 2 128 1 128 (vl (s7.1 pf)) := bw_step (N := 1) (V := 64) (g := (fun k => ((ct1.getD (2 - k) 0 : Nat) : Int))) (fun b hb => by
      have h9 := cg_md (gr7_6 b hb).1
      rw [Int.natCast_add] at h9
      show cg _ (yr7 (2 * (1 + b))) (-((ct1.getD (2 - (1 + b)) 0 : Nat) : Int))
      rw [show 2 - (1 + b) = 1 - b by omega]
      have h8 := cg_sub h9 (cg_rf (a := ((ct1.getD (1 - b) 0 : Nat) : Int)))
      unfold yr7
      exact cg_tr (cg_of (by omega)) (cg_tr h8 (cg_of (by omega)))) (fun b hb => by
      show cg _ (yr7 (2 * (1 + b) + 1)) ((ct1.getD (2 - (1 + b)) 0 : Nat) : Int)
      rw [show 2 - (1 + b) = 1 - b by omega]
      exact cg_md (gr7_6 b hb).2) l6 f6 (fun b v c hb hv hc => by
      show _ ∧ cg _ _ (((ct1.getD (2 - (1 + b)) 0 : Nat) : Int) * _)
      rw [show 2 - (1 + b) = 1 - b by omega]
      exact c7 b v c (Nat.zero_le _) (by omega) hv hc)
  obtain ⟨p1, p2, p3, -⟩ := sc7 256 0 s7 rfl r7
  have e : F_RG_restore_7 pf s = F_RG_restore_7_L7 pf 256 0 s7 := ((((((e1).trans e2).trans e3).trans e4).trans e5).trans e6).trans e7
  rw [e]
  refine ⟨onl_tr (onl_tr (onl_tr (onl_tr (onl_tr (onl_tr (onl_tr o1 o2) o3) o4) o5) o6) o7) p1, p2, fun v c hv hc => cg_tr (p3 _ (Nat.zero_le _) (by omega)) (cg_mulr ?_)⟩
  have h9 := f7 0 v c (by decide) hv hc
  rw [Nat.mul_zero, Nat.zero_add] at h9
  refine cg_tr h9 (cg_of (sm_ext _ fun u _ => ?_))
  rw [Nat.zero_add]
