set_option linter.all false
theorem lb_1_128 {q pf N : Nat} {G : Nat → Nat → Sto → Sto} {K : Sto → Sto} {zf : Nat → Int} (h0 : ∀ i s, G 0 i s = K s) (hs : ∀ n i s, i < N → rdc q (s.1 pf) → ∃ s1, G (n + 1) i s = G n (i + 1) s1 ∧ gaR q (zf i) 128 128 (256 * i) (s.1 pf) (s1.1 pf) ∧ onl pf s s1) : ∀ (n i : Nat) (s : Sto), i + n ≤ N → rdc q (s.1 pf) → ∃ s' : Sto, G n i s = K s' ∧ onl pf s s' ∧ rdc q (s'.1 pf) ∧ (∀ b v c, i ≤ b → b < i + n → v < 128 → c < 1 → cg (q : Int) (vl (s'.1 pf) (1 * (2 * 128 * b + v) + c)) (vl (s.1 pf) (1 * (128 * (2 * b) + v) + c) + vl (s.1 pf) (1 * (128 * (2 * b + 1) + v) + c)) ∧ cg (q : Int) (vl (s'.1 pf) (1 * (2 * 128 * b + (128 + v)) + c)) (zf b * (vl (s.1 pf) (1 * (128 * (2 * b + 1) + v) + c) - vl (s.1 pf) (1 * (128 * (2 * b) + v) + c)))) ∧ ∀ k, (k < 256 * i ∨ 256 * (i + n) ≤ k) → s'.1 pf k = s.1 pf k
  | 0, i, s, _, hr => ⟨s, h0 i s, onl_rf, hr, fun b v c h1 h2 => by omega, fun _ _ => rfl⟩
  | n + 1, i, s, hn, hr => by
    obtain ⟨s1, hU, ⟨q1, q2, q3⟩, q4⟩ := hs n i s (by omega) hr
    obtain ⟨s', e, o, r, c', u⟩ := lb_1_128 h0 hs n (i + 1) s1 (by omega) q1
    refine ⟨s', hU.trans e, onl_tr q4 o, r, fun b v c h1 h2 h3 h4 => ?_, fun k hk => ?_⟩
    · by_cases w : b = i
      · subst w
        have h9 := q2 (256 * b + (1 * v + c)) (by omega) (by omega)
        rw [show 1 * (2 * 128 * b + (128 + v)) + c = 256 * b + (1 * v + c) + 128 by omega, show 1 * (2 * 128 * b + v) + c = 256 * b + (1 * v + c) by omega, show 1 * (128 * (2 * b + 1) + v) + c = 256 * b + (1 * v + c) + 128 by omega, show 1 * (128 * (2 * b) + v) + c = 256 * b + (1 * v + c) by omega, vl_c (u (256 * b + (1 * v + c)) (by omega)), vl_c (u (256 * b + (1 * v + c) + 128) (by omega))]
        exact h9
      · have h9 := c' b v c (by omega) (by omega) h3 h4
        rw [vl_c (q3 (1 * (128 * (2 * b) + v) + c) (by omega) (by omega)), vl_c (q3 (1 * (128 * (2 * b + 1) + v) + c) (by omega) (by omega))] at h9
        exact h9
    · rw [u k (by omega), q3 k (by omega) (by omega)]
theorem lb_1_64 {q pf N : Nat} {G : Nat → Nat → Sto → Sto} {K : Sto → Sto} {zf : Nat → Int} (h0 : ∀ i s, G 0 i s = K s) (hs : ∀ n i s, i < N → rdc q (s.1 pf) → ∃ s1, G (n + 1) i s = G n (i + 1) s1 ∧ gaR q (zf i) 64 64 (128 * i) (s.1 pf) (s1.1 pf) ∧ onl pf s s1) : ∀ (n i : Nat) (s : Sto), i + n ≤ N → rdc q (s.1 pf) → ∃ s' : Sto, G n i s = K s' ∧ onl pf s s' ∧ rdc q (s'.1 pf) ∧ (∀ b v c, i ≤ b → b < i + n → v < 64 → c < 1 → cg (q : Int) (vl (s'.1 pf) (1 * (2 * 64 * b + v) + c)) (vl (s.1 pf) (1 * (64 * (2 * b) + v) + c) + vl (s.1 pf) (1 * (64 * (2 * b + 1) + v) + c)) ∧ cg (q : Int) (vl (s'.1 pf) (1 * (2 * 64 * b + (64 + v)) + c)) (zf b * (vl (s.1 pf) (1 * (64 * (2 * b + 1) + v) + c) - vl (s.1 pf) (1 * (64 * (2 * b) + v) + c)))) ∧ ∀ k, (k < 128 * i ∨ 128 * (i + n) ≤ k) → s'.1 pf k = s.1 pf k
  | 0, i, s, _, hr => ⟨s, h0 i s, onl_rf, hr, fun b v c h1 h2 => by omega, fun _ _ => rfl⟩
  | n + 1, i, s, hn, hr => by
    obtain ⟨s1, hU, ⟨q1, q2, q3⟩, q4⟩ := hs n i s (by omega) hr
    obtain ⟨s', e, o, r, c', u⟩ := lb_1_64 h0 hs n (i + 1) s1 (by omega) q1
    refine ⟨s', hU.trans e, onl_tr q4 o, r, fun b v c h1 h2 h3 h4 => ?_, fun k hk => ?_⟩
    · by_cases w : b = i
      · subst w
        have h9 := q2 (128 * b + (1 * v + c)) (by omega) (by omega)
        rw [show 1 * (2 * 64 * b + (64 + v)) + c = 128 * b + (1 * v + c) + 64 by omega, show 1 * (2 * 64 * b + v) + c = 128 * b + (1 * v + c) by omega, show 1 * (64 * (2 * b + 1) + v) + c = 128 * b + (1 * v + c) + 64 by omega, show 1 * (64 * (2 * b) + v) + c = 128 * b + (1 * v + c) by omega, vl_c (u (128 * b + (1 * v + c)) (by omega)), vl_c (u (128 * b + (1 * v + c) + 64) (by omega))]
        exact h9
      · have h9 := c' b v c (by omega) (by omega) h3 h4
        rw [vl_c (q3 (1 * (64 * (2 * b) + v) + c) (by omega) (by omega)), vl_c (q3 (1 * (64 * (2 * b + 1) + v) + c) (by omega) (by omega))] at h9
        exact h9
    · rw [u k (by omega), q3 k (by omega) (by omega)]
theorem lb_1_32 {q pf N : Nat} {G : Nat → Nat → Sto → Sto} {K : Sto → Sto} {zf : Nat → Int} (h0 : ∀ i s, G 0 i s = K s) (hs : ∀ n i s, i < N → rdc q (s.1 pf) → ∃ s1, G (n + 1) i s = G n (i + 1) s1 ∧ gaR q (zf i) 32 32 (64 * i) (s.1 pf) (s1.1 pf) ∧ onl pf s s1) : ∀ (n i : Nat) (s : Sto), i + n ≤ N → rdc q (s.1 pf) → ∃ s' : Sto, G n i s = K s' ∧ onl pf s s' ∧ rdc q (s'.1 pf) ∧ (∀ b v c, i ≤ b → b < i + n → v < 32 → c < 1 → cg (q : Int) (vl (s'.1 pf) (1 * (2 * 32 * b + v) + c)) (vl (s.1 pf) (1 * (32 * (2 * b) + v) + c) + vl (s.1 pf) (1 * (32 * (2 * b + 1) + v) + c)) ∧ cg (q : Int) (vl (s'.1 pf) (1 * (2 * 32 * b + (32 + v)) + c)) (zf b * (vl (s.1 pf) (1 * (32 * (2 * b + 1) + v) + c) - vl (s.1 pf) (1 * (32 * (2 * b) + v) + c)))) ∧ ∀ k, (k < 64 * i ∨ 64 * (i + n) ≤ k) → s'.1 pf k = s.1 pf k
  | 0, i, s, _, hr => ⟨s, h0 i s, onl_rf, hr, fun b v c h1 h2 => by omega, fun _ _ => rfl⟩
  | n + 1, i, s, hn, hr => by
    obtain ⟨s1, hU, ⟨q1, q2, q3⟩, q4⟩ := hs n i s (by omega) hr
    obtain ⟨s', e, o, r, c', u⟩ := lb_1_32 h0 hs n (i + 1) s1 (by omega) q1
    refine ⟨s', hU.trans e, onl_tr q4 o, r, fun b v c h1 h2 h3 h4 => ?_, fun k hk => ?_⟩
    · by_cases w : b = i
      · subst w
        have h9 := q2 (64 * b + (1 * v + c)) (by omega) (by omega)
        rw [show 1 * (2 * 32 * b + (32 + v)) + c = 64 * b + (1 * v + c) + 32 by omega, show 1 * (2 * 32 * b + v) + c = 64 * b + (1 * v + c) by omega, show 1 * (32 * (2 * b + 1) + v) + c = 64 * b + (1 * v + c) + 32 by omega, show 1 * (32 * (2 * b) + v) + c = 64 * b + (1 * v + c) by omega, vl_c (u (64 * b + (1 * v + c)) (by omega)), vl_c (u (64 * b + (1 * v + c) + 32) (by omega))]
        exact h9
      · have h9 := c' b v c (by omega) (by omega) h3 h4
        rw [vl_c (q3 (1 * (32 * (2 * b) + v) + c) (by omega) (by omega)), vl_c (q3 (1 * (32 * (2 * b + 1) + v) + c) (by omega) (by omega))] at h9
        exact h9
    · rw [u k (by omega), q3 k (by omega) (by omega)]
theorem lb_1_16 {q pf N : Nat} {G : Nat → Nat → Sto → Sto} {K : Sto → Sto} {zf : Nat → Int} (h0 : ∀ i s, G 0 i s = K s) (hs : ∀ n i s, i < N → rdc q (s.1 pf) → ∃ s1, G (n + 1) i s = G n (i + 1) s1 ∧ gaR q (zf i) 16 16 (32 * i) (s.1 pf) (s1.1 pf) ∧ onl pf s s1) : ∀ (n i : Nat) (s : Sto), i + n ≤ N → rdc q (s.1 pf) → ∃ s' : Sto, G n i s = K s' ∧ onl pf s s' ∧ rdc q (s'.1 pf) ∧ (∀ b v c, i ≤ b → b < i + n → v < 16 → c < 1 → cg (q : Int) (vl (s'.1 pf) (1 * (2 * 16 * b + v) + c)) (vl (s.1 pf) (1 * (16 * (2 * b) + v) + c) + vl (s.1 pf) (1 * (16 * (2 * b + 1) + v) + c)) ∧ cg (q : Int) (vl (s'.1 pf) (1 * (2 * 16 * b + (16 + v)) + c)) (zf b * (vl (s.1 pf) (1 * (16 * (2 * b + 1) + v) + c) - vl (s.1 pf) (1 * (16 * (2 * b) + v) + c)))) ∧ ∀ k, (k < 32 * i ∨ 32 * (i + n) ≤ k) → s'.1 pf k = s.1 pf k
  | 0, i, s, _, hr => ⟨s, h0 i s, onl_rf, hr, fun b v c h1 h2 => by omega, fun _ _ => rfl⟩
  | n + 1, i, s, hn, hr => by
    obtain ⟨s1, hU, ⟨q1, q2, q3⟩, q4⟩ := hs n i s (by omega) hr
    obtain ⟨s', e, o, r, c', u⟩ := lb_1_16 h0 hs n (i + 1) s1 (by omega) q1
    refine ⟨s', hU.trans e, onl_tr q4 o, r, fun b v c h1 h2 h3 h4 => ?_, fun k hk => ?_⟩
    · by_cases w : b = i
      · subst w
        have h9 := q2 (32 * b + (1 * v + c)) (by omega) (by omega)
        rw [show 1 * (2 * 16 * b + (16 + v)) + c = 32 * b + (1 * v + c) + 16 by omega, show 1 * (2 * 16 * b + v) + c = 32 * b + (1 * v + c) by omega, show 1 * (16 * (2 * b + 1) + v) + c = 32 * b + (1 * v + c) + 16 by omega, show 1 * (16 * (2 * b) + v) + c = 32 * b + (1 * v + c) by omega, vl_c (u (32 * b + (1 * v + c)) (by omega)), vl_c (u (32 * b + (1 * v + c) + 16) (by omega))]
        exact h9
      · have h9 := c' b v c (by omega) (by omega) h3 h4
        rw [vl_c (q3 (1 * (16 * (2 * b) + v) + c) (by omega) (by omega)), vl_c (q3 (1 * (16 * (2 * b + 1) + v) + c) (by omega) (by omega))] at h9
        exact h9
    · rw [u k (by omega), q3 k (by omega) (by omega)]
theorem lb_1_8 {q pf N : Nat} {G : Nat → Nat → Sto → Sto} {K : Sto → Sto} {zf : Nat → Int} (h0 : ∀ i s, G 0 i s = K s) (hs : ∀ n i s, i < N → rdc q (s.1 pf) → ∃ s1, G (n + 1) i s = G n (i + 1) s1 ∧ gaR q (zf i) 8 8 (16 * i) (s.1 pf) (s1.1 pf) ∧ onl pf s s1) : ∀ (n i : Nat) (s : Sto), i + n ≤ N → rdc q (s.1 pf) → ∃ s' : Sto, G n i s = K s' ∧ onl pf s s' ∧ rdc q (s'.1 pf) ∧ (∀ b v c, i ≤ b → b < i + n → v < 8 → c < 1 → cg (q : Int) (vl (s'.1 pf) (1 * (2 * 8 * b + v) + c)) (vl (s.1 pf) (1 * (8 * (2 * b) + v) + c) + vl (s.1 pf) (1 * (8 * (2 * b + 1) + v) + c)) ∧ cg (q : Int) (vl (s'.1 pf) (1 * (2 * 8 * b + (8 + v)) + c)) (zf b * (vl (s.1 pf) (1 * (8 * (2 * b + 1) + v) + c) - vl (s.1 pf) (1 * (8 * (2 * b) + v) + c)))) ∧ ∀ k, (k < 16 * i ∨ 16 * (i + n) ≤ k) → s'.1 pf k = s.1 pf k
  | 0, i, s, _, hr => ⟨s, h0 i s, onl_rf, hr, fun b v c h1 h2 => by omega, fun _ _ => rfl⟩
  | n + 1, i, s, hn, hr => by
    obtain ⟨s1, hU, ⟨q1, q2, q3⟩, q4⟩ := hs n i s (by omega) hr
    obtain ⟨s', e, o, r, c', u⟩ := lb_1_8 h0 hs n (i + 1) s1 (by omega) q1
    refine ⟨s', hU.trans e, onl_tr q4 o, r, fun b v c h1 h2 h3 h4 => ?_, fun k hk => ?_⟩
    · by_cases w : b = i
      · subst w
        have h9 := q2 (16 * b + (1 * v + c)) (by omega) (by omega)
        rw [show 1 * (2 * 8 * b + (8 + v)) + c = 16 * b + (1 * v + c) + 8 by omega, show 1 * (2 * 8 * b + v) + c = 16 * b + (1 * v + c) by omega, show 1 * (8 * (2 * b + 1) + v) + c = 16 * b + (1 * v + c) + 8 by omega, show 1 * (8 * (2 * b) + v) + c = 16 * b + (1 * v + c) by omega, vl_c (u (16 * b + (1 * v + c)) (by omega)), vl_c (u (16 * b + (1 * v + c) + 8) (by omega))]
        exact h9
      · have h9 := c' b v c (by omega) (by omega) h3 h4
        rw [vl_c (q3 (1 * (8 * (2 * b) + v) + c) (by omega) (by omega)), vl_c (q3 (1 * (8 * (2 * b + 1) + v) + c) (by omega) (by omega))] at h9
        exact h9
    · rw [u k (by omega), q3 k (by omega) (by omega)]
theorem lb_1_4 {q pf N : Nat} {G : Nat → Nat → Sto → Sto} {K : Sto → Sto} {zf : Nat → Int} (h0 : ∀ i s, G 0 i s = K s) (hs : ∀ n i s, i < N → rdc q (s.1 pf) → ∃ s1, G (n + 1) i s = G n (i + 1) s1 ∧ gaR q (zf i) 4 4 (8 * i) (s.1 pf) (s1.1 pf) ∧ onl pf s s1) : ∀ (n i : Nat) (s : Sto), i + n ≤ N → rdc q (s.1 pf) → ∃ s' : Sto, G n i s = K s' ∧ onl pf s s' ∧ rdc q (s'.1 pf) ∧ (∀ b v c, i ≤ b → b < i + n → v < 4 → c < 1 → cg (q : Int) (vl (s'.1 pf) (1 * (2 * 4 * b + v) + c)) (vl (s.1 pf) (1 * (4 * (2 * b) + v) + c) + vl (s.1 pf) (1 * (4 * (2 * b + 1) + v) + c)) ∧ cg (q : Int) (vl (s'.1 pf) (1 * (2 * 4 * b + (4 + v)) + c)) (zf b * (vl (s.1 pf) (1 * (4 * (2 * b + 1) + v) + c) - vl (s.1 pf) (1 * (4 * (2 * b) + v) + c)))) ∧ ∀ k, (k < 8 * i ∨ 8 * (i + n) ≤ k) → s'.1 pf k = s.1 pf k
  | 0, i, s, _, hr => ⟨s, h0 i s, onl_rf, hr, fun b v c h1 h2 => by omega, fun _ _ => rfl⟩
  | n + 1, i, s, hn, hr => by
    obtain ⟨s1, hU, ⟨q1, q2, q3⟩, q4⟩ := hs n i s (by omega) hr
    obtain ⟨s', e, o, r, c', u⟩ := lb_1_4 h0 hs n (i + 1) s1 (by omega) q1
    refine ⟨s', hU.trans e, onl_tr q4 o, r, fun b v c h1 h2 h3 h4 => ?_, fun k hk => ?_⟩
    · by_cases w : b = i
      · subst w
        have h9 := q2 (8 * b + (1 * v + c)) (by omega) (by omega)
        rw [show 1 * (2 * 4 * b + (4 + v)) + c = 8 * b + (1 * v + c) + 4 by omega, show 1 * (2 * 4 * b + v) + c = 8 * b + (1 * v + c) by omega, show 1 * (4 * (2 * b + 1) + v) + c = 8 * b + (1 * v + c) + 4 by omega, show 1 * (4 * (2 * b) + v) + c = 8 * b + (1 * v + c) by omega, vl_c (u (8 * b + (1 * v + c)) (by omega)), vl_c (u (8 * b + (1 * v + c) + 4) (by omega))]
        exact h9
      · have h9 := c' b v c (by omega) (by omega) h3 h4
        rw [vl_c (q3 (1 * (4 * (2 * b) + v) + c) (by omega) (by omega)), vl_c (q3 (1 * (4 * (2 * b + 1) + v) + c) (by omega) (by omega))] at h9
        exact h9
    · rw [u k (by omega), q3 k (by omega) (by omega)]
theorem lb_1_2 {q pf N : Nat} {G : Nat → Nat → Sto → Sto} {K : Sto → Sto} {zf : Nat → Int} (h0 : ∀ i s, G 0 i s = K s) (hs : ∀ n i s, i < N → rdc q (s.1 pf) → ∃ s1, G (n + 1) i s = G n (i + 1) s1 ∧ gaR q (zf i) 2 2 (4 * i) (s.1 pf) (s1.1 pf) ∧ onl pf s s1) : ∀ (n i : Nat) (s : Sto), i + n ≤ N → rdc q (s.1 pf) → ∃ s' : Sto, G n i s = K s' ∧ onl pf s s' ∧ rdc q (s'.1 pf) ∧ (∀ b v c, i ≤ b → b < i + n → v < 2 → c < 1 → cg (q : Int) (vl (s'.1 pf) (1 * (2 * 2 * b + v) + c)) (vl (s.1 pf) (1 * (2 * (2 * b) + v) + c) + vl (s.1 pf) (1 * (2 * (2 * b + 1) + v) + c)) ∧ cg (q : Int) (vl (s'.1 pf) (1 * (2 * 2 * b + (2 + v)) + c)) (zf b * (vl (s.1 pf) (1 * (2 * (2 * b + 1) + v) + c) - vl (s.1 pf) (1 * (2 * (2 * b) + v) + c)))) ∧ ∀ k, (k < 4 * i ∨ 4 * (i + n) ≤ k) → s'.1 pf k = s.1 pf k
  | 0, i, s, _, hr => ⟨s, h0 i s, onl_rf, hr, fun b v c h1 h2 => by omega, fun _ _ => rfl⟩
  | n + 1, i, s, hn, hr => by
    obtain ⟨s1, hU, ⟨q1, q2, q3⟩, q4⟩ := hs n i s (by omega) hr
    obtain ⟨s', e, o, r, c', u⟩ := lb_1_2 h0 hs n (i + 1) s1 (by omega) q1
    refine ⟨s', hU.trans e, onl_tr q4 o, r, fun b v c h1 h2 h3 h4 => ?_, fun k hk => ?_⟩
    · by_cases w : b = i
      · subst w
        have h9 := q2 (4 * b + (1 * v + c)) (by omega) (by omega)
        rw [show 1 * (2 * 2 * b + (2 + v)) + c = 4 * b + (1 * v + c) + 2 by omega, show 1 * (2 * 2 * b + v) + c = 4 * b + (1 * v + c) by omega, show 1 * (2 * (2 * b + 1) + v) + c = 4 * b + (1 * v + c) + 2 by omega, show 1 * (2 * (2 * b) + v) + c = 4 * b + (1 * v + c) by omega, vl_c (u (4 * b + (1 * v + c)) (by omega)), vl_c (u (4 * b + (1 * v + c) + 2) (by omega))]
        exact h9
      · have h9 := c' b v c (by omega) (by omega) h3 h4
        rw [vl_c (q3 (1 * (2 * (2 * b) + v) + c) (by omega) (by omega)), vl_c (q3 (1 * (2 * (2 * b + 1) + v) + c) (by omega) (by omega))] at h9
        exact h9
    · rw [u k (by omega), q3 k (by omega) (by omega)]
theorem lb_1_1 {q pf N : Nat} {G : Nat → Nat → Sto → Sto} {K : Sto → Sto} {zf : Nat → Int} (h0 : ∀ i s, G 0 i s = K s) (hs : ∀ n i s, i < N → rdc q (s.1 pf) → ∃ s1, G (n + 1) i s = G n (i + 1) s1 ∧ gaR q (zf i) 1 1 (2 * i) (s.1 pf) (s1.1 pf) ∧ onl pf s s1) : ∀ (n i : Nat) (s : Sto), i + n ≤ N → rdc q (s.1 pf) → ∃ s' : Sto, G n i s = K s' ∧ onl pf s s' ∧ rdc q (s'.1 pf) ∧ (∀ b v c, i ≤ b → b < i + n → v < 1 → c < 1 → cg (q : Int) (vl (s'.1 pf) (1 * (2 * 1 * b + v) + c)) (vl (s.1 pf) (1 * (1 * (2 * b) + v) + c) + vl (s.1 pf) (1 * (1 * (2 * b + 1) + v) + c)) ∧ cg (q : Int) (vl (s'.1 pf) (1 * (2 * 1 * b + (1 + v)) + c)) (zf b * (vl (s.1 pf) (1 * (1 * (2 * b + 1) + v) + c) - vl (s.1 pf) (1 * (1 * (2 * b) + v) + c)))) ∧ ∀ k, (k < 2 * i ∨ 2 * (i + n) ≤ k) → s'.1 pf k = s.1 pf k
  | 0, i, s, _, hr => ⟨s, h0 i s, onl_rf, hr, fun b v c h1 h2 => by omega, fun _ _ => rfl⟩
  | n + 1, i, s, hn, hr => by
    obtain ⟨s1, hU, ⟨q1, q2, q3⟩, q4⟩ := hs n i s (by omega) hr
    obtain ⟨s', e, o, r, c', u⟩ := lb_1_1 h0 hs n (i + 1) s1 (by omega) q1
    refine ⟨s', hU.trans e, onl_tr q4 o, r, fun b v c h1 h2 h3 h4 => ?_, fun k hk => ?_⟩
    · by_cases w : b = i
      · subst w
        have h9 := q2 (2 * b + (1 * v + c)) (by omega) (by omega)
        rw [show 1 * (2 * 1 * b + (1 + v)) + c = 2 * b + (1 * v + c) + 1 by omega, show 1 * (2 * 1 * b + v) + c = 2 * b + (1 * v + c) by omega, show 1 * (1 * (2 * b + 1) + v) + c = 2 * b + (1 * v + c) + 1 by omega, show 1 * (1 * (2 * b) + v) + c = 2 * b + (1 * v + c) by omega, vl_c (u (2 * b + (1 * v + c)) (by omega)), vl_c (u (2 * b + (1 * v + c) + 1) (by omega))]
        exact h9
      · have h9 := c' b v c (by omega) (by omega) h3 h4
        rw [vl_c (q3 (1 * (1 * (2 * b) + v) + c) (by omega) (by omega)), vl_c (q3 (1 * (1 * (2 * b + 1) + v) + c) (by omega) (by omega))] at h9
        exact h9
    · rw [u k (by omega), q3 k (by omega) (by omega)]
/-- the tree of roots, back -/
def yl8 : List Nat := [0, 8380416, 3572223, 4808194, 4618904, 3761513, 4614810, 3765607, 3201430, 5178987, 3145678, 5234739, 2883726, 5496691, 3201494, 5178923, 1221177, 7159240, 7822959, 557458, 1005239, 7375178, 4615550, 3764867, 6250525, 2129892, 5698129, 2682288, 4837932, 3542485, 601683, 7778734, 6096684, 2283733, 5564778, 2815639, 3585098, 4795319, 642628, 7737789, 6919699, 1460718, 5926434, 2453983, 6666122, 1714295, 3227876, 5152541, 1335936, 7044481, 7703827, 676590, 434125, 7946292, 3524442, 4855975, 1674615, 6705802, 5717039, 2663378, 4063053, 4317364, 3370349, 5010068, 6522001, 1858416, 5034454, 3345963, 6526611, 1853806, 5463079, 2917338, 4510100, 3870317, 7823561, 556856, 5188063, 3192354, 2897314, 5483103, 3950053, 4430364, 1716988, 6663429, 1935799, 6444618, 4623627, 3756790, 3574466, 4805951, 817536, 7562881, 6621070, 1759347, 4965348, 3415069, 6224367, 2156050, 5138445, 3241972, 4018989, 4361428, 6308588, 2071829, 3506380, 4874037, 7284949, 1095468, 7451668, 928749, 7986269, 394148, 7220542, 1159875, 4675594, 3704823, 6279007, 2101410, 3110818, 5269599, 3586446, 4793971, 5639874, 2740543, 5197539, 3182878, 4778199, 3602218, 6635910, 1744507, 2236726, 6143691, 1922253, 6458164, 3818627, 4561790, 2354215, 6026202, 7369194, 1011223, 327848, 8052569, 8031605, 348812, 459163, 7921254, 653275, 7727142, 6067579, 2312838, 3467665, 4912752, 2778788, 5601629, 5697147, 2683270, 2775755, 5604662, 7023969, 1356448, 5006167, 3374250, 5454601, 2925816, 1226661, 7153756, 4478945, 3901472, 7759253, 621164, 5344437, 3035980, 5919030, 2461387, 1317678, 7062739, 2362063, 6018354, 1300016, 7080401, 4182915, 4197502, 4898211, 3482206, 2254727, 6125690, 2391089, 5989328, 6592474, 1787943, 2579253, 5801164, 5121960, 3258457, 3250154, 5130263, 8145010, 235407, 6644104, 1736313, 3197248, 5183169, 6392603, 1987814, 3488383, 4892034, 4166425, 4213992, 3334383, 5046034, 5917973, 2462444, 8210729, 169688, 565603, 7814814, 2962264, 5418153, 7231559, 1148858, 7897768, 482649, 6852351, 1528066, 4222329, 4158088, 1109516, 7270901, 2983781, 5396636, 5569126, 2811291, 3815725, 4564692, 6442847, 1937570, 6352299, 2028118, 5871437, 2508980, 274060, 8106357, 3121440, 5258977, 3222807, 5157610, 4197045, 4183372, 4528402, 3852015, 2635473, 5744944, 7102792, 1277625, 5307408, 3073009, 731434, 7648983, 7325939, 1054478, 781875, 7598542, 6480365, 1900052, 3773731, 4606686, 3974485, 4405932, 4849188, 3531229, 303005, 8077412, 392707, 7987710, 5454363, 2926054, 1716814, 6663603, 3014420, 5365997, 2193087, 6187330, 6022044, 2358373, 5256655, 3123762, 2185084, 6195333, 1514152, 6866265, 8240173, 140244, 4949981, 3430436, 7520273, 860144, 553718, 7826699, 7872272, 508145, 1103344, 7277073, 5274859, 3105558, 770441, 7609976, 7835041, 545376, 8165537, 214880, 5016875, 3363542, 5360024, 3020393, 1370517, 7009900, 11879, 8368538, 4385746, 3994671, 3369273, 5011144, 7216819, 1163598, 6352379, 2028038, 6715099, 1665318, 6657188, 1723229, 1615530, 6764887, 5811406, 2569011, 4399818, 3980599, 4022750, 4357667, 7630840, 749577, 4231948, 4148469, 2612853, 5767564, 5370669, 3009748, 5732423, 2647994, 338420, 8041997, 3033742, 5346675, 1834526, 6545891, 724804, 7655613, 1187885, 7192532, 7872490, 507927, 1393159, 6987258, 5889092, 2491325, 6386371, 1994046, 1476985, 6903432, 2743411, 5637006, 7852436, 527981, 1179613, 7200804, 7794176, 586241, 2033807, 6346610, 2374402, 6006015, 6275131, 2105286, 1623354, 6757063, 2178965, 6201452, 818761, 7561656, 1879878, 6500539, 6341273, 2039144, 3472069, 4908348, 4340221, 4040196, 1921994, 6458423, 458740, 7921677, 2218467, 6161950, 1310261, 7070156, 7767179, 613238, 1354892, 7025525, 5867399, 2513018, 89301, 8291116, 8238582, 141835, 5382198, 2998219, 12417, 8368000, 7126227, 1254190, 5737437, 2642980, 5184741, 3195676, 3838479, 4541938, 7140506, 1239911, 6084318, 2296099, 4633167, 3747250, 3180456, 5199961, 268456, 8111961, 3611750, 4768667, 5992904, 2387513, 1727088, 6653329, 6187479, 2192938, 1772588, 6607829, 4146264, 4234153, 2455377, 5925040, 250446, 8129971, 7744461, 635956, 3551006, 4829411, 3768948, 4611469, 5702139, 2678278, 3410568, 4969849, 1685153, 6695264, 3759465, 4620952, 3956944, 4423473, 6783595, 1596822, 1979497, 6400920, 2454145, 5926272, 7371052, 1009365, 7557876, 822541, 27812, 8352605, 3716946, 4663471, 3284915, 5095502, 2296397, 6084020, 3956745, 4423672, 3965306, 4415111, 7743490, 636927, 8293209, 87208, 7198174, 1182243, 5607817, 2772600, 59148, 8321269, 1780227, 6600190, 5720009, 2660408, 1455890, 6924527, 2659525, 5720892, 1935420, 6444997, 8378664, 1753]
def yr8 (k : Nat) : Int := ((yl8.getD k 0 : Nat) : Int)
theorem yl8_sq : ∀ k, k < 256 → 1 ≤ k → (yl8.getD (2 * k) 0 * yl8.getD (2 * k) 0) % 8380417 = yl8.getD k 0 % 8380417 := by decide +kernel
theorem yl8_o : ∀ k, k < 256 → 1 ≤ k → (yl8.getD (2 * k + 1) 0 + yl8.getD (2 * k) 0) % 8380417 = 0 % 8380417 := by decide +kernel
theorem yr8_2 {k : Nat} (h : 1 ≤ k) (hk : k < 256) : cg ((8380417 : Nat) : Int) (yr8 (2 * k) * yr8 (2 * k)) (yr8 k) := by
  unfold yr8
  rw [← Int.natCast_mul]
  exact cg_md (yl8_sq k hk h)
theorem yr8_3 {k : Nat} (h : 1 ≤ k) (hk : k < 256) : cg ((8380417 : Nat) : Int) (yr8 (2 * k + 1)) (-(yr8 (2 * k))) := by
  have h1 := cg_md (yl8_o k hk h)
  rw [Int.natCast_add] at h1
  have h2 := cg_sub h1 (cg_rf (a := yr8 (2 * k)))
  unfold yr8 at h2 ⊢
  exact cg_tr (cg_of (by omega)) (cg_tr h2 (cg_of (by omega)))
theorem leaf8_f : ∀ b, b < 256 → xn8 (256 + b) % 8380417 = cl2.getD (ct4.getD b 0) 0 % 8380417 := by decide +kernel
theorem leaf8_b : ∀ b, b < 256 → 1 ≤ ct4.getD b 0 ∧ yl8.getD (256 + b) 0 % 8380417 = cl2.getD (512 - ct4.getD b 0) 0 % 8380417 := by decide +kernel
theorem leaf8_x {b : Nat} (h : b < 256) : cg ((8380417 : Nat) : Int) (xr8 (256 + b)) (wf8 b) := cg_tr (cg_md (leaf8_f b h)) (cl2_p _ (ct4_lt b h))
theorem leaf8_y {b : Nat} (h : b < 256) : cg ((8380417 : Nat) : Int) (yr8 (256 + b)) (wb8 b) := by
  obtain ⟨h1, h2⟩ := leaf8_b b h
  have h3 := ct4_lt b h
  exact cg_tr (cg_md h2) (cl2_p _ (by omega))
theorem mulr8 {a : Nat} (ha : a < 8380417) : (((nI a).toInt64 * (nI 8347681).toInt64) - ((nI a).toInt64 * (nI 8347681).toInt64) / (nI 8380417).toInt64 * (nI 8380417).toInt64).toInt32 = nI (a * 8347681 % 8380417) := by
  rw [nI_l (n := a) (by omega), nI_l (n := 8347681) (by decide), lN_mul, lN_rem8 (by omega), lN_i]
theorem sc8 {pf : Nat} : ∀ (n i : Nat) (s : Sto), i + n = 256 → rdc 8380417 (s.1 pf) → onl pf s (F_RG_restore_8_L8 pf n i s) ∧ rdc 8380417 ((F_RG_restore_8_L8 pf n i s).1 pf) ∧ (∀ k, i ≤ k → k < 256 → cg ((8380417 : Nat) : Int) (vl ((F_RG_restore_8_L8 pf n i s).1 pf) k) (vl (s.1 pf) k * 8347681)) ∧ ∀ k, k < i → (F_RG_restore_8_L8 pf n i s).1 pf k = s.1 pf k
  | 0, i, s, hi, hr => ⟨onl_rf, hr, fun k h1 h2 => by omega, fun _ _ => rfl⟩
  | n + 1, i, s, hi, hr => by
    obtain ⟨a, ha, ea⟩ := hr i (by omega)
    have hU : F_RG_restore_8_L8 pf (n + 1) i s = F_RG_restore_8_L8 pf n (i + 1) (sI s pf i (nI (a * 8347681 % 8380417))) := by
      rw [F_RG_restore_8_L8, ea, mulr8 ha, bnd_eq]
    have hlt : a * 8347681 % 8380417 < 8380417 := Nat.mod_lt _ (by decide)
    have o1 : onl pf s (sI s pf i (nI (a * 8347681 % 8380417))) := onl_sI
    have r1 : (sI s pf i (nI (a * 8347681 % 8380417))).1 pf = upd (s.1 pf) i (nI (a * 8347681 % 8380417)) := sI_row
    generalize sI s pf i (nI (a * 8347681 % 8380417)) = s1 at hU o1 r1
    have hr1 : rdc 8380417 (s1.1 pf) := fun k hk => by
      rw [r1]
      by_cases w : k = i
      · subst w
        exact ⟨_, hlt, upd_s⟩
      · rw [upd_n w]
        exact hr k hk
    obtain ⟨q1, q2, q3, q4⟩ := sc8 n (i + 1) s1 (by omega) hr1
    rw [hU]
    refine ⟨onl_tr o1 q1, q2, fun k u v => ?_, fun k u => ?_⟩
    · by_cases w : k = i
      · subst w
        rw [vl_c (q4 k (by omega)), vl_n (show s1.1 pf k = nI (a * 8347681 % 8380417) by rw [r1, upd_s]) (by omega), vl_n ea (by omega)]
        refine cg_tr (cg_mod _ _) ?_
        rw [Int.natCast_mul]
        exact cg_of rfl
      · have := q3 k (by omega) v
        rw [vl_c (show s1.1 pf k = s.1 pf k by rw [r1, upd_n w])] at this
        exact this
    · rw [q4 k (by omega), r1, upd_n (by omega)]
theorem gr8_0 : ∀ b, b < 128 → (yl8.getD (2 * (128 + b)) 0 + ct2.getD (255 - b) 0) % 8380417 = 0 % 8380417 ∧ yl8.getD (2 * (128 + b) + 1) 0 % 8380417 = ct2.getD (255 - b) 0 % 8380417 := by decide +kernel
def zg8_0 (b : Nat) : Int := ((ct2.getD (255 - b) 0 : Nat) : Int)
theorem lb8_0 {pf : Nat} (s : Sto) (hr : rdc 8380417 (s.1 pf)) : ∃ s' : Sto, F_RG_restore_8_L0 pf 128 0 s = F_RG_restore_8_L1 pf 64 0 s' ∧ onl pf s s' ∧ rdc 8380417 (s'.1 pf) ∧ (∀ b v c, 0 ≤ b → b < 0 + 128 → v < 1 → c < 1 → cg ((8380417 : Nat) : Int) (vl (s'.1 pf) (1 * (2 * 1 * b + v) + c)) (vl (s.1 pf) (1 * (1 * (2 * b) + v) + c) + vl (s.1 pf) (1 * (1 * (2 * b + 1) + v) + c)) ∧ cg ((8380417 : Nat) : Int) (vl (s'.1 pf) (1 * (2 * 1 * b + (1 + v)) + c)) (zg8_0 b * (vl (s.1 pf) (1 * (1 * (2 * b + 1) + v) + c) - vl (s.1 pf) (1 * (1 * (2 * b) + v) + c)))) ∧ ∀ k, (k < 2 * 0 ∨ 2 * (0 + 128) ≤ k) → s'.1 pf k = s.1 pf k :=
  lb_1_1 (q := 8380417) (N := 128) (G := F_RG_restore_8_L0 pf) (K := fun s' => F_RG_restore_8_L1 pf 64 0 s') (zf := zg8_0) (fun i s => by rw [F_RG_restore_8_L0]) (fun n i s hi hr => ⟨F_RG_gather_8_L0 pf 1 (lN (ct2.getD (255 - i) 0)) 1 (2 * i) s, by rw [F_RG_restore_8_L0, bnd_eq, ctI2_l (by omega), F_RG_gather_8, Nat.add_sub_cancel_left], P_gather8 (ct2_lq _ (by omega)) (by decide) 1 (2 * i) s (Nat.le_refl _) (by omega) hr⟩) 128 0 s (Nat.le_refl _) hr
theorem gr8_1 : ∀ b, b < 64 → (yl8.getD (2 * (64 + b)) 0 + ct2.getD (127 - b) 0) % 8380417 = 0 % 8380417 ∧ yl8.getD (2 * (64 + b) + 1) 0 % 8380417 = ct2.getD (127 - b) 0 % 8380417 := by decide +kernel
def zg8_1 (b : Nat) : Int := ((ct2.getD (127 - b) 0 : Nat) : Int)
theorem lb8_1 {pf : Nat} (s : Sto) (hr : rdc 8380417 (s.1 pf)) : ∃ s' : Sto, F_RG_restore_8_L1 pf 64 0 s = F_RG_restore_8_L2 pf 32 0 s' ∧ onl pf s s' ∧ rdc 8380417 (s'.1 pf) ∧ (∀ b v c, 0 ≤ b → b < 0 + 64 → v < 2 → c < 1 → cg ((8380417 : Nat) : Int) (vl (s'.1 pf) (1 * (2 * 2 * b + v) + c)) (vl (s.1 pf) (1 * (2 * (2 * b) + v) + c) + vl (s.1 pf) (1 * (2 * (2 * b + 1) + v) + c)) ∧ cg ((8380417 : Nat) : Int) (vl (s'.1 pf) (1 * (2 * 2 * b + (2 + v)) + c)) (zg8_1 b * (vl (s.1 pf) (1 * (2 * (2 * b + 1) + v) + c) - vl (s.1 pf) (1 * (2 * (2 * b) + v) + c)))) ∧ ∀ k, (k < 4 * 0 ∨ 4 * (0 + 64) ≤ k) → s'.1 pf k = s.1 pf k :=
  lb_1_2 (q := 8380417) (N := 64) (G := F_RG_restore_8_L1 pf) (K := fun s' => F_RG_restore_8_L2 pf 32 0 s') (zf := zg8_1) (fun i s => by rw [F_RG_restore_8_L1]) (fun n i s hi hr => ⟨F_RG_gather_8_L0 pf 2 (lN (ct2.getD (127 - i) 0)) 2 (4 * i) s, by rw [F_RG_restore_8_L1, bnd_eq, ctI2_l (by omega), F_RG_gather_8, Nat.add_sub_cancel_left], P_gather8 (ct2_lq _ (by omega)) (by decide) 2 (4 * i) s (Nat.le_refl _) (by omega) hr⟩) 64 0 s (Nat.le_refl _) hr
theorem gr8_2 : ∀ b, b < 32 → (yl8.getD (2 * (32 + b)) 0 + ct2.getD (63 - b) 0) % 8380417 = 0 % 8380417 ∧ yl8.getD (2 * (32 + b) + 1) 0 % 8380417 = ct2.getD (63 - b) 0 % 8380417 := by decide +kernel
def zg8_2 (b : Nat) : Int := ((ct2.getD (63 - b) 0 : Nat) : Int)
theorem lb8_2 {pf : Nat} (s : Sto) (hr : rdc 8380417 (s.1 pf)) : ∃ s' : Sto, F_RG_restore_8_L2 pf 32 0 s = F_RG_restore_8_L3 pf 16 0 s' ∧ onl pf s s' ∧ rdc 8380417 (s'.1 pf) ∧ (∀ b v c, 0 ≤ b → b < 0 + 32 → v < 4 → c < 1 → cg ((8380417 : Nat) : Int) (vl (s'.1 pf) (1 * (2 * 4 * b + v) + c)) (vl (s.1 pf) (1 * (4 * (2 * b) + v) + c) + vl (s.1 pf) (1 * (4 * (2 * b + 1) + v) + c)) ∧ cg ((8380417 : Nat) : Int) (vl (s'.1 pf) (1 * (2 * 4 * b + (4 + v)) + c)) (zg8_2 b * (vl (s.1 pf) (1 * (4 * (2 * b + 1) + v) + c) - vl (s.1 pf) (1 * (4 * (2 * b) + v) + c)))) ∧ ∀ k, (k < 8 * 0 ∨ 8 * (0 + 32) ≤ k) → s'.1 pf k = s.1 pf k :=
  lb_1_4 (q := 8380417) (N := 32) (G := F_RG_restore_8_L2 pf) (K := fun s' => F_RG_restore_8_L3 pf 16 0 s') (zf := zg8_2) (fun i s => by rw [F_RG_restore_8_L2]) (fun n i s hi hr => ⟨F_RG_gather_8_L0 pf 4 (lN (ct2.getD (63 - i) 0)) 4 (8 * i) s, by rw [F_RG_restore_8_L2, bnd_eq, ctI2_l (by omega), F_RG_gather_8, Nat.add_sub_cancel_left], P_gather8 (ct2_lq _ (by omega)) (by decide) 4 (8 * i) s (Nat.le_refl _) (by omega) hr⟩) 32 0 s (Nat.le_refl _) hr
theorem gr8_3 : ∀ b, b < 16 → (yl8.getD (2 * (16 + b)) 0 + ct2.getD (31 - b) 0) % 8380417 = 0 % 8380417 ∧ yl8.getD (2 * (16 + b) + 1) 0 % 8380417 = ct2.getD (31 - b) 0 % 8380417 := by decide +kernel
def zg8_3 (b : Nat) : Int := ((ct2.getD (31 - b) 0 : Nat) : Int)
theorem lb8_3 {pf : Nat} (s : Sto) (hr : rdc 8380417 (s.1 pf)) : ∃ s' : Sto, F_RG_restore_8_L3 pf 16 0 s = F_RG_restore_8_L4 pf 8 0 s' ∧ onl pf s s' ∧ rdc 8380417 (s'.1 pf) ∧ (∀ b v c, 0 ≤ b → b < 0 + 16 → v < 8 → c < 1 → cg ((8380417 : Nat) : Int) (vl (s'.1 pf) (1 * (2 * 8 * b + v) + c)) (vl (s.1 pf) (1 * (8 * (2 * b) + v) + c) + vl (s.1 pf) (1 * (8 * (2 * b + 1) + v) + c)) ∧ cg ((8380417 : Nat) : Int) (vl (s'.1 pf) (1 * (2 * 8 * b + (8 + v)) + c)) (zg8_3 b * (vl (s.1 pf) (1 * (8 * (2 * b + 1) + v) + c) - vl (s.1 pf) (1 * (8 * (2 * b) + v) + c)))) ∧ ∀ k, (k < 16 * 0 ∨ 16 * (0 + 16) ≤ k) → s'.1 pf k = s.1 pf k :=
  lb_1_8 (q := 8380417) (N := 16) (G := F_RG_restore_8_L3 pf) (K := fun s' => F_RG_restore_8_L4 pf 8 0 s') (zf := zg8_3) (fun i s => by rw [F_RG_restore_8_L3]) (fun n i s hi hr => ⟨F_RG_gather_8_L0 pf 8 (lN (ct2.getD (31 - i) 0)) 8 (16 * i) s, by rw [F_RG_restore_8_L3, bnd_eq, ctI2_l (by omega), F_RG_gather_8, Nat.add_sub_cancel_left], P_gather8 (ct2_lq _ (by omega)) (by decide) 8 (16 * i) s (Nat.le_refl _) (by omega) hr⟩) 16 0 s (Nat.le_refl _) hr
theorem gr8_4 : ∀ b, b < 8 → (yl8.getD (2 * (8 + b)) 0 + ct2.getD (15 - b) 0) % 8380417 = 0 % 8380417 ∧ yl8.getD (2 * (8 + b) + 1) 0 % 8380417 = ct2.getD (15 - b) 0 % 8380417 := by decide +kernel
def zg8_4 (b : Nat) : Int := ((ct2.getD (15 - b) 0 : Nat) : Int)
theorem lb8_4 {pf : Nat} (s : Sto) (hr : rdc 8380417 (s.1 pf)) : ∃ s' : Sto, F_RG_restore_8_L4 pf 8 0 s = F_RG_restore_8_L5 pf 4 0 s' ∧ onl pf s s' ∧ rdc 8380417 (s'.1 pf) ∧ (∀ b v c, 0 ≤ b → b < 0 + 8 → v < 16 → c < 1 → cg ((8380417 : Nat) : Int) (vl (s'.1 pf) (1 * (2 * 16 * b + v) + c)) (vl (s.1 pf) (1 * (16 * (2 * b) + v) + c) + vl (s.1 pf) (1 * (16 * (2 * b + 1) + v) + c)) ∧ cg ((8380417 : Nat) : Int) (vl (s'.1 pf) (1 * (2 * 16 * b + (16 + v)) + c)) (zg8_4 b * (vl (s.1 pf) (1 * (16 * (2 * b + 1) + v) + c) - vl (s.1 pf) (1 * (16 * (2 * b) + v) + c)))) ∧ ∀ k, (k < 32 * 0 ∨ 32 * (0 + 8) ≤ k) → s'.1 pf k = s.1 pf k :=
  lb_1_16 (q := 8380417) (N := 8) (G := F_RG_restore_8_L4 pf) (K := fun s' => F_RG_restore_8_L5 pf 4 0 s') (zf := zg8_4) (fun i s => by rw [F_RG_restore_8_L4]) (fun n i s hi hr => ⟨F_RG_gather_8_L0 pf 16 (lN (ct2.getD (15 - i) 0)) 16 (32 * i) s, by rw [F_RG_restore_8_L4, bnd_eq, ctI2_l (by omega), F_RG_gather_8, Nat.add_sub_cancel_left], P_gather8 (ct2_lq _ (by omega)) (by decide) 16 (32 * i) s (Nat.le_refl _) (by omega) hr⟩) 8 0 s (Nat.le_refl _) hr
theorem gr8_5 : ∀ b, b < 4 → (yl8.getD (2 * (4 + b)) 0 + ct2.getD (7 - b) 0) % 8380417 = 0 % 8380417 ∧ yl8.getD (2 * (4 + b) + 1) 0 % 8380417 = ct2.getD (7 - b) 0 % 8380417 := by decide +kernel
def zg8_5 (b : Nat) : Int := ((ct2.getD (7 - b) 0 : Nat) : Int)
theorem lb8_5 {pf : Nat} (s : Sto) (hr : rdc 8380417 (s.1 pf)) : ∃ s' : Sto, F_RG_restore_8_L5 pf 4 0 s = F_RG_restore_8_L6 pf 2 0 s' ∧ onl pf s s' ∧ rdc 8380417 (s'.1 pf) ∧ (∀ b v c, 0 ≤ b → b < 0 + 4 → v < 32 → c < 1 → cg ((8380417 : Nat) : Int) (vl (s'.1 pf) (1 * (2 * 32 * b + v) + c)) (vl (s.1 pf) (1 * (32 * (2 * b) + v) + c) + vl (s.1 pf) (1 * (32 * (2 * b + 1) + v) + c)) ∧ cg ((8380417 : Nat) : Int) (vl (s'.1 pf) (1 * (2 * 32 * b + (32 + v)) + c)) (zg8_5 b * (vl (s.1 pf) (1 * (32 * (2 * b + 1) + v) + c) - vl (s.1 pf) (1 * (32 * (2 * b) + v) + c)))) ∧ ∀ k, (k < 64 * 0 ∨ 64 * (0 + 4) ≤ k) → s'.1 pf k = s.1 pf k :=
  lb_1_32 (q := 8380417) (N := 4) (G := F_RG_restore_8_L5 pf) (K := fun s' => F_RG_restore_8_L6 pf 2 0 s') (zf := zg8_5) (fun i s => by rw [F_RG_restore_8_L5]) (fun n i s hi hr => ⟨F_RG_gather_8_L0 pf 32 (lN (ct2.getD (7 - i) 0)) 32 (64 * i) s, by rw [F_RG_restore_8_L5, bnd_eq, ctI2_l (by omega), F_RG_gather_8, Nat.add_sub_cancel_left], P_gather8 (ct2_lq _ (by omega)) (by decide) 32 (64 * i) s (Nat.le_refl _) (by omega) hr⟩) 4 0 s (Nat.le_refl _) hr
theorem gr8_6 : ∀ b, b < 2 → (yl8.getD (2 * (2 + b)) 0 + ct2.getD (3 - b) 0) % 8380417 = 0 % 8380417 ∧ yl8.getD (2 * (2 + b) + 1) 0 % 8380417 = ct2.getD (3 - b) 0 % 8380417 := by decide +kernel
def zg8_6 (b : Nat) : Int := ((ct2.getD (3 - b) 0 : Nat) : Int)
theorem lb8_6 {pf : Nat} (s : Sto) (hr : rdc 8380417 (s.1 pf)) : ∃ s' : Sto, F_RG_restore_8_L6 pf 2 0 s = F_RG_restore_8_L7 pf 1 0 s' ∧ onl pf s s' ∧ rdc 8380417 (s'.1 pf) ∧ (∀ b v c, 0 ≤ b → b < 0 + 2 → v < 64 → c < 1 → cg ((8380417 : Nat) : Int) (vl (s'.1 pf) (1 * (2 * 64 * b + v) + c)) (vl (s.1 pf) (1 * (64 * (2 * b) + v) + c) + vl (s.1 pf) (1 * (64 * (2 * b + 1) + v) + c)) ∧ cg ((8380417 : Nat) : Int) (vl (s'.1 pf) (1 * (2 * 64 * b + (64 + v)) + c)) (zg8_6 b * (vl (s.1 pf) (1 * (64 * (2 * b + 1) + v) + c) - vl (s.1 pf) (1 * (64 * (2 * b) + v) + c)))) ∧ ∀ k, (k < 128 * 0 ∨ 128 * (0 + 2) ≤ k) → s'.1 pf k = s.1 pf k :=
  lb_1_64 (q := 8380417) (N := 2) (G := F_RG_restore_8_L6 pf) (K := fun s' => F_RG_restore_8_L7 pf 1 0 s') (zf := zg8_6) (fun i s => by rw [F_RG_restore_8_L6]) (fun n i s hi hr => ⟨F_RG_gather_8_L0 pf 64 (lN (ct2.getD (3 - i) 0)) 64 (128 * i) s, by rw [F_RG_restore_8_L6, bnd_eq, ctI2_l (by omega), F_RG_gather_8, Nat.add_sub_cancel_left], P_gather8 (ct2_lq _ (by omega)) (by decide) 64 (128 * i) s (Nat.le_refl _) (by omega) hr⟩) 2 0 s (Nat.le_refl _) hr
theorem gr8_7 : ∀ b, b < 1 → (yl8.getD (2 * (1 + b)) 0 + ct2.getD (1 - b) 0) % 8380417 = 0 % 8380417 ∧ yl8.getD (2 * (1 + b) + 1) 0 % 8380417 = ct2.getD (1 - b) 0 % 8380417 := by decide +kernel
def zg8_7 (b : Nat) : Int := ((ct2.getD (1 - b) 0 : Nat) : Int)
theorem lb8_7 {pf : Nat} (s : Sto) (hr : rdc 8380417 (s.1 pf)) : ∃ s' : Sto, F_RG_restore_8_L7 pf 1 0 s = F_RG_restore_8_L8 pf 256 0 s' ∧ onl pf s s' ∧ rdc 8380417 (s'.1 pf) ∧ (∀ b v c, 0 ≤ b → b < 0 + 1 → v < 128 → c < 1 → cg ((8380417 : Nat) : Int) (vl (s'.1 pf) (1 * (2 * 128 * b + v) + c)) (vl (s.1 pf) (1 * (128 * (2 * b) + v) + c) + vl (s.1 pf) (1 * (128 * (2 * b + 1) + v) + c)) ∧ cg ((8380417 : Nat) : Int) (vl (s'.1 pf) (1 * (2 * 128 * b + (128 + v)) + c)) (zg8_7 b * (vl (s.1 pf) (1 * (128 * (2 * b + 1) + v) + c) - vl (s.1 pf) (1 * (128 * (2 * b) + v) + c)))) ∧ ∀ k, (k < 256 * 0 ∨ 256 * (0 + 1) ≤ k) → s'.1 pf k = s.1 pf k :=
  lb_1_128 (q := 8380417) (N := 1) (G := F_RG_restore_8_L7 pf) (K := fun s' => F_RG_restore_8_L8 pf 256 0 s') (zf := zg8_7) (fun i s => by rw [F_RG_restore_8_L7]) (fun n i s hi hr => ⟨F_RG_gather_8_L0 pf 128 (lN (ct2.getD (1 - i) 0)) 128 (256 * i) s, by rw [F_RG_restore_8_L7, bnd_eq, ctI2_l (by omega), F_RG_gather_8, Nat.add_sub_cancel_left], P_gather8 (ct2_lq _ (by omega)) (by decide) 128 (256 * i) s (Nat.le_refl _) (by omega) hr⟩) 1 0 s (Nat.le_refl _) hr
/-- the whole way back of the program -/
theorem P_restore8 {pf : Nat} {s : Sto} (hr : rdc 8380417 (s.1 pf)) : onl pf s (F_RG_restore_8 pf s) ∧ rdc 8380417 ((F_RG_restore_8 pf s).1 pf) ∧ ∀ v c, v < 256 → c < 1 → cg ((8380417 : Nat) : Int) (vl ((F_RG_restore_8 pf s).1 pf) (1 * v + c)) ((sm 256 fun u => vl (s.1 pf) (1 * u + c) * yr8 (256 + u) ^ v) * 8347681) := by
  have l0 := lf_start (q := ((8380417 : Nat) : Int)) (Y := yr8) (L := 256)
  have f0 := bw_start (q := ((8380417 : Nat) : Int)) (Y := yr8) (f := vl (s.1 pf)) (d := 1) (L := 256)
  obtain ⟨s1, e1, o1, r1, c1, -⟩ := lb8_0 s hr
  have l1 : lfI ((8380417 : Nat) : Int) yr8 256 128 2 := lf_step (N := 128) (V := 1) (fun b hb => yr8_2 (k := 128 + b) (by omega) (by omega)) (fun b hb => yr8_3 (k := 128 + b) (by omega) (by omega)) l0
  have f1 : bwI ((8380417 : Nat) : Int) yr8 (vl (s.1 pf)) 1 256 128 2 (vl (s1.1 pf)) := bw_step (N := 128) (V := 1) (g := (fun k => ((ct2.getD (383 - k) 0 : Nat) : Int))) (fun b hb => by
      have h9 := cg_md (gr8_0 b hb).1
      rw [Int.natCast_add] at h9
      show cg _ (yr8 (2 * (128 + b))) (-((ct2.getD (383 - (128 + b)) 0 : Nat) : Int))
      rw [show 383 - (128 + b) = 255 - b by omega]
      have h8 := cg_sub h9 (cg_rf (a := ((ct2.getD (255 - b) 0 : Nat) : Int)))
      unfold yr8
      exact cg_tr (cg_of (by omega)) (cg_tr h8 (cg_of (by omega)))) (fun b hb => by
      show cg _ (yr8 (2 * (128 + b) + 1)) ((ct2.getD (383 - (128 + b)) 0 : Nat) : Int)
      rw [show 383 - (128 + b) = 255 - b by omega]
      exact cg_md (gr8_0 b hb).2) l0 f0 (fun b v c hb hv hc => by
      show _ ∧ cg _ _ (((ct2.getD (383 - (128 + b)) 0 : Nat) : Int) * _)
      rw [show 383 - (128 + b) = 255 - b by omega]
      exact c1 b v c (Nat.zero_le _) (by omega) hv hc)
  obtain ⟨s2, e2, o2, r2, c2, -⟩ := lb8_1 s1 r1
  have l2 : lfI ((8380417 : Nat) : Int) yr8 256 64 4 := lf_step (N := 64) (V := 2) (fun b hb => yr8_2 (k := 64 + b) (by omega) (by omega)) (fun b hb => yr8_3 (k := 64 + b) (by omega) (by omega)) l1
  have f2 : bwI ((8380417 : Nat) : Int) yr8 (vl (s.1 pf)) 1 256 64 4 (vl (s2.1 pf)) := bw_step (N := 64) (V := 2) (g := (fun k => ((ct2.getD (191 - k) 0 : Nat) : Int))) (fun b hb => by
      have h9 := cg_md (gr8_1 b hb).1
      rw [Int.natCast_add] at h9
      show cg _ (yr8 (2 * (64 + b))) (-((ct2.getD (191 - (64 + b)) 0 : Nat) : Int))
      rw [show 191 - (64 + b) = 127 - b by omega]
      have h8 := cg_sub h9 (cg_rf (a := ((ct2.getD (127 - b) 0 : Nat) : Int)))
      unfold yr8
      exact cg_tr (cg_of (by omega)) (cg_tr h8 (cg_of (by omega)))) (fun b hb => by
      show cg _ (yr8 (2 * (64 + b) + 1)) ((ct2.getD (191 - (64 + b)) 0 : Nat) : Int)
      rw [show 191 - (64 + b) = 127 - b by omega]
      exact cg_md (gr8_1 b hb).2) l1 f1 (fun b v c hb hv hc => by
      show _ ∧ cg _ _ (((ct2.getD (191 - (64 + b)) 0 : Nat) : Int) * _)
      rw [show 191 - (64 + b) = 127 - b by omega]
      exact c2 b v c (Nat.zero_le _) (by omega) hv hc)
  obtain ⟨s3, e3, o3, r3, c3, -⟩ := lb8_2 s2 r2
  have l3 : lfI ((8380417 : Nat) : Int) yr8 256 32 8 := lf_step (N := 32) (V := 4) (fun b hb => yr8_2 (k := 32 + b) (by omega) (by omega)) (fun b hb => yr8_3 (k := 32 + b) (by omega) (by omega)) l2
  have f3 : bwI ((8380417 : Nat) : Int) yr8 (vl (s.1 pf)) 1 256 32 8 (vl (s3.1 pf)) := bw_step (N := 32) (V := 4) (g := (fun k => ((ct2.getD (95 - k) 0 : Nat) : Int))) (fun b hb => by
      have h9 := cg_md (gr8_2 b hb).1
      rw [Int.natCast_add] at h9
      show cg _ (yr8 (2 * (32 + b))) (-((ct2.getD (95 - (32 + b)) 0 : Nat) : Int))
      rw [show 95 - (32 + b) = 63 - b by omega]
      have h8 := cg_sub h9 (cg_rf (a := ((ct2.getD (63 - b) 0 : Nat) : Int)))
      unfold yr8
      exact cg_tr (cg_of (by omega)) (cg_tr h8 (cg_of (by omega)))) (fun b hb => by
      show cg _ (yr8 (2 * (32 + b) + 1)) ((ct2.getD (95 - (32 + b)) 0 : Nat) : Int)
      rw [show 95 - (32 + b) = 63 - b by omega]
      exact cg_md (gr8_2 b hb).2) l2 f2 (fun b v c hb hv hc => by
      show _ ∧ cg _ _ (((ct2.getD (95 - (32 + b)) 0 : Nat) : Int) * _)
      rw [show 95 - (32 + b) = 63 - b by omega]
      exact c3 b v c (Nat.zero_le _) (by omega) hv hc)
  obtain ⟨s4, e4, o4, r4, c4, -⟩ := lb8_3 s3 r3
  have l4 : lfI ((8380417 : Nat) : Int) yr8 256 16 16 := lf_step (N := 16) (V := 8) (fun b hb => yr8_2 (k := 16 + b) (by omega) (by omega)) (fun b hb => yr8_3 (k := 16 + b) (by omega) (by omega)) l3
  have f4 : bwI ((8380417 : Nat) : Int) yr8 (vl (s.1 pf)) 1 256 16 16 (vl (s4.1 pf)) := bw_step (N := 16) (V := 8) (g := (fun k => ((ct2.getD (47 - k) 0 : Nat) : Int))) (fun b hb => by
      have h9 := cg_md (gr8_3 b hb).1
      rw [Int.natCast_add] at h9
      show cg _ (yr8 (2 * (16 + b))) (-((ct2.getD (47 - (16 + b)) 0 : Nat) : Int))
      rw [show 47 - (16 + b) = 31 - b by omega]
      have h8 := cg_sub h9 (cg_rf (a := ((ct2.getD (31 - b) 0 : Nat) : Int)))
      unfold yr8
      exact cg_tr (cg_of (by omega)) (cg_tr h8 (cg_of (by omega)))) (fun b hb => by
      show cg _ (yr8 (2 * (16 + b) + 1)) ((ct2.getD (47 - (16 + b)) 0 : Nat) : Int)
      rw [show 47 - (16 + b) = 31 - b by omega]
      exact cg_md (gr8_3 b hb).2) l3 f3 (fun b v c hb hv hc => by
      show _ ∧ cg _ _ (((ct2.getD (47 - (16 + b)) 0 : Nat) : Int) * _)
      rw [show 47 - (16 + b) = 31 - b by omega]
      exact c4 b v c (Nat.zero_le _) (by omega) hv hc)
  obtain ⟨s5, e5, o5, r5, c5, -⟩ := lb8_4 s4 r4
  have l5 : lfI ((8380417 : Nat) : Int) yr8 256 8 32 := lf_step (N := 8) (V := 16) (fun b hb => yr8_2 (k := 8 + b) (by omega) (by omega)) (fun b hb => yr8_3 (k := 8 + b) (by omega) (by omega)) l4
  have f5 : bwI ((8380417 : Nat) : Int) yr8 (vl (s.1 pf)) 1 256 8 32 (vl (s5.1 pf)) := bw_step (N := 8) (V := 16) (g := (fun k => ((ct2.getD (23 - k) 0 : Nat) : Int))) (fun b hb => by
      have h9 := cg_md (gr8_4 b hb).1
      rw [Int.natCast_add] at h9
      show cg _ (yr8 (2 * (8 + b))) (-((ct2.getD (23 - (8 + b)) 0 : Nat) : Int))
      rw [show 23 - (8 + b) = 15 - b by omega]
      have h8 := cg_sub h9 (cg_rf (a := ((ct2.getD (15 - b) 0 : Nat) : Int)))
      unfold yr8
      exact cg_tr (cg_of (by omega)) (cg_tr h8 (cg_of (by omega)))) (fun b hb => by
      show cg _ (yr8 (2 * (8 + b) + 1)) ((ct2.getD (23 - (8 + b)) 0 : Nat) : Int)
      rw [show 23 - (8 + b) = 15 - b by omega]
      exact cg_md (gr8_4 b hb).2) l4 f4 (fun b v c hb hv hc => by
      show _ ∧ cg _ _ (((ct2.getD (23 - (8 + b)) 0 : Nat) : Int) * _)
      rw [show 23 - (8 + b) = 15 - b by omega]
      exact c5 b v c (Nat.zero_le _) (by omega) hv hc)
  obtain ⟨s6, e6, o6, r6, c6, -⟩ := lb8_5 s5 r5
  have l6 : lfI ((8380417 : Nat) : Int) yr8 256 4 64 := lf_step (N := 4) (V := 32) (fun b hb => yr8_2 (k := 4 + b) (by omega) (by omega)) (fun b hb => yr8_3 (k := 4 + b) (by omega) (by omega)) l5
  have f6 : bwI ((8380417 : Nat) : Int) yr8 (vl (s.1 pf)) 1 256 4 64 (vl (s6.1 pf)) := bw_step (N := 4) (V := 32) (g := (fun k => ((ct2.getD (11 - k) 0 : Nat) : Int))) (fun b hb => by
      have h9 := cg_md (gr8_5 b hb).1
      rw [Int.natCast_add] at h9
      show cg _ (yr8 (2 * (4 + b))) (-((ct2.getD (11 - (4 + b)) 0 : Nat) : Int))
      rw [show 11 - (4 + b) = 7 - b by omega]
      have h8 := cg_sub h9 (cg_rf (a := ((ct2.getD (7 - b) 0 : Nat) : Int)))
      unfold yr8
      exact cg_tr (cg_of (by omega)) (cg_tr h8 (cg_of (by omega)))) (fun b hb => by
      show cg _ (yr8 (2 * (4 + b) + 1)) ((ct2.getD (11 - (4 + b)) 0 : Nat) : Int)
      rw [show 11 - (4 + b) = 7 - b by omega]
      exact cg_md (gr8_5 b hb).2) l5 f5 (fun b v c hb hv hc => by
      show _ ∧ cg _ _ (((ct2.getD (11 - (4 + b)) 0 : Nat) : Int) * _)
      rw [show 11 - (4 + b) = 7 - b by omega]
      exact c6 b v c (Nat.zero_le _) (by omega) hv hc)
  obtain ⟨s7, e7, o7, r7, c7, -⟩ := lb8_6 s6 r6
  have l7 : lfI ((8380417 : Nat) : Int) yr8 256 2 128 := lf_step (N := 2) (V := 64) (fun b hb => yr8_2 (k := 2 + b) (by omega) (by omega)) (fun b hb => yr8_3 (k := 2 + b) (by omega) (by omega)) l6
  have f7 : bwI ((8380417 : Nat) : Int) yr8 (vl (s.1 pf)) 1 256 2 128 (vl (s7.1 pf)) := bw_step (N := 2) (V := 64) (g := (fun k => ((ct2.getD (5 - k) 0 : Nat) : Int))) (fun b hb => by
      have h9 := cg_md (gr8_6 b hb).1
      rw [Int.natCast_add] at h9
      show cg _ (yr8 (2 * (2 + b))) (-((ct2.getD (5 - (2 + b)) 0 : Nat) : Int))
      rw [show 5 - (2 + b) = 3 - b by omega]
      have h8 := cg_sub h9 (cg_rf (a := ((ct2.getD (3 - b) 0 : Nat) : Int)))
      unfold yr8
      exact cg_tr (cg_of (by omega)) (cg_tr h8 (cg_of (by omega)))) (fun b hb => by
      show cg _ (yr8 (2 * (2 + b) + 1)) ((ct2.getD (5 - (2 + b)) 0 : Nat) : Int)
      rw [show 5 - (2 + b) = 3 - b by omega]
      exact cg_md (gr8_6 b hb).2) l6 f6 (fun b v c hb hv hc => by
      show _ ∧ cg _ _ (((ct2.getD (5 - (2 + b)) 0 : Nat) : Int) * _)
      rw [show 5 - (2 + b) = 3 - b by omega]
      exact c7 b v c (Nat.zero_le _) (by omega) hv hc)
  obtain ⟨s8, e8, o8, r8, c8, -⟩ := lb8_7 s7 r7
  have l8 : lfI ((8380417 : Nat) : Int) yr8 256 1 256 := lf_step (N := 1) (V := 128) (fun b hb => yr8_2 (k := 1 + b) (by omega) (by omega)) (fun b hb => yr8_3 (k := 1 + b) (by omega) (by omega)) l7
  have f8 : bwI ((8380417 : Nat) : Int) yr8 (vl (s.1 pf)) 1 256 1 256 (vl (s8.1 pf)) := bw_step (N := 1) (V := 128) (g := (fun k => ((ct2.getD (2 - k) 0 : Nat) : Int))) (fun b hb => by
      have h9 := cg_md (gr8_7 b hb).1
      rw [Int.natCast_add] at h9
      show cg _ (yr8 (2 * (1 + b))) (-((ct2.getD (2 - (1 + b)) 0 : Nat) : Int))
      rw [show 2 - (1 + b) = 1 - b by omega]
      have h8 := cg_sub h9 (cg_rf (a := ((ct2.getD (1 - b) 0 : Nat) : Int)))
      unfold yr8
      exact cg_tr (cg_of (by omega)) (cg_tr h8 (cg_of (by omega)))) (fun b hb => by
      show cg _ (yr8 (2 * (1 + b) + 1)) ((ct2.getD (2 - (1 + b)) 0 : Nat) : Int)
      rw [show 2 - (1 + b) = 1 - b by omega]
      exact cg_md (gr8_7 b hb).2) l7 f7 (fun b v c hb hv hc => by
      show _ ∧ cg _ _ (((ct2.getD (2 - (1 + b)) 0 : Nat) : Int) * _)
      rw [show 2 - (1 + b) = 1 - b by omega]
      exact c8 b v c (Nat.zero_le _) (by omega) hv hc)
  obtain ⟨p1, p2, p3, -⟩ := sc8 256 0 s8 rfl r8
  have e : F_RG_restore_8 pf s = F_RG_restore_8_L8 pf 256 0 s8 := (((((((e1).trans e2).trans e3).trans e4).trans e5).trans e6).trans e7).trans e8
  rw [e]
  refine ⟨onl_tr (onl_tr (onl_tr (onl_tr (onl_tr (onl_tr (onl_tr (onl_tr o1 o2) o3) o4) o5) o6) o7) o8) p1, p2, fun v c hv hc => cg_tr (p3 _ (Nat.zero_le _) (by omega)) (cg_mulr ?_)⟩
  have h9 := f8 0 v c (by decide) hv hc
  rw [Nat.mul_zero, Nat.zero_add] at h9
  refine cg_tr h9 (cg_of (sm_ext _ fun u _ => ?_))
  rw [Nat.zero_add]
