set_option linter.all false
theorem lx_128 {q pf N : Nat} {G : Nat → Nat → Sto → Sto} {K : Sto → Sto} {zf : Nat → Int} (h0 : ∀ i s, G 0 i s = K s) (hs : ∀ n i s, i < N → rdc q (s.1 pf) → ∃ s1, G (n + 1) i s = G n (i + 1) s1 ∧ spR q (zf i) 128 128 (256 * i) (s.1 pf) (s1.1 pf) ∧ onl pf s s1) : ∀ (n i : Nat) (s : Sto), i + n ≤ N → rdc q (s.1 pf) → ∃ s' : Sto, G n i s = K s' ∧ onl pf s s' ∧ rdc q (s'.1 pf) ∧ (∀ b t, i ≤ b → b < i + n → t < 128 → cg (q : Int) (vl (s'.1 pf) (128 * (2 * b) + t)) (vl (s.1 pf) (2 * 128 * b + t) + zf b * vl (s.1 pf) (2 * 128 * b + (128 + t))) ∧ cg (q : Int) (vl (s'.1 pf) (128 * (2 * b + 1) + t)) (vl (s.1 pf) (2 * 128 * b + t) - zf b * vl (s.1 pf) (2 * 128 * b + (128 + t)))) ∧ ∀ k, (k < 256 * i ∨ 256 * (i + n) ≤ k) → s'.1 pf k = s.1 pf k
  | 0, i, s, _, hr => ⟨s, h0 i s, onl_rf, hr, fun b t h1 h2 => by omega, fun _ _ => rfl⟩
  | n + 1, i, s, hn, hr => by
    obtain ⟨s1, hU, ⟨q1, q2, q3⟩, q4⟩ := hs n i s (by omega) hr
    obtain ⟨s', e, o, r, c, u⟩ := lx_128 h0 hs n (i + 1) s1 (by omega) q1
    refine ⟨s', hU.trans e, onl_tr q4 o, r, fun b t h1 h2 h3 => ?_, fun k hk => ?_⟩
    · by_cases w : b = i
      · subst w
        have h9 := q2 (256 * b + t) (by omega) (by omega)
        rw [show 128 * (2 * b) + t = 256 * b + t by omega, show 128 * (2 * b + 1) + t = 256 * b + t + 128 by omega, show 2 * 128 * b + (128 + t) = 256 * b + t + 128 by omega, show 2 * 128 * b + t = 256 * b + t by omega, vl_c (u (256 * b + t) (by omega)), vl_c (u (256 * b + t + 128) (by omega))]
        exact h9
      · have h9 := c b t (by omega) (by omega) h3
        rw [vl_c (q3 (2 * 128 * b + t) (by omega) (by omega)), vl_c (q3 (2 * 128 * b + (128 + t)) (by omega) (by omega))] at h9
        exact h9
    · rw [u k (by omega), q3 k (by omega) (by omega)]
theorem lx_64 {q pf N : Nat} {G : Nat → Nat → Sto → Sto} {K : Sto → Sto} {zf : Nat → Int} (h0 : ∀ i s, G 0 i s = K s) (hs : ∀ n i s, i < N → rdc q (s.1 pf) → ∃ s1, G (n + 1) i s = G n (i + 1) s1 ∧ spR q (zf i) 64 64 (128 * i) (s.1 pf) (s1.1 pf) ∧ onl pf s s1) : ∀ (n i : Nat) (s : Sto), i + n ≤ N → rdc q (s.1 pf) → ∃ s' : Sto, G n i s = K s' ∧ onl pf s s' ∧ rdc q (s'.1 pf) ∧ (∀ b t, i ≤ b → b < i + n → t < 64 → cg (q : Int) (vl (s'.1 pf) (64 * (2 * b) + t)) (vl (s.1 pf) (2 * 64 * b + t) + zf b * vl (s.1 pf) (2 * 64 * b + (64 + t))) ∧ cg (q : Int) (vl (s'.1 pf) (64 * (2 * b + 1) + t)) (vl (s.1 pf) (2 * 64 * b + t) - zf b * vl (s.1 pf) (2 * 64 * b + (64 + t)))) ∧ ∀ k, (k < 128 * i ∨ 128 * (i + n) ≤ k) → s'.1 pf k = s.1 pf k
  | 0, i, s, _, hr => ⟨s, h0 i s, onl_rf, hr, fun b t h1 h2 => by omega, fun _ _ => rfl⟩
  | n + 1, i, s, hn, hr => by
    obtain ⟨s1, hU, ⟨q1, q2, q3⟩, q4⟩ := hs n i s (by omega) hr
    obtain ⟨s', e, o, r, c, u⟩ := lx_64 h0 hs n (i + 1) s1 (by omega) q1
    refine ⟨s', hU.trans e, onl_tr q4 o, r, fun b t h1 h2 h3 => ?_, fun k hk => ?_⟩
    · by_cases w : b = i
      · subst w
        have h9 := q2 (128 * b + t) (by omega) (by omega)
        rw [show 64 * (2 * b) + t = 128 * b + t by omega, show 64 * (2 * b + 1) + t = 128 * b + t + 64 by omega, show 2 * 64 * b + (64 + t) = 128 * b + t + 64 by omega, show 2 * 64 * b + t = 128 * b + t by omega, vl_c (u (128 * b + t) (by omega)), vl_c (u (128 * b + t + 64) (by omega))]
        exact h9
      · have h9 := c b t (by omega) (by omega) h3
        rw [vl_c (q3 (2 * 64 * b + t) (by omega) (by omega)), vl_c (q3 (2 * 64 * b + (64 + t)) (by omega) (by omega))] at h9
        exact h9
    · rw [u k (by omega), q3 k (by omega) (by omega)]
theorem lx_32 {q pf N : Nat} {G : Nat → Nat → Sto → Sto} {K : Sto → Sto} {zf : Nat → Int} (h0 : ∀ i s, G 0 i s = K s) (hs : ∀ n i s, i < N → rdc q (s.1 pf) → ∃ s1, G (n + 1) i s = G n (i + 1) s1 ∧ spR q (zf i) 32 32 (64 * i) (s.1 pf) (s1.1 pf) ∧ onl pf s s1) : ∀ (n i : Nat) (s : Sto), i + n ≤ N → rdc q (s.1 pf) → ∃ s' : Sto, G n i s = K s' ∧ onl pf s s' ∧ rdc q (s'.1 pf) ∧ (∀ b t, i ≤ b → b < i + n → t < 32 → cg (q : Int) (vl (s'.1 pf) (32 * (2 * b) + t)) (vl (s.1 pf) (2 * 32 * b + t) + zf b * vl (s.1 pf) (2 * 32 * b + (32 + t))) ∧ cg (q : Int) (vl (s'.1 pf) (32 * (2 * b + 1) + t)) (vl (s.1 pf) (2 * 32 * b + t) - zf b * vl (s.1 pf) (2 * 32 * b + (32 + t)))) ∧ ∀ k, (k < 64 * i ∨ 64 * (i + n) ≤ k) → s'.1 pf k = s.1 pf k
  | 0, i, s, _, hr => ⟨s, h0 i s, onl_rf, hr, fun b t h1 h2 => by omega, fun _ _ => rfl⟩
  | n + 1, i, s, hn, hr => by
    obtain ⟨s1, hU, ⟨q1, q2, q3⟩, q4⟩ := hs n i s (by omega) hr
    obtain ⟨s', e, o, r, c, u⟩ := lx_32 h0 hs n (i + 1) s1 (by omega) q1
    refine ⟨s', hU.trans e, onl_tr q4 o, r, fun b t h1 h2 h3 => ?_, fun k hk => ?_⟩
    · by_cases w : b = i
      · subst w
        have h9 := q2 (64 * b + t) (by omega) (by omega)
        rw [show 32 * (2 * b) + t = 64 * b + t by omega, show 32 * (2 * b + 1) + t = 64 * b + t + 32 by omega, show 2 * 32 * b + (32 + t) = 64 * b + t + 32 by omega, show 2 * 32 * b + t = 64 * b + t by omega, vl_c (u (64 * b + t) (by omega)), vl_c (u (64 * b + t + 32) (by omega))]
        exact h9
      · have h9 := c b t (by omega) (by omega) h3
        rw [vl_c (q3 (2 * 32 * b + t) (by omega) (by omega)), vl_c (q3 (2 * 32 * b + (32 + t)) (by omega) (by omega))] at h9
        exact h9
    · rw [u k (by omega), q3 k (by omega) (by omega)]
theorem lx_16 {q pf N : Nat} {G : Nat → Nat → Sto → Sto} {K : Sto → Sto} {zf : Nat → Int} (h0 : ∀ i s, G 0 i s = K s) (hs : ∀ n i s, i < N → rdc q (s.1 pf) → ∃ s1, G (n + 1) i s = G n (i + 1) s1 ∧ spR q (zf i) 16 16 (32 * i) (s.1 pf) (s1.1 pf) ∧ onl pf s s1) : ∀ (n i : Nat) (s : Sto), i + n ≤ N → rdc q (s.1 pf) → ∃ s' : Sto, G n i s = K s' ∧ onl pf s s' ∧ rdc q (s'.1 pf) ∧ (∀ b t, i ≤ b → b < i + n → t < 16 → cg (q : Int) (vl (s'.1 pf) (16 * (2 * b) + t)) (vl (s.1 pf) (2 * 16 * b + t) + zf b * vl (s.1 pf) (2 * 16 * b + (16 + t))) ∧ cg (q : Int) (vl (s'.1 pf) (16 * (2 * b + 1) + t)) (vl (s.1 pf) (2 * 16 * b + t) - zf b * vl (s.1 pf) (2 * 16 * b + (16 + t)))) ∧ ∀ k, (k < 32 * i ∨ 32 * (i + n) ≤ k) → s'.1 pf k = s.1 pf k
  | 0, i, s, _, hr => ⟨s, h0 i s, onl_rf, hr, fun b t h1 h2 => by omega, fun _ _ => rfl⟩
  | n + 1, i, s, hn, hr => by
    obtain ⟨s1, hU, ⟨q1, q2, q3⟩, q4⟩ := hs n i s (by omega) hr
    obtain ⟨s', e, o, r, c, u⟩ := lx_16 h0 hs n (i + 1) s1 (by omega) q1
    refine ⟨s', hU.trans e, onl_tr q4 o, r, fun b t h1 h2 h3 => ?_, fun k hk => ?_⟩
    · by_cases w : b = i
      · subst w
        have h9 := q2 (32 * b + t) (by omega) (by omega)
        rw [show 16 * (2 * b) + t = 32 * b + t by omega, show 16 * (2 * b + 1) + t = 32 * b + t + 16 by omega, show 2 * 16 * b + (16 + t) = 32 * b + t + 16 by omega, show 2 * 16 * b + t = 32 * b + t by omega, vl_c (u (32 * b + t) (by omega)), vl_c (u (32 * b + t + 16) (by omega))]
        exact h9
      · have h9 := c b t (by omega) (by omega) h3
        rw [vl_c (q3 (2 * 16 * b + t) (by omega) (by omega)), vl_c (q3 (2 * 16 * b + (16 + t)) (by omega) (by omega))] at h9
        exact h9
    · rw [u k (by omega), q3 k (by omega) (by omega)]
theorem lx_8 {q pf N : Nat} {G : Nat → Nat → Sto → Sto} {K : Sto → Sto} {zf : Nat → Int} (h0 : ∀ i s, G 0 i s = K s) (hs : ∀ n i s, i < N → rdc q (s.1 pf) → ∃ s1, G (n + 1) i s = G n (i + 1) s1 ∧ spR q (zf i) 8 8 (16 * i) (s.1 pf) (s1.1 pf) ∧ onl pf s s1) : ∀ (n i : Nat) (s : Sto), i + n ≤ N → rdc q (s.1 pf) → ∃ s' : Sto, G n i s = K s' ∧ onl pf s s' ∧ rdc q (s'.1 pf) ∧ (∀ b t, i ≤ b → b < i + n → t < 8 → cg (q : Int) (vl (s'.1 pf) (8 * (2 * b) + t)) (vl (s.1 pf) (2 * 8 * b + t) + zf b * vl (s.1 pf) (2 * 8 * b + (8 + t))) ∧ cg (q : Int) (vl (s'.1 pf) (8 * (2 * b + 1) + t)) (vl (s.1 pf) (2 * 8 * b + t) - zf b * vl (s.1 pf) (2 * 8 * b + (8 + t)))) ∧ ∀ k, (k < 16 * i ∨ 16 * (i + n) ≤ k) → s'.1 pf k = s.1 pf k
  | 0, i, s, _, hr => ⟨s, h0 i s, onl_rf, hr, fun b t h1 h2 => by omega, fun _ _ => rfl⟩
  | n + 1, i, s, hn, hr => by
    obtain ⟨s1, hU, ⟨q1, q2, q3⟩, q4⟩ := hs n i s (by omega) hr
    obtain ⟨s', e, o, r, c, u⟩ := lx_8 h0 hs n (i + 1) s1 (by omega) q1
    refine ⟨s', hU.trans e, onl_tr q4 o, r, fun b t h1 h2 h3 => ?_, fun k hk => ?_⟩
    · by_cases w : b = i
      · subst w
        have h9 := q2 (16 * b + t) (by omega) (by omega)
        rw [show 8 * (2 * b) + t = 16 * b + t by omega, show 8 * (2 * b + 1) + t = 16 * b + t + 8 by omega, show 2 * 8 * b + (8 + t) = 16 * b + t + 8 by omega, show 2 * 8 * b + t = 16 * b + t by omega, vl_c (u (16 * b + t) (by omega)), vl_c (u (16 * b + t + 8) (by omega))]
        exact h9
      · have h9 := c b t (by omega) (by omega) h3
        rw [vl_c (q3 (2 * 8 * b + t) (by omega) (by omega)), vl_c (q3 (2 * 8 * b + (8 + t)) (by omega) (by omega))] at h9
        exact h9
    · rw [u k (by omega), q3 k (by omega) (by omega)]
theorem lx_4 {q pf N : Nat} {G : Nat → Nat → Sto → Sto} {K : Sto → Sto} {zf : Nat → Int} (h0 : ∀ i s, G 0 i s = K s) (hs : ∀ n i s, i < N → rdc q (s.1 pf) → ∃ s1, G (n + 1) i s = G n (i + 1) s1 ∧ spR q (zf i) 4 4 (8 * i) (s.1 pf) (s1.1 pf) ∧ onl pf s s1) : ∀ (n i : Nat) (s : Sto), i + n ≤ N → rdc q (s.1 pf) → ∃ s' : Sto, G n i s = K s' ∧ onl pf s s' ∧ rdc q (s'.1 pf) ∧ (∀ b t, i ≤ b → b < i + n → t < 4 → cg (q : Int) (vl (s'.1 pf) (4 * (2 * b) + t)) (vl (s.1 pf) (2 * 4 * b + t) + zf b * vl (s.1 pf) (2 * 4 * b + (4 + t))) ∧ cg (q : Int) (vl (s'.1 pf) (4 * (2 * b + 1) + t)) (vl (s.1 pf) (2 * 4 * b + t) - zf b * vl (s.1 pf) (2 * 4 * b + (4 + t)))) ∧ ∀ k, (k < 8 * i ∨ 8 * (i + n) ≤ k) → s'.1 pf k = s.1 pf k
  | 0, i, s, _, hr => ⟨s, h0 i s, onl_rf, hr, fun b t h1 h2 => by omega, fun _ _ => rfl⟩
  | n + 1, i, s, hn, hr => by
    obtain ⟨s1, hU, ⟨q1, q2, q3⟩, q4⟩ := hs n i s (by omega) hr
    obtain ⟨s', e, o, r, c, u⟩ := lx_4 h0 hs n (i + 1) s1 (by omega) q1
    refine ⟨s', hU.trans e, onl_tr q4 o, r, fun b t h1 h2 h3 => ?_, fun k hk => ?_⟩
    · by_cases w : b = i
      · subst w
        have h9 := q2 (8 * b + t) (by omega) (by omega)
        rw [show 4 * (2 * b) + t = 8 * b + t by omega, show 4 * (2 * b + 1) + t = 8 * b + t + 4 by omega, show 2 * 4 * b + (4 + t) = 8 * b + t + 4 by omega, show 2 * 4 * b + t = 8 * b + t by omega, vl_c (u (8 * b + t) (by omega)), vl_c (u (8 * b + t + 4) (by omega))]
        exact h9
      · have h9 := c b t (by omega) (by omega) h3
        rw [vl_c (q3 (2 * 4 * b + t) (by omega) (by omega)), vl_c (q3 (2 * 4 * b + (4 + t)) (by omega) (by omega))] at h9
        exact h9
    · rw [u k (by omega), q3 k (by omega) (by omega)]
theorem lx_2 {q pf N : Nat} {G : Nat → Nat → Sto → Sto} {K : Sto → Sto} {zf : Nat → Int} (h0 : ∀ i s, G 0 i s = K s) (hs : ∀ n i s, i < N → rdc q (s.1 pf) → ∃ s1, G (n + 1) i s = G n (i + 1) s1 ∧ spR q (zf i) 2 2 (4 * i) (s.1 pf) (s1.1 pf) ∧ onl pf s s1) : ∀ (n i : Nat) (s : Sto), i + n ≤ N → rdc q (s.1 pf) → ∃ s' : Sto, G n i s = K s' ∧ onl pf s s' ∧ rdc q (s'.1 pf) ∧ (∀ b t, i ≤ b → b < i + n → t < 2 → cg (q : Int) (vl (s'.1 pf) (2 * (2 * b) + t)) (vl (s.1 pf) (2 * 2 * b + t) + zf b * vl (s.1 pf) (2 * 2 * b + (2 + t))) ∧ cg (q : Int) (vl (s'.1 pf) (2 * (2 * b + 1) + t)) (vl (s.1 pf) (2 * 2 * b + t) - zf b * vl (s.1 pf) (2 * 2 * b + (2 + t)))) ∧ ∀ k, (k < 4 * i ∨ 4 * (i + n) ≤ k) → s'.1 pf k = s.1 pf k
  | 0, i, s, _, hr => ⟨s, h0 i s, onl_rf, hr, fun b t h1 h2 => by omega, fun _ _ => rfl⟩
  | n + 1, i, s, hn, hr => by
    obtain ⟨s1, hU, ⟨q1, q2, q3⟩, q4⟩ := hs n i s (by omega) hr
    obtain ⟨s', e, o, r, c, u⟩ := lx_2 h0 hs n (i + 1) s1 (by omega) q1
    refine ⟨s', hU.trans e, onl_tr q4 o, r, fun b t h1 h2 h3 => ?_, fun k hk => ?_⟩
    · by_cases w : b = i
      · subst w
        have h9 := q2 (4 * b + t) (by omega) (by omega)
        rw [show 2 * (2 * b) + t = 4 * b + t by omega, show 2 * (2 * b + 1) + t = 4 * b + t + 2 by omega, show 2 * 2 * b + (2 + t) = 4 * b + t + 2 by omega, show 2 * 2 * b + t = 4 * b + t by omega, vl_c (u (4 * b + t) (by omega)), vl_c (u (4 * b + t + 2) (by omega))]
        exact h9
      · have h9 := c b t (by omega) (by omega) h3
        rw [vl_c (q3 (2 * 2 * b + t) (by omega) (by omega)), vl_c (q3 (2 * 2 * b + (2 + t)) (by omega) (by omega))] at h9
        exact h9
    · rw [u k (by omega), q3 k (by omega) (by omega)]
theorem lx_1 {q pf N : Nat} {G : Nat → Nat → Sto → Sto} {K : Sto → Sto} {zf : Nat → Int} (h0 : ∀ i s, G 0 i s = K s) (hs : ∀ n i s, i < N → rdc q (s.1 pf) → ∃ s1, G (n + 1) i s = G n (i + 1) s1 ∧ spR q (zf i) 1 1 (2 * i) (s.1 pf) (s1.1 pf) ∧ onl pf s s1) : ∀ (n i : Nat) (s : Sto), i + n ≤ N → rdc q (s.1 pf) → ∃ s' : Sto, G n i s = K s' ∧ onl pf s s' ∧ rdc q (s'.1 pf) ∧ (∀ b t, i ≤ b → b < i + n → t < 1 → cg (q : Int) (vl (s'.1 pf) (1 * (2 * b) + t)) (vl (s.1 pf) (2 * 1 * b + t) + zf b * vl (s.1 pf) (2 * 1 * b + (1 + t))) ∧ cg (q : Int) (vl (s'.1 pf) (1 * (2 * b + 1) + t)) (vl (s.1 pf) (2 * 1 * b + t) - zf b * vl (s.1 pf) (2 * 1 * b + (1 + t)))) ∧ ∀ k, (k < 2 * i ∨ 2 * (i + n) ≤ k) → s'.1 pf k = s.1 pf k
  | 0, i, s, _, hr => ⟨s, h0 i s, onl_rf, hr, fun b t h1 h2 => by omega, fun _ _ => rfl⟩
  | n + 1, i, s, hn, hr => by
    obtain ⟨s1, hU, ⟨q1, q2, q3⟩, q4⟩ := hs n i s (by omega) hr
    obtain ⟨s', e, o, r, c, u⟩ := lx_1 h0 hs n (i + 1) s1 (by omega) q1
    refine ⟨s', hU.trans e, onl_tr q4 o, r, fun b t h1 h2 h3 => ?_, fun k hk => ?_⟩
    · by_cases w : b = i
      · subst w
        have h9 := q2 (2 * b + t) (by omega) (by omega)
        rw [show 1 * (2 * b) + t = 2 * b + t by omega, show 1 * (2 * b + 1) + t = 2 * b + t + 1 by omega, show 2 * 1 * b + (1 + t) = 2 * b + t + 1 by omega, show 2 * 1 * b + t = 2 * b + t by omega, vl_c (u (2 * b + t) (by omega)), vl_c (u (2 * b + t + 1) (by omega))]
        exact h9
      · have h9 := c b t (by omega) (by omega) h3
        rw [vl_c (q3 (2 * 1 * b + t) (by omega) (by omega)), vl_c (q3 (2 * 1 * b + (1 + t)) (by omega) (by omega))] at h9
        exact h9
    · rw [u k (by omega), q3 k (by omega) (by omega)]
theorem ct2_lq : ∀ k, k < 256 → ct2.getD k 0 < 8380417 := by decide +kernel
/-- the tree of roots, forth: the node k has the sons 2k and 2k + 1 -/
def xn8 (k : Nat) : Nat := if k ≤ 1 then 8380417 - 1 else if k % 2 = 0 then ct2.getD (k / 2) 0 else 8380417 - ct2.getD (k / 2) 0
theorem xn8_e {k : Nat} (h : 1 ≤ k) : xn8 (2 * k) = ct2.getD k 0 := by
  unfold xn8
  rw [if_neg (by omega), if_pos (by omega), Nat.mul_div_cancel_left k (by decide)]
theorem xn8_o {k : Nat} (h : 1 ≤ k) : xn8 (2 * k + 1) = 8380417 - ct2.getD k 0 := by
  unfold xn8
  rw [if_neg (by omega), if_neg (by omega), show (2 * k + 1) / 2 = k by omega]
theorem xn8_sq : ∀ k, k < 256 → 1 ≤ k → (ct2.getD k 0 * ct2.getD k 0) % 8380417 = xn8 k % 8380417 := by decide +kernel
def xr8 (k : Nat) : Int := (xn8 k : Int)
theorem xr8_2 {k : Nat} (h : 1 ≤ k) (hk : k < 256) : cg ((8380417 : Nat) : Int) (xr8 (2 * k) * xr8 (2 * k)) (xr8 k) := by
  unfold xr8
  rw [xn8_e h, ← Int.natCast_mul]
  exact cg_md (xn8_sq k hk h)
theorem xr8_3 {k : Nat} (h : 1 ≤ k) (hk : k < 256) : cg ((8380417 : Nat) : Int) (xr8 (2 * k + 1)) (-(xr8 (2 * k))) := by
  unfold xr8
  rw [xn8_e h, xn8_o h]
  have := ct2_lq k hk
  exact ⟨1, by omega⟩
theorem ctI2_l {k : Nat} (hk : k < 256) : (ctI 2 k).toInt64 = lN (ct2.getD k 0) := by
  have := ct2_lq k hk
  exact nI_l (n := ct2.getD k 0) (by omega)
def zq8_0 (b : Nat) : Int := ((ct2.getD (1 + b) 0 : Nat) : Int)
theorem zq8_0_e {b : Nat} : zq8_0 b = xr8 (2 * (1 + b)) := congrArg Int.ofNat (xn8_e (by omega)).symm
theorem ly8_0 {pf : Nat} (s : Sto) (hr : rdc 8380417 (s.1 pf)) : ∃ s' : Sto, F_RG_transform_8_L0 pf 1 0 s = F_RG_transform_8_L1 pf 2 0 s' ∧ onl pf s s' ∧ rdc 8380417 (s'.1 pf) ∧ (∀ b t, 0 ≤ b → b < 0 + 1 → t < 128 → cg ((8380417 : Nat) : Int) (vl (s'.1 pf) (128 * (2 * b) + t)) (vl (s.1 pf) (2 * 128 * b + t) + zq8_0 b * vl (s.1 pf) (2 * 128 * b + (128 + t))) ∧ cg ((8380417 : Nat) : Int) (vl (s'.1 pf) (128 * (2 * b + 1) + t)) (vl (s.1 pf) (2 * 128 * b + t) - zq8_0 b * vl (s.1 pf) (2 * 128 * b + (128 + t)))) ∧ ∀ k, (k < 256 * 0 ∨ 256 * (0 + 1) ≤ k) → s'.1 pf k = s.1 pf k :=
  lx_128 (q := 8380417) (N := 1) (G := F_RG_transform_8_L0 pf) (K := fun s' => F_RG_transform_8_L1 pf 2 0 s') (zf := zq8_0) (fun i s => by rw [F_RG_transform_8_L0]) (fun n i s hi hr => ⟨F_RG_spread_8_L0 pf 128 (lN (ct2.getD (1 + i) 0)) 128 (256 * i) s, by rw [F_RG_transform_8_L0, bnd_eq, ctI2_l (by omega), F_RG_spread_8, Nat.add_sub_cancel_left], P_spread8 (ct2_lq _ (by omega)) (by decide) 128 (256 * i) s (Nat.le_refl _) (by omega) hr⟩) 1 0 s (Nat.le_refl _) hr
def zq8_1 (b : Nat) : Int := ((ct2.getD (2 + b) 0 : Nat) : Int)
theorem zq8_1_e {b : Nat} : zq8_1 b = xr8 (2 * (2 + b)) := congrArg Int.ofNat (xn8_e (by omega)).symm
theorem ly8_1 {pf : Nat} (s : Sto) (hr : rdc 8380417 (s.1 pf)) : ∃ s' : Sto, F_RG_transform_8_L1 pf 2 0 s = F_RG_transform_8_L2 pf 4 0 s' ∧ onl pf s s' ∧ rdc 8380417 (s'.1 pf) ∧ (∀ b t, 0 ≤ b → b < 0 + 2 → t < 64 → cg ((8380417 : Nat) : Int) (vl (s'.1 pf) (64 * (2 * b) + t)) (vl (s.1 pf) (2 * 64 * b + t) + zq8_1 b * vl (s.1 pf) (2 * 64 * b + (64 + t))) ∧ cg ((8380417 : Nat) : Int) (vl (s'.1 pf) (64 * (2 * b + 1) + t)) (vl (s.1 pf) (2 * 64 * b + t) - zq8_1 b * vl (s.1 pf) (2 * 64 * b + (64 + t)))) ∧ ∀ k, (k < 128 * 0 ∨ 128 * (0 + 2) ≤ k) → s'.1 pf k = s.1 pf k :=
  lx_64 (q := 8380417) (N := 2) (G := F_RG_transform_8_L1 pf) (K := fun s' => F_RG_transform_8_L2 pf 4 0 s') (zf := zq8_1) (fun i s => by rw [F_RG_transform_8_L1]) (fun n i s hi hr => ⟨F_RG_spread_8_L0 pf 64 (lN (ct2.getD (2 + i) 0)) 64 (128 * i) s, by rw [F_RG_transform_8_L1, bnd_eq, ctI2_l (by omega), F_RG_spread_8, Nat.add_sub_cancel_left], P_spread8 (ct2_lq _ (by omega)) (by decide) 64 (128 * i) s (Nat.le_refl _) (by omega) hr⟩) 2 0 s (Nat.le_refl _) hr
def zq8_2 (b : Nat) : Int := ((ct2.getD (4 + b) 0 : Nat) : Int)
theorem zq8_2_e {b : Nat} : zq8_2 b = xr8 (2 * (4 + b)) := congrArg Int.ofNat (xn8_e (by omega)).symm
theorem ly8_2 {pf : Nat} (s : Sto) (hr : rdc 8380417 (s.1 pf)) : ∃ s' : Sto, F_RG_transform_8_L2 pf 4 0 s = F_RG_transform_8_L3 pf 8 0 s' ∧ onl pf s s' ∧ rdc 8380417 (s'.1 pf) ∧ (∀ b t, 0 ≤ b → b < 0 + 4 → t < 32 → cg ((8380417 : Nat) : Int) (vl (s'.1 pf) (32 * (2 * b) + t)) (vl (s.1 pf) (2 * 32 * b + t) + zq8_2 b * vl (s.1 pf) (2 * 32 * b + (32 + t))) ∧ cg ((8380417 : Nat) : Int) (vl (s'.1 pf) (32 * (2 * b + 1) + t)) (vl (s.1 pf) (2 * 32 * b + t) - zq8_2 b * vl (s.1 pf) (2 * 32 * b + (32 + t)))) ∧ ∀ k, (k < 64 * 0 ∨ 64 * (0 + 4) ≤ k) → s'.1 pf k = s.1 pf k :=
  lx_32 (q := 8380417) (N := 4) (G := F_RG_transform_8_L2 pf) (K := fun s' => F_RG_transform_8_L3 pf 8 0 s') (zf := zq8_2) (fun i s => by rw [F_RG_transform_8_L2]) (fun n i s hi hr => ⟨F_RG_spread_8_L0 pf 32 (lN (ct2.getD (4 + i) 0)) 32 (64 * i) s, by rw [F_RG_transform_8_L2, bnd_eq, ctI2_l (by omega), F_RG_spread_8, Nat.add_sub_cancel_left], P_spread8 (ct2_lq _ (by omega)) (by decide) 32 (64 * i) s (Nat.le_refl _) (by omega) hr⟩) 4 0 s (Nat.le_refl _) hr
def zq8_3 (b : Nat) : Int := ((ct2.getD (8 + b) 0 : Nat) : Int)
theorem zq8_3_e {b : Nat} : zq8_3 b = xr8 (2 * (8 + b)) := congrArg Int.ofNat (xn8_e (by omega)).symm
theorem ly8_3 {pf : Nat} (s : Sto) (hr : rdc 8380417 (s.1 pf)) : ∃ s' : Sto, F_RG_transform_8_L3 pf 8 0 s = F_RG_transform_8_L4 pf 16 0 s' ∧ onl pf s s' ∧ rdc 8380417 (s'.1 pf) ∧ (∀ b t, 0 ≤ b → b < 0 + 8 → t < 16 → cg ((8380417 : Nat) : Int) (vl (s'.1 pf) (16 * (2 * b) + t)) (vl (s.1 pf) (2 * 16 * b + t) + zq8_3 b * vl (s.1 pf) (2 * 16 * b + (16 + t))) ∧ cg ((8380417 : Nat) : Int) (vl (s'.1 pf) (16 * (2 * b + 1) + t)) (vl (s.1 pf) (2 * 16 * b + t) - zq8_3 b * vl (s.1 pf) (2 * 16 * b + (16 + t)))) ∧ ∀ k, (k < 32 * 0 ∨ 32 * (0 + 8) ≤ k) → s'.1 pf k = s.1 pf k :=
  lx_16 (q := 8380417) (N := 8) (G := F_RG_transform_8_L3 pf) (K := fun s' => F_RG_transform_8_L4 pf 16 0 s') (zf := zq8_3) (fun i s => by rw [F_RG_transform_8_L3]) (fun n i s hi hr => ⟨F_RG_spread_8_L0 pf 16 (lN (ct2.getD (8 + i) 0)) 16 (32 * i) s, by rw [F_RG_transform_8_L3, bnd_eq, ctI2_l (by omega), F_RG_spread_8, Nat.add_sub_cancel_left], P_spread8 (ct2_lq _ (by omega)) (by decide) 16 (32 * i) s (Nat.le_refl _) (by omega) hr⟩) 8 0 s (Nat.le_refl _) hr
def zq8_4 (b : Nat) : Int := ((ct2.getD (16 + b) 0 : Nat) : Int)
theorem zq8_4_e {b : Nat} : zq8_4 b = xr8 (2 * (16 + b)) := congrArg Int.ofNat (xn8_e (by omega)).symm
theorem ly8_4 {pf : Nat} (s : Sto) (hr : rdc 8380417 (s.1 pf)) : ∃ s' : Sto, F_RG_transform_8_L4 pf 16 0 s = F_RG_transform_8_L5 pf 32 0 s' ∧ onl pf s s' ∧ rdc 8380417 (s'.1 pf) ∧ (∀ b t, 0 ≤ b → b < 0 + 16 → t < 8 → cg ((8380417 : Nat) : Int) (vl (s'.1 pf) (8 * (2 * b) + t)) (vl (s.1 pf) (2 * 8 * b + t) + zq8_4 b * vl (s.1 pf) (2 * 8 * b + (8 + t))) ∧ cg ((8380417 : Nat) : Int) (vl (s'.1 pf) (8 * (2 * b + 1) + t)) (vl (s.1 pf) (2 * 8 * b + t) - zq8_4 b * vl (s.1 pf) (2 * 8 * b + (8 + t)))) ∧ ∀ k, (k < 16 * 0 ∨ 16 * (0 + 16) ≤ k) → s'.1 pf k = s.1 pf k :=
  lx_8 (q := 8380417) (N := 16) (G := F_RG_transform_8_L4 pf) (K := fun s' => F_RG_transform_8_L5 pf 32 0 s') (zf := zq8_4) (fun i s => by rw [F_RG_transform_8_L4]) (fun n i s hi hr => ⟨F_RG_spread_8_L0 pf 8 (lN (ct2.getD (16 + i) 0)) 8 (16 * i) s, by rw [F_RG_transform_8_L4, bnd_eq, ctI2_l (by omega), F_RG_spread_8, Nat.add_sub_cancel_left], P_spread8 (ct2_lq _ (by omega)) (by decide) 8 (16 * i) s (Nat.le_refl _) (by omega) hr⟩) 16 0 s (Nat.le_refl _) hr
def zq8_5 (b : Nat) : Int := ((ct2.getD (32 + b) 0 : Nat) : Int)
theorem zq8_5_e {b : Nat} : zq8_5 b = xr8 (2 * (32 + b)) := congrArg Int.ofNat (xn8_e (by omega)).symm
theorem ly8_5 {pf : Nat} (s : Sto) (hr : rdc 8380417 (s.1 pf)) : ∃ s' : Sto, F_RG_transform_8_L5 pf 32 0 s = F_RG_transform_8_L6 pf 64 0 s' ∧ onl pf s s' ∧ rdc 8380417 (s'.1 pf) ∧ (∀ b t, 0 ≤ b → b < 0 + 32 → t < 4 → cg ((8380417 : Nat) : Int) (vl (s'.1 pf) (4 * (2 * b) + t)) (vl (s.1 pf) (2 * 4 * b + t) + zq8_5 b * vl (s.1 pf) (2 * 4 * b + (4 + t))) ∧ cg ((8380417 : Nat) : Int) (vl (s'.1 pf) (4 * (2 * b + 1) + t)) (vl (s.1 pf) (2 * 4 * b + t) - zq8_5 b * vl (s.1 pf) (2 * 4 * b + (4 + t)))) ∧ ∀ k, (k < 8 * 0 ∨ 8 * (0 + 32) ≤ k) → s'.1 pf k = s.1 pf k :=
  lx_4 (q := 8380417) (N := 32) (G := F_RG_transform_8_L5 pf) (K := fun s' => F_RG_transform_8_L6 pf 64 0 s') (zf := zq8_5) (fun i s => by rw [F_RG_transform_8_L5]) (fun n i s hi hr => ⟨F_RG_spread_8_L0 pf 4 (lN (ct2.getD (32 + i) 0)) 4 (8 * i) s, by rw [F_RG_transform_8_L5, bnd_eq, ctI2_l (by omega), F_RG_spread_8, Nat.add_sub_cancel_left], P_spread8 (ct2_lq _ (by omega)) (by decide) 4 (8 * i) s (Nat.le_refl _) (by omega) hr⟩) 32 0 s (Nat.le_refl _) hr
def zq8_6 (b : Nat) : Int := ((ct2.getD (64 + b) 0 : Nat) : Int)
theorem zq8_6_e {b : Nat} : zq8_6 b = xr8 (2 * (64 + b)) := congrArg Int.ofNat (xn8_e (by omega)).symm
theorem ly8_6 {pf : Nat} (s : Sto) (hr : rdc 8380417 (s.1 pf)) : ∃ s' : Sto, F_RG_transform_8_L6 pf 64 0 s = F_RG_transform_8_L7 pf 128 0 s' ∧ onl pf s s' ∧ rdc 8380417 (s'.1 pf) ∧ (∀ b t, 0 ≤ b → b < 0 + 64 → t < 2 → cg ((8380417 : Nat) : Int) (vl (s'.1 pf) (2 * (2 * b) + t)) (vl (s.1 pf) (2 * 2 * b + t) + zq8_6 b * vl (s.1 pf) (2 * 2 * b + (2 + t))) ∧ cg ((8380417 : Nat) : Int) (vl (s'.1 pf) (2 * (2 * b + 1) + t)) (vl (s.1 pf) (2 * 2 * b + t) - zq8_6 b * vl (s.1 pf) (2 * 2 * b + (2 + t)))) ∧ ∀ k, (k < 4 * 0 ∨ 4 * (0 + 64) ≤ k) → s'.1 pf k = s.1 pf k :=
  lx_2 (q := 8380417) (N := 64) (G := F_RG_transform_8_L6 pf) (K := fun s' => F_RG_transform_8_L7 pf 128 0 s') (zf := zq8_6) (fun i s => by rw [F_RG_transform_8_L6]) (fun n i s hi hr => ⟨F_RG_spread_8_L0 pf 2 (lN (ct2.getD (64 + i) 0)) 2 (4 * i) s, by rw [F_RG_transform_8_L6, bnd_eq, ctI2_l (by omega), F_RG_spread_8, Nat.add_sub_cancel_left], P_spread8 (ct2_lq _ (by omega)) (by decide) 2 (4 * i) s (Nat.le_refl _) (by omega) hr⟩) 64 0 s (Nat.le_refl _) hr
def zq8_7 (b : Nat) : Int := ((ct2.getD (128 + b) 0 : Nat) : Int)
theorem zq8_7_e {b : Nat} : zq8_7 b = xr8 (2 * (128 + b)) := congrArg Int.ofNat (xn8_e (by omega)).symm
theorem ly8_7 {pf : Nat} (s : Sto) (hr : rdc 8380417 (s.1 pf)) : ∃ s' : Sto, F_RG_transform_8_L7 pf 128 0 s = s' ∧ onl pf s s' ∧ rdc 8380417 (s'.1 pf) ∧ (∀ b t, 0 ≤ b → b < 0 + 128 → t < 1 → cg ((8380417 : Nat) : Int) (vl (s'.1 pf) (1 * (2 * b) + t)) (vl (s.1 pf) (2 * 1 * b + t) + zq8_7 b * vl (s.1 pf) (2 * 1 * b + (1 + t))) ∧ cg ((8380417 : Nat) : Int) (vl (s'.1 pf) (1 * (2 * b + 1) + t)) (vl (s.1 pf) (2 * 1 * b + t) - zq8_7 b * vl (s.1 pf) (2 * 1 * b + (1 + t)))) ∧ ∀ k, (k < 2 * 0 ∨ 2 * (0 + 128) ≤ k) → s'.1 pf k = s.1 pf k :=
  lx_1 (q := 8380417) (N := 128) (G := F_RG_transform_8_L7 pf) (K := fun s' => s') (zf := zq8_7) (fun i s => by rw [F_RG_transform_8_L7]) (fun n i s hi hr => ⟨F_RG_spread_8_L0 pf 1 (lN (ct2.getD (128 + i) 0)) 1 (2 * i) s, by rw [F_RG_transform_8_L7, bnd_eq, ctI2_l (by omega), F_RG_spread_8, Nat.add_sub_cancel_left], P_spread8 (ct2_lq _ (by omega)) (by decide) 1 (2 * i) s (Nat.le_refl _) (by omega) hr⟩) 128 0 s (Nat.le_refl _) hr
/-- the whole transform of the program: every number is the polynomial's value at a leaf's root -/
theorem P_transform8 {pf : Nat} {s : Sto} (hr : rdc 8380417 (s.1 pf)) : onl pf s (F_RG_transform_8 pf s) ∧ rdc 8380417 ((F_RG_transform_8 pf s).1 pf) ∧ fwI ((8380417 : Nat) : Int) xr8 (vl (s.1 pf)) 256 1 (vl ((F_RG_transform_8 pf s).1 pf)) := by
  obtain ⟨s1, e1, o1, r1, c1, -⟩ := ly8_0 s hr
  have f1 : fwI ((8380417 : Nat) : Int) xr8 (vl (s.1 pf)) 2 128 (vl (s1.1 pf)) := fw_step (N := 1) (h := 128) (fun b hb => xr8_2 (k := 1 + b) (by omega) (by omega)) (fun b hb => xr8_3 (k := 1 + b) (by omega) (by omega)) (fw_start (q := ((8380417 : Nat) : Int)) (x := xr8) (f := vl (s.1 pf)) (m := 256)) (fun b t hb ht => by rw [← zq8_0_e]; exact c1 b t (Nat.zero_le _) (by omega) ht)
  obtain ⟨s2, e2, o2, r2, c2, -⟩ := ly8_1 s1 r1
  have f2 : fwI ((8380417 : Nat) : Int) xr8 (vl (s.1 pf)) 4 64 (vl (s2.1 pf)) := fw_step (N := 2) (h := 64) (fun b hb => xr8_2 (k := 2 + b) (by omega) (by omega)) (fun b hb => xr8_3 (k := 2 + b) (by omega) (by omega)) f1 (fun b t hb ht => by rw [← zq8_1_e]; exact c2 b t (Nat.zero_le _) (by omega) ht)
  obtain ⟨s3, e3, o3, r3, c3, -⟩ := ly8_2 s2 r2
  have f3 : fwI ((8380417 : Nat) : Int) xr8 (vl (s.1 pf)) 8 32 (vl (s3.1 pf)) := fw_step (N := 4) (h := 32) (fun b hb => xr8_2 (k := 4 + b) (by omega) (by omega)) (fun b hb => xr8_3 (k := 4 + b) (by omega) (by omega)) f2 (fun b t hb ht => by rw [← zq8_2_e]; exact c3 b t (Nat.zero_le _) (by omega) ht)
  obtain ⟨s4, e4, o4, r4, c4, -⟩ := ly8_3 s3 r3
  have f4 : fwI ((8380417 : Nat) : Int) xr8 (vl (s.1 pf)) 16 16 (vl (s4.1 pf)) := fw_step (N := 8) (h := 16) (fun b hb => xr8_2 (k := 8 + b) (by omega) (by omega)) (fun b hb => xr8_3 (k := 8 + b) (by omega) (by omega)) f3 (fun b t hb ht => by rw [← zq8_3_e]; exact c4 b t (Nat.zero_le _) (by omega) ht)
  obtain ⟨s5, e5, o5, r5, c5, -⟩ := ly8_4 s4 r4
  have f5 : fwI ((8380417 : Nat) : Int) xr8 (vl (s.1 pf)) 32 8 (vl (s5.1 pf)) := fw_step (N := 16) (h := 8) (fun b hb => xr8_2 (k := 16 + b) (by omega) (by omega)) (fun b hb => xr8_3 (k := 16 + b) (by omega) (by omega)) f4 (fun b t hb ht => by rw [← zq8_4_e]; exact c5 b t (Nat.zero_le _) (by omega) ht)
  obtain ⟨s6, e6, o6, r6, c6, -⟩ := ly8_5 s5 r5
  have f6 : fwI ((8380417 : Nat) : Int) xr8 (vl (s.1 pf)) 64 4 (vl (s6.1 pf)) := fw_step (N := 32) (h := 4) (fun b hb => xr8_2 (k := 32 + b) (by omega) (by omega)) (fun b hb => xr8_3 (k := 32 + b) (by omega) (by omega)) f5 (fun b t hb ht => by rw [← zq8_5_e]; exact c6 b t (Nat.zero_le _) (by omega) ht)
  obtain ⟨s7, e7, o7, r7, c7, -⟩ := ly8_6 s6 r6
  have f7 : fwI ((8380417 : Nat) : Int) xr8 (vl (s.1 pf)) 128 2 (vl (s7.1 pf)) := fw_step (N := 64) (h := 2) (fun b hb => xr8_2 (k := 64 + b) (by omega) (by omega)) (fun b hb => xr8_3 (k := 64 + b) (by omega) (by omega)) f6 (fun b t hb ht => by rw [← zq8_6_e]; exact c7 b t (Nat.zero_le _) (by omega) ht)
  obtain ⟨s8, e8, o8, r8, c8, -⟩ := ly8_7 s7 r7
  have f8 : fwI ((8380417 : Nat) : Int) xr8 (vl (s.1 pf)) 256 1 (vl (s8.1 pf)) := fw_step (N := 128) (h := 1) (fun b hb => xr8_2 (k := 128 + b) (by omega) (by omega)) (fun b hb => xr8_3 (k := 128 + b) (by omega) (by omega)) f7 (fun b t hb ht => by rw [← zq8_7_e]; exact c8 b t (Nat.zero_le _) (by omega) ht)
  have e : F_RG_transform_8 pf s = s8 := (((((((e1).trans e2).trans e3).trans e4).trans e5).trans e6).trans e7).trans e8
  rw [e]
  exact ⟨(onl_tr (onl_tr (onl_tr (onl_tr (onl_tr (onl_tr (onl_tr o1 o2) o3) o4) o5) o6) o7) o8), r8, f8⟩
