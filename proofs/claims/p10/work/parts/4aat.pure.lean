set_option linter.all false
theorem ly_128 {q pf N : Nat} {G : Nat → Nat → Sto → Sto} {K : Sto → Sto} {SP : Nat → Sto → Sto} {zf : Nat → Int} (h0 : ∀ i s, G 0 i s = K s) (h1 : ∀ n i s, i < N → G (n + 1) i s = G n (i + 1) (SP i s)) (hs : ∀ i s, i < N → rdc q (s.1 pf) → spR q (zf i) 128 128 (256 * i) (s.1 pf) ((SP i s).1 pf) ∧ onl pf s (SP i s)) : ∀ (n i : Nat) (s : Sto), i + n ≤ N → rdc q (s.1 pf) → ∃ s' : Sto, G n i s = K s' ∧ onl pf s s' ∧ rdc q (s'.1 pf) ∧ (∀ b t, i ≤ b → b < i + n → t < 128 → cg (q : Int) (vl (s'.1 pf) (128 * (2 * b) + t)) (vl (s.1 pf) (2 * 128 * b + t) + zf b * vl (s.1 pf) (2 * 128 * b + (128 + t))) ∧ cg (q : Int) (vl (s'.1 pf) (128 * (2 * b + 1) + t)) (vl (s.1 pf) (2 * 128 * b + t) - zf b * vl (s.1 pf) (2 * 128 * b + (128 + t)))) ∧ ∀ k, (k < 256 * i ∨ 256 * (i + n) ≤ k) → s'.1 pf k = s.1 pf k
  | 0, i, s, _, hr => ⟨s, h0 i s, onl_rf, hr, fun b t h1 h2 => by omega, fun _ _ => rfl⟩
  | n + 1, i, s, hn, hr => by
    obtain ⟨⟨q1, q2, q3⟩, q4⟩ := hs i s (by omega) hr
    have hU := h1 n i s (by omega)
    generalize SP i s = s1 at q1 q2 q3 q4 hU
    obtain ⟨s', e, o, r, c, u⟩ := ly_128 h0 h1 hs n (i + 1) s1 (by omega) q1
    refine ⟨s', hU.trans e, onl_tr q4 o, r, fun b t h1 h2 h3 => ?_, fun k hk => ?_⟩
    · by_cases w : b = i
      · subst w
        have h9 := q2 (256 * b + t) (by omega) (by omega)
        rw [show 128 * (2 * b) + t = 256 * b + t by omega, show 128 * (2 * b + 1) + t = 256 * b + t + 128 by omega, show 2 * 128 * b + (128 + t) = 256 * b + t + 128 by omega, show 2 * 128 * b + t = 256 * b + t by omega, vl_c (u (256 * b + t) (by omega)), vl_c (u (256 * b + t + 128) (by omega))]
        exact h9
      · have h9 := c b t (by omega) (by omega) h3
        rw [vl_c (q3 (2 * 128 * b + t) (by omega) (by omega)), vl_c (q3 (2 * 128 * b + (128 + t)) (by omega) (by omega))] at h9
        exact h9
    · rw [u k (by omega), q3 k (by omega) (by omega)]
theorem ly_64 {q pf N : Nat} {G : Nat → Nat → Sto → Sto} {K : Sto → Sto} {SP : Nat → Sto → Sto} {zf : Nat → Int} (h0 : ∀ i s, G 0 i s = K s) (h1 : ∀ n i s, i < N → G (n + 1) i s = G n (i + 1) (SP i s)) (hs : ∀ i s, i < N → rdc q (s.1 pf) → spR q (zf i) 64 64 (128 * i) (s.1 pf) ((SP i s).1 pf) ∧ onl pf s (SP i s)) : ∀ (n i : Nat) (s : Sto), i + n ≤ N → rdc q (s.1 pf) → ∃ s' : Sto, G n i s = K s' ∧ onl pf s s' ∧ rdc q (s'.1 pf) ∧ (∀ b t, i ≤ b → b < i + n → t < 64 → cg (q : Int) (vl (s'.1 pf) (64 * (2 * b) + t)) (vl (s.1 pf) (2 * 64 * b + t) + zf b * vl (s.1 pf) (2 * 64 * b + (64 + t))) ∧ cg (q : Int) (vl (s'.1 pf) (64 * (2 * b + 1) + t)) (vl (s.1 pf) (2 * 64 * b + t) - zf b * vl (s.1 pf) (2 * 64 * b + (64 + t)))) ∧ ∀ k, (k < 128 * i ∨ 128 * (i + n) ≤ k) → s'.1 pf k = s.1 pf k
  | 0, i, s, _, hr => ⟨s, h0 i s, onl_rf, hr, fun b t h1 h2 => by omega, fun _ _ => rfl⟩
  | n + 1, i, s, hn, hr => by
    obtain ⟨⟨q1, q2, q3⟩, q4⟩ := hs i s (by omega) hr
    have hU := h1 n i s (by omega)
    generalize SP i s = s1 at q1 q2 q3 q4 hU
    obtain ⟨s', e, o, r, c, u⟩ := ly_64 h0 h1 hs n (i + 1) s1 (by omega) q1
    refine ⟨s', hU.trans e, onl_tr q4 o, r, fun b t h1 h2 h3 => ?_, fun k hk => ?_⟩
    · by_cases w : b = i
      · subst w
        have h9 := q2 (128 * b + t) (by omega) (by omega)
        rw [show 64 * (2 * b) + t = 128 * b + t by omega, show 64 * (2 * b + 1) + t = 128 * b + t + 64 by omega, show 2 * 64 * b + (64 + t) = 128 * b + t + 64 by omega, show 2 * 64 * b + t = 128 * b + t by omega, vl_c (u (128 * b + t) (by omega)), vl_c (u (128 * b + t + 64) (by omega))]
        exact h9
      · have h9 := c b t (by omega) (by omega) h3
        rw [vl_c (q3 (2 * 64 * b + t) (by omega) (by omega)), vl_c (q3 (2 * 64 * b + (64 + t)) (by omega) (by omega))] at h9
        exact h9
    · rw [u k (by omega), q3 k (by omega) (by omega)]
theorem ly_32 {q pf N : Nat} {G : Nat → Nat → Sto → Sto} {K : Sto → Sto} {SP : Nat → Sto → Sto} {zf : Nat → Int} (h0 : ∀ i s, G 0 i s = K s) (h1 : ∀ n i s, i < N → G (n + 1) i s = G n (i + 1) (SP i s)) (hs : ∀ i s, i < N → rdc q (s.1 pf) → spR q (zf i) 32 32 (64 * i) (s.1 pf) ((SP i s).1 pf) ∧ onl pf s (SP i s)) : ∀ (n i : Nat) (s : Sto), i + n ≤ N → rdc q (s.1 pf) → ∃ s' : Sto, G n i s = K s' ∧ onl pf s s' ∧ rdc q (s'.1 pf) ∧ (∀ b t, i ≤ b → b < i + n → t < 32 → cg (q : Int) (vl (s'.1 pf) (32 * (2 * b) + t)) (vl (s.1 pf) (2 * 32 * b + t) + zf b * vl (s.1 pf) (2 * 32 * b + (32 + t))) ∧ cg (q : Int) (vl (s'.1 pf) (32 * (2 * b + 1) + t)) (vl (s.1 pf) (2 * 32 * b + t) - zf b * vl (s.1 pf) (2 * 32 * b + (32 + t)))) ∧ ∀ k, (k < 64 * i ∨ 64 * (i + n) ≤ k) → s'.1 pf k = s.1 pf k
  | 0, i, s, _, hr => ⟨s, h0 i s, onl_rf, hr, fun b t h1 h2 => by omega, fun _ _ => rfl⟩
  | n + 1, i, s, hn, hr => by
    obtain ⟨⟨q1, q2, q3⟩, q4⟩ := hs i s (by omega) hr
    have hU := h1 n i s (by omega)
    generalize SP i s = s1 at q1 q2 q3 q4 hU
    obtain ⟨s', e, o, r, c, u⟩ := ly_32 h0 h1 hs n (i + 1) s1 (by omega) q1
    refine ⟨s', hU.trans e, onl_tr q4 o, r, fun b t h1 h2 h3 => ?_, fun k hk => ?_⟩
    · by_cases w : b = i
      · subst w
        have h9 := q2 (64 * b + t) (by omega) (by omega)
        rw [show 32 * (2 * b) + t = 64 * b + t by omega, show 32 * (2 * b + 1) + t = 64 * b + t + 32 by omega, show 2 * 32 * b + (32 + t) = 64 * b + t + 32 by omega, show 2 * 32 * b + t = 64 * b + t by omega, vl_c (u (64 * b + t) (by omega)), vl_c (u (64 * b + t + 32) (by omega))]
        exact h9
      · have h9 := c b t (by omega) (by omega) h3
        rw [vl_c (q3 (2 * 32 * b + t) (by omega) (by omega)), vl_c (q3 (2 * 32 * b + (32 + t)) (by omega) (by omega))] at h9
        exact h9
    · rw [u k (by omega), q3 k (by omega) (by omega)]
theorem ly_16 {q pf N : Nat} {G : Nat → Nat → Sto → Sto} {K : Sto → Sto} {SP : Nat → Sto → Sto} {zf : Nat → Int} (h0 : ∀ i s, G 0 i s = K s) (h1 : ∀ n i s, i < N → G (n + 1) i s = G n (i + 1) (SP i s)) (hs : ∀ i s, i < N → rdc q (s.1 pf) → spR q (zf i) 16 16 (32 * i) (s.1 pf) ((SP i s).1 pf) ∧ onl pf s (SP i s)) : ∀ (n i : Nat) (s : Sto), i + n ≤ N → rdc q (s.1 pf) → ∃ s' : Sto, G n i s = K s' ∧ onl pf s s' ∧ rdc q (s'.1 pf) ∧ (∀ b t, i ≤ b → b < i + n → t < 16 → cg (q : Int) (vl (s'.1 pf) (16 * (2 * b) + t)) (vl (s.1 pf) (2 * 16 * b + t) + zf b * vl (s.1 pf) (2 * 16 * b + (16 + t))) ∧ cg (q : Int) (vl (s'.1 pf) (16 * (2 * b + 1) + t)) (vl (s.1 pf) (2 * 16 * b + t) - zf b * vl (s.1 pf) (2 * 16 * b + (16 + t)))) ∧ ∀ k, (k < 32 * i ∨ 32 * (i + n) ≤ k) → s'.1 pf k = s.1 pf k
  | 0, i, s, _, hr => ⟨s, h0 i s, onl_rf, hr, fun b t h1 h2 => by omega, fun _ _ => rfl⟩
  | n + 1, i, s, hn, hr => by
    obtain ⟨⟨q1, q2, q3⟩, q4⟩ := hs i s (by omega) hr
    have hU := h1 n i s (by omega)
    generalize SP i s = s1 at q1 q2 q3 q4 hU
    obtain ⟨s', e, o, r, c, u⟩ := ly_16 h0 h1 hs n (i + 1) s1 (by omega) q1
    refine ⟨s', hU.trans e, onl_tr q4 o, r, fun b t h1 h2 h3 => ?_, fun k hk => ?_⟩
    · by_cases w : b = i
      · subst w
        have h9 := q2 (32 * b + t) (by omega) (by omega)
        rw [show 16 * (2 * b) + t = 32 * b + t by omega, show 16 * (2 * b + 1) + t = 32 * b + t + 16 by omega, show 2 * 16 * b + (16 + t) = 32 * b + t + 16 by omega, show 2 * 16 * b + t = 32 * b + t by omega, vl_c (u (32 * b + t) (by omega)), vl_c (u (32 * b + t + 16) (by omega))]
        exact h9
      · have h9 := c b t (by omega) (by omega) h3
        rw [vl_c (q3 (2 * 16 * b + t) (by omega) (by omega)), vl_c (q3 (2 * 16 * b + (16 + t)) (by omega) (by omega))] at h9
        exact h9
    · rw [u k (by omega), q3 k (by omega) (by omega)]
theorem ly_8 {q pf N : Nat} {G : Nat → Nat → Sto → Sto} {K : Sto → Sto} {SP : Nat → Sto → Sto} {zf : Nat → Int} (h0 : ∀ i s, G 0 i s = K s) (h1 : ∀ n i s, i < N → G (n + 1) i s = G n (i + 1) (SP i s)) (hs : ∀ i s, i < N → rdc q (s.1 pf) → spR q (zf i) 8 8 (16 * i) (s.1 pf) ((SP i s).1 pf) ∧ onl pf s (SP i s)) : ∀ (n i : Nat) (s : Sto), i + n ≤ N → rdc q (s.1 pf) → ∃ s' : Sto, G n i s = K s' ∧ onl pf s s' ∧ rdc q (s'.1 pf) ∧ (∀ b t, i ≤ b → b < i + n → t < 8 → cg (q : Int) (vl (s'.1 pf) (8 * (2 * b) + t)) (vl (s.1 pf) (2 * 8 * b + t) + zf b * vl (s.1 pf) (2 * 8 * b + (8 + t))) ∧ cg (q : Int) (vl (s'.1 pf) (8 * (2 * b + 1) + t)) (vl (s.1 pf) (2 * 8 * b + t) - zf b * vl (s.1 pf) (2 * 8 * b + (8 + t)))) ∧ ∀ k, (k < 16 * i ∨ 16 * (i + n) ≤ k) → s'.1 pf k = s.1 pf k
  | 0, i, s, _, hr => ⟨s, h0 i s, onl_rf, hr, fun b t h1 h2 => by omega, fun _ _ => rfl⟩
  | n + 1, i, s, hn, hr => by
    obtain ⟨⟨q1, q2, q3⟩, q4⟩ := hs i s (by omega) hr
    have hU := h1 n i s (by omega)
    generalize SP i s = s1 at q1 q2 q3 q4 hU
    obtain ⟨s', e, o, r, c, u⟩ := ly_8 h0 h1 hs n (i + 1) s1 (by omega) q1
    refine ⟨s', hU.trans e, onl_tr q4 o, r, fun b t h1 h2 h3 => ?_, fun k hk => ?_⟩
    · by_cases w : b = i
      · subst w
        have h9 := q2 (16 * b + t) (by omega) (by omega)
        rw [show 8 * (2 * b) + t = 16 * b + t by omega, show 8 * (2 * b + 1) + t = 16 * b + t + 8 by omega, show 2 * 8 * b + (8 + t) = 16 * b + t + 8 by omega, show 2 * 8 * b + t = 16 * b + t by omega, vl_c (u (16 * b + t) (by omega)), vl_c (u (16 * b + t + 8) (by omega))]
        exact h9
      · have h9 := c b t (by omega) (by omega) h3
        rw [vl_c (q3 (2 * 8 * b + t) (by omega) (by omega)), vl_c (q3 (2 * 8 * b + (8 + t)) (by omega) (by omega))] at h9
        exact h9
    · rw [u k (by omega), q3 k (by omega) (by omega)]
theorem ly_4 {q pf N : Nat} {G : Nat → Nat → Sto → Sto} {K : Sto → Sto} {SP : Nat → Sto → Sto} {zf : Nat → Int} (h0 : ∀ i s, G 0 i s = K s) (h1 : ∀ n i s, i < N → G (n + 1) i s = G n (i + 1) (SP i s)) (hs : ∀ i s, i < N → rdc q (s.1 pf) → spR q (zf i) 4 4 (8 * i) (s.1 pf) ((SP i s).1 pf) ∧ onl pf s (SP i s)) : ∀ (n i : Nat) (s : Sto), i + n ≤ N → rdc q (s.1 pf) → ∃ s' : Sto, G n i s = K s' ∧ onl pf s s' ∧ rdc q (s'.1 pf) ∧ (∀ b t, i ≤ b → b < i + n → t < 4 → cg (q : Int) (vl (s'.1 pf) (4 * (2 * b) + t)) (vl (s.1 pf) (2 * 4 * b + t) + zf b * vl (s.1 pf) (2 * 4 * b + (4 + t))) ∧ cg (q : Int) (vl (s'.1 pf) (4 * (2 * b + 1) + t)) (vl (s.1 pf) (2 * 4 * b + t) - zf b * vl (s.1 pf) (2 * 4 * b + (4 + t)))) ∧ ∀ k, (k < 8 * i ∨ 8 * (i + n) ≤ k) → s'.1 pf k = s.1 pf k
  | 0, i, s, _, hr => ⟨s, h0 i s, onl_rf, hr, fun b t h1 h2 => by omega, fun _ _ => rfl⟩
  | n + 1, i, s, hn, hr => by
    obtain ⟨⟨q1, q2, q3⟩, q4⟩ := hs i s (by omega) hr
    have hU := h1 n i s (by omega)
    generalize SP i s = s1 at q1 q2 q3 q4 hU
    obtain ⟨s', e, o, r, c, u⟩ := ly_4 h0 h1 hs n (i + 1) s1 (by omega) q1
    refine ⟨s', hU.trans e, onl_tr q4 o, r, fun b t h1 h2 h3 => ?_, fun k hk => ?_⟩
    · by_cases w : b = i
      · subst w
        have h9 := q2 (8 * b + t) (by omega) (by omega)
        rw [show 4 * (2 * b) + t = 8 * b + t by omega, show 4 * (2 * b + 1) + t = 8 * b + t + 4 by omega, show 2 * 4 * b + (4 + t) = 8 * b + t + 4 by omega, show 2 * 4 * b + t = 8 * b + t by omega, vl_c (u (8 * b + t) (by omega)), vl_c (u (8 * b + t + 4) (by omega))]
        exact h9
      · have h9 := c b t (by omega) (by omega) h3
        rw [vl_c (q3 (2 * 4 * b + t) (by omega) (by omega)), vl_c (q3 (2 * 4 * b + (4 + t)) (by omega) (by omega))] at h9
        exact h9
    · rw [u k (by omega), q3 k (by omega) (by omega)]
theorem ly_2 {q pf N : Nat} {G : Nat → Nat → Sto → Sto} {K : Sto → Sto} {SP : Nat → Sto → Sto} {zf : Nat → Int} (h0 : ∀ i s, G 0 i s = K s) (h1 : ∀ n i s, i < N → G (n + 1) i s = G n (i + 1) (SP i s)) (hs : ∀ i s, i < N → rdc q (s.1 pf) → spR q (zf i) 2 2 (4 * i) (s.1 pf) ((SP i s).1 pf) ∧ onl pf s (SP i s)) : ∀ (n i : Nat) (s : Sto), i + n ≤ N → rdc q (s.1 pf) → ∃ s' : Sto, G n i s = K s' ∧ onl pf s s' ∧ rdc q (s'.1 pf) ∧ (∀ b t, i ≤ b → b < i + n → t < 2 → cg (q : Int) (vl (s'.1 pf) (2 * (2 * b) + t)) (vl (s.1 pf) (2 * 2 * b + t) + zf b * vl (s.1 pf) (2 * 2 * b + (2 + t))) ∧ cg (q : Int) (vl (s'.1 pf) (2 * (2 * b + 1) + t)) (vl (s.1 pf) (2 * 2 * b + t) - zf b * vl (s.1 pf) (2 * 2 * b + (2 + t)))) ∧ ∀ k, (k < 4 * i ∨ 4 * (i + n) ≤ k) → s'.1 pf k = s.1 pf k
  | 0, i, s, _, hr => ⟨s, h0 i s, onl_rf, hr, fun b t h1 h2 => by omega, fun _ _ => rfl⟩
  | n + 1, i, s, hn, hr => by
    obtain ⟨⟨q1, q2, q3⟩, q4⟩ := hs i s (by omega) hr
    have hU := h1 n i s (by omega)
    generalize SP i s = s1 at q1 q2 q3 q4 hU
    obtain ⟨s', e, o, r, c, u⟩ := ly_2 h0 h1 hs n (i + 1) s1 (by omega) q1
    refine ⟨s', hU.trans e, onl_tr q4 o, r, fun b t h1 h2 h3 => ?_, fun k hk => ?_⟩
    · by_cases w : b = i
      · subst w
        have h9 := q2 (4 * b + t) (by omega) (by omega)
        rw [show 2 * (2 * b) + t = 4 * b + t by omega, show 2 * (2 * b + 1) + t = 4 * b + t + 2 by omega, show 2 * 2 * b + (2 + t) = 4 * b + t + 2 by omega, show 2 * 2 * b + t = 4 * b + t by omega, vl_c (u (4 * b + t) (by omega)), vl_c (u (4 * b + t + 2) (by omega))]
        exact h9
      · have h9 := c b t (by omega) (by omega) h3
        rw [vl_c (q3 (2 * 2 * b + t) (by omega) (by omega)), vl_c (q3 (2 * 2 * b + (2 + t)) (by omega) (by omega))] at h9
        exact h9
    · rw [u k (by omega), q3 k (by omega) (by omega)]
theorem ly_1 {q pf N : Nat} {G : Nat → Nat → Sto → Sto} {K : Sto → Sto} {SP : Nat → Sto → Sto} {zf : Nat → Int} (h0 : ∀ i s, G 0 i s = K s) (h1 : ∀ n i s, i < N → G (n + 1) i s = G n (i + 1) (SP i s)) (hs : ∀ i s, i < N → rdc q (s.1 pf) → spR q (zf i) 1 1 (2 * i) (s.1 pf) ((SP i s).1 pf) ∧ onl pf s (SP i s)) : ∀ (n i : Nat) (s : Sto), i + n ≤ N → rdc q (s.1 pf) → ∃ s' : Sto, G n i s = K s' ∧ onl pf s s' ∧ rdc q (s'.1 pf) ∧ (∀ b t, i ≤ b → b < i + n → t < 1 → cg (q : Int) (vl (s'.1 pf) (1 * (2 * b) + t)) (vl (s.1 pf) (2 * 1 * b + t) + zf b * vl (s.1 pf) (2 * 1 * b + (1 + t))) ∧ cg (q : Int) (vl (s'.1 pf) (1 * (2 * b + 1) + t)) (vl (s.1 pf) (2 * 1 * b + t) - zf b * vl (s.1 pf) (2 * 1 * b + (1 + t)))) ∧ ∀ k, (k < 2 * i ∨ 2 * (i + n) ≤ k) → s'.1 pf k = s.1 pf k
  | 0, i, s, _, hr => ⟨s, h0 i s, onl_rf, hr, fun b t h1 h2 => by omega, fun _ _ => rfl⟩
  | n + 1, i, s, hn, hr => by
    obtain ⟨⟨q1, q2, q3⟩, q4⟩ := hs i s (by omega) hr
    have hU := h1 n i s (by omega)
    generalize SP i s = s1 at q1 q2 q3 q4 hU
    obtain ⟨s', e, o, r, c, u⟩ := ly_1 h0 h1 hs n (i + 1) s1 (by omega) q1
    refine ⟨s', hU.trans e, onl_tr q4 o, r, fun b t h1 h2 h3 => ?_, fun k hk => ?_⟩
    · by_cases w : b = i
      · subst w
        have h9 := q2 (2 * b + t) (by omega) (by omega)
        rw [show 1 * (2 * b) + t = 2 * b + t by omega, show 1 * (2 * b + 1) + t = 2 * b + t + 1 by omega, show 2 * 1 * b + (1 + t) = 2 * b + t + 1 by omega, show 2 * 1 * b + t = 2 * b + t by omega, vl_c (u (2 * b + t) (by omega)), vl_c (u (2 * b + t + 1) (by omega))]
        exact h9
      · have h9 := c b t (by omega) (by omega) h3
        rw [vl_c (q3 (2 * 1 * b + t) (by omega) (by omega)), vl_c (q3 (2 * 1 * b + (1 + t)) (by omega) (by omega))] at h9
        exact h9
    · rw [u k (by omega), q3 k (by omega) (by omega)]
theorem ct1_lq : ∀ k, k < 128 → ct1.getD k 0 < 3329 := by decide +kernel
/-- the tree of roots, forth: the node k has the sons 2k and 2k + 1 -/
def xn7 (k : Nat) : Nat := if k ≤ 1 then 3329 - 1 else if k % 2 = 0 then ct1.getD (k / 2) 0 else 3329 - ct1.getD (k / 2) 0
theorem xn7_e {k : Nat} (h : 1 ≤ k) : xn7 (2 * k) = ct1.getD k 0 := by
  unfold xn7
  rw [if_neg (by omega), if_pos (by omega), Nat.mul_div_cancel_left k (by decide)]
theorem xn7_o {k : Nat} (h : 1 ≤ k) : xn7 (2 * k + 1) = 3329 - ct1.getD k 0 := by
  unfold xn7
  rw [if_neg (by omega), if_neg (by omega), show (2 * k + 1) / 2 = k by omega]
theorem xn7_sq : ∀ k, k < 128 → 1 ≤ k → (ct1.getD k 0 * ct1.getD k 0) % 3329 = xn7 k % 3329 := by decide +kernel
def xr7 (k : Nat) : Int := (xn7 k : Int)
theorem xr7_2 {k : Nat} (h : 1 ≤ k) (hk : k < 128) : cg ((3329 : Nat) : Int) (xr7 (2 * k) * xr7 (2 * k)) (xr7 k) := by
  unfold xr7
  rw [xn7_e h, ← Int.natCast_mul]
  exact cg_md (xn7_sq k hk h)
theorem xr7_3 {k : Nat} (h : 1 ≤ k) (hk : k < 128) : cg ((3329 : Nat) : Int) (xr7 (2 * k + 1)) (-(xr7 (2 * k))) := by
  unfold xr7
  rw [xn7_e h, xn7_o h]
  have := ct1_lq k hk
  exact ⟨1, by omega⟩
theorem ctI1_l {k : Nat} (hk : k < 128) : (ctI 1 k).toInt64 = lN (ct1.getD k 0) := by
  have := ct1_lq k hk
  exact nI_l (n := ct1.getD k 0) (by omega)
theorem ly7_0 {pf : Nat} (s : Sto) (hr : rdc 3329 (s.1 pf)) : ∃ s' : Sto, F_RG_transform_7_L0 pf 1 0 s = F_RG_transform_7_L1 pf 2 0 s' ∧ onl pf s s' ∧ rdc 3329 (s'.1 pf) ∧ (∀ b t, 0 ≤ b → b < 0 + 1 → t < 128 → cg ((3329 : Nat) : Int) (vl (s'.1 pf) (128 * (2 * b) + t)) (vl (s.1 pf) (2 * 128 * b + t) + xr7 (2 * (1 + b)) * vl (s.1 pf) (2 * 128 * b + (128 + t))) ∧ cg ((3329 : Nat) : Int) (vl (s'.1 pf) (128 * (2 * b + 1) + t)) (vl (s.1 pf) (2 * 128 * b + t) - xr7 (2 * (1 + b)) * vl (s.1 pf) (2 * 128 * b + (128 + t)))) ∧ ∀ k, (k < 256 * 0 ∨ 256 * (0 + 1) ≤ k) → s'.1 pf k = s.1 pf k :=
  ly_128 (q := 3329) (N := 1) (G := F_RG_transform_7_L0 pf) (K := fun s' => F_RG_transform_7_L1 pf 2 0 s') (SP := fun i s => F_RG_spread_7_L0 pf 128 (lN (ct1.getD (1 + i) 0)) 128 (256 * i) s) (zf := fun b => xr7 (2 * (1 + b))) (fun i s => by rw [F_RG_transform_7_L0]) (fun n i s hi => by rw [F_RG_transform_7_L0, bnd_eq, ctI1_l (by omega), F_RG_spread_7, Nat.add_sub_cancel_left]) (fun i s hi hr => by
    show spR 3329 (xr7 (2 * (1 + i))) _ _ _ _ _ ∧ _
    rw [show xr7 (2 * (1 + i)) = ((ct1.getD (1 + i) 0 : Nat) : Int) from congrArg Int.ofNat (xn7_e (by omega))]
    exact P_spread7 (ct1_lq _ (by omega)) (by decide) 128 (256 * i) s (Nat.le_refl _) (by omega) hr) 1 0 s (Nat.le_refl _) hr
theorem ly7_1 {pf : Nat} (s : Sto) (hr : rdc 3329 (s.1 pf)) : ∃ s' : Sto, F_RG_transform_7_L1 pf 2 0 s = F_RG_transform_7_L2 pf 4 0 s' ∧ onl pf s s' ∧ rdc 3329 (s'.1 pf) ∧ (∀ b t, 0 ≤ b → b < 0 + 2 → t < 64 → cg ((3329 : Nat) : Int) (vl (s'.1 pf) (64 * (2 * b) + t)) (vl (s.1 pf) (2 * 64 * b + t) + xr7 (2 * (2 + b)) * vl (s.1 pf) (2 * 64 * b + (64 + t))) ∧ cg ((3329 : Nat) : Int) (vl (s'.1 pf) (64 * (2 * b + 1) + t)) (vl (s.1 pf) (2 * 64 * b + t) - xr7 (2 * (2 + b)) * vl (s.1 pf) (2 * 64 * b + (64 + t)))) ∧ ∀ k, (k < 128 * 0 ∨ 128 * (0 + 2) ≤ k) → s'.1 pf k = s.1 pf k :=
  ly_64 (q := 3329) (N := 2) (G := F_RG_transform_7_L1 pf) (K := fun s' => F_RG_transform_7_L2 pf 4 0 s') (SP := fun i s => F_RG_spread_7_L0 pf 64 (lN (ct1.getD (2 + i) 0)) 64 (128 * i) s) (zf := fun b => xr7 (2 * (2 + b))) (fun i s => by rw [F_RG_transform_7_L1]) (fun n i s hi => by rw [F_RG_transform_7_L1, bnd_eq, ctI1_l (by omega), F_RG_spread_7, Nat.add_sub_cancel_left]) (fun i s hi hr => by
    show spR 3329 (xr7 (2 * (2 + i))) _ _ _ _ _ ∧ _
    rw [show xr7 (2 * (2 + i)) = ((ct1.getD (2 + i) 0 : Nat) : Int) from congrArg Int.ofNat (xn7_e (by omega))]
    exact P_spread7 (ct1_lq _ (by omega)) (by decide) 64 (128 * i) s (Nat.le_refl _) (by omega) hr) 2 0 s (Nat.le_refl _) hr
theorem ly7_2 {pf : Nat} (s : Sto) (hr : rdc 3329 (s.1 pf)) : ∃ s' : Sto, F_RG_transform_7_L2 pf 4 0 s = F_RG_transform_7_L3 pf 8 0 s' ∧ onl pf s s' ∧ rdc 3329 (s'.1 pf) ∧ (∀ b t, 0 ≤ b → b < 0 + 4 → t < 32 → cg ((3329 : Nat) : Int) (vl (s'.1 pf) (32 * (2 * b) + t)) (vl (s.1 pf) (2 * 32 * b + t) + xr7 (2 * (4 + b)) * vl (s.1 pf) (2 * 32 * b + (32 + t))) ∧ cg ((3329 : Nat) : Int) (vl (s'.1 pf) (32 * (2 * b + 1) + t)) (vl (s.1 pf) (2 * 32 * b + t) - xr7 (2 * (4 + b)) * vl (s.1 pf) (2 * 32 * b + (32 + t)))) ∧ ∀ k, (k < 64 * 0 ∨ 64 * (0 + 4) ≤ k) → s'.1 pf k = s.1 pf k :=
  ly_32 (q := 3329) (N := 4) (G := F_RG_transform_7_L2 pf) (K := fun s' => F_RG_transform_7_L3 pf 8 0 s') (SP := fun i s => F_RG_spread_7_L0 pf 32 (lN (ct1.getD (4 + i) 0)) 32 (64 * i) s) (zf := fun b => xr7 (2 * (4 + b))) (fun i s => by rw [F_RG_transform_7_L2]) (fun n i s hi => by rw [F_RG_transform_7_L2, bnd_eq, ctI1_l (by omega), F_RG_spread_7, Nat.add_sub_cancel_left]) (fun i s hi hr => by
    show spR 3329 (xr7 (2 * (4 + i))) _ _ _ _ _ ∧ _
    rw [show xr7 (2 * (4 + i)) = ((ct1.getD (4 + i) 0 : Nat) : Int) from congrArg Int.ofNat (xn7_e (by omega))]
    exact P_spread7 (ct1_lq _ (by omega)) (by decide) 32 (64 * i) s (Nat.le_refl _) (by omega) hr) 4 0 s (Nat.le_refl _) hr
theorem ly7_3 {pf : Nat} (s : Sto) (hr : rdc 3329 (s.1 pf)) : ∃ s' : Sto, F_RG_transform_7_L3 pf 8 0 s = F_RG_transform_7_L4 pf 16 0 s' ∧ onl pf s s' ∧ rdc 3329 (s'.1 pf) ∧ (∀ b t, 0 ≤ b → b < 0 + 8 → t < 16 → cg ((3329 : Nat) : Int) (vl (s'.1 pf) (16 * (2 * b) + t)) (vl (s.1 pf) (2 * 16 * b + t) + xr7 (2 * (8 + b)) * vl (s.1 pf) (2 * 16 * b + (16 + t))) ∧ cg ((3329 : Nat) : Int) (vl (s'.1 pf) (16 * (2 * b + 1) + t)) (vl (s.1 pf) (2 * 16 * b + t) - xr7 (2 * (8 + b)) * vl (s.1 pf) (2 * 16 * b + (16 + t)))) ∧ ∀ k, (k < 32 * 0 ∨ 32 * (0 + 8) ≤ k) → s'.1 pf k = s.1 pf k :=
  ly_16 (q := 3329) (N := 8) (G := F_RG_transform_7_L3 pf) (K := fun s' => F_RG_transform_7_L4 pf 16 0 s') (SP := fun i s => F_RG_spread_7_L0 pf 16 (lN (ct1.getD (8 + i) 0)) 16 (32 * i) s) (zf := fun b => xr7 (2 * (8 + b))) (fun i s => by rw [F_RG_transform_7_L3]) (fun n i s hi => by rw [F_RG_transform_7_L3, bnd_eq, ctI1_l (by omega), F_RG_spread_7, Nat.add_sub_cancel_left]) (fun i s hi hr => by
    show spR 3329 (xr7 (2 * (8 + i))) _ _ _ _ _ ∧ _
    rw [show xr7 (2 * (8 + i)) = ((ct1.getD (8 + i) 0 : Nat) : Int) from congrArg Int.ofNat (xn7_e (by omega))]
    exact P_spread7 (ct1_lq _ (by omega)) (by decide) 16 (32 * i) s (Nat.le_refl _) (by omega) hr) 8 0 s (Nat.le_refl _) hr
theorem ly7_4 {pf : Nat} (s : Sto) (hr : rdc 3329 (s.1 pf)) : ∃ s' : Sto, F_RG_transform_7_L4 pf 16 0 s = F_RG_transform_7_L5 pf 32 0 s' ∧ onl pf s s' ∧ rdc 3329 (s'.1 pf) ∧ (∀ b t, 0 ≤ b → b < 0 + 16 → t < 8 → cg ((3329 : Nat) : Int) (vl (s'.1 pf) (8 * (2 * b) + t)) (vl (s.1 pf) (2 * 8 * b + t) + xr7 (2 * (16 + b)) * vl (s.1 pf) (2 * 8 * b + (8 + t))) ∧ cg ((3329 : Nat) : Int) (vl (s'.1 pf) (8 * (2 * b + 1) + t)) (vl (s.1 pf) (2 * 8 * b + t) - xr7 (2 * (16 + b)) * vl (s.1 pf) (2 * 8 * b + (8 + t)))) ∧ ∀ k, (k < 16 * 0 ∨ 16 * (0 + 16) ≤ k) → s'.1 pf k = s.1 pf k :=
  ly_8 (q := 3329) (N := 16) (G := F_RG_transform_7_L4 pf) (K := fun s' => F_RG_transform_7_L5 pf 32 0 s') (SP := fun i s => F_RG_spread_7_L0 pf 8 (lN (ct1.getD (16 + i) 0)) 8 (16 * i) s) (zf := fun b => xr7 (2 * (16 + b))) (fun i s => by rw [F_RG_transform_7_L4]) (fun n i s hi => by rw [F_RG_transform_7_L4, bnd_eq, ctI1_l (by omega), F_RG_spread_7, Nat.add_sub_cancel_left]) (fun i s hi hr => by
    show spR 3329 (xr7 (2 * (16 + i))) _ _ _ _ _ ∧ _
    rw [show xr7 (2 * (16 + i)) = ((ct1.getD (16 + i) 0 : Nat) : Int) from congrArg Int.ofNat (xn7_e (by omega))]
    exact P_spread7 (ct1_lq _ (by omega)) (by decide) 8 (16 * i) s (Nat.le_refl _) (by omega) hr) 16 0 s (Nat.le_refl _) hr
theorem ly7_5 {pf : Nat} (s : Sto) (hr : rdc 3329 (s.1 pf)) : ∃ s' : Sto, F_RG_transform_7_L5 pf 32 0 s = F_RG_transform_7_L6 pf 64 0 s' ∧ onl pf s s' ∧ rdc 3329 (s'.1 pf) ∧ (∀ b t, 0 ≤ b → b < 0 + 32 → t < 4 → cg ((3329 : Nat) : Int) (vl (s'.1 pf) (4 * (2 * b) + t)) (vl (s.1 pf) (2 * 4 * b + t) + xr7 (2 * (32 + b)) * vl (s.1 pf) (2 * 4 * b + (4 + t))) ∧ cg ((3329 : Nat) : Int) (vl (s'.1 pf) (4 * (2 * b + 1) + t)) (vl (s.1 pf) (2 * 4 * b + t) - xr7 (2 * (32 + b)) * vl (s.1 pf) (2 * 4 * b + (4 + t)))) ∧ ∀ k, (k < 8 * 0 ∨ 8 * (0 + 32) ≤ k) → s'.1 pf k = s.1 pf k :=
  ly_4 (q := 3329) (N := 32) (G := F_RG_transform_7_L5 pf) (K := fun s' => F_RG_transform_7_L6 pf 64 0 s') (SP := fun i s => F_RG_spread_7_L0 pf 4 (lN (ct1.getD (32 + i) 0)) 4 (8 * i) s) (zf := fun b => xr7 (2 * (32 + b))) (fun i s => by rw [F_RG_transform_7_L5]) (fun n i s hi => by rw [F_RG_transform_7_L5, bnd_eq, ctI1_l (by omega), F_RG_spread_7, Nat.add_sub_cancel_left]) (fun i s hi hr => by
    show spR 3329 (xr7 (2 * (32 + i))) _ _ _ _ _ ∧ _
    rw [show xr7 (2 * (32 + i)) = ((ct1.getD (32 + i) 0 : Nat) : Int) from congrArg Int.ofNat (xn7_e (by omega))]
    exact P_spread7 (ct1_lq _ (by omega)) (by decide) 4 (8 * i) s (Nat.le_refl _) (by omega) hr) 32 0 s (Nat.le_refl _) hr
theorem ly7_6 {pf : Nat} (s : Sto) (hr : rdc 3329 (s.1 pf)) : ∃ s' : Sto, F_RG_transform_7_L6 pf 64 0 s = s' ∧ onl pf s s' ∧ rdc 3329 (s'.1 pf) ∧ (∀ b t, 0 ≤ b → b < 0 + 64 → t < 2 → cg ((3329 : Nat) : Int) (vl (s'.1 pf) (2 * (2 * b) + t)) (vl (s.1 pf) (2 * 2 * b + t) + xr7 (2 * (64 + b)) * vl (s.1 pf) (2 * 2 * b + (2 + t))) ∧ cg ((3329 : Nat) : Int) (vl (s'.1 pf) (2 * (2 * b + 1) + t)) (vl (s.1 pf) (2 * 2 * b + t) - xr7 (2 * (64 + b)) * vl (s.1 pf) (2 * 2 * b + (2 + t)))) ∧ ∀ k, (k < 4 * 0 ∨ 4 * (0 + 64) ≤ k) → s'.1 pf k = s.1 pf k :=
  ly_2 (q := 3329) (N := 64) (G := F_RG_transform_7_L6 pf) (K := fun s' => s') (SP := fun i s => F_RG_spread_7_L0 pf 2 (lN (ct1.getD (64 + i) 0)) 2 (4 * i) s) (zf := fun b => xr7 (2 * (64 + b))) (fun i s => by rw [F_RG_transform_7_L6]) (fun n i s hi => by rw [F_RG_transform_7_L6, bnd_eq, ctI1_l (by omega), F_RG_spread_7, Nat.add_sub_cancel_left]) (fun i s hi hr => by
    show spR 3329 (xr7 (2 * (64 + i))) _ _ _ _ _ ∧ _
    rw [show xr7 (2 * (64 + i)) = ((ct1.getD (64 + i) 0 : Nat) : Int) from congrArg Int.ofNat (xn7_e (by omega))]
    exact P_spread7 (ct1_lq _ (by omega)) (by decide) 2 (4 * i) s (Nat.le_refl _) (by omega) hr) 64 0 s (Nat.le_refl _) hr
/-- the whole transform of the program: every number is the polynomial's value at a leaf's root -/
theorem P_transform7 {pf : Nat} {s : Sto} (hr : rdc 3329 (s.1 pf)) : onl pf s (F_RG_transform_7 pf s) ∧ rdc 3329 ((F_RG_transform_7 pf s).1 pf) ∧ fwI ((3329 : Nat) : Int) xr7 (vl (s.1 pf)) 128 2 (vl ((F_RG_transform_7 pf s).1 pf)) := by
  obtain ⟨s1, e1, o1, r1, c1, -⟩ := ly7_0 s hr
  have f1 : fwI ((3329 : Nat) : Int) xr7 (vl (s.1 pf)) 2 128 (vl (s1.1 pf)) := fw_step (N := 1) (h := 128) (fun b hb => xr7_2 (k := 1 + b) (by omega) (by omega)) (fun b hb => xr7_3 (k := 1 + b) (by omega) (by omega)) (fw_start (q := ((3329 : Nat) : Int)) (x := xr7) (f := vl (s.1 pf)) (m := 256)) (fun b t hb ht => c1 b t (Nat.zero_le _) (by omega) ht)
  obtain ⟨s2, e2, o2, r2, c2, -⟩ := ly7_1 s1 r1
  have f2 : fwI ((3329 : Nat) : Int) xr7 (vl (s.1 pf)) 4 64 (vl (s2.1 pf)) := fw_step (N := 2) (h := 64) (fun b hb => xr7_2 (k := 2 + b) (by omega) (by omega)) (fun b hb => xr7_3 (k := 2 + b) (by omega) (by omega)) f1 (fun b t hb ht => c2 b t (Nat.zero_le _) (by omega) ht)
  obtain ⟨s3, e3, o3, r3, c3, -⟩ := ly7_2 s2 r2
  have f3 : fwI ((3329 : Nat) : Int) xr7 (vl (s.1 pf)) 8 32 (vl (s3.1 pf)) := fw_step (N := 4) (h := 32) (fun b hb => xr7_2 (k := 4 + b) (by omega) (by omega)) (fun b hb => xr7_3 (k := 4 + b) (by omega) (by omega)) f2 (fun b t hb ht => c3 b t (Nat.zero_le _) (by omega) ht)
  obtain ⟨s4, e4, o4, r4, c4, -⟩ := ly7_3 s3 r3
  have f4 : fwI ((3329 : Nat) : Int) xr7 (vl (s.1 pf)) 16 16 (vl (s4.1 pf)) := fw_step (N := 8) (h := 16) (fun b hb => xr7_2 (k := 8 + b) (by omega) (by omega)) (fun b hb => xr7_3 (k := 8 + b) (by omega) (by omega)) f3 (fun b t hb ht => c4 b t (Nat.zero_le _) (by omega) ht)
  obtain ⟨s5, e5, o5, r5, c5, -⟩ := ly7_4 s4 r4
  have f5 : fwI ((3329 : Nat) : Int) xr7 (vl (s.1 pf)) 32 8 (vl (s5.1 pf)) := fw_step (N := 16) (h := 8) (fun b hb => xr7_2 (k := 16 + b) (by omega) (by omega)) (fun b hb => xr7_3 (k := 16 + b) (by omega) (by omega)) f4 (fun b t hb ht => c5 b t (Nat.zero_le _) (by omega) ht)
  obtain ⟨s6, e6, o6, r6, c6, -⟩ := ly7_5 s5 r5
  have f6 : fwI ((3329 : Nat) : Int) xr7 (vl (s.1 pf)) 64 4 (vl (s6.1 pf)) := fw_step (N := 32) (h := 4) (fun b hb => xr7_2 (k := 32 + b) (by omega) (by omega)) (fun b hb => xr7_3 (k := 32 + b) (by omega) (by omega)) f5 (fun b t hb ht => c6 b t (Nat.zero_le _) (by omega) ht)
  obtain ⟨s7, e7, o7, r7, c7, -⟩ := ly7_6 s6 r6
  have f7 : fwI ((3329 : Nat) : Int) xr7 (vl (s.1 pf)) 128 2 (vl (s7.1 pf)) := fw_step (N := 64) (h := 2) (fun b hb => xr7_2 (k := 64 + b) (by omega) (by omega)) (fun b hb => xr7_3 (k := 64 + b) (by omega) (by omega)) f6 (fun b t hb ht => c7 b t (Nat.zero_le _) (by omega) ht)
  have e : F_RG_transform_7 pf s = s7 := ((((((e1).trans e2).trans e3).trans e4).trans e5).trans e6).trans e7
  rw [e]
  exact ⟨(onl_tr (onl_tr (onl_tr (onl_tr (onl_tr (onl_tr o1 o2) o3) o4) o5) o6) o7), r7, f7⟩
