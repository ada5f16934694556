set_option linter.all false
theorem iv_1 {q c : Int} {a a1 b b1 y g : Nat → Int} (hyg : ∀ β, β < 128 → cg q (g β * y β) (-1)) (hs : ∀ β t, 0 ≤ β → β < 0 + 128 → t < 1 → cg q (a1 (1 * (2 * β) + t)) (a (2 * 1 * β + t) + y β * a (2 * 1 * β + (1 + t))) ∧ cg q (a1 (1 * (2 * β + 1) + t)) (a (2 * 1 * β + t) - y β * a (2 * 1 * β + (1 + t)))) (hg : ∀ β v e, 0 ≤ β → β < 0 + 128 → v < 1 → e < 1 → cg q (b1 (1 * (2 * 1 * β + v) + e)) (b (1 * (1 * (2 * β) + v) + e) + b (1 * (1 * (2 * β + 1) + v) + e)) ∧ cg q (b1 (1 * (2 * 1 * β + (1 + v)) + e)) (g β * (b (1 * (1 * (2 * β + 1) + v) + e) - b (1 * (1 * (2 * β) + v) + e)))) (hc : ∀ k, k < 256 → cg q (b k) (c * a1 k)) (k : Nat) (hk : k < 256) : cg q (b1 k) (2 * c * a k) := by
  have hb : k / 2 < 128 := by omega
  by_cases w : k % 2 < 1
  · obtain ⟨s1, s2⟩ := hs (k / 2) (k % 2) (Nat.zero_le _) (by omega) w
    have g1 := (hg (k / 2) (k % 2) 0 (Nat.zero_le _) (by omega) w (by decide)).1
    rw [show 1 * (2 * 1 * (k / 2) + k % 2) + 0 = k by omega, show 1 * (1 * (2 * (k / 2)) + k % 2) + 0 = 1 * (2 * (k / 2)) + k % 2 by omega, show 1 * (1 * (2 * (k / 2) + 1) + k % 2) + 0 = 1 * (2 * (k / 2) + 1) + k % 2 by omega] at g1
    have h1 := cg_tr (hc _ (by omega)) (cg_mull (c := c) s1)
    have h2 := cg_tr (hc _ (by omega)) (cg_mull (c := c) s2)
    refine cg_tr g1 (cg_tr (cg_add h1 h2) (cg_of ?_))
    rw [show 2 * 1 * (k / 2) + k % 2 = k by omega, Int.mul_add, Int.mul_sub, Int.mul_assoc 2]
    omega
  · obtain ⟨s1, s2⟩ := hs (k / 2) (k % 2 - 1) (Nat.zero_le _) (by omega) (by omega)
    have g1 := (hg (k / 2) (k % 2 - 1) 0 (Nat.zero_le _) (by omega) (by omega) (by decide)).2
    rw [show 1 * (2 * 1 * (k / 2) + (1 + (k % 2 - 1))) + 0 = k by omega, show 1 * (1 * (2 * (k / 2)) + (k % 2 - 1)) + 0 = 1 * (2 * (k / 2)) + (k % 2 - 1) by omega, show 1 * (1 * (2 * (k / 2) + 1) + (k % 2 - 1)) + 0 = 1 * (2 * (k / 2) + 1) + (k % 2 - 1) by omega] at g1
    have h1 := cg_tr (hc _ (by omega)) (cg_mull (c := c) s1)
    have h2 := cg_tr (hc _ (by omega)) (cg_mull (c := c) s2)
    rw [show 2 * 1 * (k / 2) + (1 + (k % 2 - 1)) = k by omega] at h1 h2
    refine cg_tr g1 (cg_tr (cg_mull (cg_sub h2 h1)) ?_)
    generalize a (2 * 1 * (k / 2) + (k % 2 - 1)) = A
    generalize a k = B
    have hy := hyg _ hb
    generalize y (k / 2) = Y at hy ⊢
    generalize g (k / 2) = G at hy ⊢
    have e : c * (A - Y * B) - c * (A + Y * B) = Y * (-(2 * (c * B))) := by
      rw [Int.mul_sub, Int.mul_add, Int.mul_left_comm c Y B, Int.mul_neg, Int.mul_left_comm Y 2]
      omega
    rw [e, ← Int.mul_assoc]
    refine cg_tr (cg_mulr hy) (cg_of ?_)
    rw [Int.neg_mul_neg, Int.one_mul, Int.mul_assoc]
theorem iv_2 {q c : Int} {a a1 b b1 y g : Nat → Int} (hyg : ∀ β, β < 64 → cg q (g β * y β) (-1)) (hs : ∀ β t, 0 ≤ β → β < 0 + 64 → t < 2 → cg q (a1 (2 * (2 * β) + t)) (a (2 * 2 * β + t) + y β * a (2 * 2 * β + (2 + t))) ∧ cg q (a1 (2 * (2 * β + 1) + t)) (a (2 * 2 * β + t) - y β * a (2 * 2 * β + (2 + t)))) (hg : ∀ β v e, 0 ≤ β → β < 0 + 64 → v < 2 → e < 1 → cg q (b1 (1 * (2 * 2 * β + v) + e)) (b (1 * (2 * (2 * β) + v) + e) + b (1 * (2 * (2 * β + 1) + v) + e)) ∧ cg q (b1 (1 * (2 * 2 * β + (2 + v)) + e)) (g β * (b (1 * (2 * (2 * β + 1) + v) + e) - b (1 * (2 * (2 * β) + v) + e)))) (hc : ∀ k, k < 256 → cg q (b k) (c * a1 k)) (k : Nat) (hk : k < 256) : cg q (b1 k) (2 * c * a k) := by
  have hb : k / 4 < 64 := by omega
  by_cases w : k % 4 < 2
  · obtain ⟨s1, s2⟩ := hs (k / 4) (k % 4) (Nat.zero_le _) (by omega) w
    have g1 := (hg (k / 4) (k % 4) 0 (Nat.zero_le _) (by omega) w (by decide)).1
    rw [show 1 * (2 * 2 * (k / 4) + k % 4) + 0 = k by omega, show 1 * (2 * (2 * (k / 4)) + k % 4) + 0 = 2 * (2 * (k / 4)) + k % 4 by omega, show 1 * (2 * (2 * (k / 4) + 1) + k % 4) + 0 = 2 * (2 * (k / 4) + 1) + k % 4 by omega] at g1
    have h1 := cg_tr (hc _ (by omega)) (cg_mull (c := c) s1)
    have h2 := cg_tr (hc _ (by omega)) (cg_mull (c := c) s2)
    refine cg_tr g1 (cg_tr (cg_add h1 h2) (cg_of ?_))
    rw [show 2 * 2 * (k / 4) + k % 4 = k by omega, Int.mul_add, Int.mul_sub, Int.mul_assoc 2]
    omega
  · obtain ⟨s1, s2⟩ := hs (k / 4) (k % 4 - 2) (Nat.zero_le _) (by omega) (by omega)
    have g1 := (hg (k / 4) (k % 4 - 2) 0 (Nat.zero_le _) (by omega) (by omega) (by decide)).2
    rw [show 1 * (2 * 2 * (k / 4) + (2 + (k % 4 - 2))) + 0 = k by omega, show 1 * (2 * (2 * (k / 4)) + (k % 4 - 2)) + 0 = 2 * (2 * (k / 4)) + (k % 4 - 2) by omega, show 1 * (2 * (2 * (k / 4) + 1) + (k % 4 - 2)) + 0 = 2 * (2 * (k / 4) + 1) + (k % 4 - 2) by omega] at g1
    have h1 := cg_tr (hc _ (by omega)) (cg_mull (c := c) s1)
    have h2 := cg_tr (hc _ (by omega)) (cg_mull (c := c) s2)
    rw [show 2 * 2 * (k / 4) + (2 + (k % 4 - 2)) = k by omega] at h1 h2
    refine cg_tr g1 (cg_tr (cg_mull (cg_sub h2 h1)) ?_)
    generalize a (2 * 2 * (k / 4) + (k % 4 - 2)) = A
    generalize a k = B
    have hy := hyg _ hb
    generalize y (k / 4) = Y at hy ⊢
    generalize g (k / 4) = G at hy ⊢
    have e : c * (A - Y * B) - c * (A + Y * B) = Y * (-(2 * (c * B))) := by
      rw [Int.mul_sub, Int.mul_add, Int.mul_left_comm c Y B, Int.mul_neg, Int.mul_left_comm Y 2]
      omega
    rw [e, ← Int.mul_assoc]
    refine cg_tr (cg_mulr hy) (cg_of ?_)
    rw [Int.neg_mul_neg, Int.one_mul, Int.mul_assoc]
theorem iv_4 {q c : Int} {a a1 b b1 y g : Nat → Int} (hyg : ∀ β, β < 32 → cg q (g β * y β) (-1)) (hs : ∀ β t, 0 ≤ β → β < 0 + 32 → t < 4 → cg q (a1 (4 * (2 * β) + t)) (a (2 * 4 * β + t) + y β * a (2 * 4 * β + (4 + t))) ∧ cg q (a1 (4 * (2 * β + 1) + t)) (a (2 * 4 * β + t) - y β * a (2 * 4 * β + (4 + t)))) (hg : ∀ β v e, 0 ≤ β → β < 0 + 32 → v < 4 → e < 1 → cg q (b1 (1 * (2 * 4 * β + v) + e)) (b (1 * (4 * (2 * β) + v) + e) + b (1 * (4 * (2 * β + 1) + v) + e)) ∧ cg q (b1 (1 * (2 * 4 * β + (4 + v)) + e)) (g β * (b (1 * (4 * (2 * β + 1) + v) + e) - b (1 * (4 * (2 * β) + v) + e)))) (hc : ∀ k, k < 256 → cg q (b k) (c * a1 k)) (k : Nat) (hk : k < 256) : cg q (b1 k) (2 * c * a k) := by
  have hb : k / 8 < 32 := by omega
  by_cases w : k % 8 < 4
  · obtain ⟨s1, s2⟩ := hs (k / 8) (k % 8) (Nat.zero_le _) (by omega) w
    have g1 := (hg (k / 8) (k % 8) 0 (Nat.zero_le _) (by omega) w (by decide)).1
    rw [show 1 * (2 * 4 * (k / 8) + k % 8) + 0 = k by omega, show 1 * (4 * (2 * (k / 8)) + k % 8) + 0 = 4 * (2 * (k / 8)) + k % 8 by omega, show 1 * (4 * (2 * (k / 8) + 1) + k % 8) + 0 = 4 * (2 * (k / 8) + 1) + k % 8 by omega] at g1
    have h1 := cg_tr (hc _ (by omega)) (cg_mull (c := c) s1)
    have h2 := cg_tr (hc _ (by omega)) (cg_mull (c := c) s2)
    refine cg_tr g1 (cg_tr (cg_add h1 h2) (cg_of ?_))
    rw [show 2 * 4 * (k / 8) + k % 8 = k by omega, Int.mul_add, Int.mul_sub, Int.mul_assoc 2]
    omega
  · obtain ⟨s1, s2⟩ := hs (k / 8) (k % 8 - 4) (Nat.zero_le _) (by omega) (by omega)
    have g1 := (hg (k / 8) (k % 8 - 4) 0 (Nat.zero_le _) (by omega) (by omega) (by decide)).2
    rw [show 1 * (2 * 4 * (k / 8) + (4 + (k % 8 - 4))) + 0 = k by omega, show 1 * (4 * (2 * (k / 8)) + (k % 8 - 4)) + 0 = 4 * (2 * (k / 8)) + (k % 8 - 4) by omega, show 1 * (4 * (2 * (k / 8) + 1) + (k % 8 - 4)) + 0 = 4 * (2 * (k / 8) + 1) + (k % 8 - 4) by omega] at g1
    have h1 := cg_tr (hc _ (by omega)) (cg_mull (c := c) s1)
    have h2 := cg_tr (hc _ (by omega)) (cg_mull (c := c) s2)
    rw [show 2 * 4 * (k / 8) + (4 + (k % 8 - 4)) = k by omega] at h1 h2
    refine cg_tr g1 (cg_tr (cg_mull (cg_sub h2 h1)) ?_)
    generalize a (2 * 4 * (k / 8) + (k % 8 - 4)) = A
    generalize a k = B
    have hy := hyg _ hb
    generalize y (k / 8) = Y at hy ⊢
    generalize g (k / 8) = G at hy ⊢
    have e : c * (A - Y * B) - c * (A + Y * B) = Y * (-(2 * (c * B))) := by
      rw [Int.mul_sub, Int.mul_add, Int.mul_left_comm c Y B, Int.mul_neg, Int.mul_left_comm Y 2]
      omega
    rw [e, ← Int.mul_assoc]
    refine cg_tr (cg_mulr hy) (cg_of ?_)
    rw [Int.neg_mul_neg, Int.one_mul, Int.mul_assoc]
theorem iv_8 {q c : Int} {a a1 b b1 y g : Nat → Int} (hyg : ∀ β, β < 16 → cg q (g β * y β) (-1)) (hs : ∀ β t, 0 ≤ β → β < 0 + 16 → t < 8 → cg q (a1 (8 * (2 * β) + t)) (a (2 * 8 * β + t) + y β * a (2 * 8 * β + (8 + t))) ∧ cg q (a1 (8 * (2 * β + 1) + t)) (a (2 * 8 * β + t) - y β * a (2 * 8 * β + (8 + t)))) (hg : ∀ β v e, 0 ≤ β → β < 0 + 16 → v < 8 → e < 1 → cg q (b1 (1 * (2 * 8 * β + v) + e)) (b (1 * (8 * (2 * β) + v) + e) + b (1 * (8 * (2 * β + 1) + v) + e)) ∧ cg q (b1 (1 * (2 * 8 * β + (8 + v)) + e)) (g β * (b (1 * (8 * (2 * β + 1) + v) + e) - b (1 * (8 * (2 * β) + v) + e)))) (hc : ∀ k, k < 256 → cg q (b k) (c * a1 k)) (k : Nat) (hk : k < 256) : cg q (b1 k) (2 * c * a k) := by
  have hb : k / 16 < 16 := by omega
  by_cases w : k % 16 < 8
  · obtain ⟨s1, s2⟩ := hs (k / 16) (k % 16) (Nat.zero_le _) (by omega) w
    have g1 := (hg (k / 16) (k % 16) 0 (Nat.zero_le _) (by omega) w (by decide)).1
    rw [show 1 * (2 * 8 * (k / 16) + k % 16) + 0 = k by omega, show 1 * (8 * (2 * (k / 16)) + k % 16) + 0 = 8 * (2 * (k / 16)) + k % 16 by omega, show 1 * (8 * (2 * (k / 16) + 1) + k % 16) + 0 = 8 * (2 * (k / 16) + 1) + k % 16 by omega] at g1
    have h1 := cg_tr (hc _ (by omega)) (cg_mull (c := c) s1)
    have h2 := cg_tr (hc _ (by omega)) (cg_mull (c := c) s2)
    refine cg_tr g1 (cg_tr (cg_add h1 h2) (cg_of ?_))
    rw [show 2 * 8 * (k / 16) + k % 16 = k by omega, Int.mul_add, Int.mul_sub, Int.mul_assoc 2]
    omega
  · obtain ⟨s1, s2⟩ := hs (k / 16) (k % 16 - 8) (Nat.zero_le _) (by omega) (by omega)
    have g1 := (hg (k / 16) (k % 16 - 8) 0 (Nat.zero_le _) (by omega) (by omega) (by decide)).2
    rw [show 1 * (2 * 8 * (k / 16) + (8 + (k % 16 - 8))) + 0 = k by omega, show 1 * (8 * (2 * (k / 16)) + (k % 16 - 8)) + 0 = 8 * (2 * (k / 16)) + (k % 16 - 8) by omega, show 1 * (8 * (2 * (k / 16) + 1) + (k % 16 - 8)) + 0 = 8 * (2 * (k / 16) + 1) + (k % 16 - 8) by omega] at g1
    have h1 := cg_tr (hc _ (by omega)) (cg_mull (c := c) s1)
    have h2 := cg_tr (hc _ (by omega)) (cg_mull (c := c) s2)
    rw [show 2 * 8 * (k / 16) + (8 + (k % 16 - 8)) = k by omega] at h1 h2
    refine cg_tr g1 (cg_tr (cg_mull (cg_sub h2 h1)) ?_)
    generalize a (2 * 8 * (k / 16) + (k % 16 - 8)) = A
    generalize a k = B
    have hy := hyg _ hb
    generalize y (k / 16) = Y at hy ⊢
    generalize g (k / 16) = G at hy ⊢
    have e : c * (A - Y * B) - c * (A + Y * B) = Y * (-(2 * (c * B))) := by
      rw [Int.mul_sub, Int.mul_add, Int.mul_left_comm c Y B, Int.mul_neg, Int.mul_left_comm Y 2]
      omega
    rw [e, ← Int.mul_assoc]
    refine cg_tr (cg_mulr hy) (cg_of ?_)
    rw [Int.neg_mul_neg, Int.one_mul, Int.mul_assoc]
theorem iv_16 {q c : Int} {a a1 b b1 y g : Nat → Int} (hyg : ∀ β, β < 8 → cg q (g β * y β) (-1)) (hs : ∀ β t, 0 ≤ β → β < 0 + 8 → t < 16 → cg q (a1 (16 * (2 * β) + t)) (a (2 * 16 * β + t) + y β * a (2 * 16 * β + (16 + t))) ∧ cg q (a1 (16 * (2 * β + 1) + t)) (a (2 * 16 * β + t) - y β * a (2 * 16 * β + (16 + t)))) (hg : ∀ β v e, 0 ≤ β → β < 0 + 8 → v < 16 → e < 1 → cg q (b1 (1 * (2 * 16 * β + v) + e)) (b (1 * (16 * (2 * β) + v) + e) + b (1 * (16 * (2 * β + 1) + v) + e)) ∧ cg q (b1 (1 * (2 * 16 * β + (16 + v)) + e)) (g β * (b (1 * (16 * (2 * β + 1) + v) + e) - b (1 * (16 * (2 * β) + v) + e)))) (hc : ∀ k, k < 256 → cg q (b k) (c * a1 k)) (k : Nat) (hk : k < 256) : cg q (b1 k) (2 * c * a k) := by
  have hb : k / 32 < 8 := by omega
  by_cases w : k % 32 < 16
  · obtain ⟨s1, s2⟩ := hs (k / 32) (k % 32) (Nat.zero_le _) (by omega) w
    have g1 := (hg (k / 32) (k % 32) 0 (Nat.zero_le _) (by omega) w (by decide)).1
    rw [show 1 * (2 * 16 * (k / 32) + k % 32) + 0 = k by omega, show 1 * (16 * (2 * (k / 32)) + k % 32) + 0 = 16 * (2 * (k / 32)) + k % 32 by omega, show 1 * (16 * (2 * (k / 32) + 1) + k % 32) + 0 = 16 * (2 * (k / 32) + 1) + k % 32 by omega] at g1
    have h1 := cg_tr (hc _ (by omega)) (cg_mull (c := c) s1)
    have h2 := cg_tr (hc _ (by omega)) (cg_mull (c := c) s2)
    refine cg_tr g1 (cg_tr (cg_add h1 h2) (cg_of ?_))
    rw [show 2 * 16 * (k / 32) + k % 32 = k by omega, Int.mul_add, Int.mul_sub, Int.mul_assoc 2]
    omega
  · obtain ⟨s1, s2⟩ := hs (k / 32) (k % 32 - 16) (Nat.zero_le _) (by omega) (by omega)
    have g1 := (hg (k / 32) (k % 32 - 16) 0 (Nat.zero_le _) (by omega) (by omega) (by decide)).2
    rw [show 1 * (2 * 16 * (k / 32) + (16 + (k % 32 - 16))) + 0 = k by omega, show 1 * (16 * (2 * (k / 32)) + (k % 32 - 16)) + 0 = 16 * (2 * (k / 32)) + (k % 32 - 16) by omega, show 1 * (16 * (2 * (k / 32) + 1) + (k % 32 - 16)) + 0 = 16 * (2 * (k / 32) + 1) + (k % 32 - 16) by omega] at g1
    have h1 := cg_tr (hc _ (by omega)) (cg_mull (c := c) s1)
    have h2 := cg_tr (hc _ (by omega)) (cg_mull (c := c) s2)
    rw [show 2 * 16 * (k / 32) + (16 + (k % 32 - 16)) = k by omega] at h1 h2
    refine cg_tr g1 (cg_tr (cg_mull (cg_sub h2 h1)) ?_)
    generalize a (2 * 16 * (k / 32) + (k % 32 - 16)) = A
    generalize a k = B
    have hy := hyg _ hb
    generalize y (k / 32) = Y at hy ⊢
    generalize g (k / 32) = G at hy ⊢
    have e : c * (A - Y * B) - c * (A + Y * B) = Y * (-(2 * (c * B))) := by
      rw [Int.mul_sub, Int.mul_add, Int.mul_left_comm c Y B, Int.mul_neg, Int.mul_left_comm Y 2]
      omega
    rw [e, ← Int.mul_assoc]
    refine cg_tr (cg_mulr hy) (cg_of ?_)
    rw [Int.neg_mul_neg, Int.one_mul, Int.mul_assoc]
theorem iv_32 {q c : Int} {a a1 b b1 y g : Nat → Int} (hyg : ∀ β, β < 4 → cg q (g β * y β) (-1)) (hs : ∀ β t, 0 ≤ β → β < 0 + 4 → t < 32 → cg q (a1 (32 * (2 * β) + t)) (a (2 * 32 * β + t) + y β * a (2 * 32 * β + (32 + t))) ∧ cg q (a1 (32 * (2 * β + 1) + t)) (a (2 * 32 * β + t) - y β * a (2 * 32 * β + (32 + t)))) (hg : ∀ β v e, 0 ≤ β → β < 0 + 4 → v < 32 → e < 1 → cg q (b1 (1 * (2 * 32 * β + v) + e)) (b (1 * (32 * (2 * β) + v) + e) + b (1 * (32 * (2 * β + 1) + v) + e)) ∧ cg q (b1 (1 * (2 * 32 * β + (32 + v)) + e)) (g β * (b (1 * (32 * (2 * β + 1) + v) + e) - b (1 * (32 * (2 * β) + v) + e)))) (hc : ∀ k, k < 256 → cg q (b k) (c * a1 k)) (k : Nat) (hk : k < 256) : cg q (b1 k) (2 * c * a k) := by
  have hb : k / 64 < 4 := by omega
  by_cases w : k % 64 < 32
  · obtain ⟨s1, s2⟩ := hs (k / 64) (k % 64) (Nat.zero_le _) (by omega) w
    have g1 := (hg (k / 64) (k % 64) 0 (Nat.zero_le _) (by omega) w (by decide)).1
    rw [show 1 * (2 * 32 * (k / 64) + k % 64) + 0 = k by omega, show 1 * (32 * (2 * (k / 64)) + k % 64) + 0 = 32 * (2 * (k / 64)) + k % 64 by omega, show 1 * (32 * (2 * (k / 64) + 1) + k % 64) + 0 = 32 * (2 * (k / 64) + 1) + k % 64 by omega] at g1
    have h1 := cg_tr (hc _ (by omega)) (cg_mull (c := c) s1)
    have h2 := cg_tr (hc _ (by omega)) (cg_mull (c := c) s2)
    refine cg_tr g1 (cg_tr (cg_add h1 h2) (cg_of ?_))
    rw [show 2 * 32 * (k / 64) + k % 64 = k by omega, Int.mul_add, Int.mul_sub, Int.mul_assoc 2]
    omega
  · obtain ⟨s1, s2⟩ := hs (k / 64) (k % 64 - 32) (Nat.zero_le _) (by omega) (by omega)
    have g1 := (hg (k / 64) (k % 64 - 32) 0 (Nat.zero_le _) (by omega) (by omega) (by decide)).2
    rw [show 1 * (2 * 32 * (k / 64) + (32 + (k % 64 - 32))) + 0 = k by omega, show 1 * (32 * (2 * (k / 64)) + (k % 64 - 32)) + 0 = 32 * (2 * (k / 64)) + (k % 64 - 32) by omega, show 1 * (32 * (2 * (k / 64) + 1) + (k % 64 - 32)) + 0 = 32 * (2 * (k / 64) + 1) + (k % 64 - 32) by omega] at g1
    have h1 := cg_tr (hc _ (by omega)) (cg_mull (c := c) s1)
    have h2 := cg_tr (hc _ (by omega)) (cg_mull (c := c) s2)
    rw [show 2 * 32 * (k / 64) + (32 + (k % 64 - 32)) = k by omega] at h1 h2
    refine cg_tr g1 (cg_tr (cg_mull (cg_sub h2 h1)) ?_)
    generalize a (2 * 32 * (k / 64) + (k % 64 - 32)) = A
    generalize a k = B
    have hy := hyg _ hb
    generalize y (k / 64) = Y at hy ⊢
    generalize g (k / 64) = G at hy ⊢
    have e : c * (A - Y * B) - c * (A + Y * B) = Y * (-(2 * (c * B))) := by
      rw [Int.mul_sub, Int.mul_add, Int.mul_left_comm c Y B, Int.mul_neg, Int.mul_left_comm Y 2]
      omega
    rw [e, ← Int.mul_assoc]
    refine cg_tr (cg_mulr hy) (cg_of ?_)
    rw [Int.neg_mul_neg, Int.one_mul, Int.mul_assoc]
theorem iv_64 {q c : Int} {a a1 b b1 y g : Nat → Int} (hyg : ∀ β, β < 2 → cg q (g β * y β) (-1)) (hs : ∀ β t, 0 ≤ β → β < 0 + 2 → t < 64 → cg q (a1 (64 * (2 * β) + t)) (a (2 * 64 * β + t) + y β * a (2 * 64 * β + (64 + t))) ∧ cg q (a1 (64 * (2 * β + 1) + t)) (a (2 * 64 * β + t) - y β * a (2 * 64 * β + (64 + t)))) (hg : ∀ β v e, 0 ≤ β → β < 0 + 2 → v < 64 → e < 1 → cg q (b1 (1 * (2 * 64 * β + v) + e)) (b (1 * (64 * (2 * β) + v) + e) + b (1 * (64 * (2 * β + 1) + v) + e)) ∧ cg q (b1 (1 * (2 * 64 * β + (64 + v)) + e)) (g β * (b (1 * (64 * (2 * β + 1) + v) + e) - b (1 * (64 * (2 * β) + v) + e)))) (hc : ∀ k, k < 256 → cg q (b k) (c * a1 k)) (k : Nat) (hk : k < 256) : cg q (b1 k) (2 * c * a k) := by
  have hb : k / 128 < 2 := by omega
  by_cases w : k % 128 < 64
  · obtain ⟨s1, s2⟩ := hs (k / 128) (k % 128) (Nat.zero_le _) (by omega) w
    have g1 := (hg (k / 128) (k % 128) 0 (Nat.zero_le _) (by omega) w (by decide)).1
    rw [show 1 * (2 * 64 * (k / 128) + k % 128) + 0 = k by omega, show 1 * (64 * (2 * (k / 128)) + k % 128) + 0 = 64 * (2 * (k / 128)) + k % 128 by omega, show 1 * (64 * (2 * (k / 128) + 1) + k % 128) + 0 = 64 * (2 * (k / 128) + 1) + k % 128 by omega] at g1
    have h1 := cg_tr (hc _ (by omega)) (cg_mull (c := c) s1)
    have h2 := cg_tr (hc _ (by omega)) (cg_mull (c := c) s2)
    refine cg_tr g1 (cg_tr (cg_add h1 h2) (cg_of ?_))
    rw [show 2 * 64 * (k / 128) + k % 128 = k by omega, Int.mul_add, Int.mul_sub, Int.mul_assoc 2]
    omega
  · obtain ⟨s1, s2⟩ := hs (k / 128) (k % 128 - 64) (Nat.zero_le _) (by omega) (by omega)
    have g1 := (hg (k / 128) (k % 128 - 64) 0 (Nat.zero_le _) (by omega) (by omega) (by decide)).2
    rw [show 1 * (2 * 64 * (k / 128) + (64 + (k % 128 - 64))) + 0 = k by omega, show 1 * (64 * (2 * (k / 128)) + (k % 128 - 64)) + 0 = 64 * (2 * (k / 128)) + (k % 128 - 64) by omega, show 1 * (64 * (2 * (k / 128) + 1) + (k % 128 - 64)) + 0 = 64 * (2 * (k / 128) + 1) + (k % 128 - 64) by omega] at g1
    have h1 := cg_tr (hc _ (by omega)) (cg_mull (c := c) s1)
    have h2 := cg_tr (hc _ (by omega)) (cg_mull (c := c) s2)
    rw [show 2 * 64 * (k / 128) + (64 + (k % 128 - 64)) = k by omega] at h1 h2
    refine cg_tr g1 (cg_tr (cg_mull (cg_sub h2 h1)) ?_)
    generalize a (2 * 64 * (k / 128) + (k % 128 - 64)) = A
    generalize a k = B
    have hy := hyg _ hb
    generalize y (k / 128) = Y at hy ⊢
    generalize g (k / 128) = G at hy ⊢
    have e : c * (A - Y * B) - c * (A + Y * B) = Y * (-(2 * (c * B))) := by
      rw [Int.mul_sub, Int.mul_add, Int.mul_left_comm c Y B, Int.mul_neg, Int.mul_left_comm Y 2]
      omega
    rw [e, ← Int.mul_assoc]
    refine cg_tr (cg_mulr hy) (cg_of ?_)
    rw [Int.neg_mul_neg, Int.one_mul, Int.mul_assoc]
theorem iv_128 {q c : Int} {a a1 b b1 y g : Nat → Int} (hyg : ∀ β, β < 1 → cg q (g β * y β) (-1)) (hs : ∀ β t, 0 ≤ β → β < 0 + 1 → t < 128 → cg q (a1 (128 * (2 * β) + t)) (a (2 * 128 * β + t) + y β * a (2 * 128 * β + (128 + t))) ∧ cg q (a1 (128 * (2 * β + 1) + t)) (a (2 * 128 * β + t) - y β * a (2 * 128 * β + (128 + t)))) (hg : ∀ β v e, 0 ≤ β → β < 0 + 1 → v < 128 → e < 1 → cg q (b1 (1 * (2 * 128 * β + v) + e)) (b (1 * (128 * (2 * β) + v) + e) + b (1 * (128 * (2 * β + 1) + v) + e)) ∧ cg q (b1 (1 * (2 * 128 * β + (128 + v)) + e)) (g β * (b (1 * (128 * (2 * β + 1) + v) + e) - b (1 * (128 * (2 * β) + v) + e)))) (hc : ∀ k, k < 256 → cg q (b k) (c * a1 k)) (k : Nat) (hk : k < 256) : cg q (b1 k) (2 * c * a k) := by
  have hb : k / 256 < 1 := by omega
  by_cases w : k % 256 < 128
  · obtain ⟨s1, s2⟩ := hs (k / 256) (k % 256) (Nat.zero_le _) (by omega) w
    have g1 := (hg (k / 256) (k % 256) 0 (Nat.zero_le _) (by omega) w (by decide)).1
    rw [show 1 * (2 * 128 * (k / 256) + k % 256) + 0 = k by omega, show 1 * (128 * (2 * (k / 256)) + k % 256) + 0 = 128 * (2 * (k / 256)) + k % 256 by omega, show 1 * (128 * (2 * (k / 256) + 1) + k % 256) + 0 = 128 * (2 * (k / 256) + 1) + k % 256 by omega] at g1
    have h1 := cg_tr (hc _ (by omega)) (cg_mull (c := c) s1)
    have h2 := cg_tr (hc _ (by omega)) (cg_mull (c := c) s2)
    refine cg_tr g1 (cg_tr (cg_add h1 h2) (cg_of ?_))
    rw [show 2 * 128 * (k / 256) + k % 256 = k by omega, Int.mul_add, Int.mul_sub, Int.mul_assoc 2]
    omega
  · obtain ⟨s1, s2⟩ := hs (k / 256) (k % 256 - 128) (Nat.zero_le _) (by omega) (by omega)
    have g1 := (hg (k / 256) (k % 256 - 128) 0 (Nat.zero_le _) (by omega) (by omega) (by decide)).2
    rw [show 1 * (2 * 128 * (k / 256) + (128 + (k % 256 - 128))) + 0 = k by omega, show 1 * (128 * (2 * (k / 256)) + (k % 256 - 128)) + 0 = 128 * (2 * (k / 256)) + (k % 256 - 128) by omega, show 1 * (128 * (2 * (k / 256) + 1) + (k % 256 - 128)) + 0 = 128 * (2 * (k / 256) + 1) + (k % 256 - 128) by omega] at g1
    have h1 := cg_tr (hc _ (by omega)) (cg_mull (c := c) s1)
    have h2 := cg_tr (hc _ (by omega)) (cg_mull (c := c) s2)
    rw [show 2 * 128 * (k / 256) + (128 + (k % 256 - 128)) = k by omega] at h1 h2
    refine cg_tr g1 (cg_tr (cg_mull (cg_sub h2 h1)) ?_)
    generalize a (2 * 128 * (k / 256) + (k % 256 - 128)) = A
    generalize a k = B
    have hy := hyg _ hb
    generalize y (k / 256) = Y at hy ⊢
    generalize g (k / 256) = G at hy ⊢
    have e : c * (A - Y * B) - c * (A + Y * B) = Y * (-(2 * (c * B))) := by
      rw [Int.mul_sub, Int.mul_add, Int.mul_left_comm c Y B, Int.mul_neg, Int.mul_left_comm Y 2]
      omega
    rw [e, ← Int.mul_assoc]
    refine cg_tr (cg_mulr hy) (cg_of ?_)
    rw [Int.neg_mul_neg, Int.one_mul, Int.mul_assoc]
theorem yg8_0 : ∀ b, b < 128 → (ct2.getD (255 - b) 0 * ct2.getD (128 + b) 0) % 8380417 = 8380416 % 8380417 := by decide +kernel
theorem yz8_0 : ∀ b, b < 128 → cg ((8380417 : Nat) : Int) (zg8_0 b * zq8_7 b) (-1) := fun b hb => by
  have h := cg_md (yg8_0 b hb)
  rw [Int.natCast_mul] at h
  exact cg_tr h ⟨1, by decide⟩
theorem yg8_1 : ∀ b, b < 64 → (ct2.getD (127 - b) 0 * ct2.getD (64 + b) 0) % 8380417 = 8380416 % 8380417 := by decide +kernel
theorem yz8_1 : ∀ b, b < 64 → cg ((8380417 : Nat) : Int) (zg8_1 b * zq8_6 b) (-1) := fun b hb => by
  have h := cg_md (yg8_1 b hb)
  rw [Int.natCast_mul] at h
  exact cg_tr h ⟨1, by decide⟩
theorem yg8_2 : ∀ b, b < 32 → (ct2.getD (63 - b) 0 * ct2.getD (32 + b) 0) % 8380417 = 8380416 % 8380417 := by decide +kernel
theorem yz8_2 : ∀ b, b < 32 → cg ((8380417 : Nat) : Int) (zg8_2 b * zq8_5 b) (-1) := fun b hb => by
  have h := cg_md (yg8_2 b hb)
  rw [Int.natCast_mul] at h
  exact cg_tr h ⟨1, by decide⟩
theorem yg8_3 : ∀ b, b < 16 → (ct2.getD (31 - b) 0 * ct2.getD (16 + b) 0) % 8380417 = 8380416 % 8380417 := by decide +kernel
theorem yz8_3 : ∀ b, b < 16 → cg ((8380417 : Nat) : Int) (zg8_3 b * zq8_4 b) (-1) := fun b hb => by
  have h := cg_md (yg8_3 b hb)
  rw [Int.natCast_mul] at h
  exact cg_tr h ⟨1, by decide⟩
theorem yg8_4 : ∀ b, b < 8 → (ct2.getD (15 - b) 0 * ct2.getD (8 + b) 0) % 8380417 = 8380416 % 8380417 := by decide +kernel
theorem yz8_4 : ∀ b, b < 8 → cg ((8380417 : Nat) : Int) (zg8_4 b * zq8_3 b) (-1) := fun b hb => by
  have h := cg_md (yg8_4 b hb)
  rw [Int.natCast_mul] at h
  exact cg_tr h ⟨1, by decide⟩
theorem yg8_5 : ∀ b, b < 4 → (ct2.getD (7 - b) 0 * ct2.getD (4 + b) 0) % 8380417 = 8380416 % 8380417 := by decide +kernel
theorem yz8_5 : ∀ b, b < 4 → cg ((8380417 : Nat) : Int) (zg8_5 b * zq8_2 b) (-1) := fun b hb => by
  have h := cg_md (yg8_5 b hb)
  rw [Int.natCast_mul] at h
  exact cg_tr h ⟨1, by decide⟩
theorem yg8_6 : ∀ b, b < 2 → (ct2.getD (3 - b) 0 * ct2.getD (2 + b) 0) % 8380417 = 8380416 % 8380417 := by decide +kernel
theorem yz8_6 : ∀ b, b < 2 → cg ((8380417 : Nat) : Int) (zg8_6 b * zq8_1 b) (-1) := fun b hb => by
  have h := cg_md (yg8_6 b hb)
  rw [Int.natCast_mul] at h
  exact cg_tr h ⟨1, by decide⟩
theorem yg8_7 : ∀ b, b < 1 → (ct2.getD (1 - b) 0 * ct2.getD (1 + b) 0) % 8380417 = 8380416 % 8380417 := by decide +kernel
theorem yz8_7 : ∀ b, b < 1 → cg ((8380417 : Nat) : Int) (zg8_7 b * zq8_0 b) (-1) := fun b hb => by
  have h := cg_md (yg8_7 b hb)
  rw [Int.natCast_mul] at h
  exact cg_tr h ⟨1, by decide⟩
/-- ML-DSA's ring: the way back undoes the transform -/
theorem inv8 {pf pg : Nat} {s t : Sto} (hr : rdc 8380417 (s.1 pf)) (he : ∀ k, k < 256 → t.1 pg k = (F_RG_transform_8 pf s).1 pf k) (k : Nat) (hk : k < 256) : (F_RG_restore_8 pg t).1 pg k = s.1 pf k := by
  obtain ⟨s1, e1, -, r1, c1, -⟩ := ly8_0 s hr
  obtain ⟨s2, e2, -, r2, c2, -⟩ := ly8_1 s1 r1
  obtain ⟨s3, e3, -, r3, c3, -⟩ := ly8_2 s2 r2
  obtain ⟨s4, e4, -, r4, c4, -⟩ := ly8_3 s3 r3
  obtain ⟨s5, e5, -, r5, c5, -⟩ := ly8_4 s4 r4
  obtain ⟨s6, e6, -, r6, c6, -⟩ := ly8_5 s5 r5
  obtain ⟨s7, e7, -, r7, c7, -⟩ := ly8_6 s6 r6
  obtain ⟨s8, e8, -, r8, c8, -⟩ := ly8_7 s7 r7
  have e : F_RG_transform_8 pf s = s8 := (((((((e1).trans e2).trans e3).trans e4).trans e5).trans e6).trans e7).trans e8
  rw [e] at he
  have hr0 : rdc 8380417 (t.1 pg) := rdc_c r8 he
  obtain ⟨t1, E1, -, R1, C1, -⟩ := lb8_0 t hr0
  obtain ⟨t2, E2, -, R2, C2, -⟩ := lb8_1 t1 R1
  obtain ⟨t3, E3, -, R3, C3, -⟩ := lb8_2 t2 R2
  obtain ⟨t4, E4, -, R4, C4, -⟩ := lb8_3 t3 R3
  obtain ⟨t5, E5, -, R5, C5, -⟩ := lb8_4 t4 R4
  obtain ⟨t6, E6, -, R6, C6, -⟩ := lb8_5 t5 R5
  obtain ⟨t7, E7, -, R7, C7, -⟩ := lb8_6 t6 R6
  obtain ⟨t8, E8, -, R8, C8, -⟩ := lb8_7 t7 R7
  have I0 : ∀ k, k < 256 → cg ((8380417 : Nat) : Int) (vl (t.1 pg) k) (1 * vl (s8.1 pf) k) := fun k hk => by
    rw [Int.one_mul, vl_c (he k hk)]
    exact cg_rf
  have I1 : ∀ k, k < 256 → cg ((8380417 : Nat) : Int) (vl (t1.1 pg) k) (2 * 1 * vl (s7.1 pf) k) := iv_1 yz8_0 c8 C1 I0
  have I2 : ∀ k, k < 256 → cg ((8380417 : Nat) : Int) (vl (t2.1 pg) k) (2 * (2 * 1) * vl (s6.1 pf) k) := iv_2 yz8_1 c7 C2 I1
  have I3 : ∀ k, k < 256 → cg ((8380417 : Nat) : Int) (vl (t3.1 pg) k) (2 * (2 * (2 * 1)) * vl (s5.1 pf) k) := iv_4 yz8_2 c6 C3 I2
  have I4 : ∀ k, k < 256 → cg ((8380417 : Nat) : Int) (vl (t4.1 pg) k) (2 * (2 * (2 * (2 * 1))) * vl (s4.1 pf) k) := iv_8 yz8_3 c5 C4 I3
  have I5 : ∀ k, k < 256 → cg ((8380417 : Nat) : Int) (vl (t5.1 pg) k) (2 * (2 * (2 * (2 * (2 * 1)))) * vl (s3.1 pf) k) := iv_16 yz8_4 c4 C5 I4
  have I6 : ∀ k, k < 256 → cg ((8380417 : Nat) : Int) (vl (t6.1 pg) k) (2 * (2 * (2 * (2 * (2 * (2 * 1))))) * vl (s2.1 pf) k) := iv_32 yz8_5 c3 C6 I5
  have I7 : ∀ k, k < 256 → cg ((8380417 : Nat) : Int) (vl (t7.1 pg) k) (2 * (2 * (2 * (2 * (2 * (2 * (2 * 1)))))) * vl (s1.1 pf) k) := iv_64 yz8_6 c2 C7 I6
  have I8 : ∀ k, k < 256 → cg ((8380417 : Nat) : Int) (vl (t8.1 pg) k) (2 * (2 * (2 * (2 * (2 * (2 * (2 * (2 * 1))))))) * vl (s.1 pf) k) := iv_128 yz8_7 c1 C8 I7
  obtain ⟨-, p2, p3, -⟩ := sc8 256 0 t8 rfl R8
  have E : F_RG_restore_8 pg t = F_RG_restore_8_L8 pg 256 0 t8 := (((((((E1).trans E2).trans E3).trans E4).trans E5).trans E6).trans E7).trans E8
  rw [E]
  refine rd_same (by decide) p2 hr hk (cg_tr (p3 k (Nat.zero_le _) hk) (cg_tr (cg_mulr (I8 k hk)) ?_))
  generalize vl (s.1 pf) k = x
  refine ⟨x * 255, ?_⟩
  show 2 * (2 * (2 * (2 * (2 * (2 * (2 * (2 * 1))))))) * x * 8347681 = x + ((8380417 : Nat) : Int) * (x * 255)
  omega
