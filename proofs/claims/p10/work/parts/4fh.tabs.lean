set_option linter.all false
theorem mrP_at {Z Q : Int64} : ∀ t j, j ≤ t → mrP Z Q t j = rgP Z Q j
  | 0, j, h => by
    obtain rfl : j = 0 := by omega
    show vp_updL (fun _ => 0) 0 1 0 = 1
    exact updL_at
  | t + 1, j, h => by
    rw [mrP]
    by_cases e : j = t + 1
    · rw [e, updL_at, mrP_at t t (Nat.le_refl _), rgP]
    · rw [updL_ne e]
      exact mrP_at t j (by omega)
theorem mrR_at {b : Nat} : ∀ n j, j < n → mrR b n j = nI (2 * mirL b j + 1)
  | 0, j, h => absurd h (Nat.not_lt_zero j)
  | n + 1, j, h => by
    rw [mrR]
    by_cases e : j = n
    · rw [e]; exact upd_at
    · rw [upd_ne e]
      exact mrR_at n j (by omega)
theorem mr_tabP7 : ∀ j, j < 256 → mrP 17 3329 255 j = ctL 1 j := fun j hj => (mrP_at 255 j (by omega)).trans (rgP_7 j (by omega))
set_option maxRecDepth 100000 in
theorem mr_tb7 : ∀ j, j < 128 → nI (2 * mirL 7 j + 1) = ctI 3 j := by decide +kernel
theorem mr_tabR7 : ∀ j, j < 128 → mrR 7 128 j = ctI 3 j := fun j hj => (mrR_at 128 j hj).trans (mr_tb7 j hj)
theorem mr_tabP8 : ∀ j, j < 512 → mrP 1753 8380417 511 j = ctL 2 j := fun j hj => (mrP_at 511 j (by omega)).trans (rgP_8 j (by omega))
set_option maxRecDepth 100000 in
theorem mr_tb8 : ∀ j, j < 256 → nI (2 * mirL 8 j + 1) = ctI 4 j := by decide +kernel
theorem mr_tabR8 : ∀ j, j < 256 → mrR 8 256 j = ctI 4 j := fun j hj => (mrR_at 256 j hj).trans (mr_tb8 j hj)
