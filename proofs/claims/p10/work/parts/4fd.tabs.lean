set_option linter.all false
theorem upd_at {f : Nat → Int32} {i : Nat} {x : Int32} : upd f i x i = x := by simp [upd]
theorem upd_ne {f : Nat → Int32} {i j : Nat} {x : Int32} (h : j ≠ i) : upd f i x j = f j := by simp [upd, h]
theorem updL_at {f : Nat → Int64} {i : Nat} {x : Int64} : vp_updL f i x i = x := by simp [vp_updL]
theorem updL_ne {f : Nat → Int64} {i j : Nat} {x : Int64} (h : j ≠ i) : vp_updL f i x j = f j := by simp [vp_updL, h]
theorem rgP_of {Z Q : Int64} {c : List Nat} {n : Nat} (h0 : (1 : Int64) = Int64.ofNat (c.getD 0 0)) (hs : ∀ i, i < n → Int64.ofNat (c.getD i 0) * Z - Int64.ofNat (c.getD i 0) * Z / Q * Q = Int64.ofNat (c.getD (i + 1) 0)) : ∀ i, i ≤ n → rgP Z Q i = Int64.ofNat (c.getD i 0)
  | 0, _ => h0
  | i + 1, h => by
    rw [rgP, rgP_of h0 hs i (by omega)]
    exact hs i (by omega)
theorem rgF_at {Z Q : Int64} {b N : Nat} (hinv : ∀ i, i < N → mirL b (mirL b i) = i) : ∀ n, n ≤ N → ∀ i, i < n → rgF Z Q b n (mirL b i) = (rgP Z Q i).toInt32
  | 0, _, i, h => absurd h (Nat.not_lt_zero i)
  | n + 1, hn, i, h => by
    rw [rgF]
    by_cases e : i = n
    · rw [e]; exact upd_at
    · rw [upd_ne (fun q => e ((hinv i (by omega)).symm.trans ((congrArg (mirL b) q).trans (hinv n (by omega)))))]
      exact rgF_at hinv n (by omega) i (by omega)
theorem mi_inv7 : ∀ i, i < 128 → mirL 7 (mirL 7 i) = i := by decide +kernel
set_option maxRecDepth 100000 in
theorem pw_st7 : ∀ i, i < 255 → Int64.ofNat (cl1.getD i 0) * 17 - Int64.ofNat (cl1.getD i 0) * 17 / 3329 * 3329 = Int64.ofNat (cl1.getD (i + 1) 0) := by decide +kernel
set_option maxRecDepth 100000 in
theorem rg_tb7 : ∀ j, j < 128 → (Int64.ofNat (cl1.getD (mirL 7 j) 0)).toInt32 = ctI 1 j := by decide +kernel
theorem rgP_7 : ∀ i, i ≤ 255 → rgP 17 3329 i = Int64.ofNat (cl1.getD i 0) := rgP_of (by decide) pw_st7
theorem rg_tab7 : ∀ j, j < 128 → rgF 17 3329 7 128 j = ctI 1 j := fun j hj => by
  have h1 : mirL 7 j < 128 := mirL_lt 7 j
  have h2 := rgF_at (Z := 17) (Q := 3329) (b := 7) (N := 128) mi_inv7 128 (Nat.le_refl _) (mirL 7 j) h1
  rw [mi_inv7 j hj, rgP_7 _ (by omega)] at h2
  rw [h2]
  exact rg_tb7 j hj
theorem mi_inv8 : ∀ i, i < 256 → mirL 8 (mirL 8 i) = i := by decide +kernel
set_option maxRecDepth 100000 in
theorem pw_st8 : ∀ i, i < 511 → Int64.ofNat (cl2.getD i 0) * 1753 - Int64.ofNat (cl2.getD i 0) * 1753 / 8380417 * 8380417 = Int64.ofNat (cl2.getD (i + 1) 0) := by decide +kernel
set_option maxRecDepth 100000 in
theorem rg_tb8 : ∀ j, j < 256 → (Int64.ofNat (cl2.getD (mirL 8 j) 0)).toInt32 = ctI 2 j := by decide +kernel
theorem rgP_8 : ∀ i, i ≤ 511 → rgP 1753 8380417 i = Int64.ofNat (cl2.getD i 0) := rgP_of (by decide) pw_st8
theorem rg_tab8 : ∀ j, j < 256 → rgF 1753 8380417 8 256 j = ctI 2 j := fun j hj => by
  have h1 : mirL 8 j < 256 := mirL_lt 8 j
  have h2 := rgF_at (Z := 1753) (Q := 8380417) (b := 8) (N := 256) mi_inv8 256 (Nat.le_refl _) (mirL 8 j) h1
  rw [mi_inv8 j hj, rgP_8 _ (by omega)] at h2
  rw [h2]
  exact rg_tb8 j hj
