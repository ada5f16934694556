set_option linter.all false
def msXT : List (Nat × Nat) := [(1, 0), (0, 2), (2, 1), (1, 2), (2, 3), (3, 3), (3, 0), (0, 1), (1, 3), (3, 1), (1, 4), (4, 4), (4, 0), (0, 3), (3, 4), (4, 3), (3, 2), (2, 2), (2, 0), (0, 4), (4, 2), (2, 4), (4, 1), (1, 1), (1, 0)]
theorem msX_st : ∀ k, k < 24 → ((msXT.getD k (0, 0)).2, (2 * (msXT.getD k (0, 0)).1 + 3 * (msXT.getD k (0, 0)).2) % 5) = msXT.getD (k + 1) (0, 0) := by decide +kernel
theorem msX_tab : ∀ k, k ≤ 24 → msX k = msXT.getD k (0, 0)
  | 0, _ => rfl
  | k + 1, h => by
    rw [msX, msX_tab k (by omega)]
    exact msX_st k (by omega)
def msV : Nat → Nat → Int32
  | 0 => fun _ => 0
  | k + 1 => upd (msV k) ((msXT.getD k (0, 0)).1 + 5 * (msXT.getD k (0, 0)).2) (nI ((k + 1) * (k + 2) / 2 % 64))
theorem msU_tab : ∀ n, n ≤ 24 → msU n = msV n
  | 0, _ => rfl
  | n + 1, h => by rw [msU, msV, msU_tab n (by omega), msX_tab n (by omega)]
theorem msV_tab : ∀ j, j < 25 → msV 24 j = ctI 0 j := by decide +kernel
theorem ms_tabU : ∀ j, j < 25 → msU 24 j = ctI 0 j := fun j hj => by
  rw [msU_tab 24 (Nat.le_refl _)]
  exact msV_tab j hj
def rwT : List Nat := [1, 2, 4, 8, 16, 32, 64, 128, 113, 226, 181, 27, 54, 108, 216, 193, 243, 151, 95, 190, 13, 26, 52, 104, 208, 209, 211, 215, 223, 207, 239, 175, 47, 94, 188, 9, 18, 36, 72, 144, 81, 162, 53, 106, 212, 217, 195, 247, 159, 79, 158, 77, 154, 69, 138, 101, 202, 229, 187, 7, 14, 28, 56, 112, 224, 177, 19, 38, 76, 152, 65, 130, 117, 234, 165, 59, 118, 236, 169, 35, 70, 140, 105, 210, 213, 219, 199, 255, 143, 111, 222, 205, 235, 167, 63, 126, 252, 137, 99, 198, 253, 139, 103, 206, 237, 171, 39, 78, 156, 73, 146, 85, 170, 37, 74, 148, 89, 178, 21, 42, 84, 168, 33, 66, 132, 121, 242, 149, 91, 182, 29, 58, 116, 232, 161, 51, 102, 204, 233, 163, 55, 110, 220, 201, 227, 183, 31, 62, 124, 248, 129, 115, 230, 189, 11, 22, 44, 88, 176, 17, 34, 68, 136, 97, 194, 245, 155, 71, 142]
theorem rw_st : ∀ t, t < 168 → ((nI (rwT.getD t 0)) <<< ((nI 1) &&& 31) ^^^ ((nI (rwT.getD t 0)) >>> ((nI 7) &&& 31)) * (nI 369)) = nI (rwT.getD (t + 1) 0) := by decide +kernel
theorem msI_1 {k t : Nat} {q : Int32 × (Nat → Int64)} (hq : q.1 = nI (rwT.getD t 0)) (ht : t + 7 ≤ 168) : ∀ j, j ≤ 7 → (msI k q j).1 = nI (rwT.getD (t + j) 0)
  | 0, _ => hq
  | j + 1, h => by
    rw [msI]
    dsimp only
    rw [msI_1 hq ht j (by omega)]
    exact rw_st (t + j) (by omega)
theorem msO_1 : ∀ k, k ≤ 24 → (msO k).1 = nI (rwT.getD (7 * k) 0)
  | 0, _ => rfl
  | k + 1, h => by
    rw [msO, show 7 * (k + 1) = 7 * k + 7 by omega]
    exact msI_1 (msO_1 k (by omega)) (by omega) 7 (Nat.le_refl _)
def msA (t : Nat) (w : Int64) : Nat → Int64
  | 0 => w
  | j + 1 => if nI (rwT.getD (t + j) 0) &&& (nI 1) = nI 1 then msA t w j ||| ((1 : Int64) <<< ((((nI 1) <<< ((nI j) &&& 31)) - (nI 1)).toInt64 &&& 63)) else msA t w j
theorem msI_2 {k t : Nat} {q : Int32 × (Nat → Int64)} (hq : q.1 = nI (rwT.getD t 0)) (ht : t + 7 ≤ 168) : ∀ j, j ≤ 7 → ∀ x, (msI k q j).2 x = if x = k then msA t (q.2 k) j else q.2 x
  | 0, _, x => by
    by_cases e : x = k
    · rw [if_pos e, e]; rfl
    · rw [if_neg e]; rfl
  | j + 1, h, x => by
    rw [msI]
    dsimp only
    rw [msI_1 hq ht j (by omega)]
    by_cases c : nI (rwT.getD (t + j) 0) &&& (nI 1) = nI 1
    · rw [if_pos c]
      by_cases e : x = k
      · rw [e, updL_at, if_pos rfl, msI_2 hq ht j (by omega) k, if_pos rfl, msA, if_pos c]
      · rw [updL_ne e, if_neg e, msI_2 hq ht j (by omega) x, if_neg e]
    · rw [if_neg c, msI_2 hq ht j (by omega) x]
      by_cases e : x = k
      · rw [if_pos e, if_pos e, msA, if_neg c]
      · rw [if_neg e, if_neg e]
theorem msO_2 : ∀ n, n ≤ 24 → ∀ x, (msO n).2 x = if x < n then msA (7 * x) 0 7 else 0
  | 0, _, x => by
    rw [if_neg (Nat.not_lt_zero x)]
    rfl
  | n + 1, h, x => by
    rw [msO, msI_2 (msO_1 n (by omega)) (by omega) 7 (Nat.le_refl _) x]
    by_cases e : x = n
    · rw [if_pos e, if_pos (by omega), msO_2 n (by omega) n, if_neg (Nat.lt_irrefl n), e]
    · rw [if_neg e, msO_2 n (by omega) x]
      by_cases c : x < n
      · rw [if_pos c, if_pos (by omega)]
      · rw [if_neg c, if_neg (by omega)]
theorem msA_tab : ∀ j, j < 24 → msA (7 * j) 0 7 = ctL 0 j := by decide +kernel
theorem ms_tabR : ∀ j, j < 24 → (msO 24).2 j = ctL 0 j := fun j hj => by
  rw [msO_2 24 (Nat.le_refl _) j, if_pos hj]
  exact msA_tab j hj
