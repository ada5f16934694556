set_option linter.all false
/-! streams of bits: a row of bytes as bits, numbers read out of them -/
theorem sh31 : ∀ c, c < 32 → ((nI c &&& 31).toBitVec.smod 32).toNat = c := by decide +kernel
theorem sh32 : ∀ c, c < 32 → (((nI c).toUInt32 &&& Int32.toUInt32 31).toBitVec % 32).toNat = c := by decide +kernel
def bv (t : Nat → Nat) (P : Nat) : Nat → Nat
  | 0 => 0
  | n + 1 => bv t P n + t (P + n) * 2 ^ n
theorem bv_lt {t : Nat → Nat} {P : Nat} (h : ∀ k, t k < 2) : ∀ n, bv t P n < 2 ^ n
  | 0 => Nat.zero_lt_one
  | n + 1 => by
    have h1 := bv_lt (P := P) h n
    have h2 : t (P + n) * 2 ^ n ≤ 1 * 2 ^ n := Nat.mul_le_mul_right _ (by have := h (P + n); omega)
    show bv t P n + t (P + n) * 2 ^ n < 2 ^ (n + 1)
    rw [Nat.pow_succ]
    omega
theorem bv_app {t : Nat → Nat} {P : Nat} (n : Nat) : ∀ m, bv t P (n + m) = bv t P n + 2 ^ n * bv t (P + n) m
  | 0 => rfl
  | m + 1 => by
    show bv t P (n + m) + t (P + (n + m)) * 2 ^ (n + m) = bv t P n + 2 ^ n * (bv t (P + n) m + t (P + n + m) * 2 ^ m)
    rw [bv_app n m, Nat.mul_add, Nat.pow_add, Nat.add_assoc P n m, Nat.mul_left_comm (2 ^ n), Nat.add_assoc]
theorem bv_c {t t' : Nat → Nat} {P P' : Nat} : ∀ n, (∀ j, j < n → t (P + j) = t' (P' + j)) → bv t P n = bv t' P' n
  | 0, _ => rfl
  | n + 1, h => by
    show bv t P n + t (P + n) * 2 ^ n = bv t' P' n + t' (P' + n) * 2 ^ n
    rw [bv_c n fun j hj => h j (by omega), h n (by omega)]
def u8 (x : Int32) : Nat := x.toBitVec.toNat % 256
theorem u8_lt (x : Int32) : u8 x < 256 := Nat.mod_lt _ (by decide)
theorem u8_and (x : Int32) : x &&& nI 255 = nI (u8 x) := pk_and x 8 (by decide)
/-- the bits of a row of bytes -/
def rb (r : Nat → Int32) (k : Nat) : Nat := u8 (r (k / 8)) / 2 ^ (k % 8) % 2
theorem rb_lt {r : Nat → Int32} (k : Nat) : rb r k < 2 := Nat.mod_lt _ (by decide)
theorem rb_byte {r : Nat → Int32} (p : Nat) : bv (rb r) (8 * p) 8 = u8 (r p) := by
  have h := u8_lt (r p)
  have e : ∀ j, j < 8 → rb r (8 * p + j) = u8 (r p) / 2 ^ j % 2 := fun j hj => by
    unfold rb
    rw [show (8 * p + j) / 8 = p by omega, show (8 * p + j) % 8 = j by omega]
  simp only [bv]
  rw [e 0 (by decide), e 1 (by decide), e 2 (by decide), e 3 (by decide), e 4 (by decide), e 5 (by decide), e 6 (by decide), e 7 (by decide)]
  generalize u8 (r p) = x at h
  simp only [Nat.reducePow]
  omega
theorem rb_c {r r' : Nat → Int32} {a a' n : Nat} (h : ∀ m, 8 * m < n → r (a + m) = r' (a' + m)) {k : Nat} (hk : k < n) : rb r (8 * a + k) = rb r' (8 * a' + k) := by
  unfold rb
  rw [show (8 * a + k) / 8 = a + k / 8 by omega, show (8 * a' + k) / 8 = a' + k / 8 by omega, show (8 * a + k) % 8 = k % 8 by omega, show (8 * a' + k) % 8 = k % 8 by omega, h (k / 8) (by omega)]
/-- one byte more in the buffer -/
theorem ld_one {r : Nat → Int32} {P cn pz : Nat} (hp : 8 * pz = P + cn) (hc : cn ≤ 23) : nI (bv (rb r) P cn) ||| ((r pz &&& nI 255) <<< (nI cn &&& 31)) = nI (bv (rb r) P (cn + 8)) := by
  have h1 := bv_lt (P := P) (rb_lt (r := r)) cn
  have h2 := u8_lt (r pz)
  have h3 : 2 ^ cn ≤ 2 ^ 23 := Nat.pow_le_pow_right (by decide) hc
  have h4 : u8 (r pz) * 2 ^ cn ≤ 255 * 2 ^ 23 := Nat.mul_le_mul (by omega) h3
  rw [u8_and, pk_shlN _ cn (sh31 cn (by omega)) (by omega), or_nI, or_lo cn h1, bv_app, ← hp, rb_byte]
theorem ld_n {pf b pr_ i : Nat} {mk : Int32} {kk : Nat → Nat → Nat → Int32 → Sto → Sto} {s : Sto} {P : Nat} : ∀ (n pz cn : Nat), 8 * pz = P + cn → cn + 8 * n ≤ 31 → F_BT_unpack_L1 pf b pr_ mk i kk n pz cn (nI (bv (rb (s.1 pr_)) P cn)) s = F_BT_unpack_L1 pf b pr_ mk i kk 0 (pz + n) (cn + 8 * n) (nI (bv (rb (s.1 pr_)) P (cn + 8 * n))) s
  | 0, pz, cn, _, _ => rfl
  | n + 1, pz, cn, hp, hc => by
    have h := ld_n (pf := pf) (b := b) (pr_ := pr_) (i := i) (mk := mk) (kk := kk) (s := s) (P := P) n (pz + 1) (cn + 8) (by omega) (by omega)
    rw [show pz + 1 + n = pz + (n + 1) by omega, show cn + 8 + 8 * n = cn + 8 * (n + 1) by omega] at h
    refine Eq.trans ?_ h
    rw [F_BT_unpack_L1.eq_2, ld_one hp (by omega), bnd_eq]
theorem P_unpackL {pf b pr_ : Nat} (hne : pr_ ≠ pf) (hb : 1 ≤ b) (hb2 : b ≤ 20) : ∀ (n i pz cn P : Nat) (s : Sto), 8 * pz = P + cn → cn < 8 → onl pf s (F_BT_unpack_L0 pf b pr_ (nI (2 ^ b - 1)) n i pz cn (nI (bv (rb (s.1 pr_)) P cn)) s) ∧ (∀ j, j < n → (F_BT_unpack_L0 pf b pr_ (nI (2 ^ b - 1)) n i pz cn (nI (bv (rb (s.1 pr_)) P cn)) s).1 pf (i + j) = nI (bv (rb (s.1 pr_)) (P + b * j) b)) ∧ ∀ k, (k < i ∨ i + n ≤ k) → (F_BT_unpack_L0 pf b pr_ (nI (2 ^ b - 1)) n i pz cn (nI (bv (rb (s.1 pr_)) P cn)) s).1 pf k = s.1 pf k
  | 0, i, pz, cn, P, s, _, _ => ⟨onl_rf, fun j hj => by omega, fun _ _ => rfl⟩
  | n + 1, i, pz, cn, P, s, hp, hc => by
    have h2b : 2 ^ b ≤ 2 ^ 20 := Nat.pow_le_pow_right (by decide) hb2
    have h2p : 0 < 2 ^ b := Nat.two_pow_pos b
    generalize hm : (b + 7 - cn) / 8 = m
    have hC : b ≤ cn + 8 * m ∧ cn + 8 * m ≤ b + 7 := by omega
    generalize hcm : cn + 8 * m = C at hC
    have hZ := bv_lt (P := P) (rb_lt (r := s.1 pr_)) C
    have h2C : 2 ^ C ≤ 2 ^ 27 := Nat.pow_le_pow_right (by decide) (by omega)
    have eb := bv_app (t := rb (s.1 pr_)) (P := P) b (C - b)
    rw [show b + (C - b) = C by omega] at eb
    have hlo := bv_lt (P := P) (rb_lt (r := s.1 pr_)) b
    have eM : bv (rb (s.1 pr_)) P C % 2 ^ b = bv (rb (s.1 pr_)) P b := by
      rw [eb, Nat.add_mul_mod_self_left, Nat.mod_eq_of_lt hlo]
    have eD : bv (rb (s.1 pr_)) P C / 2 ^ b = bv (rb (s.1 pr_)) (P + b) (C - b) := by
      rw [eb, Nat.add_mul_div_left _ _ h2p, Nat.div_eq_of_lt hlo, Nat.zero_add]
    have hU : F_BT_unpack_L0 pf b pr_ (nI (2 ^ b - 1)) (n + 1) i pz cn (nI (bv (rb (s.1 pr_)) P cn)) s = F_BT_unpack_L0 pf b pr_ (nI (2 ^ b - 1)) n (i + 1) (pz + m) (C - b) (nI (bv (rb (s.1 pr_)) (P + b) (C - b))) (sI s pf i (nI (bv (rb (s.1 pr_)) P b))) := by
      rw [F_BT_unpack_L0, hm, ld_n m pz cn hp (by omega), hcm, F_BT_unpack_L1.eq_1, pk_andN (by omega) b (pk_tn (by omega)), eM, bnd_eq, pk_ushrN (by omega) _ b (sh32 b (by omega)), eD, bnd_eq]
    have o1 : onl pf s (sI s pf i (nI (bv (rb (s.1 pr_)) P b))) := onl_sI
    have r1 : (sI s pf i (nI (bv (rb (s.1 pr_)) P b))).1 pf = upd (s.1 pf) i (nI (bv (rb (s.1 pr_)) P b)) := sI_row
    generalize sI s pf i (nI (bv (rb (s.1 pr_)) P b)) = s1 at hU o1 r1
    have ep : s1.1 pr_ = s.1 pr_ := o1.1 pr_ hne
    have c := P_unpackL hne hb hb2 n (i + 1) (pz + m) (C - b) (P + b) s1 (by omega) (by omega)
    rw [ep] at c
    rw [hU]
    obtain ⟨q1, q2, q3⟩ := c
    refine ⟨onl_tr o1 q1, fun j hj => ?_, fun k u => ?_⟩
    · cases j with
      | zero => rw [q3 (i + 0) (by omega), r1, Nat.add_zero, upd_s, Nat.mul_zero, Nat.add_zero]
      | succ j =>
        have := q2 j (by omega)
        rw [show i + 1 + j = i + (j + 1) by omega, show P + b + b * j = P + b * (j + 1) by rw [Nat.mul_add_one]; omega] at this
        exact this
    · rw [q3 k (by omega), r1, upd_n (by omega)]
theorem mask_n {b : Nat} (hb : b ≤ 30) : (nI 1 <<< (nI b &&& 31)) - nI 1 = nI (2 ^ b - 1) := by
  have h2 : 2 ^ b ≤ 2 ^ 30 := Nat.pow_le_pow_right (by decide) hb
  have h3 : 0 < 2 ^ b := Nat.two_pow_pos b
  rw [pk_shlN _ b (sh31 b (by omega)) (by omega), pk_sub (by omega), Nat.one_mul]
/-- the program's unpacking: the number k is made of the bits from b * k on -/
theorem P_unpack {pf b pr_ n at_ : Nat} {s : Sto} (hne : pr_ ≠ pf) (hb : 1 ≤ b) (hb2 : b ≤ 20) : onl pf s (F_BT_unpack pf b pr_ n at_ s) ∧ ∀ k, k < 256 → (F_BT_unpack pf b pr_ n at_ s).1 pf k = nI (bv (rb (s.1 pr_)) (8 * at_ + b * k) b) := by
  have hU : F_BT_unpack pf b pr_ n at_ s = F_BT_unpack_L0 pf b pr_ (nI (2 ^ b - 1)) 256 0 at_ 0 (nI (bv (rb (s.1 pr_)) (8 * at_) 0)) s := by
    rw [F_BT_unpack, mask_n (by omega), bnd_eq, bv]
  obtain ⟨q1, q2, -⟩ := P_unpackL (s := s) hne hb hb2 256 0 at_ 0 (8 * at_) rfl (by decide)
  rw [hU]
  refine ⟨q1, fun k hk => ?_⟩
  have := q2 k hk
  rw [Nat.zero_add] at this
  exact this
/-- one bit, as the reference takes it -/
theorem bit_n (x : Int32) {j : Nat} (hj : j < 8) : (x >>> (nI j &&& 31)) &&& nI 1 = nI (u8 x / 2 ^ j % 2) := by
  rw [pk_and _ 1 (by decide)]
  refine congrArg nI ?_
  have h1 := pk_shr x (nI j &&& 31) j (sh31 j (by omega))
  have h2 : (x >>> (nI j &&& 31)).toInt = if 2 * (x >>> (nI j &&& 31)).toBitVec.toNat < 2 ^ 32 then ((x >>> (nI j &&& 31)).toBitVec.toNat : Int) else ((x >>> (nI j &&& 31)).toBitVec.toNat : Int) - (2 ^ 32 : Nat) := BitVec.toInt_eq_toNat_cond _
  have h3 : x.toInt = if 2 * x.toBitVec.toNat < 2 ^ 32 then (x.toBitVec.toNat : Int) else (x.toBitVec.toNat : Int) - (2 ^ 32 : Nat) := BitVec.toInt_eq_toNat_cond _
  rw [Int.shiftRight_eq_div_pow] at h1
  unfold u8
  generalize (x >>> (nI j &&& 31)).toBitVec.toNat = N at h2
  generalize (x >>> (nI j &&& 31)).toInt = X at h1 h2
  generalize x.toBitVec.toNat = M at h3
  generalize x.toInt = Y at h1 h3
  have hh : j = 0 ∨ j = 1 ∨ j = 2 ∨ j = 3 ∨ j = 4 ∨ j = 5 ∨ j = 6 ∨ j = 7 := by omega
  rcases hh with rfl | rfl | rfl | rfl | rfl | rfl | rfl | rfl <;> simp only [Nat.reducePow] at h1 h2 h3 ⊢ <;> split at h2 <;> split at h3 <;> omega
theorem Q_unpackL {pr_ bt : Nat} {s : Sto} : ∀ (n m : Nat), n + m ≤ 30 → F_M_unpack_L0 pr_ bt n (nI (bv (rb (s.1 pr_)) (bt + n) m)) s = (nI (bv (rb (s.1 pr_)) bt (n + m)), s)
  | 0, m, _ => by
    rw [F_M_unpack_L0, Nat.add_zero, Nat.zero_add]
  | n + 1, m, h => by
    have h1 := Q_unpackL (pr_ := pr_) (bt := bt) (s := s) n (m + 1) (by omega)
    have e := bv_app (t := rb (s.1 pr_)) (P := bt + n) 1 m
    have e1 : bv (rb (s.1 pr_)) (bt + n) 1 = rb (s.1 pr_) (bt + n) := by
      show 0 + rb (s.1 pr_) (bt + n + 0) * 2 ^ 0 = _
      rw [Nat.zero_add, Nat.pow_zero, Nat.mul_one, Nat.add_zero]
    rw [Nat.add_comm 1 m, e1, Nat.pow_one, show bt + n + 1 = bt + (n + 1) by omega] at e
    rw [show n + (m + 1) = n + 1 + m by omega] at h1
    refine Eq.trans ?_ h1
    rw [F_M_unpack_L0, bit_n _ (Nat.mod_lt _ (by decide)), pk_mul, nI_add, bnd_eq, e, Nat.add_comm (rb (s.1 pr_) (bt + n))]
    rfl
theorem Q_unpack {pr_ n bt bs : Nat} {s : Sto} (hb : bs ≤ 30) : F_M_unpack pr_ n bt bs s = (nI (bv (rb (s.1 pr_)) bt bs), s) := by
  have h := Q_unpackL (pr_ := pr_) (bt := bt) (s := s) bs 0 (by omega)
  rw [F_M_unpack]
  exact h
theorem Q_read1L {pf pr_ n at_ : Nat} (hne : pr_ ≠ pf) : ∀ (m i : Nat) (s : Sto), onl pf s (F_ME_read_1_L0 pr_ n at_ pf m i s) ∧ (∀ k, i ≤ k → k < i + m → (F_ME_read_1_L0 pr_ n at_ pf m i s).1 pf k = nI (bv (rb (s.1 pr_)) (8 * at_ + 1 * k) 1)) ∧ ∀ k, (k < i ∨ i + m ≤ k) → (F_ME_read_1_L0 pr_ n at_ pf m i s).1 pf k = s.1 pf k
  | 0, i, s => ⟨onl_rf, fun k h1 h2 => by omega, fun _ _ => rfl⟩
  | m + 1, i, s => by
    have hU : F_ME_read_1_L0 pr_ n at_ pf (m + 1) i s = F_ME_read_1_L0 pr_ n at_ pf m (i + 1) (sI s pf i (nI (bv (rb (s.1 pr_)) (8 * at_ + 1 * i) 1))) := by
      rw [F_ME_read_1_L0, Q_unpack (by decide), bnd_eq, bnd_eq]
    have o1 : onl pf s (sI s pf i (nI (bv (rb (s.1 pr_)) (8 * at_ + 1 * i) 1))) := onl_sI
    have r1 : (sI s pf i (nI (bv (rb (s.1 pr_)) (8 * at_ + 1 * i) 1))).1 pf = upd (s.1 pf) i (nI (bv (rb (s.1 pr_)) (8 * at_ + 1 * i) 1)) := sI_row
    generalize sI s pf i (nI (bv (rb (s.1 pr_)) (8 * at_ + 1 * i) 1)) = s1 at hU o1 r1
    have c := Q_read1L (n := n) (at_ := at_) hne m (i + 1) s1
    rw [o1.1 pr_ hne] at c
    obtain ⟨q1, q2, q3⟩ := c
    rw [hU]
    refine ⟨onl_tr o1 q1, fun k u v => ?_, fun k u => ?_⟩
    · by_cases w : k = i
      · subst w
        rw [q3 k (by omega), r1, upd_s]
      · exact q2 k (by omega) (by omega)
    · rw [q3 k (by omega), r1, upd_n (by omega)]
/-- the two ways to read 1-bit numbers -/
theorem read1_same {pf pr_ n at_ qf qr m bt : Nat} {s t : Sto} (h1 : pr_ ≠ pf) (h2 : qr ≠ qf) (hB : ∀ j, j < 32 * 1 → s.1 pr_ (at_ + j) = t.1 qr (bt + j)) :
    onl pf s (F_BT_unpack pf 1 pr_ n at_ s) ∧ onl qf t (F_ME_read_1 qr m bt qf t) ∧ ∀ k, k < 256 → ∃ v : Nat, v < 2 ^ 1 ∧ (F_BT_unpack pf 1 pr_ n at_ s).1 pf k = nI v ∧ (F_ME_read_1 qr m bt qf t).1 qf k = nI v := by
  obtain ⟨a1, a2⟩ := P_unpack (n := n) (at_ := at_) (s := s) h1 (show 1 ≤ 1 by decide) (by decide)
  obtain ⟨b1, b2, -⟩ := Q_read1L (n := m) (at_ := bt) h2 256 0 t
  rw [← F_ME_read_1] at b1 b2
  refine ⟨a1, b1, fun k hk => ⟨_, bv_lt rb_lt 1, a2 k hk, (b2 k (Nat.zero_le _) (by omega)).trans (congrArg nI ?_)⟩⟩
  refine bv_c 1 fun j hj => ?_
  rw [Nat.add_assoc, Nat.add_assoc]
  exact (rb_c (n := 256 * 1) (fun m hm => hB m (by omega)) (by omega)).symm
theorem Q_read4L {pf pr_ n at_ : Nat} (hne : pr_ ≠ pf) : ∀ (m i : Nat) (s : Sto), onl pf s (F_ME_read_4_L0 pr_ n at_ pf m i s) ∧ (∀ k, i ≤ k → k < i + m → (F_ME_read_4_L0 pr_ n at_ pf m i s).1 pf k = nI (bv (rb (s.1 pr_)) (8 * at_ + 4 * k) 4)) ∧ ∀ k, (k < i ∨ i + m ≤ k) → (F_ME_read_4_L0 pr_ n at_ pf m i s).1 pf k = s.1 pf k
  | 0, i, s => ⟨onl_rf, fun k h1 h2 => by omega, fun _ _ => rfl⟩
  | m + 1, i, s => by
    have hU : F_ME_read_4_L0 pr_ n at_ pf (m + 1) i s = F_ME_read_4_L0 pr_ n at_ pf m (i + 1) (sI s pf i (nI (bv (rb (s.1 pr_)) (8 * at_ + 4 * i) 4))) := by
      rw [F_ME_read_4_L0, Q_unpack (by decide), bnd_eq, bnd_eq]
    have o1 : onl pf s (sI s pf i (nI (bv (rb (s.1 pr_)) (8 * at_ + 4 * i) 4))) := onl_sI
    have r1 : (sI s pf i (nI (bv (rb (s.1 pr_)) (8 * at_ + 4 * i) 4))).1 pf = upd (s.1 pf) i (nI (bv (rb (s.1 pr_)) (8 * at_ + 4 * i) 4)) := sI_row
    generalize sI s pf i (nI (bv (rb (s.1 pr_)) (8 * at_ + 4 * i) 4)) = s1 at hU o1 r1
    have c := Q_read4L (n := n) (at_ := at_) hne m (i + 1) s1
    rw [o1.1 pr_ hne] at c
    obtain ⟨q1, q2, q3⟩ := c
    rw [hU]
    refine ⟨onl_tr o1 q1, fun k u v => ?_, fun k u => ?_⟩
    · by_cases w : k = i
      · subst w
        rw [q3 k (by omega), r1, upd_s]
      · exact q2 k (by omega) (by omega)
    · rw [q3 k (by omega), r1, upd_n (by omega)]
/-- the two ways to read 4-bit numbers -/
theorem read4_same {pf pr_ n at_ qf qr m bt : Nat} {s t : Sto} (h1 : pr_ ≠ pf) (h2 : qr ≠ qf) (hB : ∀ j, j < 32 * 4 → s.1 pr_ (at_ + j) = t.1 qr (bt + j)) :
    onl pf s (F_BT_unpack pf 4 pr_ n at_ s) ∧ onl qf t (F_ME_read_4 qr m bt qf t) ∧ ∀ k, k < 256 → ∃ v : Nat, v < 2 ^ 4 ∧ (F_BT_unpack pf 4 pr_ n at_ s).1 pf k = nI v ∧ (F_ME_read_4 qr m bt qf t).1 qf k = nI v := by
  obtain ⟨a1, a2⟩ := P_unpack (n := n) (at_ := at_) (s := s) h1 (show 1 ≤ 4 by decide) (by decide)
  obtain ⟨b1, b2, -⟩ := Q_read4L (n := m) (at_ := bt) h2 256 0 t
  rw [← F_ME_read_4] at b1 b2
  refine ⟨a1, b1, fun k hk => ⟨_, bv_lt rb_lt 4, a2 k hk, (b2 k (Nat.zero_le _) (by omega)).trans (congrArg nI ?_)⟩⟩
  refine bv_c 4 fun j hj => ?_
  rw [Nat.add_assoc, Nat.add_assoc]
  exact (rb_c (n := 256 * 4) (fun m hm => hB m (by omega)) (by omega)).symm
theorem Q_read5L {pf pr_ n at_ : Nat} (hne : pr_ ≠ pf) : ∀ (m i : Nat) (s : Sto), onl pf s (F_ME_read_5_L0 pr_ n at_ pf m i s) ∧ (∀ k, i ≤ k → k < i + m → (F_ME_read_5_L0 pr_ n at_ pf m i s).1 pf k = nI (bv (rb (s.1 pr_)) (8 * at_ + 5 * k) 5)) ∧ ∀ k, (k < i ∨ i + m ≤ k) → (F_ME_read_5_L0 pr_ n at_ pf m i s).1 pf k = s.1 pf k
  | 0, i, s => ⟨onl_rf, fun k h1 h2 => by omega, fun _ _ => rfl⟩
  | m + 1, i, s => by
    have hU : F_ME_read_5_L0 pr_ n at_ pf (m + 1) i s = F_ME_read_5_L0 pr_ n at_ pf m (i + 1) (sI s pf i (nI (bv (rb (s.1 pr_)) (8 * at_ + 5 * i) 5))) := by
      rw [F_ME_read_5_L0, Q_unpack (by decide), bnd_eq, bnd_eq]
    have o1 : onl pf s (sI s pf i (nI (bv (rb (s.1 pr_)) (8 * at_ + 5 * i) 5))) := onl_sI
    have r1 : (sI s pf i (nI (bv (rb (s.1 pr_)) (8 * at_ + 5 * i) 5))).1 pf = upd (s.1 pf) i (nI (bv (rb (s.1 pr_)) (8 * at_ + 5 * i) 5)) := sI_row
    generalize sI s pf i (nI (bv (rb (s.1 pr_)) (8 * at_ + 5 * i) 5)) = s1 at hU o1 r1
    have c := Q_read5L (n := n) (at_ := at_) hne m (i + 1) s1
    rw [o1.1 pr_ hne] at c
    obtain ⟨q1, q2, q3⟩ := c
    rw [hU]
    refine ⟨onl_tr o1 q1, fun k u v => ?_, fun k u => ?_⟩
    · by_cases w : k = i
      · subst w
        rw [q3 k (by omega), r1, upd_s]
      · exact q2 k (by omega) (by omega)
    · rw [q3 k (by omega), r1, upd_n (by omega)]
/-- the two ways to read 5-bit numbers -/
theorem read5_same {pf pr_ n at_ qf qr m bt : Nat} {s t : Sto} (h1 : pr_ ≠ pf) (h2 : qr ≠ qf) (hB : ∀ j, j < 32 * 5 → s.1 pr_ (at_ + j) = t.1 qr (bt + j)) :
    onl pf s (F_BT_unpack pf 5 pr_ n at_ s) ∧ onl qf t (F_ME_read_5 qr m bt qf t) ∧ ∀ k, k < 256 → ∃ v : Nat, v < 2 ^ 5 ∧ (F_BT_unpack pf 5 pr_ n at_ s).1 pf k = nI v ∧ (F_ME_read_5 qr m bt qf t).1 qf k = nI v := by
  obtain ⟨a1, a2⟩ := P_unpack (n := n) (at_ := at_) (s := s) h1 (show 1 ≤ 5 by decide) (by decide)
  obtain ⟨b1, b2, -⟩ := Q_read5L (n := m) (at_ := bt) h2 256 0 t
  rw [← F_ME_read_5] at b1 b2
  refine ⟨a1, b1, fun k hk => ⟨_, bv_lt rb_lt 5, a2 k hk, (b2 k (Nat.zero_le _) (by omega)).trans (congrArg nI ?_)⟩⟩
  refine bv_c 5 fun j hj => ?_
  rw [Nat.add_assoc, Nat.add_assoc]
  exact (rb_c (n := 256 * 5) (fun m hm => hB m (by omega)) (by omega)).symm
theorem Q_read10L {pf pr_ n at_ : Nat} (hne : pr_ ≠ pf) : ∀ (m i : Nat) (s : Sto), onl pf s (F_ME_read_10_L0 pr_ n at_ pf m i s) ∧ (∀ k, i ≤ k → k < i + m → (F_ME_read_10_L0 pr_ n at_ pf m i s).1 pf k = nI (bv (rb (s.1 pr_)) (8 * at_ + 10 * k) 10)) ∧ ∀ k, (k < i ∨ i + m ≤ k) → (F_ME_read_10_L0 pr_ n at_ pf m i s).1 pf k = s.1 pf k
  | 0, i, s => ⟨onl_rf, fun k h1 h2 => by omega, fun _ _ => rfl⟩
  | m + 1, i, s => by
    have hU : F_ME_read_10_L0 pr_ n at_ pf (m + 1) i s = F_ME_read_10_L0 pr_ n at_ pf m (i + 1) (sI s pf i (nI (bv (rb (s.1 pr_)) (8 * at_ + 10 * i) 10))) := by
      rw [F_ME_read_10_L0, Q_unpack (by decide), bnd_eq, bnd_eq]
    have o1 : onl pf s (sI s pf i (nI (bv (rb (s.1 pr_)) (8 * at_ + 10 * i) 10))) := onl_sI
    have r1 : (sI s pf i (nI (bv (rb (s.1 pr_)) (8 * at_ + 10 * i) 10))).1 pf = upd (s.1 pf) i (nI (bv (rb (s.1 pr_)) (8 * at_ + 10 * i) 10)) := sI_row
    generalize sI s pf i (nI (bv (rb (s.1 pr_)) (8 * at_ + 10 * i) 10)) = s1 at hU o1 r1
    have c := Q_read10L (n := n) (at_ := at_) hne m (i + 1) s1
    rw [o1.1 pr_ hne] at c
    obtain ⟨q1, q2, q3⟩ := c
    rw [hU]
    refine ⟨onl_tr o1 q1, fun k u v => ?_, fun k u => ?_⟩
    · by_cases w : k = i
      · subst w
        rw [q3 k (by omega), r1, upd_s]
      · exact q2 k (by omega) (by omega)
    · rw [q3 k (by omega), r1, upd_n (by omega)]
/-- the two ways to read 10-bit numbers -/
theorem read10_same {pf pr_ n at_ qf qr m bt : Nat} {s t : Sto} (h1 : pr_ ≠ pf) (h2 : qr ≠ qf) (hB : ∀ j, j < 32 * 10 → s.1 pr_ (at_ + j) = t.1 qr (bt + j)) :
    onl pf s (F_BT_unpack pf 10 pr_ n at_ s) ∧ onl qf t (F_ME_read_10 qr m bt qf t) ∧ ∀ k, k < 256 → ∃ v : Nat, v < 2 ^ 10 ∧ (F_BT_unpack pf 10 pr_ n at_ s).1 pf k = nI v ∧ (F_ME_read_10 qr m bt qf t).1 qf k = nI v := by
  obtain ⟨a1, a2⟩ := P_unpack (n := n) (at_ := at_) (s := s) h1 (show 1 ≤ 10 by decide) (by decide)
  obtain ⟨b1, b2, -⟩ := Q_read10L (n := m) (at_ := bt) h2 256 0 t
  rw [← F_ME_read_10] at b1 b2
  refine ⟨a1, b1, fun k hk => ⟨_, bv_lt rb_lt 10, a2 k hk, (b2 k (Nat.zero_le _) (by omega)).trans (congrArg nI ?_)⟩⟩
  refine bv_c 10 fun j hj => ?_
  rw [Nat.add_assoc, Nat.add_assoc]
  exact (rb_c (n := 256 * 10) (fun m hm => hB m (by omega)) (by omega)).symm
theorem Q_read11L {pf pr_ n at_ : Nat} (hne : pr_ ≠ pf) : ∀ (m i : Nat) (s : Sto), onl pf s (F_ME_read_11_L0 pr_ n at_ pf m i s) ∧ (∀ k, i ≤ k → k < i + m → (F_ME_read_11_L0 pr_ n at_ pf m i s).1 pf k = nI (bv (rb (s.1 pr_)) (8 * at_ + 11 * k) 11)) ∧ ∀ k, (k < i ∨ i + m ≤ k) → (F_ME_read_11_L0 pr_ n at_ pf m i s).1 pf k = s.1 pf k
  | 0, i, s => ⟨onl_rf, fun k h1 h2 => by omega, fun _ _ => rfl⟩
  | m + 1, i, s => by
    have hU : F_ME_read_11_L0 pr_ n at_ pf (m + 1) i s = F_ME_read_11_L0 pr_ n at_ pf m (i + 1) (sI s pf i (nI (bv (rb (s.1 pr_)) (8 * at_ + 11 * i) 11))) := by
      rw [F_ME_read_11_L0, Q_unpack (by decide), bnd_eq, bnd_eq]
    have o1 : onl pf s (sI s pf i (nI (bv (rb (s.1 pr_)) (8 * at_ + 11 * i) 11))) := onl_sI
    have r1 : (sI s pf i (nI (bv (rb (s.1 pr_)) (8 * at_ + 11 * i) 11))).1 pf = upd (s.1 pf) i (nI (bv (rb (s.1 pr_)) (8 * at_ + 11 * i) 11)) := sI_row
    generalize sI s pf i (nI (bv (rb (s.1 pr_)) (8 * at_ + 11 * i) 11)) = s1 at hU o1 r1
    have c := Q_read11L (n := n) (at_ := at_) hne m (i + 1) s1
    rw [o1.1 pr_ hne] at c
    obtain ⟨q1, q2, q3⟩ := c
    rw [hU]
    refine ⟨onl_tr o1 q1, fun k u v => ?_, fun k u => ?_⟩
    · by_cases w : k = i
      · subst w
        rw [q3 k (by omega), r1, upd_s]
      · exact q2 k (by omega) (by omega)
    · rw [q3 k (by omega), r1, upd_n (by omega)]
/-- the two ways to read 11-bit numbers -/
theorem read11_same {pf pr_ n at_ qf qr m bt : Nat} {s t : Sto} (h1 : pr_ ≠ pf) (h2 : qr ≠ qf) (hB : ∀ j, j < 32 * 11 → s.1 pr_ (at_ + j) = t.1 qr (bt + j)) :
    onl pf s (F_BT_unpack pf 11 pr_ n at_ s) ∧ onl qf t (F_ME_read_11 qr m bt qf t) ∧ ∀ k, k < 256 → ∃ v : Nat, v < 2 ^ 11 ∧ (F_BT_unpack pf 11 pr_ n at_ s).1 pf k = nI v ∧ (F_ME_read_11 qr m bt qf t).1 qf k = nI v := by
  obtain ⟨a1, a2⟩ := P_unpack (n := n) (at_ := at_) (s := s) h1 (show 1 ≤ 11 by decide) (by decide)
  obtain ⟨b1, b2, -⟩ := Q_read11L (n := m) (at_ := bt) h2 256 0 t
  rw [← F_ME_read_11] at b1 b2
  refine ⟨a1, b1, fun k hk => ⟨_, bv_lt rb_lt 11, a2 k hk, (b2 k (Nat.zero_le _) (by omega)).trans (congrArg nI ?_)⟩⟩
  refine bv_c 11 fun j hj => ?_
  rw [Nat.add_assoc, Nat.add_assoc]
  exact (rb_c (n := 256 * 11) (fun m hm => hB m (by omega)) (by omega)).symm
theorem Q_read12L {pf pr_ n at_ : Nat} (hne : pr_ ≠ pf) : ∀ (m i : Nat) (s : Sto), onl pf s (F_ME_read_12_L0 pr_ n at_ pf m i s) ∧ (∀ k, i ≤ k → k < i + m → (F_ME_read_12_L0 pr_ n at_ pf m i s).1 pf k = nI (bv (rb (s.1 pr_)) (8 * at_ + 12 * k) 12)) ∧ ∀ k, (k < i ∨ i + m ≤ k) → (F_ME_read_12_L0 pr_ n at_ pf m i s).1 pf k = s.1 pf k
  | 0, i, s => ⟨onl_rf, fun k h1 h2 => by omega, fun _ _ => rfl⟩
  | m + 1, i, s => by
    have hU : F_ME_read_12_L0 pr_ n at_ pf (m + 1) i s = F_ME_read_12_L0 pr_ n at_ pf m (i + 1) (sI s pf i (nI (bv (rb (s.1 pr_)) (8 * at_ + 12 * i) 12))) := by
      rw [F_ME_read_12_L0, Q_unpack (by decide), bnd_eq, bnd_eq]
    have o1 : onl pf s (sI s pf i (nI (bv (rb (s.1 pr_)) (8 * at_ + 12 * i) 12))) := onl_sI
    have r1 : (sI s pf i (nI (bv (rb (s.1 pr_)) (8 * at_ + 12 * i) 12))).1 pf = upd (s.1 pf) i (nI (bv (rb (s.1 pr_)) (8 * at_ + 12 * i) 12)) := sI_row
    generalize sI s pf i (nI (bv (rb (s.1 pr_)) (8 * at_ + 12 * i) 12)) = s1 at hU o1 r1
    have c := Q_read12L (n := n) (at_ := at_) hne m (i + 1) s1
    rw [o1.1 pr_ hne] at c
    obtain ⟨q1, q2, q3⟩ := c
    rw [hU]
    refine ⟨onl_tr o1 q1, fun k u v => ?_, fun k u => ?_⟩
    · by_cases w : k = i
      · subst w
        rw [q3 k (by omega), r1, upd_s]
      · exact q2 k (by omega) (by omega)
    · rw [q3 k (by omega), r1, upd_n (by omega)]
/-- the two ways to read 12-bit numbers -/
theorem read12_same {pf pr_ n at_ qf qr m bt : Nat} {s t : Sto} (h1 : pr_ ≠ pf) (h2 : qr ≠ qf) (hB : ∀ j, j < 32 * 12 → s.1 pr_ (at_ + j) = t.1 qr (bt + j)) :
    onl pf s (F_BT_unpack pf 12 pr_ n at_ s) ∧ onl qf t (F_ME_read_12 qr m bt qf t) ∧ ∀ k, k < 256 → ∃ v : Nat, v < 2 ^ 12 ∧ (F_BT_unpack pf 12 pr_ n at_ s).1 pf k = nI v ∧ (F_ME_read_12 qr m bt qf t).1 qf k = nI v := by
  obtain ⟨a1, a2⟩ := P_unpack (n := n) (at_ := at_) (s := s) h1 (show 1 ≤ 12 by decide) (by decide)
  obtain ⟨b1, b2, -⟩ := Q_read12L (n := m) (at_ := bt) h2 256 0 t
  rw [← F_ME_read_12] at b1 b2
  refine ⟨a1, b1, fun k hk => ⟨_, bv_lt rb_lt 12, a2 k hk, (b2 k (Nat.zero_le _) (by omega)).trans (congrArg nI ?_)⟩⟩
  refine bv_c 12 fun j hj => ?_
  rw [Nat.add_assoc, Nat.add_assoc]
  exact (rb_c (n := 256 * 12) (fun m hm => hB m (by omega)) (by omega)).symm
