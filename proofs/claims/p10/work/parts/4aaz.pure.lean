set_option linter.all false
/-! packing: numbers into bytes -/
def by8 (v : Nat) : Int32 := (nI v).toInt8.toInt32
theorem i8_mod {a c : Nat} (h : a + 256 * c < 2 ^ 31) : (nI (a + 256 * c)).toInt8 = (nI a).toInt8 := by
  apply Int8.toInt_inj.mp
  rw [Int32.toInt_toInt8, Int32.toInt_toInt8, nI_toInt h, nI_toInt (by omega)]
  have e : ((a + 256 * c : Nat) : Int) % ((2 ^ 8 : Nat) : Int) = (a : Int) % ((2 ^ 8 : Nat) : Int) := by
    simp only [Nat.reducePow]
    omega
  unfold Int.bmod
  rw [e]
theorem i8_u8 (x : Int32) : x.toInt8 = (nI (u8 x)).toInt8 := by
  have h := u8_lt x
  apply Int8.toInt_inj.mp
  rw [Int32.toInt_toInt8, Int32.toInt_toInt8, nI_toInt (by omega)]
  have h3 : x.toInt = if 2 * x.toBitVec.toNat < 2 ^ 32 then (x.toBitVec.toNat : Int) else (x.toBitVec.toNat : Int) - (2 ^ 32 : Nat) := BitVec.toInt_eq_toNat_cond _
  have e : x.toInt % ((2 ^ 8 : Nat) : Int) = ((u8 x : Nat) : Int) % ((2 ^ 8 : Nat) : Int) := by
    unfold u8
    generalize x.toBitVec.toNat = M at h3
    generalize x.toInt = Y at h3
    simp only [Nat.reducePow] at h3 ⊢
    split at h3 <;> omega
  unfold Int.bmod
  rw [e]
theorem u8_n {v : Nat} (h : v < 2 ^ 32) : u8 (nI v) = v % 256 := by
  unfold u8
  rw [pk_tn h]
theorem u8_i8 (x : Int32) : u8 x.toInt8.toInt32 = u8 x := by
  have h1 := i8_u8 x
  rw [h1]
  have h := u8_lt x
  generalize u8 x = v at h
  have k : ∀ v, v < 256 → u8 (nI v).toInt8.toInt32 = v := by decide +kernel
  exact k v h
/-- a byte is known by its eight bits -/
theorem by8_of {x : Int32} (hx : x = x.toInt8.toInt32) : x = by8 (u8 x) := hx.trans (congrArg Int8.toInt32 (i8_u8 x))
/-- the bits of numbers of b bits each -/
def nb (b : Nat) (r : Nat → Int32) (k : Nat) : Nat := vn r (k / b) / 2 ^ (k % b) % 2
theorem nb_lt {b : Nat} {r : Nat → Int32} (k : Nat) : nb b r k < 2 := Nat.mod_lt _ (by decide)
theorem nb_at {b i j : Nat} {r : Nat → Int32} (hj : j < b) : nb b r (b * i + j) = vn r i / 2 ^ j % 2 := by
  unfold nb
  rw [Nat.mul_add_div (by omega), Nat.div_eq_of_lt hj, Nat.add_zero, Nat.mul_add_mod, Nat.mod_eq_of_lt hj]
theorem nb_v {b i : Nat} {r : Nat → Int32} : ∀ n, n ≤ b → bv (nb b r) (b * i) n = vn r i % 2 ^ n
  | 0, _ => by
    rw [Nat.pow_zero, Nat.mod_one]
    rfl
  | n + 1, h => by
    show bv (nb b r) (b * i) n + nb b r (b * i + n) * 2 ^ n = _
    rw [nb_v n (by omega), nb_at (by omega), Nat.mod_pow_succ, Nat.mul_comm (2 ^ n)]
theorem nb_c {b : Nat} {r r' : Nat → Int32} (hb : 0 < b) (h : ∀ k, k < 256 → r k = r' k) {k : Nat} (hk : k < 256 * b) : nb b r k = nb b r' k := by
  unfold nb
  have h1 : k / b < 256 := (Nat.div_lt_iff_lt_mul hb).mpr hk
  rw [vn_c (h _ h1)]
/-- n bytes out of the buffer -/
theorem st_n {pt i b : Nat} {kk : Nat → Nat → Nat → Int32 → Sto → Sto} {t : Nat → Nat} (ht : ∀ k, t k < 2) : ∀ (n cn P pz : Nat) (s : Sto), 8 * n ≤ cn → cn ≤ 27 → ∃ s1 : Sto, F_BT_pack_L1 pt i kk n cn (nI (bv t P cn)) pz s = kk (i + 1) (pz + n) (cn - 8 * n) (nI (bv t (P + 8 * n) (cn - 8 * n))) s1 ∧ onl pt s s1 ∧ (∀ m, m < n → s1.1 pt (pz + m) = by8 (bv t (P + 8 * m) 8)) ∧ ∀ k, (k < pz ∨ pz + n ≤ k) → s1.1 pt k = s.1 pt k
  | 0, cn, P, pz, s, _, _ => ⟨s, rfl, onl_rf, fun m hm => by omega, fun _ _ => rfl⟩
  | n + 1, cn, P, pz, s, h1, h2 => by
    have hZ := bv_lt (P := P) ht cn
    have h27 : 2 ^ cn ≤ 2 ^ 27 := Nat.pow_le_pow_right (by decide) h2
    have eb := bv_app (t := t) (P := P) 8 (cn - 8)
    rw [show 8 + (cn - 8) = cn by omega] at eb
    have hlo := bv_lt (P := P) ht 8
    have eD : bv t P cn / 2 ^ 8 = bv t (P + 8) (cn - 8) := by
      rw [eb, Nat.add_mul_div_left _ _ (by decide), Nat.div_eq_of_lt hlo, Nat.zero_add]
    have eB : (nI (bv t P cn)).toInt8.toInt32 = by8 (bv t P 8) := by
      have hh : bv t P 8 + 256 * bv t (P + 8) (cn - 8) < 2 ^ 31 := by
        have : 2 ^ 8 * bv t (P + 8) (cn - 8) = 256 * bv t (P + 8) (cn - 8) := rfl
        omega
      rw [eb]
      exact congrArg Int8.toInt32 (i8_mod hh)
    have hU : F_BT_pack_L1 pt i kk (n + 1) cn (nI (bv t P cn)) pz s = F_BT_pack_L1 pt i kk n (cn - 8) (nI (bv t (P + 8) (cn - 8))) (pz + 1) (sI s pt pz (by8 (bv t P 8))) := by
      rw [F_BT_pack_L1, pk_ushrN (by omega) _ 8 (by decide), eD, bnd_eq, bnd_eq, sB, pk_vb, eB]
    have o1 : onl pt s (sI s pt pz (by8 (bv t P 8))) := onl_sI
    have r1 : (sI s pt pz (by8 (bv t P 8))).1 pt = upd (s.1 pt) pz (by8 (bv t P 8)) := sI_row
    generalize sI s pt pz (by8 (bv t P 8)) = s0 at hU o1 r1
    obtain ⟨s1, e, o, c, u⟩ := st_n (pt := pt) (i := i) (b := b) (kk := kk) ht n (cn - 8) (P + 8) (pz + 1) s0 (by omega) (by omega)
    rw [show pz + 1 + n = pz + (n + 1) by omega, show cn - 8 - 8 * n = cn - 8 * (n + 1) by omega, show P + 8 + 8 * n = P + 8 * (n + 1) by omega] at e
    refine ⟨s1, hU.trans e, onl_tr o1 o, fun m hm => ?_, fun k hk => ?_⟩
    · cases m with
      | zero => rw [u (pz + 0) (by omega), r1, Nat.add_zero, upd_s, Nat.mul_zero, Nat.add_zero]
      | succ m =>
        have := c m (by omega)
        rw [show pz + 1 + m = pz + (m + 1) by omega, show P + 8 + 8 * m = P + 8 * (m + 1) by omega] at this
        exact this
    · rw [u k (by omega), r1, upd_n (by omega)]
theorem P_packL {pf b pt at_ : Nat} (hne : pf ≠ pt) (hb : 1 ≤ b) (hb2 : b ≤ 20) : ∀ (n i m0 cn : Nat) (s : Sto), i + n = 256 → 8 * m0 + cn = b * i → cn < 8 → (∀ k, k < 256 → ∃ v : Nat, v < 2 ^ b ∧ s.1 pf k = nI v) → onl pt s (F_BT_pack_L0 pf b pt n i (at_ + m0) cn (nI (bv (nb b (s.1 pf)) (8 * m0) cn)) s) ∧ (∀ m, m0 ≤ m → 8 * (m + 1) ≤ 256 * b → (F_BT_pack_L0 pf b pt n i (at_ + m0) cn (nI (bv (nb b (s.1 pf)) (8 * m0) cn)) s).1 pt (at_ + m) = by8 (bv (nb b (s.1 pf)) (8 * m) 8)) ∧ ∀ k, (k < at_ + m0 ∨ at_ + 32 * b ≤ k) → (F_BT_pack_L0 pf b pt n i (at_ + m0) cn (nI (bv (nb b (s.1 pf)) (8 * m0) cn)) s).1 pt k = s.1 pt k
  | 0, i, m0, cn, s, hi, hP, hc, _ => by
    obtain rfl : i = 256 := by omega
    exact ⟨onl_rf, fun m h1 h2 => by omega, fun _ _ => rfl⟩
  | n + 1, i, m0, cn, s, hi, hP, hc, hf => by
    obtain ⟨v, hv, ev⟩ := hf i (by omega)
    have h2b : 2 ^ b ≤ 2 ^ 20 := Nat.pow_le_pow_right (by decide) hb2
    have hZ := bv_lt (P := 8 * m0) (nb_lt (b := b) (r := s.1 pf)) cn
    have h7 : 2 ^ cn ≤ 2 ^ 7 := Nat.pow_le_pow_right (by decide) (by omega)
    have hvv : v * 2 ^ cn ≤ 2 ^ 20 * 2 ^ 7 := Nat.mul_le_mul (by omega) h7
    have eO : nI (bv (nb b (s.1 pf)) (8 * m0) cn) ||| (s.1 pf i <<< (nI cn &&& 31)) = nI (bv (nb b (s.1 pf)) (8 * m0) (cn + b)) := by
      rw [ev, pk_shlN _ cn (sh31 cn (by omega)) (by omega), or_nI, or_lo cn hZ, bv_app, hP, nb_v b (Nat.le_refl _), vn_n ev (by omega), Nat.mod_eq_of_lt hv]
    generalize hm : (cn + b) / 8 = m
    obtain ⟨s1, e, o, c, u⟩ := st_n (pt := pt) (i := i) (b := b) (kk := F_BT_pack_L0 pf b pt n) (nb_lt (b := b) (r := s.1 pf)) m (cn + b) (8 * m0) (at_ + m0) s (by omega) (by omega)
    have hU : F_BT_pack_L0 pf b pt (n + 1) i (at_ + m0) cn (nI (bv (nb b (s.1 pf)) (8 * m0) cn)) s = F_BT_pack_L0 pf b pt n (i + 1) (at_ + (m0 + m)) (cn + b - 8 * m) (nI (bv (nb b (s.1 pf)) (8 * (m0 + m)) (cn + b - 8 * m))) s1 := by
      rw [F_BT_pack_L0, eO, bnd_eq, hm, e, Nat.mul_add, Nat.add_assoc at_]
    have ep : s1.1 pf = s.1 pf := o.1 pf hne
    have hbi : b * (i + 1) = b * i + b := Nat.mul_add_one b i
    have d := P_packL (at_ := at_) hne hb hb2 n (i + 1) (m0 + m) (cn + b - 8 * m) s1 (by omega) (by omega) (by omega) (by rw [ep]; exact hf)
    rw [ep] at d
    rw [hU]
    obtain ⟨q1, q2, q3⟩ := d
    have hle : b * (i + 1) ≤ b * 256 := Nat.mul_le_mul_left b (by omega)
    refine ⟨onl_tr o q1, fun m' h1 h2 => ?_, fun k hk => ?_⟩
    · by_cases w : m' < m0 + m
      · have := c (m' - m0) (by omega)
        rw [show at_ + m0 + (m' - m0) = at_ + m' by omega, show 8 * m0 + 8 * (m' - m0) = 8 * m' by omega] at this
        rw [q3 (at_ + m') (by omega), this]
      · exact q2 m' (by omega) h2
    · rw [q3 k (by omega), u k (by omega)]
/-- the program's packing -/
theorem P_pack {pf b pt n at_ : Nat} {s : Sto} (hne : pf ≠ pt) (hb : 1 ≤ b) (hb2 : b ≤ 20) (hf : ∀ k, k < 256 → ∃ v : Nat, v < 2 ^ b ∧ s.1 pf k = nI v) : onl pt s (F_BT_pack pf b pt n at_ s) ∧ (∀ m, m < 32 * b → (F_BT_pack pf b pt n at_ s).1 pt (at_ + m) = by8 (bv (nb b (s.1 pf)) (8 * m) 8)) ∧ ∀ k, (k < at_ ∨ at_ + 32 * b ≤ k) → (F_BT_pack pf b pt n at_ s).1 pt k = s.1 pt k := by
  obtain ⟨q1, q2, q3⟩ := P_packL (s := s) (at_ := at_) hne hb hb2 256 0 0 0 rfl (by omega) (by decide) hf
  have hU : F_BT_pack pf b pt n at_ s = F_BT_pack_L0 pf b pt 256 0 (at_ + 0) 0 (nI (bv (nb b (s.1 pf)) (8 * 0) 0)) s := by
    rw [F_BT_pack, bv, Nat.add_zero]
  rw [hU]
  exact ⟨q1, fun m hm => q2 m (Nat.zero_le _) (by omega), fun k hk => q3 k (by omega)⟩
/-! the reference's packing: bit by bit -/
theorem or_bit : ∀ a, a < 256 → ∀ p, p < 8 → ∀ j, j < 8 → (a ||| 2 ^ p) / 2 ^ j % 2 = if j = p then 1 else a / 2 ^ j % 2 := by decide +kernel
theorem and_bit : ∀ a, a < 256 → ∀ p, p < 8 → ∀ j, j < 8 → (a &&& (255 - 2 ^ p)) / 2 ^ j % 2 = if j = p then 0 else a / 2 ^ j % 2 := by decide +kernel
theorem u8_or (x y : Int32) : u8 (x ||| y) = u8 x ||| u8 y := by
  unfold u8
  rw [Int32.toBitVec_or, BitVec.toNat_or]
  exact Nat.or_mod_two_pow (n := 8)
theorem u8_an (x y : Int32) : u8 (x &&& y) = u8 x &&& u8 y := by
  unfold u8
  rw [Int32.toBitVec_and, BitVec.toNat_and]
  exact Nat.and_mod_two_pow (n := 8)
theorem pw_8 : ∀ p, p < 8 → u8 (nI 1 <<< (nI p &&& 31)).toInt8.toInt32 = 2 ^ p ∧ u8 ((nI 1 <<< (nI p &&& 31)) ^^^ (-1)).toInt8.toInt32 = 255 - 2 ^ p := by decide +kernel
/-- one bit put: the bit k of the row is now v's bit i -/
theorem put_bit {pt bt i n : Nat} {v : Int32} {w : Nat} {s : Sto} (hv : v = nI w) (hw : w < 2 ^ 31) (hi : i < 32) : ∃ s1 : Sto, F_M_pack_L0 pt bt v (n + 1) i s = F_M_pack_L0 pt bt v n (i + 1) s1 ∧ onl pt s s1 ∧ rb (s1.1 pt) (bt + i) = w / 2 ^ i % 2 ∧ (∀ k, k ≠ bt + i → rb (s1.1 pt) k = rb (s.1 pt) k) ∧ s1.1 pt ((bt + i) / 8) = (s1.1 pt ((bt + i) / 8)).toInt8.toInt32 ∧ ∀ k, k ≠ (bt + i) / 8 → s1.1 pt k = s.1 pt k := by
  have hp : (bt + i) % 8 < 8 := Nat.mod_lt _ (by decide)
  obtain ⟨z1, z2⟩ := pw_8 _ hp
  have hc : ((v >>> (nI i &&& 31)) &&& nI 1) = nI (w / 2 ^ i % 2) := by
    rw [hv, pk_shrN hw _ i (sh31 i hi), pk_andN (Nat.lt_of_le_of_lt (Nat.div_le_self _ _) (by omega)) 1 (by decide), Nat.pow_one]
  have key : ∀ (y : Int32) (o : Nat), u8 y / 2 ^ ((bt + i) % 8) % 2 = o → (∀ j, j < 8 → j ≠ (bt + i) % 8 → u8 y / 2 ^ j % 2 = u8 (s.1 pt ((bt + i) / 8)) / 2 ^ j % 2) → onl pt s (sB s pt ((bt + i) / 8) (y.toInt8.toInt32)) ∧ rb ((sB s pt ((bt + i) / 8) (y.toInt8.toInt32)).1 pt) (bt + i) = o ∧ (∀ k, k ≠ bt + i → rb ((sB s pt ((bt + i) / 8) (y.toInt8.toInt32)).1 pt) k = rb (s.1 pt) k) ∧ (sB s pt ((bt + i) / 8) (y.toInt8.toInt32)).1 pt ((bt + i) / 8) = ((sB s pt ((bt + i) / 8) (y.toInt8.toInt32)).1 pt ((bt + i) / 8)).toInt8.toInt32 ∧ ∀ k, k ≠ (bt + i) / 8 → (sB s pt ((bt + i) / 8) (y.toInt8.toInt32)).1 pt k = s.1 pt k := fun y o h1 h2 => by
    have r1 : (sB s pt ((bt + i) / 8) (y.toInt8.toInt32)).1 pt = upd (s.1 pt) ((bt + i) / 8) (y.toInt8.toInt32) := by
      rw [sB, pk_vb, sI_row]
    refine ⟨onl_sI, ?_, fun k hk => ?_, ?_, fun k hk => ?_⟩
    · unfold rb
      rw [r1, upd_s, u8_i8]
      exact h1
    · unfold rb
      rw [r1]
      by_cases q : k / 8 = (bt + i) / 8
      · rw [q, upd_s, u8_i8]
        exact h2 (k % 8) (Nat.mod_lt _ (by decide)) (by omega)
      · rw [upd_n q]
    · rw [r1, upd_s]
      exact (pk_vb y).symm
    · rw [r1, upd_n hk]
  have h8 := u8_lt (s.1 pt ((bt + i) / 8))
  by_cases q : w / 2 ^ i % 2 = 1
  · have k := key (s.1 pt ((bt + i) / 8) ||| (nI 1 <<< (nI ((bt + i) % 8) &&& 31)).toInt8.toInt32) 1 (by rw [u8_or, z1, or_bit _ h8 _ hp _ hp, if_pos rfl]) (fun j hj hn => by rw [u8_or, z1, or_bit _ h8 _ hp _ hj, if_neg hn])
    refine ⟨_, ?_, k.1, ?_, k.2.2⟩
    · rw [F_M_pack_L0, bnd_eq, if_pos (by rw [hc, q]), bnd_eq]
    · rw [k.2.1, q]
  · have q0 : w / 2 ^ i % 2 = 0 := by
      have : w / 2 ^ i % 2 < 2 := Nat.mod_lt _ (by decide)
      omega
    have k := key (s.1 pt ((bt + i) / 8) &&& ((nI 1 <<< (nI ((bt + i) % 8) &&& 31)) ^^^ (-1)).toInt8.toInt32) 0 (by rw [u8_an, z2, and_bit _ h8 _ hp _ hp, if_pos rfl]) (fun j hj hn => by rw [u8_an, z2, and_bit _ h8 _ hp _ hj, if_neg hn])
    refine ⟨_, ?_, k.1, ?_, k.2.2⟩
    · rw [F_M_pack_L0, bnd_eq, if_neg (by rw [hc, q0]; decide), bnd_eq]
    · rw [k.2.1, q0]
/-- bytes that were touched are bytes still; lo, hi: the bits that were put -/
def ptd (pt lo hi : Nat) (T : Nat → Nat) (s s1 : Sto) : Prop := onl pt s s1 ∧ (∀ k, lo ≤ k → k < hi → rb (s1.1 pt) k = T k) ∧ (∀ k, (k < lo ∨ hi ≤ k) → rb (s1.1 pt) k = rb (s.1 pt) k) ∧ (∀ p, lo / 8 ≤ p → 8 * p < hi → s1.1 pt p = (s1.1 pt p).toInt8.toInt32) ∧ ∀ p, (p < lo / 8 ∨ hi ≤ 8 * p) → s1.1 pt p = s.1 pt p
theorem ptd_rf {pt lo : Nat} {T : Nat → Nat} {s : Sto} (h : lo % 8 = 0) : ptd pt lo lo T s s := ⟨onl_rf, fun k h1 h2 => by omega, fun _ _ => rfl, fun p h1 h2 => by omega, fun _ _ => rfl⟩
theorem Q_packL {pt bt lo : Nat} {v : Int32} {w : Nat} {T : Nat → Nat} {s0 : Sto} (hv : v = nI w) (hw : w < 2 ^ 31) : ∀ (n i : Nat) (s : Sto), i + n ≤ 31 → lo ≤ bt + i → ptd pt lo (bt + i) T s0 s → (∀ j, j < i + n → T (bt + j) = w / 2 ^ j % 2) → ptd pt lo (bt + (i + n)) T s0 (F_M_pack_L0 pt bt v n i s)
  | 0, i, s, _, _, h, _ => h
  | n + 1, i, s, hi, hlo, h, hT => by
    obtain ⟨s1, e, o, b1, b2, b3, b4⟩ := put_bit (pt := pt) (bt := bt) (i := i) (n := n) (s := s) hv hw (by omega)
    obtain ⟨q1, q2, q3, q4, q5⟩ := h
    have h1 : ptd pt lo (bt + (i + 1)) T s0 s1 := by
      refine ⟨onl_tr q1 o, fun k u v => ?_, fun k u => ?_, fun p u v => ?_, fun p u => ?_⟩
      · by_cases x : k = bt + i
        · subst x
          rw [b1, hT i (by omega)]
        · rw [b2 k x, q2 k u (by omega)]
      · rw [b2 k (by omega), q3 k (by omega)]
      · by_cases x : p = (bt + i) / 8
        · subst x
          exact b3
        · rw [b4 p x]
          exact q4 p u (by omega)
      · rw [b4 p (by omega), q5 p (by omega)]
    have c := Q_packL (s0 := s0) hv hw n (i + 1) s1 (by omega) (by omega) h1 (fun j hj => hT j (by omega))
    rw [e, show i + (n + 1) = i + 1 + n by omega]
    exact c
theorem Q_pack_in {pt n bt bs lo : Nat} {v : Int32} {w : Nat} {T : Nat → Nat} {s0 s : Sto} (hv : v = nI w) (hw : w < 2 ^ 31) (hb : bs ≤ 31) (hlo : lo ≤ bt) (h : ptd pt lo bt T s0 s) (hT : ∀ j, j < bs → T (bt + j) = w / 2 ^ j % 2) : ptd pt lo (bt + bs) T s0 (F_M_pack pt n bt bs v s) := by
  have c := Q_packL (s0 := s0) (T := T) hv hw bs 0 s (by omega) (by omega) h (fun j hj => hT j (by omega))
  rw [Nat.zero_add] at c
  rw [F_M_pack]
  exact c
theorem Q_write1L {pf pt n at_ : Nat} {s0 : Sto} (hne : pf ≠ pt) (hf : ∀ k, k < 256 → ∃ v : Nat, v < 2 ^ 1 ∧ s0.1 pf k = nI v) : ∀ (m i : Nat) (s : Sto), i + m = 256 → ptd pt (8 * at_) (8 * at_ + 1 * i) (fun k => nb 1 (s0.1 pf) (k - 8 * at_)) s0 s → ptd pt (8 * at_) (8 * at_ + 1 * 256) (fun k => nb 1 (s0.1 pf) (k - 8 * at_)) s0 (F_ME_write_1_L0 pf pt n at_ m i s)
  | 0, i, s, hi, h => by
    obtain rfl : i = 256 := by omega
    exact h
  | m + 1, i, s, hi, h => by
    obtain ⟨v, hv, ev⟩ := hf i (by omega)
    have ep : s.1 pf = s0.1 pf := h.1.1 pf hne
    have c := Q_pack_in (pt := pt) (n := n) (bt := (8 * at_) + (1 * i)) (bs := 1) (v := s.1 pf i) (w := v) (by rw [ep]; exact ev) (by omega) (by decide) (by omega) h (fun j hj => by
      show nb 1 (s0.1 pf) (8 * at_ + 1 * i + j - 8 * at_) = _
      rw [show 8 * at_ + 1 * i + j - 8 * at_ = 1 * i + j by omega, nb_at hj, vn_n ev (by omega)])
    rw [F_ME_write_1_L0, bnd_eq]
    exact Q_write1L hne hf m (i + 1) _ (by omega) (by rw [show 8 * at_ + 1 * (i + 1) = 8 * at_ + 1 * i + 1 by omega]; exact c)
/-- the two ways to write 1-bit numbers -/
theorem write1_same {pf pt n at_ qf qt m bt : Nat} {s t : Sto} (h1 : pf ≠ pt) (h2 : qf ≠ qt) (hf : ∀ k, k < 256 → ∃ v : Nat, v < 2 ^ 1 ∧ s.1 pf k = nI v) (hE : ∀ k, k < 256 → s.1 pf k = t.1 qf k) :
    onl pt s (F_BT_pack pf 1 pt n at_ s) ∧ onl qt t (F_ME_write_1 qf qt m bt t) ∧ (∀ j, j < 32 * 1 → (F_BT_pack pf 1 pt n at_ s).1 pt (at_ + j) = (F_ME_write_1 qf qt m bt t).1 qt (bt + j)) ∧ (∀ k, (k < at_ ∨ at_ + 32 * 1 ≤ k) → (F_BT_pack pf 1 pt n at_ s).1 pt k = s.1 pt k) ∧ ∀ k, (k < bt ∨ bt + 32 * 1 ≤ k) → (F_ME_write_1 qf qt m bt t).1 qt k = t.1 qt k := by
  obtain ⟨a1, a2, a3⟩ := P_pack (n := n) (at_ := at_) (s := s) h1 (show 1 ≤ 1 by decide) (by decide) hf
  obtain ⟨b1, b2, b3, b4, b5⟩ := Q_write1L (n := m) (at_ := bt) (s0 := t) h2 (fun k hk => by rw [← hE k hk]; exact hf k hk) 256 0 t rfl (by rw [Nat.mul_zero, Nat.add_zero]; exact ptd_rf (by omega))
  rw [← F_ME_write_1] at b1 b2 b3 b4 b5
  refine ⟨a1, b1, fun j hj => ?_, a3, fun k hk => b5 k (by omega)⟩
  rw [a2 j hj, by8_of (b4 (bt + j) (by omega) (by omega)), ← rb_byte]
  refine congrArg by8 (bv_c 8 fun i hi => ?_)
  rw [b2 (8 * (bt + j) + i) (by omega) (by omega)]
  show _ = nb 1 (t.1 qf) (8 * (bt + j) + i - 8 * bt)
  rw [show 8 * (bt + j) + i - 8 * bt = 8 * j + i by omega]
  exact nb_c (by decide) hE (by omega)
theorem Q_write4L {pf pt n at_ : Nat} {s0 : Sto} (hne : pf ≠ pt) (hf : ∀ k, k < 256 → ∃ v : Nat, v < 2 ^ 4 ∧ s0.1 pf k = nI v) : ∀ (m i : Nat) (s : Sto), i + m = 256 → ptd pt (8 * at_) (8 * at_ + 4 * i) (fun k => nb 4 (s0.1 pf) (k - 8 * at_)) s0 s → ptd pt (8 * at_) (8 * at_ + 4 * 256) (fun k => nb 4 (s0.1 pf) (k - 8 * at_)) s0 (F_ME_write_4_L0 pf pt n at_ m i s)
  | 0, i, s, hi, h => by
    obtain rfl : i = 256 := by omega
    exact h
  | m + 1, i, s, hi, h => by
    obtain ⟨v, hv, ev⟩ := hf i (by omega)
    have ep : s.1 pf = s0.1 pf := h.1.1 pf hne
    have c := Q_pack_in (pt := pt) (n := n) (bt := (8 * at_) + (4 * i)) (bs := 4) (v := s.1 pf i) (w := v) (by rw [ep]; exact ev) (by omega) (by decide) (by omega) h (fun j hj => by
      show nb 4 (s0.1 pf) (8 * at_ + 4 * i + j - 8 * at_) = _
      rw [show 8 * at_ + 4 * i + j - 8 * at_ = 4 * i + j by omega, nb_at hj, vn_n ev (by omega)])
    rw [F_ME_write_4_L0, bnd_eq]
    exact Q_write4L hne hf m (i + 1) _ (by omega) (by rw [show 8 * at_ + 4 * (i + 1) = 8 * at_ + 4 * i + 4 by omega]; exact c)
/-- the two ways to write 4-bit numbers -/
theorem write4_same {pf pt n at_ qf qt m bt : Nat} {s t : Sto} (h1 : pf ≠ pt) (h2 : qf ≠ qt) (hf : ∀ k, k < 256 → ∃ v : Nat, v < 2 ^ 4 ∧ s.1 pf k = nI v) (hE : ∀ k, k < 256 → s.1 pf k = t.1 qf k) :
    onl pt s (F_BT_pack pf 4 pt n at_ s) ∧ onl qt t (F_ME_write_4 qf qt m bt t) ∧ (∀ j, j < 32 * 4 → (F_BT_pack pf 4 pt n at_ s).1 pt (at_ + j) = (F_ME_write_4 qf qt m bt t).1 qt (bt + j)) ∧ (∀ k, (k < at_ ∨ at_ + 32 * 4 ≤ k) → (F_BT_pack pf 4 pt n at_ s).1 pt k = s.1 pt k) ∧ ∀ k, (k < bt ∨ bt + 32 * 4 ≤ k) → (F_ME_write_4 qf qt m bt t).1 qt k = t.1 qt k := by
  obtain ⟨a1, a2, a3⟩ := P_pack (n := n) (at_ := at_) (s := s) h1 (show 1 ≤ 4 by decide) (by decide) hf
  obtain ⟨b1, b2, b3, b4, b5⟩ := Q_write4L (n := m) (at_ := bt) (s0 := t) h2 (fun k hk => by rw [← hE k hk]; exact hf k hk) 256 0 t rfl (by rw [Nat.mul_zero, Nat.add_zero]; exact ptd_rf (by omega))
  rw [← F_ME_write_4] at b1 b2 b3 b4 b5
  refine ⟨a1, b1, fun j hj => ?_, a3, fun k hk => b5 k (by omega)⟩
  rw [a2 j hj, by8_of (b4 (bt + j) (by omega) (by omega)), ← rb_byte]
  refine congrArg by8 (bv_c 8 fun i hi => ?_)
  rw [b2 (8 * (bt + j) + i) (by omega) (by omega)]
  show _ = nb 4 (t.1 qf) (8 * (bt + j) + i - 8 * bt)
  rw [show 8 * (bt + j) + i - 8 * bt = 8 * j + i by omega]
  exact nb_c (by decide) hE (by omega)
theorem Q_write5L {pf pt n at_ : Nat} {s0 : Sto} (hne : pf ≠ pt) (hf : ∀ k, k < 256 → ∃ v : Nat, v < 2 ^ 5 ∧ s0.1 pf k = nI v) : ∀ (m i : Nat) (s : Sto), i + m = 256 → ptd pt (8 * at_) (8 * at_ + 5 * i) (fun k => nb 5 (s0.1 pf) (k - 8 * at_)) s0 s → ptd pt (8 * at_) (8 * at_ + 5 * 256) (fun k => nb 5 (s0.1 pf) (k - 8 * at_)) s0 (F_ME_write_5_L0 pf pt n at_ m i s)
  | 0, i, s, hi, h => by
    obtain rfl : i = 256 := by omega
    exact h
  | m + 1, i, s, hi, h => by
    obtain ⟨v, hv, ev⟩ := hf i (by omega)
    have ep : s.1 pf = s0.1 pf := h.1.1 pf hne
    have c := Q_pack_in (pt := pt) (n := n) (bt := (8 * at_) + (5 * i)) (bs := 5) (v := s.1 pf i) (w := v) (by rw [ep]; exact ev) (by omega) (by decide) (by omega) h (fun j hj => by
      show nb 5 (s0.1 pf) (8 * at_ + 5 * i + j - 8 * at_) = _
      rw [show 8 * at_ + 5 * i + j - 8 * at_ = 5 * i + j by omega, nb_at hj, vn_n ev (by omega)])
    rw [F_ME_write_5_L0, bnd_eq]
    exact Q_write5L hne hf m (i + 1) _ (by omega) (by rw [show 8 * at_ + 5 * (i + 1) = 8 * at_ + 5 * i + 5 by omega]; exact c)
/-- the two ways to write 5-bit numbers -/
theorem write5_same {pf pt n at_ qf qt m bt : Nat} {s t : Sto} (h1 : pf ≠ pt) (h2 : qf ≠ qt) (hf : ∀ k, k < 256 → ∃ v : Nat, v < 2 ^ 5 ∧ s.1 pf k = nI v) (hE : ∀ k, k < 256 → s.1 pf k = t.1 qf k) :
    onl pt s (F_BT_pack pf 5 pt n at_ s) ∧ onl qt t (F_ME_write_5 qf qt m bt t) ∧ (∀ j, j < 32 * 5 → (F_BT_pack pf 5 pt n at_ s).1 pt (at_ + j) = (F_ME_write_5 qf qt m bt t).1 qt (bt + j)) ∧ (∀ k, (k < at_ ∨ at_ + 32 * 5 ≤ k) → (F_BT_pack pf 5 pt n at_ s).1 pt k = s.1 pt k) ∧ ∀ k, (k < bt ∨ bt + 32 * 5 ≤ k) → (F_ME_write_5 qf qt m bt t).1 qt k = t.1 qt k := by
  obtain ⟨a1, a2, a3⟩ := P_pack (n := n) (at_ := at_) (s := s) h1 (show 1 ≤ 5 by decide) (by decide) hf
  obtain ⟨b1, b2, b3, b4, b5⟩ := Q_write5L (n := m) (at_ := bt) (s0 := t) h2 (fun k hk => by rw [← hE k hk]; exact hf k hk) 256 0 t rfl (by rw [Nat.mul_zero, Nat.add_zero]; exact ptd_rf (by omega))
  rw [← F_ME_write_5] at b1 b2 b3 b4 b5
  refine ⟨a1, b1, fun j hj => ?_, a3, fun k hk => b5 k (by omega)⟩
  rw [a2 j hj, by8_of (b4 (bt + j) (by omega) (by omega)), ← rb_byte]
  refine congrArg by8 (bv_c 8 fun i hi => ?_)
  rw [b2 (8 * (bt + j) + i) (by omega) (by omega)]
  show _ = nb 5 (t.1 qf) (8 * (bt + j) + i - 8 * bt)
  rw [show 8 * (bt + j) + i - 8 * bt = 8 * j + i by omega]
  exact nb_c (by decide) hE (by omega)
theorem Q_write10L {pf pt n at_ : Nat} {s0 : Sto} (hne : pf ≠ pt) (hf : ∀ k, k < 256 → ∃ v : Nat, v < 2 ^ 10 ∧ s0.1 pf k = nI v) : ∀ (m i : Nat) (s : Sto), i + m = 256 → ptd pt (8 * at_) (8 * at_ + 10 * i) (fun k => nb 10 (s0.1 pf) (k - 8 * at_)) s0 s → ptd pt (8 * at_) (8 * at_ + 10 * 256) (fun k => nb 10 (s0.1 pf) (k - 8 * at_)) s0 (F_ME_write_10_L0 pf pt n at_ m i s)
  | 0, i, s, hi, h => by
    obtain rfl : i = 256 := by omega
    exact h
  | m + 1, i, s, hi, h => by
    obtain ⟨v, hv, ev⟩ := hf i (by omega)
    have ep : s.1 pf = s0.1 pf := h.1.1 pf hne
    have c := Q_pack_in (pt := pt) (n := n) (bt := (8 * at_) + (10 * i)) (bs := 10) (v := s.1 pf i) (w := v) (by rw [ep]; exact ev) (by omega) (by decide) (by omega) h (fun j hj => by
      show nb 10 (s0.1 pf) (8 * at_ + 10 * i + j - 8 * at_) = _
      rw [show 8 * at_ + 10 * i + j - 8 * at_ = 10 * i + j by omega, nb_at hj, vn_n ev (by omega)])
    rw [F_ME_write_10_L0, bnd_eq]
    exact Q_write10L hne hf m (i + 1) _ (by omega) (by rw [show 8 * at_ + 10 * (i + 1) = 8 * at_ + 10 * i + 10 by omega]; exact c)
/-- the two ways to write 10-bit numbers -/
theorem write10_same {pf pt n at_ qf qt m bt : Nat} {s t : Sto} (h1 : pf ≠ pt) (h2 : qf ≠ qt) (hf : ∀ k, k < 256 → ∃ v : Nat, v < 2 ^ 10 ∧ s.1 pf k = nI v) (hE : ∀ k, k < 256 → s.1 pf k = t.1 qf k) :
    onl pt s (F_BT_pack pf 10 pt n at_ s) ∧ onl qt t (F_ME_write_10 qf qt m bt t) ∧ (∀ j, j < 32 * 10 → (F_BT_pack pf 10 pt n at_ s).1 pt (at_ + j) = (F_ME_write_10 qf qt m bt t).1 qt (bt + j)) ∧ (∀ k, (k < at_ ∨ at_ + 32 * 10 ≤ k) → (F_BT_pack pf 10 pt n at_ s).1 pt k = s.1 pt k) ∧ ∀ k, (k < bt ∨ bt + 32 * 10 ≤ k) → (F_ME_write_10 qf qt m bt t).1 qt k = t.1 qt k := by
  obtain ⟨a1, a2, a3⟩ := P_pack (n := n) (at_ := at_) (s := s) h1 (show 1 ≤ 10 by decide) (by decide) hf
  obtain ⟨b1, b2, b3, b4, b5⟩ := Q_write10L (n := m) (at_ := bt) (s0 := t) h2 (fun k hk => by rw [← hE k hk]; exact hf k hk) 256 0 t rfl (by rw [Nat.mul_zero, Nat.add_zero]; exact ptd_rf (by omega))
  rw [← F_ME_write_10] at b1 b2 b3 b4 b5
  refine ⟨a1, b1, fun j hj => ?_, a3, fun k hk => b5 k (by omega)⟩
  rw [a2 j hj, by8_of (b4 (bt + j) (by omega) (by omega)), ← rb_byte]
  refine congrArg by8 (bv_c 8 fun i hi => ?_)
  rw [b2 (8 * (bt + j) + i) (by omega) (by omega)]
  show _ = nb 10 (t.1 qf) (8 * (bt + j) + i - 8 * bt)
  rw [show 8 * (bt + j) + i - 8 * bt = 8 * j + i by omega]
  exact nb_c (by decide) hE (by omega)
theorem Q_write11L {pf pt n at_ : Nat} {s0 : Sto} (hne : pf ≠ pt) (hf : ∀ k, k < 256 → ∃ v : Nat, v < 2 ^ 11 ∧ s0.1 pf k = nI v) : ∀ (m i : Nat) (s : Sto), i + m = 256 → ptd pt (8 * at_) (8 * at_ + 11 * i) (fun k => nb 11 (s0.1 pf) (k - 8 * at_)) s0 s → ptd pt (8 * at_) (8 * at_ + 11 * 256) (fun k => nb 11 (s0.1 pf) (k - 8 * at_)) s0 (F_ME_write_11_L0 pf pt n at_ m i s)
  | 0, i, s, hi, h => by
    obtain rfl : i = 256 := by omega
    exact h
  | m + 1, i, s, hi, h => by
    obtain ⟨v, hv, ev⟩ := hf i (by omega)
    have ep : s.1 pf = s0.1 pf := h.1.1 pf hne
    have c := Q_pack_in (pt := pt) (n := n) (bt := (8 * at_) + (11 * i)) (bs := 11) (v := s.1 pf i) (w := v) (by rw [ep]; exact ev) (by omega) (by decide) (by omega) h (fun j hj => by
      show nb 11 (s0.1 pf) (8 * at_ + 11 * i + j - 8 * at_) = _
      rw [show 8 * at_ + 11 * i + j - 8 * at_ = 11 * i + j by omega, nb_at hj, vn_n ev (by omega)])
    rw [F_ME_write_11_L0, bnd_eq]
    exact Q_write11L hne hf m (i + 1) _ (by omega) (by rw [show 8 * at_ + 11 * (i + 1) = 8 * at_ + 11 * i + 11 by omega]; exact c)
/-- the two ways to write 11-bit numbers -/
theorem write11_same {pf pt n at_ qf qt m bt : Nat} {s t : Sto} (h1 : pf ≠ pt) (h2 : qf ≠ qt) (hf : ∀ k, k < 256 → ∃ v : Nat, v < 2 ^ 11 ∧ s.1 pf k = nI v) (hE : ∀ k, k < 256 → s.1 pf k = t.1 qf k) :
    onl pt s (F_BT_pack pf 11 pt n at_ s) ∧ onl qt t (F_ME_write_11 qf qt m bt t) ∧ (∀ j, j < 32 * 11 → (F_BT_pack pf 11 pt n at_ s).1 pt (at_ + j) = (F_ME_write_11 qf qt m bt t).1 qt (bt + j)) ∧ (∀ k, (k < at_ ∨ at_ + 32 * 11 ≤ k) → (F_BT_pack pf 11 pt n at_ s).1 pt k = s.1 pt k) ∧ ∀ k, (k < bt ∨ bt + 32 * 11 ≤ k) → (F_ME_write_11 qf qt m bt t).1 qt k = t.1 qt k := by
  obtain ⟨a1, a2, a3⟩ := P_pack (n := n) (at_ := at_) (s := s) h1 (show 1 ≤ 11 by decide) (by decide) hf
  obtain ⟨b1, b2, b3, b4, b5⟩ := Q_write11L (n := m) (at_ := bt) (s0 := t) h2 (fun k hk => by rw [← hE k hk]; exact hf k hk) 256 0 t rfl (by rw [Nat.mul_zero, Nat.add_zero]; exact ptd_rf (by omega))
  rw [← F_ME_write_11] at b1 b2 b3 b4 b5
  refine ⟨a1, b1, fun j hj => ?_, a3, fun k hk => b5 k (by omega)⟩
  rw [a2 j hj, by8_of (b4 (bt + j) (by omega) (by omega)), ← rb_byte]
  refine congrArg by8 (bv_c 8 fun i hi => ?_)
  rw [b2 (8 * (bt + j) + i) (by omega) (by omega)]
  show _ = nb 11 (t.1 qf) (8 * (bt + j) + i - 8 * bt)
  rw [show 8 * (bt + j) + i - 8 * bt = 8 * j + i by omega]
  exact nb_c (by decide) hE (by omega)
theorem Q_write12L {pf pt n at_ : Nat} {s0 : Sto} (hne : pf ≠ pt) (hf : ∀ k, k < 256 → ∃ v : Nat, v < 2 ^ 12 ∧ s0.1 pf k = nI v) : ∀ (m i : Nat) (s : Sto), i + m = 256 → ptd pt (8 * at_) (8 * at_ + 12 * i) (fun k => nb 12 (s0.1 pf) (k - 8 * at_)) s0 s → ptd pt (8 * at_) (8 * at_ + 12 * 256) (fun k => nb 12 (s0.1 pf) (k - 8 * at_)) s0 (F_ME_write_12_L0 pf pt n at_ m i s)
  | 0, i, s, hi, h => by
    obtain rfl : i = 256 := by omega
    exact h
  | m + 1, i, s, hi, h => by
    obtain ⟨v, hv, ev⟩ := hf i (by omega)
    have ep : s.1 pf = s0.1 pf := h.1.1 pf hne
    have c := Q_pack_in (pt := pt) (n := n) (bt := (8 * at_) + (12 * i)) (bs := 12) (v := s.1 pf i) (w := v) (by rw [ep]; exact ev) (by omega) (by decide) (by omega) h (fun j hj => by
      show nb 12 (s0.1 pf) (8 * at_ + 12 * i + j - 8 * at_) = _
      rw [show 8 * at_ + 12 * i + j - 8 * at_ = 12 * i + j by omega, nb_at hj, vn_n ev (by omega)])
    rw [F_ME_write_12_L0, bnd_eq]
    exact Q_write12L hne hf m (i + 1) _ (by omega) (by rw [show 8 * at_ + 12 * (i + 1) = 8 * at_ + 12 * i + 12 by omega]; exact c)
/-- the two ways to write 12-bit numbers -/
theorem write12_same {pf pt n at_ qf qt m bt : Nat} {s t : Sto} (h1 : pf ≠ pt) (h2 : qf ≠ qt) (hf : ∀ k, k < 256 → ∃ v : Nat, v < 2 ^ 12 ∧ s.1 pf k = nI v) (hE : ∀ k, k < 256 → s.1 pf k = t.1 qf k) :
    onl pt s (F_BT_pack pf 12 pt n at_ s) ∧ onl qt t (F_ME_write_12 qf qt m bt t) ∧ (∀ j, j < 32 * 12 → (F_BT_pack pf 12 pt n at_ s).1 pt (at_ + j) = (F_ME_write_12 qf qt m bt t).1 qt (bt + j)) ∧ (∀ k, (k < at_ ∨ at_ + 32 * 12 ≤ k) → (F_BT_pack pf 12 pt n at_ s).1 pt k = s.1 pt k) ∧ ∀ k, (k < bt ∨ bt + 32 * 12 ≤ k) → (F_ME_write_12 qf qt m bt t).1 qt k = t.1 qt k := by
  obtain ⟨a1, a2, a3⟩ := P_pack (n := n) (at_ := at_) (s := s) h1 (show 1 ≤ 12 by decide) (by decide) hf
  obtain ⟨b1, b2, b3, b4, b5⟩ := Q_write12L (n := m) (at_ := bt) (s0 := t) h2 (fun k hk => by rw [← hE k hk]; exact hf k hk) 256 0 t rfl (by rw [Nat.mul_zero, Nat.add_zero]; exact ptd_rf (by omega))
  rw [← F_ME_write_12] at b1 b2 b3 b4 b5
  refine ⟨a1, b1, fun j hj => ?_, a3, fun k hk => b5 k (by omega)⟩
  rw [a2 j hj, by8_of (b4 (bt + j) (by omega) (by omega)), ← rb_byte]
  refine congrArg by8 (bv_c 8 fun i hi => ?_)
  rw [b2 (8 * (bt + j) + i) (by omega) (by omega)]
  show _ = nb 12 (t.1 qf) (8 * (bt + j) + i - 8 * bt)
  rw [show 8 * (bt + j) + i - 8 * bt = 8 * j + i by omega]
  exact nb_c (by decide) hE (by omega)
