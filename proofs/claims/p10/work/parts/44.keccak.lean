set_option linter.all false
/-! Keccak-f is one-to-one, whatever its turns and constants are -/
def bl (x : Int64) (i : Nat) : Bool := x.toBitVec.getLsbD i
theorem bl_ext {x y : Int64} (h : ∀ i, i < 64 → bl x i = bl y i) : x = y := Int64.toBitVec_inj.mp (BitVec.eq_of_getLsbD_eq (fun i hi => h i hi))
theorem bl_or (x y : Int64) (i : Nat) : bl (x ||| y) i = (bl x i || bl y i) := by unfold bl; rw [Int64.toBitVec_or, BitVec.getLsbD_or]
theorem bl_and (x y : Int64) (i : Nat) : bl (x &&& y) i = (bl x i && bl y i) := by unfold bl; rw [Int64.toBitVec_and, BitVec.getLsbD_and]
theorem bl_xor (x y : Int64) (i : Nat) : bl (x ^^^ y) i = (bl x i ^^ bl y i) := by unfold bl; rw [Int64.toBitVec_xor, BitVec.getLsbD_xor]
theorem bl_big {x : Int64} {i : Nat} (h : 64 ≤ i) : bl x i = false := BitVec.getLsbD_of_ge _ _ h
theorem bl_m1 : ∀ i, i < 64 → bl (-1) i = true := by decide +kernel
/-- what the reference's left gives: a turn by the six lowest bits -/
def lf (v : Int64) (n : Int32) : Int64 := v <<< (n.toInt64 &&& 63) ||| ((v.toUInt64 >>> (Int32.toInt64 1).toUInt64).toInt64.toUInt64 >>> ((63 - n).toInt64.toUInt64 &&& Int64.toUInt64 63)).toInt64
theorem lf_l (n : Int32) : ((n.toInt64 &&& 63).toBitVec.smod 64).toNat = n.toBitVec.toNat % 64 := by
  have h0 : (n.toInt64 &&& 63).toBitVec.toNat = n.toBitVec.toNat % 64 := by
    rw [Int64.toBitVec_and, BitVec.toNat_and]
    show (n.toBitVec.signExtend 64).toNat &&& 63 = _
    rw [show (63 : Nat) = 2 ^ 6 - 1 from rfl, Nat.and_two_pow_sub_one_eq_mod]
    rw [BitVec.toNat_signExtend]
    split <;> simp <;> omega
  have h1 : ¬ (n.toInt64 &&& 63).toBitVec.msb = true := by
    rw [BitVec.msb_eq_decide, h0]
    simp
    omega
  rw [BitVec.smod_eq]
  simp only [Bool.not_eq_true] at h1
  rw [h1]
  show ((n.toInt64 &&& 63).toBitVec.umod 64#64).toNat = _
  rw [show (n.toInt64 &&& 63).toBitVec.umod 64#64 = (n.toInt64 &&& 63).toBitVec % 64#64 from rfl, BitVec.toNat_umod, h0]
  show n.toBitVec.toNat % 64 % 64 = _
  omega
theorem lf_r (n : Int32) : (((63 - n).toInt64.toUInt64 &&& Int64.toUInt64 63).toBitVec % 64).toNat = 63 - n.toBitVec.toNat % 64 := by
  have h0 : ((63 - n).toInt64.toUInt64 &&& Int64.toUInt64 63).toBitVec.toNat = (63 - n).toBitVec.toNat % 64 := by
    rw [UInt64.toBitVec_and, BitVec.toNat_and]
    show ((63 - n).toBitVec.signExtend 64).toNat &&& 63 = _
    rw [show (63 : Nat) = 2 ^ 6 - 1 from rfl, Nat.and_two_pow_sub_one_eq_mod]
    rw [BitVec.toNat_signExtend]
    split <;> simp <;> omega
  rw [BitVec.toNat_umod, h0, Int32.toBitVec_sub, BitVec.toNat_sub]
  show (2 ^ 32 - n.toBitVec.toNat + 63) % 2 ^ 32 % 64 % 64 = _
  have := n.toBitVec.isLt
  omega
theorem lf_bit (n : Int32) (v : Int64) {i : Nat} (hi : i < 64) : bl (lf v n) i = bl v ((i + (64 - n.toBitVec.toNat % 64)) % 64) := by
  unfold lf
  rw [bl_or]
  have ha : bl (v <<< (n.toInt64 &&& 63)) i = (decide (n.toBitVec.toNat % 64 ≤ i) && bl v (i - n.toBitVec.toNat % 64)) := by
    unfold bl
    rw [Int64.toBitVec_shiftLeft]
    show (v.toBitVec <<< ((n.toInt64 &&& 63).toBitVec.smod 64).toNat).getLsbD i = _
    rw [lf_l, BitVec.getLsbD_shiftLeft]
    rcases Nat.lt_or_ge i (n.toBitVec.toNat % 64) with h | h
    · simp [h, Nat.not_le.mpr h]
    · simp [hi, h, Nat.not_lt.mpr h]
  have hb : bl ((v.toUInt64 >>> (Int32.toInt64 1).toUInt64).toInt64.toUInt64 >>> ((63 - n).toInt64.toUInt64 &&& Int64.toUInt64 63)).toInt64 i = bl v (1 + (63 - n.toBitVec.toNat % 64 + i)) := by
    show ((v.toUInt64 >>> (Int32.toInt64 1).toUInt64) >>> ((63 - n).toInt64.toUInt64 &&& Int64.toUInt64 63)).toBitVec.getLsbD i = _
    rw [UInt64.toBitVec_shiftRight]
    show ((v.toUInt64 >>> (Int32.toInt64 1).toUInt64).toBitVec >>> ((((63 - n).toInt64.toUInt64 &&& Int64.toUInt64 63).toBitVec % 64).toNat)).getLsbD i = _
    rw [lf_r, BitVec.getLsbD_ushiftRight, UInt64.toBitVec_shiftRight]
    show (v.toBitVec >>> (((Int32.toInt64 1).toUInt64.toBitVec % 64).toNat)).getLsbD _ = _
    rw [show (((Int32.toInt64 1).toUInt64.toBitVec % 64).toNat) = 1 from by decide, BitVec.getLsbD_ushiftRight]
    rfl
  rw [ha, hb]
  generalize n.toBitVec.toNat = N
  rcases Nat.lt_or_ge i (N % 64) with h | h
  · rw [decide_eq_false (by omega), Bool.false_and, Bool.false_or]
    congr 1
    omega
  · rw [bl_big (x := v) (i := 1 + (63 - N % 64 + i)) (by omega), Bool.or_false, decide_eq_true (by omega), Bool.true_and]
    congr 1
    omega
theorem lf_inj {v w : Int64} {n : Int32} (h : lf v n = lf w n) : v = w := by
  apply bl_ext
  intro i hi
  have h1 : bl (lf v n) ((i + n.toBitVec.toNat % 64) % 64) = bl (lf w n) ((i + n.toBitVec.toNat % 64) % 64) := by rw [h]
  rw [lf_bit n v (by omega), lf_bit n w (by omega)] at h1
  rw [show ((i + n.toBitVec.toNat % 64) % 64 + (64 - n.toBitVec.toNat % 64)) % 64 = i by omega] at h1
  exact h1
def colF (s : Nat → Int64) (x : Nat) : Int64 := s x ^^^ s (x + 5) ^^^ s (x + 10) ^^^ s (x + 15) ^^^ s (x + 20)
def thD (c : Nat → Int64) (i : Nat) : Int64 := c ((i + 4) % 5) ^^^ lf (c ((i + 1) % 5)) 1
def thF (s : Nat → Int64) (i : Nat) : Int64 := s i ^^^ thD (colF s) i
def rpF (u : Nat → Int32) (s : Nat → Int64) (k : Nat) : Int64 := lf (s ((3 * (k / 5) + k % 5) % 5 + 5 * (k % 5))) (u ((3 * (k / 5) + k % 5) % 5 + 5 * (k % 5)))
def chF (t : Nat → Int64) (i : Nat) : Int64 := t i ^^^ ((t ((i % 5 + 1) % 5 + 5 * (i / 5)) ^^^ -1) &&& t ((i % 5 + 2) % 5 + 5 * (i / 5)))
def ioF (r : Int64) (s : Nat → Int64) (i : Nat) : Int64 := if i = 0 then s 0 ^^^ r else s i
def rdF (u : Nat → Int32) (r : Int64) (s : Nat → Int64) : Nat → Int64 := ioF r (chF (rpF u (thF s)))
def eq25 (f g : Nat → Int64) : Prop := ∀ i, i < 25 → f i = g i
theorem eq25.symm {f g : Nat → Int64} (h : eq25 f g) : eq25 g f := fun i hi => (h i hi).symm
theorem eq25.trans {f g k : Nat → Int64} (h : eq25 f g) (h2 : eq25 g k) : eq25 f k := fun i hi => (h i hi).trans (h2 i hi)
theorem colF_c {f g : Nat → Int64} (h : eq25 f g) {x : Nat} (hx : x < 5) : colF f x = colF g x := by
  unfold colF
  rw [h x (by omega), h (x + 5) (by omega), h (x + 10) (by omega), h (x + 15) (by omega), h (x + 20) (by omega)]
theorem thF_c {f g : Nat → Int64} (h : eq25 f g) : eq25 (thF f) (thF g) := fun i hi => by
  unfold thF thD
  rw [h i hi, colF_c h (Nat.mod_lt _ (by decide)), colF_c h (Nat.mod_lt _ (by decide))]
theorem rpF_c {u : Nat → Int32} {f g : Nat → Int64} (h : eq25 f g) : eq25 (rpF u f) (rpF u g) := fun i hi => by
  unfold rpF
  rw [h _ (by omega)]
theorem chF_c {f g : Nat → Int64} (h : eq25 f g) : eq25 (chF f) (chF g) := fun i hi => by
  unfold chF
  rw [h i hi, h ((i % 5 + 1) % 5 + 5 * (i / 5)) (by omega), h ((i % 5 + 2) % 5 + 5 * (i / 5)) (by omega)]
theorem ioF_c {r : Int64} {f g : Nat → Int64} (h : eq25 f g) : eq25 (ioF r f) (ioF r g) := fun i hi => by
  unfold ioF
  rw [h i hi, h 0 (by decide)]
theorem rdF_c {u : Nat → Int32} {r : Int64} {f g : Nat → Int64} (h : eq25 f g) : eq25 (rdF u r f) (rdF u r g) := ioF_c (chF_c (rpF_c (thF_c h)))
theorem ioF_i {r : Int64} {f g : Nat → Int64} (h : eq25 (ioF r f) (ioF r g)) : eq25 f g := fun i hi => by
  have h1 := h i hi
  unfold ioF at h1
  by_cases q : i = 0
  · subst q
    simp only [if_true] at h1
    apply bl_ext
    intro j hj
    have h2 := congrArg (fun z => bl z j) h1
    simp only [bl_xor] at h2
    revert h2
    cases bl (f 0) j <;> cases bl (g 0) j <;> cases bl r j <;> simp
  · simp only [q, if_false] at h1
    exact h1
theorem ch_bits : ∀ a b c d e a' b' c' d' e' : Bool, (a ^^ ((b ^^ true) && c)) = (a' ^^ ((b' ^^ true) && c')) → (b ^^ ((c ^^ true) && d)) = (b' ^^ ((c' ^^ true) && d')) → (c ^^ ((d ^^ true) && e)) = (c' ^^ ((d' ^^ true) && e')) → (d ^^ ((e ^^ true) && a)) = (d' ^^ ((e' ^^ true) && a')) → (e ^^ ((a ^^ true) && b)) = (e' ^^ ((a' ^^ true) && b')) → a = a' ∧ b = b' ∧ c = c' ∧ d = d' ∧ e = e' := by decide +kernel
theorem chF_row {f g : Nat → Int64} (h : eq25 (chF f) (chF g)) (y : Nat) (hy : y < 5) : f (0 + 5 * y) = g (0 + 5 * y) ∧ f (1 + 5 * y) = g (1 + 5 * y) ∧ f (2 + 5 * y) = g (2 + 5 * y) ∧ f (3 + 5 * y) = g (3 + 5 * y) ∧ f (4 + 5 * y) = g (4 + 5 * y) := by
  have e : ∀ x, x < 5 → ∀ j, j < 64 → (bl (f (x + 5 * y)) j ^^ ((bl (f ((x + 1) % 5 + 5 * y)) j ^^ true) && bl (f ((x + 2) % 5 + 5 * y)) j)) = (bl (g (x + 5 * y)) j ^^ ((bl (g ((x + 1) % 5 + 5 * y)) j ^^ true) && bl (g ((x + 2) % 5 + 5 * y)) j)) := by
    intro x hx j hj
    have h1 := congrArg (fun z => bl z j) (h (x + 5 * y) (by omega))
    simp only [chF, bl_xor, bl_and, bl_m1 j hj, show (x + 5 * y) % 5 = x by omega, show (x + 5 * y) / 5 = y by omega] at h1
    exact h1
  have k : ∀ j, j < 64 → bl (f (0 + 5 * y)) j = bl (g (0 + 5 * y)) j ∧ bl (f (1 + 5 * y)) j = bl (g (1 + 5 * y)) j ∧ bl (f (2 + 5 * y)) j = bl (g (2 + 5 * y)) j ∧ bl (f (3 + 5 * y)) j = bl (g (3 + 5 * y)) j ∧ bl (f (4 + 5 * y)) j = bl (g (4 + 5 * y)) j := fun j hj =>
    ch_bits _ _ _ _ _ _ _ _ _ _ (e 0 (by decide) j hj) (e 1 (by decide) j hj) (e 2 (by decide) j hj) (e 3 (by decide) j hj) (e 4 (by decide) j hj)
  exact ⟨bl_ext fun j hj => (k j hj).1, bl_ext fun j hj => (k j hj).2.1, bl_ext fun j hj => (k j hj).2.2.1, bl_ext fun j hj => (k j hj).2.2.2.1, bl_ext fun j hj => (k j hj).2.2.2.2⟩
theorem chF_i {f g : Nat → Int64} (h : eq25 (chF f) (chF g)) : eq25 f g := fun i hi => by
  obtain ⟨a, b, c, d, e⟩ := chF_row h (i / 5) (by omega)
  have hm : i % 5 + 5 * (i / 5) = i := by omega
  have h5 : i % 5 < 5 := Nat.mod_lt _ (by decide)
  rw [← hm]
  generalize i % 5 = x at h5
  match x, h5 with
  | 0, _ => exact a
  | 1, _ => exact b
  | 2, _ => exact c
  | 3, _ => exact d
  | 4, _ => exact e
  | n + 5, h => omega
theorem rpF_i {u : Nat → Int32} {f g : Nat → Int64} (h : eq25 (rpF u f) (rpF u g)) : eq25 f g := fun i hi => by
  have h1 := h (i / 5 + 5 * ((2 * (i % 5) + 3 * (i / 5)) % 5)) (by omega)
  unfold rpF at h1
  rw [(by decide +kernel : ∀ i, i < 25 → (3 * ((i / 5 + 5 * ((2 * (i % 5) + 3 * (i / 5)) % 5)) / 5) + (i / 5 + 5 * ((2 * (i % 5) + 3 * (i / 5)) % 5)) % 5) % 5 + 5 * ((i / 5 + 5 * ((2 * (i % 5) + 3 * (i / 5)) % 5)) % 5) = i) i hi] at h1
  exact lf_inj h1
/-- the columns: one step twice is the step of twice the length -/
theorem th_step {b : Nat → Nat → Bool} (m : Nat) (h : ∀ x j, (b x j ^^ (b (x + 4 * m) j ^^ b (x + m) (j + 63 * m))) = false) : ∀ x j, (b x j ^^ (b (x + 4 * (2 * m)) j ^^ b (x + 2 * m) (j + 63 * (2 * m)))) = false := by
  intro x j
  have e1 := h x j
  have e2 := h (x + 4 * m) j
  have e3 := h (x + m) (j + 63 * m)
  rw [show x + 4 * m + 4 * m = x + 4 * (2 * m) by omega, show x + 4 * m + m = x + 5 * m by omega] at e2
  rw [show x + m + 4 * m = x + 5 * m by omega, show x + m + m = x + 2 * m by omega, show j + 63 * m + 63 * m = j + 63 * (2 * m) by omega] at e3
  revert e1 e2 e3
  generalize b x j = p1
  generalize b (x + 4 * m) j = p2
  generalize b (x + m) (j + 63 * m) = p3
  generalize b (x + 4 * (2 * m)) j = p4
  generalize b (x + 5 * m) (j + 63 * m) = p5
  generalize b (x + 2 * m) (j + 63 * (2 * m)) = p6
  cases p1 <;> cases p2 <;> cases p3 <;> cases p4 <;> cases p5 <;> cases p6 <;> simp
theorem th_zero {b : Nat → Nat → Bool} (hp : ∀ x j, b (x + 5) j = b x j) (hq : ∀ x j, b x (j + 64) = b x j) (h : ∀ x j, (b x j ^^ (b (x + 4) j ^^ b (x + 1) (j + 63))) = false) : ∀ x j, b x j = false := by
  have h6 := th_step 32 (th_step 16 (th_step 8 (th_step 4 (th_step 2 (th_step 1 h)))))
  have pp : ∀ n x j, b (x + 5 * n) j = b x j := by
    intro n
    induction n with
    | zero => intro x j; rfl
    | succ n ih => intro x j; rw [show x + 5 * (n + 1) = x + 5 * n + 5 by omega, hp, ih]
  have qq : ∀ n x j, b x (j + 64 * n) = b x j := by
    intro n
    induction n with
    | zero => intro x j; rfl
    | succ n ih => intro x j; rw [show j + 64 * (n + 1) = j + 64 * n + 64 by omega, hq, ih]
  have k : ∀ x j, (b x j ^^ (b (x + 1) j ^^ b (x + 4) j)) = false := by
    intro x j
    have e := h6 x j
    rw [show x + 4 * (2 * 32) = x + 1 + 5 * 51 by omega, pp, show x + 2 * 32 = x + 4 + 5 * 12 by omega, show j + 63 * (2 * 32) = j + 64 * 63 by omega, pp, qq] at e
    exact e
  intro x j
  have e0 := k x j
  have e1 := k (x + 1) j
  have e2 := k (x + 2) j
  have e3 := k (x + 3) j
  have e4 := k (x + 4) j
  rw [show x + 1 + 4 = x + 5 by omega, hp] at e1
  rw [show x + 2 + 4 = x + 1 + 5 by omega, hp] at e2
  rw [show x + 3 + 4 = x + 2 + 5 by omega, hp] at e3
  rw [show x + 4 + 1 = x + 5 by omega, hp, show x + 4 + 4 = x + 3 + 5 by omega, hp] at e4
  revert e0 e1 e2 e3 e4
  rw [show x + 1 + 1 = x + 2 by omega, show x + 2 + 1 = x + 3 by omega, show x + 3 + 1 = x + 4 by omega]
  generalize b x j = p0
  generalize b (x + 1) j = p1
  generalize b (x + 2) j = p2
  generalize b (x + 3) j = p3
  generalize b (x + 4) j = p4
  cases p0 <;> cases p1 <;> cases p2 <;> cases p3 <;> cases p4 <;> simp
theorem lf1_bit (v : Int64) (j : Nat) : bl (lf v 1) (j % 64) = bl v ((j + 63) % 64) := by
  rw [lf_bit 1 v (Nat.mod_lt _ (by decide))]
  rw [show (Int32.toBitVec 1).toNat % 64 = 1 from by decide]
  congr 1
  omega
theorem colF_th (f : Nat → Int64) {x : Nat} (hx : x < 5) (j : Nat) : bl (colF (thF f) x) j = (bl (colF f x) j ^^ bl (thD (colF f) x) j) := by
  have e : ∀ a, (x + 5 * a + 4) % 5 = (x + 4) % 5 ∧ (x + 5 * a + 1) % 5 = (x + 1) % 5 := fun a => by omega
  have d : ∀ a, thD (colF f) (x + 5 * a) = thD (colF f) x := fun a => by unfold thD; rw [(e a).1, (e a).2]
  have d1 := d 1
  have d2 := d 2
  have d3 := d 3
  have d4 := d 4
  show bl (thF f x ^^^ thF f (x + 5) ^^^ thF f (x + 10) ^^^ thF f (x + 15) ^^^ thF f (x + 20)) j = _
  unfold thF
  rw [show x + 5 = x + 5 * 1 by omega, show x + 10 = x + 5 * 2 by omega, show x + 15 = x + 5 * 3 by omega, show x + 20 = x + 5 * 4 by omega, d1, d2, d3, d4]
  show _ = (bl (f x ^^^ f (x + 5 * 1) ^^^ f (x + 5 * 2) ^^^ f (x + 5 * 3) ^^^ f (x + 5 * 4)) j ^^ _)
  simp only [bl_xor]
  generalize bl (thD (colF f) x) j = q
  generalize bl (f x) j = a
  generalize bl (f (x + 5 * 1)) j = b
  generalize bl (f (x + 5 * 2)) j = c
  generalize bl (f (x + 5 * 3)) j = d
  generalize bl (f (x + 5 * 4)) j = e
  cases q <;> cases a <;> cases b <;> cases c <;> cases d <;> cases e <;> rfl
theorem thF_i {f g : Nat → Int64} (h : eq25 (thF f) (thF g)) : eq25 f g := by
  have hz := th_zero (b := fun x j => bl (colF f (x % 5)) (j % 64) ^^ bl (colF g (x % 5)) (j % 64)) (fun x j => by simp only [show (x + 5) % 5 = x % 5 by omega]) (fun x j => by simp only [show (j + 64) % 64 = j % 64 by omega]) (fun x j => by
    have h1 := congrArg (fun z => bl z (j % 64)) (colF_c h (x := x % 5) (Nat.mod_lt _ (by decide)))
    simp only [colF_th f (x := x % 5) (Nat.mod_lt _ (by decide)), colF_th g (x := x % 5) (Nat.mod_lt _ (by decide)), thD, bl_xor, lf1_bit] at h1
    rw [show (x % 5 + 4) % 5 = (x + 4) % 5 by omega, show (x % 5 + 1) % 5 = (x + 1) % 5 by omega] at h1
    revert h1
    generalize bl (colF f (x % 5)) (j % 64) = p1
    generalize bl (colF g (x % 5)) (j % 64) = p2
    generalize bl (colF f ((x + 4) % 5)) (j % 64) = p3
    generalize bl (colF g ((x + 4) % 5)) (j % 64) = p4
    generalize bl (colF f ((x + 1) % 5)) ((j + 63) % 64) = p5
    generalize bl (colF g ((x + 1) % 5)) ((j + 63) % 64) = p6
    cases p1 <;> cases p2 <;> cases p3 <;> cases p4 <;> cases p5 <;> cases p6 <;> simp)
  have hc : ∀ x, x < 5 → colF f x = colF g x := fun x hx => by
    apply bl_ext
    intro j hj
    have e := hz x j
    simp only [Nat.mod_eq_of_lt hx, Nat.mod_eq_of_lt hj] at e
    revert e
    cases bl (colF f x) j <;> cases bl (colF g x) j <;> simp
  intro i hi
  have h1 := h i hi
  unfold thF thD at h1
  rw [hc _ (Nat.mod_lt _ (by decide)), hc _ (Nat.mod_lt _ (by decide))] at h1
  apply bl_ext
  intro j hj
  have h2 := congrArg (fun z => bl z j) h1
  simp only [bl_xor] at h2
  revert h2
  generalize bl (f i) j = p1
  generalize bl (g i) j = p2
  generalize bl (colF g ((i + 4) % 5)) j = p3
  generalize bl (lf (colF g ((i + 1) % 5)) 1) j = p4
  cases p1 <;> cases p2 <;> cases p3 <;> cases p4 <;> simp
theorem rdF_i {u : Nat → Int32} {r : Int64} {f g : Nat → Int64} (h : eq25 (rdF u r f) (rdF u r g)) : eq25 f g := thF_i (rpF_i (chF_i (ioF_i h)))
/-- n rounds, the first with the constant 0 -/
def kfN (u : Nat → Int32) (r : Nat → Int64) : Nat → (Nat → Int64) → Nat → Int64
  | 0, f => f
  | n + 1, f => rdF u (r n) (kfN u r n f)
theorem kfN_c {u : Nat → Int32} {r : Nat → Int64} : ∀ (n : Nat) {f g : Nat → Int64}, eq25 f g → eq25 (kfN u r n f) (kfN u r n g)
  | 0, _, _, h => h
  | n + 1, _, _, h => rdF_c (kfN_c n h)
theorem kfN_i {u : Nat → Int32} {r : Nat → Int64} : ∀ (n : Nat) {f g : Nat → Int64}, eq25 (kfN u r n f) (kfN u r n g) → eq25 f g
  | 0, _, _, h => h
  | n + 1, _, _, h => kfN_i n (rdF_i h)
/-- the blocks of a stream: P, mixed k times -/
def blk (u : Nat → Int32) (r : Nat → Int64) (P : Nat → Int64) : Nat → Nat → Int64
  | 0 => P
  | k + 1 => kfN u r 24 (blk u r P k)
theorem blk_c {u : Nat → Int32} {r : Nat → Int64} {P : Nat → Int64} {a b : Nat} (h : eq25 (blk u r P a) (blk u r P b)) : ∀ n, eq25 (blk u r P (a + n)) (blk u r P (b + n))
  | 0 => h
  | n + 1 => kfN_c 24 (blk_c h n)
theorem blk_i {u : Nat → Int32} {r : Nat → Int64} {P : Nat → Int64} : ∀ (n a : Nat), eq25 (blk u r P (n + a)) (blk u r P n) → eq25 (blk u r P a) P
  | 0, a, h => by rw [Nat.zero_add] at h; exact h
  | n + 1, a, h => by
    rw [show n + 1 + a = (n + a) + 1 by omega] at h
    exact blk_i n a (kfN_i 24 h)
/-- no room for all: two of the first N + 1 have one number -/
theorem pigeon : ∀ (N : Nat) (h : Nat → Nat), (∀ i, i ≤ N → h i < N) → ∃ i j, i < j ∧ j ≤ N ∧ h i = h j
  | 0, h, hh => absurd (hh 0 (Nat.le_refl _)) (Nat.not_lt_zero _)
  | N + 1, h, hh => by
    by_cases q : ∃ i, i ≤ N ∧ h i = h (N + 1)
    · obtain ⟨i, hi, e⟩ := q
      exact ⟨i, N + 1, by omega, by omega, e⟩
    · have hne : ∀ i, i ≤ N → h i ≠ h (N + 1) := fun i hi e => q ⟨i, hi, e⟩
      obtain ⟨i, j, h1, h2, h3⟩ := pigeon N (fun i => if h i = N then h (N + 1) else h i) (fun i hi => by
        have a := hh i (by omega)
        have b := hh (N + 1) (Nat.le_refl _)
        have c := hne i hi
        split <;> omega)
      refine ⟨i, j, h1, by omega, ?_⟩
      have ci := hne i (by omega)
      have cj := hne j h2
      split at h3 <;> split at h3 <;> omega
def enc (f : Nat → Int64) : Nat → Nat
  | 0 => 0
  | n + 1 => enc f n * 2 ^ 64 + (f n).toBitVec.toNat
theorem enc_lt (f : Nat → Int64) : ∀ n, enc f n < (2 ^ 64) ^ n
  | 0 => by show 0 < (2 ^ 64) ^ 0; decide
  | n + 1 => by
    have a := enc_lt f n
    have b := (f n).toBitVec.isLt
    show enc f n * 2 ^ 64 + (f n).toBitVec.toNat < (2 ^ 64) ^ n * 2 ^ 64
    have c : (enc f n + 1) * 2 ^ 64 ≤ (2 ^ 64) ^ n * 2 ^ 64 := Nat.mul_le_mul_right _ a
    rw [Nat.add_mul] at c
    omega
theorem enc_inj {f g : Nat → Int64} : ∀ n, enc f n = enc g n → ∀ i, i < n → f i = g i
  | 0, _, i, hi => absurd hi (Nat.not_lt_zero _)
  | n + 1, h, i, hi => by
    have a := (f n).toBitVec.isLt
    have b := (g n).toBitVec.isLt
    have h' : enc f n * 2 ^ 64 + (f n).toBitVec.toNat = enc g n * 2 ^ 64 + (g n).toBitVec.toNat := h
    have h1 : enc f n = enc g n := by omega
    have h2 : (f n).toBitVec.toNat = (g n).toBitVec.toNat := by omega
    by_cases q : i = n
    · subst q
      exact Int64.toBitVec_inj.mp (BitVec.eq_of_toNat_eq h2)
    · exact enc_inj n h1 i (by omega)
/-- the stream comes back -/
theorem blk_back (u : Nat → Int32) (r : Nat → Int64) (P : Nat → Int64) : ∃ m, 0 < m ∧ ∀ c, eq25 (blk u r P (c * m)) P := by
  obtain ⟨i, j, h1, h2, h3⟩ := pigeon ((2 ^ 64) ^ 25) (fun k => enc (blk u r P k) 25) (fun k _ => enc_lt _ 25)
  have e : eq25 (blk u r P j) (blk u r P i) := fun q hq => (enc_inj 25 h3 q hq).symm
  refine ⟨j - i, by omega, ?_⟩
  have e0 : eq25 (blk u r P (j - i)) P := blk_i i (j - i) (by rw [show i + (j - i) = j by omega]; exact e)
  intro c
  induction c with
  | zero => rw [Nat.zero_mul]; exact fun _ _ => rfl
  | succ c ih =>
    have a := blk_c (a := c * (j - i)) (b := 0) ih (j - i)
    rw [Nat.zero_add] at a
    rw [Nat.succ_mul]
    exact a.trans e0
