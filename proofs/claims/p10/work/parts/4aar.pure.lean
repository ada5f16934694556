set_option linter.all false
/-! congruence and sums of whole numbers: what both transforms rest on -/
def cg (q a b : Int) : Prop := ∃ k : Int, a = b + q * k
theorem cg_rf {q a : Int} : cg q a a := ⟨0, by rw [Int.mul_zero, Int.add_zero]⟩
theorem cg_of {q a b : Int} (h : a = b) : cg q a b := by
  subst h
  exact cg_rf
theorem cg_sy {q a b : Int} (h : cg q a b) : cg q b a := by
  obtain ⟨k, h⟩ := h
  exact ⟨-k, by rw [h, Int.mul_neg]; omega⟩
theorem cg_tr {q a b c : Int} (h : cg q a b) (h1 : cg q b c) : cg q a c := by
  obtain ⟨k, h⟩ := h
  obtain ⟨m, h1⟩ := h1
  exact ⟨k + m, by rw [h, h1, Int.mul_add]; omega⟩
theorem cg_add {q a b c d : Int} (h : cg q a b) (h1 : cg q c d) : cg q (a + c) (b + d) := by
  obtain ⟨k, h⟩ := h
  obtain ⟨m, h1⟩ := h1
  exact ⟨k + m, by rw [h, h1, Int.mul_add]; omega⟩
theorem cg_sub {q a b c d : Int} (h : cg q a b) (h1 : cg q c d) : cg q (a - c) (b - d) := by
  obtain ⟨k, h⟩ := h
  obtain ⟨m, h1⟩ := h1
  exact ⟨k - m, by rw [h, h1, Int.mul_sub]; omega⟩
theorem cg_mulr {q a b c : Int} (h : cg q a b) : cg q (a * c) (b * c) := by
  obtain ⟨k, h⟩ := h
  exact ⟨k * c, by rw [h, Int.add_mul, Int.mul_assoc]⟩
theorem cg_mull {q a b c : Int} (h : cg q a b) : cg q (c * a) (c * b) := by
  rw [Int.mul_comm c a, Int.mul_comm c b]
  exact cg_mulr h
theorem cg_mul {q a b c d : Int} (h : cg q a b) (h1 : cg q c d) : cg q (a * c) (b * d) := cg_tr (cg_mulr h) (cg_mull h1)
theorem cg_pow {q a b : Int} (h : cg q a b) : ∀ n : Nat, cg q (a ^ n) (b ^ n)
  | 0 => by
    rw [Int.pow_zero, Int.pow_zero]
    exact cg_rf
  | n + 1 => by
    rw [Int.pow_succ, Int.pow_succ]
    exact cg_mul (cg_pow h n) h
theorem cg_eq {q a b : Int} (h : cg q a b) (h0 : 0 ≤ a) (h1 : a < q) (h2 : 0 ≤ b) (h3 : b < q) : a = b := by
  obtain ⟨k, h⟩ := h
  have hk : k = 0 := by
    rcases Int.lt_trichotomy k 0 with z | z | z
    · have : q * k ≤ q * (-1) := Int.mul_le_mul_of_nonneg_left (by omega) (by omega)
      omega
    · exact z
    · have : q * 1 ≤ q * k := Int.mul_le_mul_of_nonneg_left (by omega) (by omega)
      omega
  rw [hk] at h
  omega
theorem cg_dm {q d r n : Nat} (h : q * d + r = n) : cg (q : Int) (r : Int) (n : Int) := ⟨-(d : Int), by rw [← h, Int.natCast_add, Int.natCast_mul, Int.mul_neg]; omega⟩
theorem cg_mod (q n : Nat) : cg (q : Int) ((n % q : Nat) : Int) (n : Int) := cg_dm (Nat.div_add_mod n q)
theorem cg_md {q a b : Nat} (h : a % q = b % q) : cg (q : Int) (a : Int) (b : Int) := cg_tr (cg_sy (cg_mod q a)) (by rw [h]; exact cg_mod q b)
theorem cg_nq {q a b : Nat} (h : cg (q : Int) (a : Int) (b : Int)) (ha : a < q) (hb : b < q) : a = b := by
  have := cg_eq h (by omega) (by omega) (by omega) (by omega)
  omega
def sm : Nat → (Nat → Int) → Int
  | 0, _ => 0
  | n + 1, f => sm n f + f n
theorem sm_cg {q : Int} {f g : Nat → Int} : ∀ n, (∀ u, u < n → cg q (f u) (g u)) → cg q (sm n f) (sm n g)
  | 0, _ => cg_rf
  | n + 1, h => cg_add (sm_cg n fun u hu => h u (by omega)) (h n (by omega))
theorem sm_ext {f g : Nat → Int} : ∀ n, (∀ u, u < n → f u = g u) → sm n f = sm n g
  | 0, _ => rfl
  | n + 1, h => by
    show sm n f + f n = sm n g + g n
    rw [sm_ext n fun u hu => h u (by omega), h n (by omega)]
theorem sm_mul {c : Int} {f : Nat → Int} : ∀ n, sm n (fun u => c * f u) = c * sm n f
  | 0 => (Int.mul_zero c).symm
  | n + 1 => by
    show sm n (fun u => c * f u) + c * f n = c * (sm n f + f n)
    rw [sm_mul n, Int.mul_add]
theorem sm_eo {f : Nat → Int} : ∀ n, sm (2 * n) f = sm n (fun u => f (2 * u)) + sm n (fun u => f (2 * u + 1))
  | 0 => rfl
  | n + 1 => by
    have e : 2 * (n + 1) = 2 * n + 1 + 1 := by omega
    rw [e]
    show sm (2 * n) f + f (2 * n) + f (2 * n + 1) = (sm n (fun u => f (2 * u)) + f (2 * n)) + (sm n (fun u => f (2 * u + 1)) + f (2 * n + 1))
    rw [sm_eo n]
    omega
theorem sm_app {f : Nat → Int} (n : Nat) : ∀ m, sm (n + m) f = sm n f + sm m (fun u => f (n + u))
  | 0 => (Int.add_zero _).symm
  | m + 1 => by
    show sm (n + m) f + f (n + m) = sm n f + (sm m (fun u => f (n + u)) + f (n + m))
    rw [sm_app n m, Int.add_assoc]
theorem sm_dbl {f : Nat → Int} (n : Nat) : sm (2 * n) f = sm n f + sm n (fun u => f (n + u)) := by
  rw [Nat.two_mul, sm_app]
theorem pw2 (y : Int) : ∀ u : Nat, y ^ (2 * u) = (y * y) ^ u
  | 0 => by rw [Nat.mul_zero, Int.pow_zero, Int.pow_zero]
  | u + 1 => by
    have e : 2 * (u + 1) = 2 * u + 1 + 1 := by omega
    rw [e, Int.pow_succ, Int.pow_succ, Int.pow_succ, pw2 y u, Int.mul_assoc]
theorem pwa (y : Int) (m : Nat) : ∀ n : Nat, y ^ (m + n) = y ^ m * y ^ n
  | 0 => by rw [Nat.add_zero, Int.pow_zero, Int.mul_one]
  | n + 1 => by rw [← Nat.add_assoc, Int.pow_succ, Int.pow_succ, pwa y m n, Int.mul_assoc]
theorem pwm (y : Int) (m : Nat) : ∀ n : Nat, y ^ (m * n) = (y ^ m) ^ n
  | 0 => by rw [Nat.mul_zero, Int.pow_zero, Int.pow_zero]
  | n + 1 => by rw [Nat.mul_add_one, pwa, Int.pow_succ, pwm y m n]
theorem one_pw : ∀ n : Nat, (1 : Int) ^ n = 1
  | 0 => Int.pow_zero 1
  | n + 1 => by rw [Int.pow_succ, one_pw n, Int.mul_one]
/-! forth: from N blocks of 2h to 2N blocks of h -/
theorem fw_one {q X y A B : Int} {f : Nat → Int} {N h t : Nat} (hA : cg q A (sm N fun u => f (t + 2 * h * u) * X ^ u)) (hB : cg q B (sm N fun u => f (h + t + 2 * h * u) * X ^ u)) (hy : cg q (y * y) X) : cg q (A + y * B) (sm (2 * N) fun u => f (t + h * u) * y ^ u) := by
  rw [sm_eo]
  refine cg_add (cg_tr hA (sm_cg _ fun u _ => ?_)) (cg_tr (cg_mull hB) (cg_tr (cg_of (sm_mul N).symm) (sm_cg _ fun u _ => ?_)))
  · have e : t + h * (2 * u) = t + 2 * h * u := by rw [Nat.mul_left_comm, Nat.mul_assoc]
    show cg q (f (t + 2 * h * u) * X ^ u) (f (t + h * (2 * u)) * y ^ (2 * u))
    rw [e, pw2]
    exact cg_mull (cg_sy (cg_pow hy u))
  · have e0 : h * (2 * u) = 2 * h * u := by rw [Nat.mul_left_comm, Nat.mul_assoc]
    have e : t + h * (2 * u + 1) = h + t + 2 * h * u := by rw [Nat.mul_add_one, e0]; omega
    show cg q (y * (f (h + t + 2 * h * u) * X ^ u)) (f (t + h * (2 * u + 1)) * y ^ (2 * u + 1))
    rw [e, Int.pow_succ, pw2]
    refine cg_tr (cg_mull (cg_mull (cg_sy (cg_pow hy u)))) (cg_of ?_)
    rw [Int.mul_left_comm, Int.mul_comm y]
def fwI (q : Int) (x f : Nat → Int) (N m : Nat) (a : Nat → Int) : Prop := ∀ b t : Nat, b < N → t < m → cg q (a (m * b + t)) (sm N fun u => f (t + m * u) * x (N + b) ^ u)
theorem fw_start {q : Int} {x f : Nat → Int} {m : Nat} : fwI q x f 1 m f := fun b t hb _ => by
  obtain rfl : b = 0 := by omega
  show cg q (f (m * 0 + t)) (0 + f (t + m * 0) * x (1 + 0) ^ 0)
  rw [Int.pow_zero, Int.mul_one, Int.zero_add, Nat.mul_zero, Nat.zero_add, Nat.add_zero]
  exact cg_rf
theorem fw_step {q : Int} {x f a a' : Nat → Int} {N h : Nat} (hx2 : ∀ b, b < N → cg q (x (2 * (N + b)) * x (2 * (N + b))) (x (N + b))) (hx3 : ∀ b, b < N → cg q (x (2 * (N + b) + 1)) (-(x (2 * (N + b))))) (hI : fwI q x f N (2 * h) a)
    (h12 : ∀ b t : Nat, b < N → t < h → cg q (a' (h * (2 * b) + t)) (a (2 * h * b + t) + x (2 * (N + b)) * a (2 * h * b + (h + t))) ∧ cg q (a' (h * (2 * b + 1) + t)) (a (2 * h * b + t) - x (2 * (N + b)) * a (2 * h * b + (h + t)))) : fwI q x f (2 * N) h a' := by
  intro b t hb ht
  rcases Nat.mod_two_eq_zero_or_one b with z | z
  · obtain ⟨c, rfl⟩ : ∃ c, b = 2 * c := ⟨b / 2, by omega⟩
    have hc : c < N := by omega
    refine cg_tr (h12 c t hc ht).1 ?_
    rw [show 2 * N + 2 * c = 2 * (N + c) by omega]
    exact fw_one (hI c t hc (by omega)) (hI c (h + t) hc (by omega)) (hx2 c hc)
  · obtain ⟨c, rfl⟩ : ∃ c, b = 2 * c + 1 := ⟨b / 2, by omega⟩
    have hc : c < N := by omega
    refine cg_tr (h12 c t hc ht).2 ?_
    rw [show 2 * N + (2 * c + 1) = 2 * (N + c) + 1 by omega]
    have e := hx3 c hc
    refine cg_tr (b := a (2 * h * c + t) + x (2 * (N + c) + 1) * a (2 * h * c + (h + t))) ?_ (fw_one (hI c t hc (by omega)) (hI c (h + t) hc (by omega)) ?_)
    · rw [Int.sub_eq_add_neg, ← Int.neg_mul]
      exact cg_add cg_rf (cg_mulr (cg_sy e))
    · refine cg_tr (cg_mul e e) ?_
      rw [Int.neg_mul_neg]
      exact hx2 c hc
/-! back: from 2N blocks to N; each block has V numbers (of width d), and V leaves below it -/
def lfI (q : Int) (Y : Nat → Int) (L N V : Nat) : Prop := ∀ b u : Nat, b < N → u < V → cg q (Y (L + (V * b + u)) ^ V) (Y (N + b))
theorem lf_start {q : Int} {Y : Nat → Int} {L : Nat} : lfI q Y L L 1 := fun b u _ hu => by
  obtain rfl : u = 0 := by omega
  rw [Nat.one_mul, Nat.add_zero]
  show cg q (Y (L + b) ^ (0 + 1)) (Y (L + b))
  rw [Int.pow_succ, Int.pow_zero, Int.one_mul]
  exact cg_rf
theorem ix1 (V b u : Nat) : 2 * V * b + u = V * (2 * b) + u := by rw [Nat.mul_left_comm, Nat.mul_assoc]
theorem ix2 (V b u : Nat) : 2 * V * b + (V + u) = V * (2 * b + 1) + u := by
  have := ix1 V b 0
  rw [Nat.mul_add_one]
  omega
theorem lf_step {q : Int} {Y : Nat → Int} {L N V : Nat} (hy2 : ∀ b, b < N → cg q (Y (2 * (N + b)) * Y (2 * (N + b))) (Y (N + b))) (hy3 : ∀ b, b < N → cg q (Y (2 * (N + b) + 1)) (-(Y (2 * (N + b))))) (h : lfI q Y L (2 * N) V) : lfI q Y L N (2 * V) := by
  intro b u hb hu
  rw [Nat.two_mul V, pwa, ← Nat.two_mul V]
  by_cases z : u < V
  · have k := h (2 * b) u (by omega) z
    rw [show 2 * N + 2 * b = 2 * (N + b) by omega, ← ix1] at k
    exact cg_tr (cg_mul k k) (hy2 b hb)
  · obtain ⟨w, rfl⟩ : ∃ w, u = V + w := ⟨u - V, by omega⟩
    have k := h (2 * b + 1) w (by omega) (by omega)
    rw [show 2 * N + (2 * b + 1) = 2 * (N + b) + 1 by omega, ← ix2] at k
    have k2 := cg_tr k (hy3 b hb)
    refine cg_tr (cg_mul k2 k2) ?_
    rw [Int.neg_mul_neg]
    exact hy2 b hb
def bwI (q : Int) (Y f : Nat → Int) (d L N V : Nat) (a : Nat → Int) : Prop := ∀ b v c : Nat, b < N → v < V → c < d → cg q (a (d * (V * b + v) + c)) (sm V fun u => f (d * (V * b + u) + c) * Y (L + (V * b + u)) ^ v)
theorem bw_start {q : Int} {Y f : Nat → Int} {d L : Nat} : bwI q Y f d L L 1 f := fun b v c _ hv _ => by
  obtain rfl : v = 0 := by omega
  show cg q (f (d * (1 * b + 0) + c)) (0 + f (d * (1 * b + 0) + c) * Y (L + (1 * b + 0)) ^ 0)
  rw [Int.pow_zero, Int.mul_one, Int.zero_add]
  exact cg_rf
theorem bw_fin {q y F P Z : Int} (k : cg q Z y) : cg q (y * (F * P)) (F * (Z * P)) := by
  rw [Int.mul_left_comm]
  exact cg_mull (cg_mulr (cg_sy k))
theorem bw_step {q : Int} {Y f g a a' : Nat → Int} {d L N V : Nat} (hy : ∀ b, b < N → cg q (Y (2 * (N + b))) (-(g (N + b)))) (hy3 : ∀ b, b < N → cg q (Y (2 * (N + b) + 1)) (g (N + b))) (hl : lfI q Y L (2 * N) V) (hI : bwI q Y f d L (2 * N) V a)
    (h12 : ∀ b v c : Nat, b < N → v < V → c < d → cg q (a' (d * (2 * V * b + v) + c)) (a (d * (V * (2 * b) + v) + c) + a (d * (V * (2 * b + 1) + v) + c)) ∧ cg q (a' (d * (2 * V * b + (V + v)) + c)) (g (N + b) * (a (d * (V * (2 * b + 1) + v) + c) - a (d * (V * (2 * b) + v) + c)))) : bwI q Y f d L N (2 * V) a' := by
  intro b v c hb hv hc
  rw [sm_dbl]
  by_cases z : v < V
  · refine cg_tr (h12 b v c hb z hc).1 (cg_add (cg_tr (hI (2 * b) v c (by omega) z hc) (cg_of (sm_ext V fun u _ => ?_))) (cg_tr (hI (2 * b + 1) v c (by omega) z hc) (cg_of (sm_ext V fun u _ => ?_))))
    · rw [ix1]
    · rw [ix2]
  · obtain ⟨w, rfl⟩ : ∃ w, v = V + w := ⟨v - V, by omega⟩
    have hw : w < V := by omega
    refine cg_tr (h12 b w c hb hw hc).2 (cg_tr (b := Y (2 * (N + b)) * a (d * (V * (2 * b) + w) + c) + Y (2 * (N + b) + 1) * a (d * (V * (2 * b + 1) + w) + c)) ?_ (cg_add ?_ ?_))
    · refine cg_sy (cg_tr (cg_add (cg_mulr (hy b hb)) (cg_mulr (hy3 b hb))) (cg_of ?_))
      rw [Int.mul_sub, Int.neg_mul]
      omega
    · refine cg_tr (cg_mull (hI (2 * b) w c (by omega) hw hc)) (cg_tr (cg_of (sm_mul V).symm) (sm_cg V fun u hu => ?_))
      have k := hl (2 * b) u (by omega) hu
      rw [show 2 * N + 2 * b = 2 * (N + b) by omega] at k
      rw [ix1, pwa]
      exact bw_fin k
    · refine cg_tr (cg_mull (hI (2 * b + 1) w c (by omega) hw hc)) (cg_tr (cg_of (sm_mul V).symm) (sm_cg V fun u hu => ?_))
      have k := hl (2 * b + 1) u (by omega) hu
      rw [show 2 * N + (2 * b + 1) = 2 * (N + b) + 1 by omega] at k
      rw [ix2, pwa]
      exact bw_fin k
