set_option linter.all false
/-! products of polynomials modulo X^256 + 1 -/
theorem sm_addf {f g : Nat → Int} : ∀ n, sm n (fun u => f u + g u) = sm n f + sm n g
  | 0 => rfl
  | n + 1 => by
    show sm n (fun u => f u + g u) + (f n + g n) = (sm n f + f n) + (sm n g + g n)
    rw [sm_addf n]
    omega
theorem sm_zero : ∀ n, sm n (fun _ => 0) = 0
  | 0 => rfl
  | n + 1 => by
    show sm n (fun _ => 0) + 0 = 0
    rw [sm_zero n]
    rfl
theorem sm_swap {F : Nat → Nat → Int} (m : Nat) : ∀ n, sm n (fun i => sm m (fun k => F i k)) = sm m (fun k => sm n (fun i => F i k))
  | 0 => (sm_zero m).symm
  | n + 1 => by
    show sm n (fun i => sm m (fun k => F i k)) + sm m (fun k => F n k) = sm m (fun k => sm n (fun i => F i k) + F n k)
    rw [sm_swap m n, ← sm_addf]
theorem sm_mulr {c : Int} {f : Nat → Int} (n : Nat) : sm n (fun u => f u * c) = sm n f * c := by
  rw [Int.mul_comm, ← sm_mul]
  exact sm_ext n fun u _ => Int.mul_comm _ _
theorem sm_hd {f : Nat → Int} (n : Nat) : sm (n + 1) f = f 0 + sm n (fun u => f (u + 1)) := by
  rw [Nat.add_comm n 1, sm_app]
  show (0 + f 0) + sm n (fun u => f (1 + u)) = _
  rw [Int.zero_add]
  exact congrArg _ (sm_ext n fun u _ => by rw [Nat.add_comm])
theorem sm_last {f : Nat → Int} (n : Nat) : sm (n + 1) f = sm n f + f n := rfl
/-- f times X^i, modulo X^256 + 1 -/
def shf (f : Nat → Int) (i k : Nat) : Int := if i ≤ k then f (k - i) else -(f (k + 256 - i))
theorem shf_0 {f : Nat → Int} {k : Nat} : shf f 0 k = f k := by
  unfold shf
  rw [if_pos (Nat.zero_le _), Nat.sub_zero]
theorem shf_s0 {f : Nat → Int} {i : Nat} (hi : i < 256) : shf f (i + 1) 0 = -(shf f i 255) := by
  unfold shf
  rw [if_neg (by omega), if_pos (by omega), show 0 + 256 - (i + 1) = 255 - i by omega]
theorem shf_ss {f : Nat → Int} {i k : Nat} : shf f (i + 1) (k + 1) = shf f i k := by
  unfold shf
  by_cases h : i ≤ k
  · rw [if_pos h, if_pos (by omega), show k + 1 - (i + 1) = k - i by omega]
  · rw [if_neg h, if_neg (by omega), show k + 1 + 256 - (i + 1) = k + 256 - i by omega]
theorem shf_x {q x : Int} {f : Nat → Int} (hx : cg q (x ^ 256) (-1)) : ∀ i, i ≤ 256 → cg q (x ^ i * sm 256 fun k => f k * x ^ k) (sm 256 fun k => shf f i k * x ^ k)
  | 0, _ => cg_of (by
      rw [Int.pow_zero, Int.one_mul]
      exact sm_ext 256 fun k _ => by rw [shf_0])
  | i + 1, hi => by
    have ih := shf_x hx (f := f) i (by omega)
    rw [Int.pow_succ, Int.mul_comm (x ^ i), Int.mul_assoc]
    refine cg_tr (cg_mull ih) ?_
    have eL : sm (255 + 1) (fun k => shf f i k * x ^ k) = sm 255 (fun k => shf f i k * x ^ k) + shf f i 255 * x ^ 255 := sm_last 255
    have eR : sm (255 + 1) (fun k => shf f (i + 1) k * x ^ k) = shf f (i + 1) 0 * x ^ 0 + sm 255 (fun u => shf f (i + 1) (u + 1) * x ^ (u + 1)) := sm_hd 255
    refine cg_tr (cg_of (congrArg (fun z => x * z) eL)) (cg_tr ?_ (cg_of eR.symm))
    show cg q (x * (sm 255 (fun k => shf f i k * x ^ k) + shf f i 255 * x ^ 255)) _
    rw [Int.mul_add, Int.add_comm]
    refine cg_add ?_ (cg_of ?_)
    · rw [shf_s0 (by omega), Int.pow_zero, Int.mul_one]
      have e : x * (shf f i 255 * x ^ 255) = shf f i 255 * x ^ 256 := by
        rw [Int.mul_left_comm, Int.mul_comm x, ← Int.pow_succ]
      rw [e]
      refine cg_tr (cg_mull hx) (cg_of ?_)
      rw [Int.mul_neg, Int.mul_one]
    · rw [← sm_mul]
      refine sm_ext 255 fun u _ => ?_
      rw [shf_ss, Int.pow_succ, Int.mul_left_comm, Int.mul_comm x]
/-- evaluation takes products modulo X^256 + 1 to products -/
theorem ev_mul {q x : Int} {c f h : Nat → Int} (hx : cg q (x ^ 256) (-1)) (hh : ∀ k, k < 256 → cg q (h k) (sm 256 fun i => c i * shf f i k)) : cg q (sm 256 fun k => h k * x ^ k) ((sm 256 fun i => c i * x ^ i) * sm 256 fun k => f k * x ^ k) := by
  have e1 : cg q (sm 256 fun k => h k * x ^ k) (sm 256 fun k => sm 256 fun i => c i * (shf f i k * x ^ k)) := sm_cg 256 fun k hk => by
    refine cg_tr (cg_mulr (hh k hk)) (cg_of ?_)
    rw [← sm_mulr]
    exact sm_ext 256 fun i _ => Int.mul_assoc _ _ _
  refine cg_tr e1 ?_
  rw [← sm_swap (F := fun i k => c i * (shf f i k * x ^ k)) 256 256, ← sm_mulr]
  refine sm_cg 256 fun i hi => ?_
  show cg q (sm 256 fun k => c i * (shf f i k * x ^ k)) (c i * x ^ i * sm 256 fun k => f k * x ^ k)
  rw [sm_mul, Int.mul_assoc]
  exact cg_mull (cg_sy (shf_x hx i (by omega)))
theorem lx8 : lfI ((8380417 : Nat) : Int) xr8 256 1 256 := by
  have l0 := lf_start (q := ((8380417 : Nat) : Int)) (Y := xr8) (L := 256)
  have l1 : lfI ((8380417 : Nat) : Int) xr8 256 128 2 := lf_step (N := 128) (V := 1) (fun b hb => xr8_2 (k := 128 + b) (by omega) (by omega)) (fun b hb => xr8_3 (k := 128 + b) (by omega) (by omega)) l0
  have l2 : lfI ((8380417 : Nat) : Int) xr8 256 64 4 := lf_step (N := 64) (V := 2) (fun b hb => xr8_2 (k := 64 + b) (by omega) (by omega)) (fun b hb => xr8_3 (k := 64 + b) (by omega) (by omega)) l1
  have l3 : lfI ((8380417 : Nat) : Int) xr8 256 32 8 := lf_step (N := 32) (V := 4) (fun b hb => xr8_2 (k := 32 + b) (by omega) (by omega)) (fun b hb => xr8_3 (k := 32 + b) (by omega) (by omega)) l2
  have l4 : lfI ((8380417 : Nat) : Int) xr8 256 16 16 := lf_step (N := 16) (V := 8) (fun b hb => xr8_2 (k := 16 + b) (by omega) (by omega)) (fun b hb => xr8_3 (k := 16 + b) (by omega) (by omega)) l3
  have l5 : lfI ((8380417 : Nat) : Int) xr8 256 8 32 := lf_step (N := 8) (V := 16) (fun b hb => xr8_2 (k := 8 + b) (by omega) (by omega)) (fun b hb => xr8_3 (k := 8 + b) (by omega) (by omega)) l4
  have l6 : lfI ((8380417 : Nat) : Int) xr8 256 4 64 := lf_step (N := 4) (V := 32) (fun b hb => xr8_2 (k := 4 + b) (by omega) (by omega)) (fun b hb => xr8_3 (k := 4 + b) (by omega) (by omega)) l5
  have l7 : lfI ((8380417 : Nat) : Int) xr8 256 2 128 := lf_step (N := 2) (V := 64) (fun b hb => xr8_2 (k := 2 + b) (by omega) (by omega)) (fun b hb => xr8_3 (k := 2 + b) (by omega) (by omega)) l6
  have l8 : lfI ((8380417 : Nat) : Int) xr8 256 1 256 := lf_step (N := 1) (V := 128) (fun b hb => xr8_2 (k := 1 + b) (by omega) (by omega)) (fun b hb => xr8_3 (k := 1 + b) (by omega) (by omega)) l7
  exact l8
theorem x8_256 {b : Nat} (hb : b < 256) : cg ((8380417 : Nat) : Int) (xr8 (256 + b) ^ 256) (-1) := by
  have h := lx8 0 b (by decide) hb
  rw [Nat.mul_zero, Nat.zero_add] at h
  refine cg_tr h ?_
  show cg _ (((xn8 1 : Nat)) : Int) (-1)
  rw [show xn8 1 = 8380416 from rfl]
  exact ⟨1, by decide⟩
/-- ML-DSA's ring: the way back of a product number by number is the product modulo X^256 + 1 -/
theorem conv8 {pc pf pp pg : Nat} {s t u w : Sto} (hc : rdc 8380417 (s.1 pc)) (hf : rdc 8380417 (t.1 pf)) (hp : rdc 8380417 (u.1 pp)) (hP : ∀ k, k < 256 → cg ((8380417 : Nat) : Int) (vl (u.1 pp) k) (vl ((F_RG_transform_8 pc s).1 pc) k * vl ((F_RG_transform_8 pf t).1 pf) k)) (hw : ∀ k, k < 256 → w.1 pg k = u.1 pp k) (k : Nat) (hk : k < 256) : cg ((8380417 : Nat) : Int) (vl ((F_RG_restore_8 pg w).1 pg) k) (sm 256 fun i => vl (s.1 pc) i * shf (vl (t.1 pf)) i k) := by
  let H : Nat → Nat := fun k => ((sm 256 fun i => vl (s.1 pc) i * shf (vl (t.1 pf)) i k) % 8380417).toNat
  have hH : ∀ k, H k < 8380417 := fun k => by
    have h1 := Int.emod_nonneg (sm 256 fun i => vl (s.1 pc) i * shf (vl (t.1 pf)) i k) (show (8380417 : Int) ≠ 0 by decide)
    have h2 := Int.emod_lt_of_pos (sm 256 fun i => vl (s.1 pc) i * shf (vl (t.1 pf)) i k) (show (0 : Int) < 8380417 by decide)
    show ((sm 256 fun i => vl (s.1 pc) i * shf (vl (t.1 pf)) i k) % 8380417).toNat < 8380417
    omega
  have hHc : ∀ k, cg ((8380417 : Nat) : Int) ((H k : Nat) : Int) (sm 256 fun i => vl (s.1 pc) i * shf (vl (t.1 pf)) i k) := fun k => by
    have h1 := Int.emod_nonneg (sm 256 fun i => vl (s.1 pc) i * shf (vl (t.1 pf)) i k) (show (8380417 : Int) ≠ 0 by decide)
    have h2 := Int.emod_add_mul_ediv (sm 256 fun i => vl (s.1 pc) i * shf (vl (t.1 pf)) i k) 8380417
    refine ⟨-((sm 256 fun i => vl (s.1 pc) i * shf (vl (t.1 pf)) i k) / 8380417), ?_⟩
    show (((((sm 256 fun i => vl (s.1 pc) i * shf (vl (t.1 pf)) i k) % 8380417).toNat) : Nat) : Int) = _
    omega
  generalize H = H0 at hH hHc
  let S : Sto := (fun _ k => nI (H0 k), fun _ _ => 0)
  have hS : rdc 8380417 (S.1 0) := fun k _ => ⟨H0 k, hH k, rfl⟩
  have vS : ∀ k, vl (S.1 0) k = ((H0 k : Nat) : Int) := fun k => vl_n (r := S.1 0) rfl (by have := hH k; omega)
  obtain ⟨-, a2, a3⟩ := P_transform8 (pf := 0) hS
  obtain ⟨-, -, b3⟩ := P_transform8 hc
  obtain ⟨-, -, c3⟩ := P_transform8 hf
  have key : ∀ b, b < 256 → w.1 pg b = (F_RG_transform_8 0 S).1 0 b := fun b hb => by
    rw [hw b hb]
    refine rd_same (by decide) hp a2 hb (cg_tr (hP b hb) (cg_sy ?_))
    have h1 := a3 b 0 hb (by decide)
    have h2 := b3 b 0 hb (by decide)
    have h3 := c3 b 0 hb (by decide)
    rw [Nat.one_mul, Nat.add_zero] at h1 h2 h3
    refine cg_tr h1 (cg_tr ?_ (cg_mul (cg_sy h2) (cg_sy h3)))
    have e : ∀ r : Nat → Int32, (sm 256 fun u => vl r (0 + 1 * u) * xr8 (256 + b) ^ u) = sm 256 fun u => vl r u * xr8 (256 + b) ^ u := fun r => sm_ext 256 fun u _ => by rw [Nat.zero_add, Nat.one_mul]
    rw [e, e, e]
    exact ev_mul (x8_256 hb) (fun k _ => by rw [vS]; exact hHc k)
  have fin := inv8 (pg := pg) (t := w) hS key k hk
  rw [vl_c fin, vS]
  exact hHc k
