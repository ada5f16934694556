set_option linter.all false
/-! What is left, as four sentences about SHAKE alone (KALL): no store, no object, no script in them -/
theorem bnd_i {α : Type} {x : α} {P : α → Prop} (h : ∀ v, P v) : bnd x P := h x
theorem ite_i {c : Prop} {d : Decidable c} {A B : Prop} (h1 : A) (h2 : B) : @ite Prop c d A B := by
  by_cases q : c
  · rw [if_pos q]
    exact h1
  · rw [if_neg q]
    exact h2
/-- the empty sponge -/
abbrev zS : Sp := (fun _ => 0, 0)
/-- SHAKE's stream behind the message that st has taken in -/
def shk (rt : Nat) (st : Sp) : Sp := (prm (pdF rt st (nI 31)), 0)
/-- n bytes further -/
def skp (rt : Nat) : Nat → Sp → Sp
  | 0, st => st
  | n + 1, st => skp rt n (nxS rt st)
/-- how many numbers of 12 bits below 3329 stand in the next n times 3 bytes (FIPS 203, SampleNTT) -/
noncomputable def c12 (rt : Nat) : Nat → Sp → Nat
  | 0, _ => 0
  | n + 1, st => (if bt (nxS rt st) + 256 * (bt (nxS rt (nxS rt st)) % 16) < 3329 then 1 else 0) + ((if bt (nxS rt (nxS rt st)) / 16 + 16 * bt (nxS rt (nxS rt (nxS rt st))) < 3329 then 1 else 0) + c12 rt n (nxS rt (nxS rt (nxS rt st))))
/-- how many numbers of 23 bits below 8380417 stand in the next n times 3 bytes (FIPS 204, RejNTTPoly) -/
noncomputable def c23 (rt : Nat) : Nat → Sp → Nat
  | 0, _ => 0
  | n + 1, st => (if d8 rt st < 8380417 then 1 else 0) + c23 rt n (nxS rt (nxS rt (nxS rt st)))
/-- how many numbers of 4 bits up to B stand in the next n bytes (FIPS 204, RejBoundedPoly) -/
noncomputable def c4 (B rt : Nat) : Nat → Sp → Nat
  | 0, _ => 0
  | n + 1, st => (if bt (nxS rt st) % 16 ≤ B then 1 else 0) + ((if bt (nxS rt st) / 16 ≤ B then 1 else 0) + c4 B rt n (nxS rt st))
/-- this byte or one of the next n is at most i, and behind the first such one ke holds -/
noncomputable def eT (rt i : Nat) (ke : Sp → Prop) : Nat → Sp → Prop
  | 0, st => bt st ≤ i ∧ ke st
  | n + 1, st => if bt st ≤ i then ke st else eT rt i ke n (nxS rt st)
/-- m places from i on, each found within 1,000,000 bytes more (FIPS 204, SampleInBall) -/
noncomputable def eB (rt : Nat) : Nat → Nat → Sp → Prop
  | 0, _, _ => True
  | m + 1, i, st => eT rt i (eB rt m (i + 1)) fuelM (nxS rt st)
/-- SHAKE128 of any 34 bytes: within 1,000,000 tries 256 numbers below 3329 -/
def K34a : Prop := ∀ (b : Nat → Int32) (x y : Int32), 256 ≤ c12 168 fuelM (shk 168 (abF 168 (abF 168 (abN 168 zS b 0 32) x) y))
/-- SHAKE128 of any 34 bytes: within 1,000,000 tries 256 numbers below 8380417 -/
def K34b : Prop := ∀ (b : Nat → Int32) (x y : Int32), 256 ≤ c23 168 fuelM (shk 168 (abF 168 (abF 168 (abN 168 zS b 0 32) x) y))
/-- SHAKE256 of any 66 bytes: within 1,000,000 bytes 256 numbers of four bits up to B -/
def K66 (B : Nat) : Prop := ∀ (b : Nat → Int32) (x y : Int32), 256 ≤ c4 B 136 fuelM (shk 136 (abF 136 (abF 136 (abN 136 zS b 0 64) x) y))
/-- SHAKE256 of any n bytes, from byte 8 on: the places f to 255 are found, each within 1,000,000 bytes more -/
def KB (n f : Nat) : Prop := ∀ b : Nat → Int32, eB 136 (256 - f) f (skp 136 8 (shk 136 (abN 136 zS b 0 n)))
/-- fuelM is 1000000 (fuelM_eq). Surely true, and no proof is known: REPORT.md, 'STATEMENT' -/
def KALL : Prop := (K34a ∧ K34b) ∧ (K66 14 ∧ K66 8) ∧ KB 32 217 ∧ KB 48 207 ∧ KB 64 196
theorem Q_putsE {rt pb at_ : Nat} {st : Sp} {sf : Int32} (hr : rt < 200) (hp : st.2 < rt) : ∀ (n i : Nat) (s : Sto) (b : Nat → Int32), spM (abN rt st b 0 i) rt sf s → ∃ b', spM (abN rt st b' 0 (i + n)) rt sf (F_MS_puts_L0 pb at_ n i s)
  | 0, i, s, b, h => ⟨b, h⟩
  | n + 1, i, s, b, h => by
    obtain ⟨a, -⟩ := Q_put (v := s.1 pb (at_ + i)) h hr (abN_lt hp i)
    have e : abN rt st (fun k => if k = i then s.1 pb (at_ + i) else b k) 0 (i + 1) = abF rt (abN rt st b 0 i) (s.1 pb (at_ + i)) := by
      show abF rt (abN rt st (fun k => if k = i then s.1 pb (at_ + i) else b k) 0 i) (if 0 + i = i then s.1 pb (at_ + i) else b (0 + i)) = _
      rw [if_pos (Nat.zero_add i), abN_ext (c := b) i (fun j hj => if_neg (by omega))]
    rw [← e] at a
    obtain ⟨b', c⟩ := Q_putsE (pb := pb) (at_ := at_) hr hp n (i + 1) _ _ a
    rw [show i + 1 + n = i + (n + 1) by omega] at c
    exact ⟨b', c⟩
theorem Q_putsX {rt pb nb at_ len : Nat} {st : Sp} {sf : Int32} {s : Sto} (h : spM st rt sf s) (hr : rt < 200) (hp : st.2 < rt) : ∃ b, spM (abN rt st b 0 len) rt sf (F_MS_puts pb nb at_ len s) := by
  obtain ⟨b, c⟩ := Q_putsE (pb := pb) (at_ := at_) hr hp len 0 s (fun _ => 0) h
  rw [Nat.zero_add] at c
  exact ⟨b, c⟩
theorem seed34 (t : Sto) (x y : Int32) (pb nb at_ : Nat) : ∃ b, spM (shk 168 (abF 168 (abF 168 (abN 168 zS b 0 32) x) y)) 168 (nI 31) (F_MS_end (F_MS_put y (F_MS_put x (F_MS_puts pb nb at_ 32 (F_MS_begin 168 (nI 31) t))))) := by
  have hr : (168 : Nat) < 200 := by decide
  have hz : zS.2 < 168 := show (0 : Nat) < 168 by decide
  obtain ⟨a, -⟩ := Q_begin (rt := 168) (sf := nI 31) (s := t)
  obtain ⟨b, c⟩ := Q_putsX (pb := pb) (nb := nb) (at_ := at_) (len := 32) a hr hz
  obtain ⟨d, -⟩ := Q_put (v := x) c hr (abN_lt hz 32)
  obtain ⟨e, -⟩ := Q_put (v := y) d hr (abF_lt (abN_lt hz 32))
  exact ⟨b, (Q_end e (by decide) hr (abF_lt (abF_lt (abN_lt hz 32)))).1⟩
theorem seed66 (t : Sto) (x y : Int32) (pb nb at_ : Nat) : ∃ b, spM (shk 136 (abF 136 (abF 136 (abN 136 zS b 0 64) x) y)) 136 (nI 31) (F_MS_end (F_MS_put y (F_MS_put x (F_MS_puts pb nb at_ 64 (F_MS_begin 136 (nI 31) t))))) := by
  have hr : (136 : Nat) < 200 := by decide
  have hz : zS.2 < 136 := show (0 : Nat) < 136 by decide
  obtain ⟨a, -⟩ := Q_begin (rt := 136) (sf := nI 31) (s := t)
  obtain ⟨b, c⟩ := Q_putsX (pb := pb) (nb := nb) (at_ := at_) (len := 64) a hr hz
  obtain ⟨d, -⟩ := Q_put (v := x) c hr (abN_lt hz 64)
  obtain ⟨e, -⟩ := Q_put (v := y) d hr (abF_lt (abN_lt hz 64))
  exact ⟨b, (Q_end e (by decide) hr (abF_lt (abF_lt (abN_lt hz 64)))).1⟩
theorem seedN (t : Sto) (pb nb at_ len : Nat) : ∃ b, spM (shk 136 (abN 136 zS b 0 len)) 136 (nI 31) (F_MS_end (F_MS_puts pb nb at_ len (F_MS_begin 136 (nI 31) t))) := by
  have hr : (136 : Nat) < 200 := by decide
  have hz : zS.2 < 136 := show (0 : Nat) < 136 by decide
  obtain ⟨a, -⟩ := Q_begin (rt := 136) (sf := nI 31) (s := t)
  obtain ⟨b, c⟩ := Q_putsX (pb := pb) (nb := nb) (at_ := at_) (len := len) a hr hz
  exact ⟨b, (Q_end c (by decide) hr (abN_lt hz len)).1⟩
theorem Q_drawD {pt f : Nat} {s : Sto} (q : 256 ≤ f) : ∀ n, E_ME_draw_L0 pt n f s
  | 0 => by
    rw [E_ME_draw_L0]
    exact ⟨q, trivial⟩
  | n + 1 => by
    rw [E_ME_draw_L0, if_pos q]
    trivial
/-- the reference's draw ends in time where the stream has 256 small numbers in time -/
theorem Q_drawF {rt pt : Nat} {sf : Int32} (h0 : 0 < rt) (hr : rt < 200) (hb : pt ≠ 172) : ∀ (n f : Nat) (st : Sp) (s : Sto), spM st rt sf s → st.2 ≤ rt → 256 ≤ f + c12 rt n st → E_ME_draw_L0 pt n f s
  | 0, f, st, s, _, _, hc => by
    rw [c12] at hc
    rw [E_ME_draw_L0]
    exact ⟨by omega, trivial⟩
  | n + 1, f, st, s, h, hp, hc => by
    by_cases q0 : 256 ≤ f
    · exact Q_drawD q0 _
    · obtain ⟨a1, b1, c1⟩ := Q_next h h0 hr hp
      have p1 := nxS_le h0 hp
      obtain ⟨a2, b2, c2⟩ := Q_next b1 h0 hr p1
      have p2 := nxS_le h0 p1
      obtain ⟨a3, b3, c3⟩ := Q_next b2 h0 hr p2
      have p3 := nxS_le h0 p2
      have e1 : (F_MS_next s).1.toNatClampNeg = bt (nxS rt st) := congrArg Int32.toNatClampNeg a1
      have e2 : (F_MS_next (F_MS_next s).2).1.toNatClampNeg = bt (nxS rt (nxS rt st)) := congrArg Int32.toNatClampNeg a2
      have e3 : (F_MS_next (F_MS_next (F_MS_next s).2).2).1.toNatClampNeg = bt (nxS rt (nxS rt (nxS rt st))) := congrArg Int32.toNatClampNeg a3
      rw [c12] at hc
      rw [E_ME_draw_L0, if_neg q0]
      repeat rw [bnd_eq]
      rw [e1, e2, e3]
      generalize (F_MS_next (F_MS_next (F_MS_next s).2).2).2 = s3 at b3 ⊢
      generalize bt (nxS rt st) + 256 * (bt (nxS rt (nxS rt st)) % 16) = d1 at hc ⊢
      generalize bt (nxS rt (nxS rt st)) / 16 + 16 * bt (nxS rt (nxS rt (nxS rt st))) = d2 at hc ⊢
      by_cases q1 : 3329 ≤ d1
      · have w1 : ¬ d1 < 3329 := by omega
        rw [if_neg w1] at hc
        rw [if_pos q1]
        by_cases q2 : 3329 ≤ d2
        · have w2 : ¬ d2 < 3329 := by omega
          rw [if_neg w2] at hc
          rw [if_pos q2]
          exact Q_drawF h0 hr hb n f _ s3 b3 p3 (by omega)
        · have w2 : d2 < 3329 := by omega
          rw [if_pos w2] at hc
          rw [if_neg q2, if_neg q0]
          exact Q_drawF h0 hr hb n (f + 1) _ _ (spM_I hb b3) p3 (by omega)
      · have w1 : d1 < 3329 := by omega
        rw [if_pos w1] at hc
        rw [if_neg q1]
        by_cases q2 : 3329 ≤ d2
        · have w2 : ¬ d2 < 3329 := by omega
          rw [if_neg w2] at hc
          rw [if_pos q2]
          exact Q_drawF h0 hr hb n (f + 1) _ _ (spM_I hb b3) p3 (by omega)
        · have w2 : d2 < 3329 := by omega
          rw [if_pos w2] at hc
          rw [if_neg q2]
          by_cases q3 : 256 ≤ f + 1
          · rw [if_pos q3]
            exact Q_drawD q3 _
          · rw [if_neg q3]
            exact Q_drawF h0 hr hb n (f + 1 + 1) _ _ (spM_I hb (spM_I hb b3)) p3 (by omega)
theorem smF_c {B f v x : Nat} (h : 256 ≤ f + ((if v ≤ B then 1 else 0) + x)) : 256 ≤ smF B f v + x := by
  unfold smF
  by_cases a : v ≤ B
  · rw [if_pos a] at h
    by_cases b : 256 ≤ f
    · rw [if_neg (fun z => z.2 b)]
      omega
    · rw [if_pos ⟨a, b⟩]
      omega
  · rw [if_neg a] at h
    rw [if_neg (fun z => a z.1)]
    omega
theorem EA_ME_expand_2_L1 (hK : KALL) {pb n at_ i21 : Nat} {ke : Nat → Sto → Prop} (hke : ∀ (a : Nat) (s : Sto), ke a s) : ∀ (m i22 : Nat) (s : Sto), E_ME_expand_2_L1 pb n at_ i21 ke m i22 s
  | 0, i22, s22 => by
    rw [E_ME_expand_2_L1]
    exact hke _ _
  | n22 + 1, i22, s22 => by
    obtain ⟨b, h⟩ := seed34 s22 (nI i22) (nI i21) pb n at_
    rw [E_ME_expand_2_L1]
    repeat rw [bnd_eq]
    refine ⟨?_, EA_ME_expand_2_L1 hK hke n22 (i22 + 1) _⟩
    rw [E_ME_draw, ← fuelM_eq]
    exact Q_drawF (by decide) (by decide) (by omega) fuelM 0 _ _ h (Nat.zero_le _) (by rw [Nat.zero_add]; exact hK.1.1 b _ _)
theorem EA_ME_expand_3_L1 (hK : KALL) {pb n at_ i21 : Nat} {ke : Nat → Sto → Prop} (hke : ∀ (a : Nat) (s : Sto), ke a s) : ∀ (m i22 : Nat) (s : Sto), E_ME_expand_3_L1 pb n at_ i21 ke m i22 s
  | 0, i22, s22 => by
    rw [E_ME_expand_3_L1]
    exact hke _ _
  | n22 + 1, i22, s22 => by
    obtain ⟨b, h⟩ := seed34 s22 (nI i22) (nI i21) pb n at_
    rw [E_ME_expand_3_L1]
    repeat rw [bnd_eq]
    refine ⟨?_, EA_ME_expand_3_L1 hK hke n22 (i22 + 1) _⟩
    rw [E_ME_draw, ← fuelM_eq]
    exact Q_drawF (by decide) (by decide) (by omega) fuelM 0 _ _ h (Nat.zero_le _) (by rw [Nat.zero_add]; exact hK.1.1 b _ _)
theorem EA_ME_expand_4_L1 (hK : KALL) {pb n at_ i21 : Nat} {ke : Nat → Sto → Prop} (hke : ∀ (a : Nat) (s : Sto), ke a s) : ∀ (m i22 : Nat) (s : Sto), E_ME_expand_4_L1 pb n at_ i21 ke m i22 s
  | 0, i22, s22 => by
    rw [E_ME_expand_4_L1]
    exact hke _ _
  | n22 + 1, i22, s22 => by
    obtain ⟨b, h⟩ := seed34 s22 (nI i22) (nI i21) pb n at_
    rw [E_ME_expand_4_L1]
    repeat rw [bnd_eq]
    refine ⟨?_, EA_ME_expand_4_L1 hK hke n22 (i22 + 1) _⟩
    rw [E_ME_draw, ← fuelM_eq]
    exact Q_drawF (by decide) (by decide) (by omega) fuelM 0 _ _ h (Nat.zero_le _) (by rw [Nat.zero_add]; exact hK.1.1 b _ _)
