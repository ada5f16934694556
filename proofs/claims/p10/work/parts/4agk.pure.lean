set_option linter.all false
/-! ML-DSA: rows that are read, masks -/
theorem Q_minus {v v2 : Int32} {s : Sto} : F_MH_minus v v2 s = (if v2 ≤ v then v - v2 else v - v2 + nI 8380417, s) := by
  rw [F_MH_minus]
  by_cases q : v2 ≤ v
  · rw [if_pos q, if_pos q]
  · rw [if_neg q, if_neg q]
theorem tk_R {T x : Nat} (hT : T < 8380417) (hx : x < 8380417) : (if nI x ≤ nI T then nI T - nI x else nI T - nI x + nI 8380417) = nI ((8380417 + T - x) % 8380417) := by
  by_cases q : x ≤ T
  · rw [if_pos ((nI_leI (by omega) (by omega)).mpr q), pk_sub q]
    exact congrArg nI (by omega)
  · rw [if_neg (fun z => q ((nI_leI (by omega) (by omega)).mp z)), nI_sa (by omega)]
    exact congrArg nI (by omega)
theorem tk_C {T x : Nat} (hT : T < 8380417) (hx : x < 8380417) : (if 0 ≤ nI T - nI x then nI T - nI x else nI T - nI x + nI 8380417) = nI ((8380417 + T - x) % 8380417) := by
  by_cases q : x ≤ T
  · rw [if_pos ((sub_nn (by omega) (by omega)).mpr q), pk_sub q]
    exact congrArg nI (by omega)
  · rw [if_neg (fun z => q ((sub_nn (by omega) (by omega)).mp z)), nI_sa (by omega)]
    exact congrArg nI (by omega)
/-- a row of numbers, each read out of bytes and taken away from a top -/
def rwN (T b : Nat) (B : Nat → Int32) (at_ k : Nat) : Int32 := nI ((8380417 + T - bv (rb B) (8 * at_ + b * k) b) % 8380417)
theorem bv_q {B : Nat → Int32} {P b : Nat} (hb : b ≤ 20) : bv (rb B) P b < 8380417 := by
  have h1 := bv_lt (P := P) (rb_lt (r := B)) b
  have h2 : 2 ^ b ≤ 2 ^ 20 := Nat.pow_le_pow_right (by decide) hb
  omega
theorem rwN_c {T b at1 at2 : Nat} {B B' : Nat → Int32} (h : ∀ j, j < 32 * b → B (at1 + j) = B' (at2 + j)) {k : Nat} (hk : k < 256) : rwN T b B at1 k = rwN T b B' at2 k := by
  unfold rwN
  have e : bv (rb B) (8 * at1 + b * k) b = bv (rb B') (8 * at2 + b * k) b := bv_c b fun j hj => by
    have hm : b * k + j < 256 * b := by
      have : b * k ≤ b * 255 := Nat.mul_le_mul_left b (by omega)
      have e2 : 256 * b = b * 255 + b := by omega
      omega
    have := rb_c (r := B) (r' := B') (a := at1) (a' := at2) (n := 256 * b) (fun m hm => h m (by omega)) (k := b * k + j) hm
    rw [← Nat.add_assoc, ← Nat.add_assoc] at this
    exact this
  rw [e]
theorem rwN_r {T b at_ : Nat} {B : Nat → Int32} : rdc 8380417 (rwN T b B at_) := fun k _ => ⟨_, Nat.mod_lt _ (by decide), rfl⟩
theorem P_readFl {pf b T pr_ n at_ : Nat} {s : Sto} (hne : pr_ ≠ pf) (hb : 1 ≤ b) (hb2 : b ≤ 20) (hT : T < 8380417) : onl pf s (F_DA_readFlipped pf b (nI T) pr_ n at_ s) ∧ ∀ k, k < 256 → (F_DA_readFlipped pf b (nI T) pr_ n at_ s).1 pf k = rwN T b (s.1 pr_) at_ k := by
  have hU : F_DA_readFlipped pf b (nI T) pr_ n at_ s = F_RG_flip_8 pf (nI T) pf (F_BT_unpack pf b pr_ n at_ s) := by
    rw [F_DA_readFlipped]
    repeat rw [bnd_eq]
  obtain ⟨a1, a2⟩ := P_unpack (n := n) (at_ := at_) (s := s) hne hb hb2
  generalize F_BT_unpack pf b pr_ n at_ s = s1 at a1 a2 hU
  obtain ⟨b1, b2⟩ := P_flip8 (pf := pf) (pg := pf) (tp := nI T) (s := s1)
  rw [hU]
  refine ⟨onl_tr a1 b1, fun k hk => ?_⟩
  rw [b2 k hk, a2 k hk]
  exact tk_C hT (bv_q hb2)
/-- a is the transform of r -/
def tr8 (a r : Nat → Int32) : Prop := ∃ (sd : Sto) (pd : Nat), rdc 8380417 (sd.1 pd) ∧ (∀ k, k < 256 → a k = (F_RG_transform_8 pd sd).1 pd k) ∧ ∀ k, k < 256 → sd.1 pd k = r k
theorem tr8_c {a r r' : Nat → Int32} (h : tr8 a r) (e : ∀ k, k < 256 → r k = r' k) : tr8 a r' := by
  obtain ⟨sd, pd, h1, h2, h3⟩ := h
  exact ⟨sd, pd, h1, h2, fun k hk => (h3 k hk).trans (e k hk)⟩
theorem P_rdT {pf b T pr_ n at_ : Nat} {s : Sto} (hne : pr_ ≠ pf) (hb : 1 ≤ b) (hb2 : b ≤ 20) (hT : T < 8380417) : onl pf s (F_RG_transform_8 pf (F_DA_readFlipped pf b (nI T) pr_ n at_ s)) ∧ tr8 ((F_RG_transform_8 pf (F_DA_readFlipped pf b (nI T) pr_ n at_ s)).1 pf) (rwN T b (s.1 pr_) at_) := by
  obtain ⟨a1, a2⟩ := P_readFl (n := n) (at_ := at_) (s := s) hne hb hb2 hT
  generalize F_DA_readFlipped pf b (nI T) pr_ n at_ s = s1 at a1 a2
  have hr : rdc 8380417 (s1.1 pf) := fun k hk => ⟨_, Nat.mod_lt _ (by decide), a2 k hk⟩
  exact ⟨onl_tr a1 (P_transform8 hr).1, s1, pf, hr, fun _ _ => rfl, a2⟩
theorem el_loopB {α : Type} {pf : Nat} {G : Nat → Nat → Sto → α} {K : Sto → α} {e : Nat → Sto → Int32} (h0 : ∀ s, G 0 256 s = K s) (h1 : ∀ n i s, i < 256 → G (n + 1) i s = G n (i + 1) (sI s pf i (e i s))) (he : ∀ i s s', onl pf s s' → s'.1 pf i = s.1 pf i → e i s' = e i s) : ∀ (n i : Nat) (s : Sto), i + n = 256 → ∃ s1, G n i s = K s1 ∧ onl pf s s1 ∧ (∀ k, i ≤ k → k < 256 → s1.1 pf k = e k s) ∧ ∀ k, k < i → s1.1 pf k = s.1 pf k
  | 0, i, s, hi => by
    obtain rfl : i = 256 := by omega
    exact ⟨s, h0 s, onl_rf, fun k u v => by omega, fun _ _ => rfl⟩
  | n + 1, i, s, hi => by
    have o1 : onl pf s (sI s pf i (e i s)) := onl_sI
    have r1 : (sI s pf i (e i s)).1 pf = upd (s.1 pf) i (e i s) := sI_row
    have hU := h1 n i s (by omega)
    generalize sI s pf i (e i s) = s0 at hU o1 r1
    obtain ⟨s1, a, b, c, d⟩ := el_loopB h0 h1 he n (i + 1) s0 (by omega)
    refine ⟨s1, hU.trans a, onl_tr o1 b, fun k u v => ?_, fun k u => ?_⟩
    · by_cases w : k = i
      · subst w
        rw [d k (by omega), r1, upd_s]
      · rw [c k (by omega) v]
        exact he k s s0 o1 (by rw [r1, upd_n w])
    · rw [d k (by omega), r1, upd_n (by omega)]
/-- the reference's reading of a row, in general -/
theorem rd_loop {α : Type} {pr_ b T at_ qf : Nat} {G : Nat → Nat → Sto → α} {K : Sto → α} (hne : pr_ ≠ qf) (hb : b ≤ 20) (hT : T < 8380417) (h0 : ∀ s, G 0 256 s = K s) (h1 : ∀ n i s, i < 256 → G (n + 1) i s = G n (i + 1) (sI s qf i (if nI (bv (rb (s.1 pr_)) (8 * at_ + b * i) b) ≤ nI T then nI T - nI (bv (rb (s.1 pr_)) (8 * at_ + b * i) b) else nI T - nI (bv (rb (s.1 pr_)) (8 * at_ + b * i) b) + nI 8380417))) (s : Sto) : ∃ s1, G 256 0 s = K s1 ∧ onl qf s s1 ∧ ∀ k, k < 256 → s1.1 qf k = rwN T b (s.1 pr_) at_ k := by
  obtain ⟨s1, a, o, h, -⟩ := el_loopB (pf := qf) (G := G) (K := K) (e := fun i s => if nI (bv (rb (s.1 pr_)) (8 * at_ + b * i) b) ≤ nI T then nI T - nI (bv (rb (s.1 pr_)) (8 * at_ + b * i) b) else nI T - nI (bv (rb (s.1 pr_)) (8 * at_ + b * i) b) + nI 8380417) h0 h1 (fun i s s' o _ => by simp only [o.1 pr_ hne]) 256 0 s rfl
  refine ⟨s1, a, o, fun k hk => (h k (Nat.zero_le _) hk).trans ?_⟩
  exact tk_R hT (bv_q hb)
/-- the bytes of one mask -/
theorem mk8_same {MB : Nat} {wh : Int32} {s t : Sto} (hB : ∀ j, j < 64 → s.1 142 j = t.1 374 j) : same2 18 19 38 s (F_SP_squeeze 18 19 38 640 0 MB (F_SP_finish 18 19 (F_SP_absorbByte 18 19 (wh >>> (nI 8 &&& 31)) (F_SP_absorbByte 18 19 wh (F_SP_absorb 18 19 142 128 0 64 (F_SP_start_3 18 19 s)))))) ∧ same2 172 173 375 t (F_MS_take 375 640 0 MB (F_MS_end (F_MS_put (wh >>> (nI 8 &&& 31)) (F_MS_put wh (F_MS_puts 374 64 0 64 (F_MS_begin 136 (nI 31) t)))))) ∧ ∀ j, j < MB → (F_SP_squeeze 18 19 38 640 0 MB (F_SP_finish 18 19 (F_SP_absorbByte 18 19 (wh >>> (nI 8 &&& 31)) (F_SP_absorbByte 18 19 wh (F_SP_absorb 18 19 142 128 0 64 (F_SP_start_3 18 19 s)))))).1 38 j = (F_MS_take 375 640 0 MB (F_MS_end (F_MS_put (wh >>> (nI 8 &&& 31)) (F_MS_put wh (F_MS_puts 374 64 0 64 (F_MS_begin 136 (nI 31) t)))))).1 375 j := by
  have h0 : 0 < 136 := by decide
  have hr : 136 < 200 := by decide
  obtain ⟨a1, a2⟩ := P_start (pv := 18) (qv := 19) (rt := 136) (sf := nI 31) (s := s)
  rw [← sh3_3] at a1 a2
  obtain ⟨b1, b2⟩ := P_absorb (pb := 142) (nb := 128) (at_ := 0) (len := 64) a1 hr h0 (by decide)
  obtain ⟨c1, c2⟩ := P_absorbByte (v := wh) b1 hr (abN_lt h0 64)
  obtain ⟨d1, d2⟩ := P_absorbByte (v := wh >>> (nI 8 &&& 31)) c1 hr (abF_lt (abN_lt h0 64))
  obtain ⟨f1, f2⟩ := P_finish d1 h0 hr (abF_lt (abF_lt (abN_lt h0 64)))
  obtain ⟨a1', a2'⟩ := Q_begin (rt := 136) (sf := nI 31) (s := t)
  obtain ⟨b1', b2'⟩ := Q_puts (pb := 374) (nb := 64) (at_ := 0) (len := 64) a1' hr h0 (by decide)
  obtain ⟨c1', c2'⟩ := Q_put (v := wh) b1' hr (abN_lt h0 64)
  obtain ⟨d1', d2'⟩ := Q_put (v := wh >>> (nI 8 &&& 31)) c1' hr (abF_lt (abN_lt h0 64))
  obtain ⟨f1', f2'⟩ := Q_end d1' h0 hr (abF_lt (abF_lt (abN_lt h0 64)))
  rw [a2.1 142 (by decide), abN_ab (b := s.1 142) (c := t.1 374) (at1 := 0) (at2 := 0) 64 (fun j hj => by rw [Nat.zero_add]; exact hB j hj)] at f1
  rw [a2'.1 374 (by decide)] at f1'
  have m1 := (((a2.tr b2).tr c2).tr d2).tr f2
  have m2 := (((a2'.tr b2').tr c2').tr d2').tr f2'
  obtain ⟨g1, g2, g3, -, -⟩ := sq_same (pb := 38) (qb := 375) (nb := 640) (at1 := 0) (len := MB) (mb := 640) (at2 := 0) f1 f1' h0 hr (by decide) (by decide)
  refine ⟨(s2w m1).tr g1, (s2w m2).tr g2, fun j hj => ?_⟩
  have := g3 j hj
  rw [Nat.zero_add] at this
  exact this
