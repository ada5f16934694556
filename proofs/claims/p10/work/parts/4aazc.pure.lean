set_option linter.all false
/-! the draw, where it ends in time: then what stood in the row before plays no part -/
def stE (D : Nat → Sp → Prop) (f d1 d2 : Nat) (st3 : Sp) : Prop := if 256 ≤ f then True else if 3329 ≤ d1 then (if 3329 ≤ d2 then D f st3 else D (f + 1) st3) else if 3329 ≤ d2 then D (f + 1) st3 else if 256 ≤ f + 1 then D (f + 1) st3 else D (f + 1 + 1) st3
noncomputable def drE (rt : Nat) : Nat → Nat → Sp → Prop
  | 0, f, _ => 256 ≤ f
  | n + 1, f, st => stE (drE rt n) f (bt (nxS rt st) + 256 * (bt (nxS rt (nxS rt st)) % 16)) (bt (nxS rt (nxS rt st)) / 16 + 16 * bt (nxS rt (nxS rt (nxS rt st)))) (nxS rt (nxS rt (nxS rt st)))
theorem drE_s {rt n f : Nat} {st : Sp} : drE rt (n + 1) f st = stE (drE rt n) f (bt (nxS rt st) + 256 * (bt (nxS rt (nxS rt st)) % 16)) (bt (nxS rt (nxS rt st)) / 16 + 16 * bt (nxS rt (nxS rt (nxS rt st)))) (nxS rt (nxS rt (nxS rt st))) := rfl
def stH (pk : Nat) (G : Nat → Sto → Prop) (f d1 d2 : Nat) (s3 : Sto) : Prop := if 256 ≤ f then True else if 3329 ≤ d1 then (if 3329 ≤ d2 then G f s3 else if 256 ≤ f then G f s3 else G (f + 1) (sI s3 pk f (nI d2))) else if 3329 ≤ d2 then G (f + 1) (sI s3 pk f (nI d1)) else if 256 ≤ f + 1 then G (f + 1) (sI s3 pk f (nI d1)) else G (f + 1 + 1) (sI (sI s3 pk f (nI d1)) pk (f + 1) (nI d2))
theorem stH_ok {pk f d1 d2 : Nat} {D : Nat → Sp → Prop} {st3 : Sp} {s3 : Sto} {G : Nat → Sto → Prop} {S : Sto → Prop} (key : ∀ (f' : Nat) (s' : Sto), S s' → G f' s' → D f' st3) (hS : S s3) (wS : ∀ i x s', S s' → S (sI s' pk i x)) (h : stH pk G f d1 d2 s3) : stE D f d1 d2 st3 := by
  unfold stE
  by_cases q0 : 256 ≤ f
  · rw [if_pos q0]
    trivial
  · rw [if_neg q0]
    unfold stH at h
    rw [if_neg q0] at h
    by_cases q1 : 3329 ≤ d1
    · rw [if_pos q1] at h ⊢
      by_cases q2 : 3329 ≤ d2
      · rw [if_pos q2] at h ⊢
        exact key _ _ hS h
      · rw [if_neg q2] at h ⊢
        rw [if_neg q0] at h
        exact key _ _ (wS _ _ _ hS) h
    · rw [if_neg q1] at h ⊢
      by_cases q2 : 3329 ≤ d2
      · rw [if_pos q2] at h ⊢
        exact key _ _ (wS _ _ _ hS) h
      · rw [if_neg q2] at h ⊢
        by_cases q3 : 256 ≤ f + 1
        · rw [if_pos q3] at h ⊢
          exact key _ _ (wS _ _ _ hS) h
        · rw [if_neg q3] at h ⊢
          exact key _ _ (wS _ _ _ (wS _ _ _ hS)) h
theorem Q_drawE {rt pt : Nat} {sf : Int32} (h0 : 0 < rt) (hr : rt < 200) (hb : pt ≠ 172) : ∀ (n f : Nat) (st : Sp) (s : Sto), spM st rt sf s → st.2 ≤ rt → E_ME_draw_L0 pt n f s → drE rt n f st
  | 0, f, _, _, _, _, h => (show 256 ≤ f ∧ True from h).1
  | n + 1, f, st, s, h, hp, hE => by
    obtain ⟨a1, b1, c1⟩ := Q_next h h0 hr hp
    have p1 := nxS_le h0 hp
    obtain ⟨a2, b2, c2⟩ := Q_next b1 h0 hr p1
    have p2 := nxS_le h0 p1
    obtain ⟨a3, b3, c3⟩ := Q_next b2 h0 hr p2
    have p3 := nxS_le h0 p2
    have e1 : (F_MS_next s).1.toNatClampNeg = bt (nxS rt st) := congrArg Int32.toNatClampNeg a1
    have e2 : (F_MS_next (F_MS_next s).2).1.toNatClampNeg = bt (nxS rt (nxS rt st)) := congrArg Int32.toNatClampNeg a2
    have e3 : (F_MS_next (F_MS_next (F_MS_next s).2).2).1.toNatClampNeg = bt (nxS rt (nxS rt (nxS rt st))) := congrArg Int32.toNatClampNeg a3
    have hU : ∀ z1 z2 z3 : Nat, (F_MS_next s).1.toNatClampNeg = z1 → (F_MS_next (F_MS_next s).2).1.toNatClampNeg = z2 → (F_MS_next (F_MS_next (F_MS_next s).2).2).1.toNatClampNeg = z3 → E_ME_draw_L0 pt (n + 1) f s = stH pt (E_ME_draw_L0 pt n) f (z1 + 256 * (z2 % 16)) (z2 / 16 + 16 * z3) (F_MS_next (F_MS_next (F_MS_next s).2).2).2 := fun z1 z2 z3 w1 w2 w3 => by
      subst w1 w2 w3
      rw [E_ME_draw_L0]
      unfold stH
      repeat rw [bnd_eq]
    rw [hU _ _ _ e1 e2 e3] at hE
    rw [drE_s]
    exact stH_ok (S := spM (nxS rt (nxS rt (nxS rt st))) rt sf) (fun f' s' q1 q2 => Q_drawE h0 hr hb n f' _ s' q1 p3 q2) b3 (fun i x s' q => by
        have w : (sI s' pt i x).1 172 = s'.1 172 := uA_ne (Ne.symm hb)
        exact ⟨q.1, by rw [w]; exact q.2.1, by rw [w]; exact q.2.2.1, by rw [w]; exact q.2.2.2⟩) hE
def upto (f : Nat) (r r' : Nat → Int32) : Prop := ∀ k, k < f → k < 256 → ∃ v : Nat, v < 3329 ∧ r k = nI v ∧ r' k = nI v
theorem upto_s {f d : Nat} {r r' : Nat → Int32} (h : upto f r r') (hd : d < 3329) : upto (f + 1) (upd r f (nI d)) (upd r' f (nI d)) := fun k h1 h2 => by
  by_cases q : k = f
  · subst q
    exact ⟨d, hd, upd_s, upd_s⟩
  · rw [upd_n q, upd_n q]
    exact h k (by omega) h2
theorem drw_sr {rt : Nat} : ∀ (n f : Nat) (st : Sp) (r r' : Nat → Int32), drE rt n f st → upto f r r' → sr 3329 (drw rt n f st r) (drw rt n f st r')
  | 0, f, _, r, r', h, hu => fun k hk => hu k (by have h1 : 256 ≤ f := h; omega) hk
  | n + 1, f, st, r, r', h, hu => by
    rw [drE_s] at h
    rw [drw_s, drw_s]
    generalize bt (nxS rt st) + 256 * (bt (nxS rt (nxS rt st)) % 16) = d1 at h ⊢
    generalize bt (nxS rt (nxS rt st)) / 16 + 16 * bt (nxS rt (nxS rt (nxS rt st))) = d2 at h ⊢
    unfold stE at h
    unfold stD
    by_cases q0 : 256 ≤ f
    · rw [if_pos q0, if_pos q0]
      exact fun k hk => hu k (by omega) hk
    · rw [if_neg q0] at h
      rw [if_neg q0, if_neg q0]
      by_cases q1 : 3329 ≤ d1
      · rw [if_pos q1] at h
        rw [if_pos q1, if_pos q1]
        by_cases q2 : 3329 ≤ d2
        · rw [if_pos q2] at h
          rw [if_pos q2, if_pos q2]
          exact drw_sr n _ _ _ _ h hu
        · rw [if_neg q2] at h
          rw [if_neg q2, if_neg q2]
          exact drw_sr n _ _ _ _ h (upto_s hu (by omega))
      · rw [if_neg q1] at h
        rw [if_neg q1, if_neg q1]
        by_cases q2 : 3329 ≤ d2
        · rw [if_pos q2] at h
          rw [if_pos q2, if_pos q2]
          exact drw_sr n _ _ _ _ h (upto_s hu (by omega))
        · rw [if_neg q2] at h
          rw [if_neg q2, if_neg q2]
          by_cases q3 : 256 ≤ f + 1
          · rw [if_pos q3] at h
            rw [if_pos q3, if_pos q3]
            exact drw_sr n _ _ _ _ h (upto_s hu (by omega))
          · rw [if_neg q3] at h
            rw [if_neg q3, if_neg q3]
            exact drw_sr n _ _ _ _ h (upto_s (upto_s hu (by omega)) (by omega))
theorem drE_end {rt : Nat} (h0 : 0 < rt) (P : Nat → Int64) (n f : Nat) : drE rt n f (P, rt) = drE rt n f (prm P, 0) := by
  cases n with
  | zero => rfl
  | succ n => rw [drE_s, drE_s, nx_end h0]
theorem entry_gen (N : Nat) {pt at1 at2 pb1 pb2 nb1 nb2 : Nat} {v1 v2 : Int32} {s t T : Sto} (hT : T = F_MS_end (F_MS_put v2 (F_MS_put v1 (F_MS_puts pb2 nb2 at2 32 (F_MS_begin 168 (nI 31) t))))) (h1 : pb1 ≠ 14) (h2 : pb2 ≠ 172) (h4 : pt ≠ 172) (hb : ∀ j, j < 32 → s.1 pb1 (at1 + j) = t.1 pb2 (at2 + j)) (hE : E_ME_draw_L0 pt N 0 T) :
    same2 14 15 31 s (F_KM_sampleEntry_L0 N 0 0 (F_SP_finish 14 15 (F_SP_absorbByte 14 15 v2 (F_SP_absorbByte 14 15 v1 (F_SP_absorb 14 15 pb1 nb1 at1 32 (F_SP_start_2 14 15 s)))))) ∧ same2 172 173 pt t (F_ME_draw_L0 pt N 0 T) ∧ sr 3329 ((F_KM_sampleEntry_L0 N 0 0 (F_SP_finish 14 15 (F_SP_absorbByte 14 15 v2 (F_SP_absorbByte 14 15 v1 (F_SP_absorb 14 15 pb1 nb1 at1 32 (F_SP_start_2 14 15 s)))))).1 31) ((F_ME_draw_L0 pt N 0 T).1 pt) := by
  have h0 : 0 < 168 := by decide
  have hr : 168 < 200 := by decide
  have hs2 : F_SP_start_2 14 15 s = sI (sI (sI (F_AR_fillJ 15 25 0 s) 14 1 (nI 168)) 14 2 (nI 31)) 14 3 (nI 0) := by
    unfold F_SP_start_2
    repeat rw [bnd_eq]
  obtain ⟨a1, a2⟩ := P_start (pv := 14) (qv := 15) (rt := 168) (sf := nI 31) (s := s)
  rw [← hs2] at a1 a2
  obtain ⟨b1, b2⟩ := P_absorb (nb := nb1) (at_ := at1) (len := 32) a1 hr h0 h1
  obtain ⟨c1, c2⟩ := P_absorbByte (v := v1) b1 hr (abN_lt h0 32)
  obtain ⟨d1, d2⟩ := P_absorbByte (v := v2) c1 hr (abF_lt (abN_lt h0 32))
  obtain ⟨f1, f2⟩ := P_finish d1 h0 hr (abF_lt (abF_lt (abN_lt h0 32)))
  obtain ⟨g1, g2⟩ := P_draw h0 hr N 0 0 _ _ f1 (Nat.le_refl _)
  obtain ⟨a1', a2'⟩ := Q_begin (rt := 168) (sf := nI 31) (s := t)
  obtain ⟨b1', b2'⟩ := Q_puts (nb := nb2) (at_ := at2) (len := 32) a1' hr h0 h2
  obtain ⟨c1', c2'⟩ := Q_put (v := v1) b1' hr (abN_lt h0 32)
  obtain ⟨d1', d2'⟩ := Q_put (v := v2) c1' hr (abF_lt (abN_lt h0 32))
  obtain ⟨f1', f2'⟩ := Q_end d1' h0 hr (abF_lt (abF_lt (abN_lt h0 32)))
  rw [← hT] at f1' f2'
  obtain ⟨g1', g2'⟩ := Q_draw (pt := pt) h0 hr h4 N 0 _ _ f1' (Nat.zero_le _)
  have hD := Q_drawE h0 hr h4 N 0 _ _ f1' (Nat.zero_le _) hE
  have m1 := (((a2.tr b2).tr c2).tr d2).tr f2
  have m2 := (((a2'.tr b2').tr c2').tr d2').tr f2'
  refine ⟨same2.tr ⟨fun k u _ => m1.1 k u, m1.2⟩ g2, same2.tr ⟨fun k u _ => m2.1 k u, m2.2⟩ g2', ?_⟩
  rw [g1, g1', a2.1 pb1 h1]
  rw [a2'.1 pb2 h2] at hD ⊢
  rw [abN_ab (b := s.1 pb1) (c := t.1 pb2) (at1 := at1) (at2 := at2) 32 hb, drw_end h0]
  exact drw_sr N 0 _ _ _ hD (fun k hk => absurd hk (Nat.not_lt_zero _))
/-- an entry of the matrix, where the draw ends in time -/
theorem entry_same {pt at1 at2 pb1 pb2 nb1 nb2 : Nat} {v1 v2 : Int32} {s t T : Sto} (hT : T = F_MS_end (F_MS_put v2 (F_MS_put v1 (F_MS_puts pb2 nb2 at2 32 (F_MS_begin 168 (nI 31) t))))) (h1 : pb1 ≠ 14) (h2 : pb2 ≠ 172) (h4 : pt ≠ 172) (hb : ∀ j, j < 32 → s.1 pb1 (at1 + j) = t.1 pb2 (at2 + j)) (hE : E_ME_draw pt T) :
    same2 14 15 31 s (F_KM_sampleEntry pb1 nb1 at1 v1 v2 s) ∧ same2 172 173 pt t (F_ME_draw pt T) ∧ sr 3329 ((F_KM_sampleEntry pb1 nb1 at1 v1 v2 s).1 31) ((F_ME_draw pt T).1 pt) := by
  have hU : F_KM_sampleEntry pb1 nb1 at1 v1 v2 s = F_KM_sampleEntry_L0 1000000 0 0 (F_SP_finish 14 15 (F_SP_absorbByte 14 15 v2 (F_SP_absorbByte 14 15 v1 (F_SP_absorb 14 15 pb1 nb1 at1 32 (F_SP_start_2 14 15 s))))) := by
    unfold F_KM_sampleEntry
    repeat rw [bnd_eq]
  have hV : ∀ w : Sto, F_ME_draw pt w = F_ME_draw_L0 pt 1000000 0 w := fun w => by
    unfold F_ME_draw
    rfl
  have hW : ∀ w : Sto, E_ME_draw pt w = E_ME_draw_L0 pt 1000000 0 w := fun w => by
    unfold E_ME_draw
    rfl
  rw [hU, hV]
  rw [hW] at hE
  exact entry_gen 1000000 hT h1 h2 h4 hb hE
/-- the bytes that both sponges give, once they were fed alike -/
theorem sq_same {pv qv pb nb at1 len qb mb at2 rt : Nat} {st : Sp} {sf : Int32} {s t : Sto} (h : spA pv qv (pdF rt st sf, rt) rt sf s) (h' : spM (prm (pdF rt st sf), 0) rt sf t) (h0 : 0 < rt) (hr : rt < 200) (hb : pb ≠ pv) (hb' : qb ≠ 172) :
    same2 pv qv pb s (F_SP_squeeze pv qv pb nb at1 len s) ∧ same2 172 173 qb t (F_MS_take qb mb at2 len t) ∧ (∀ j, j < len → (F_SP_squeeze pv qv pb nb at1 len s).1 pb (at1 + j) = (F_MS_take qb mb at2 len t).1 qb (at2 + j)) ∧ (∀ k, (k < at1 ∨ at1 + len ≤ k) → (F_SP_squeeze pv qv pb nb at1 len s).1 pb k = s.1 pb k) ∧ ∀ k, (k < at2 ∨ at2 + len ≤ k) → (F_MS_take qb mb at2 len t).1 qb k = t.1 qb k := by
  obtain ⟨d1, d2⟩ := P_squeeze (nb := nb) (at_ := at1) (len := len) h h0 hr (Nat.le_refl _) hb
  obtain ⟨d1', d2'⟩ := Q_take (nb := mb) (at_ := at2) (len := len) h' h0 hr (Nat.zero_le _) hb'
  refine ⟨d2, d2', fun j hj => ?_, fun k hk => ?_, fun k hk => ?_⟩
  · rw [d1, d1', sq_at, sq_at, if_pos (by omega), if_pos (by omega), oB_end h0, Nat.add_sub_cancel_left, Nat.add_sub_cancel_left]
  · rw [d1, sq_at, if_neg (by omega)]
  · rw [d1', sq_at, if_neg (by omega)]
noncomputable def bC (x : Int32) : Int32 := (F_JI_bitCount x (fun _ _ => 0, fun _ _ => 0)).1
theorem bC_e (x : Int32) (s : Sto) : F_JI_bitCount x s = (bC x, s) := by
  unfold bC F_JI_bitCount
  repeat rw [bnd_eq]
theorem Q_bit {pr_ n bt : Nat} {s : Sto} : F_M_unpack pr_ n bt 1 s = (nI (rb (s.1 pr_) bt), s) := by
  rw [Q_unpack (by decide)]
  refine congrArg (fun x => (nI x, s)) ?_
  show 0 + rb (s.1 pr_) (bt + 0) * 2 ^ 0 = _
  rw [Nat.zero_add, Nat.pow_zero, Nat.mul_one, Nat.add_zero]
theorem bv4 (t : Nat → Nat) (P : Nat) : bv t P 4 = t P + 2 * t (P + 1) + 4 * t (P + 2) + 8 * t (P + 3) := by
  show 0 + t (P + 0) * 2 ^ 0 + t (P + 1) * 2 ^ 1 + t (P + 2) * 2 ^ 2 + t (P + 3) * 2 ^ 3 = _
  rw [Nat.add_zero]
  omega
theorem bv6 (t : Nat → Nat) (P : Nat) : bv t P 6 = t P + 2 * t (P + 1) + 4 * t (P + 2) + 8 * t (P + 3) + 16 * t (P + 4) + 32 * t (P + 5) := by
  show 0 + t (P + 0) * 2 ^ 0 + t (P + 1) * 2 ^ 1 + t (P + 2) * 2 ^ 2 + t (P + 3) * 2 ^ 3 + t (P + 4) * 2 ^ 4 + t (P + 5) * 2 ^ 5 = _
  rw [Nat.add_zero]
  omega
noncomputable def nzC2 (x : Int32) : Int32 := if 0 ≤ bC (x &&& nI 3) - bC (x >>> (nI 2 &&& 31)) then bC (x &&& nI 3) - bC (x >>> (nI 2 &&& 31)) else bC (x &&& nI 3) - bC (x >>> (nI 2 &&& 31)) + nI 3329
def nzS2 (z : Int32) : Int32 := if 0 ≤ z then z else z + nI 3329
def nzR2 (v : Nat) : Int32 := nzS2 ((nI 0 + (nI (v % 2) - nI (v / 4 % 2))) + (nI (v / 2 % 2) - nI (v / 8 % 2)))
theorem nz2_eq : ∀ v, v < 16 → nzC2 (nI v) = nzR2 v ∧ nzR2 v = nI (nzR2 v).toNatClampNeg ∧ (nzR2 v).toNatClampNeg < 3329 := by decide +kernel
theorem P_noiseL2 {pf : Nat} {s : Sto} : onl pf s (F_KM_sampleNoise_2_L0 pf 256 0 s) ∧ ∀ k, k < 256 → (F_KM_sampleNoise_2_L0 pf 256 0 s).1 pf k = nzC2 (s.1 pf k) := by
  obtain ⟨s1, a, b, c, -⟩ := el_loop (pf := pf) (G := F_KM_sampleNoise_2_L0 pf) (K := fun s => s) (e := fun i s => nzC2 (s.1 pf i)) (fun i s => by rw [F_KM_sampleNoise_2_L0]) (fun n i s => by
    rw [F_KM_sampleNoise_2_L0, bC_e, bnd_eq, bC_e, bnd_eq, bnd_eq]
    exact e_if) (fun i s s' o h => by simp only [h]) 256 0 s
  rw [a]
  exact ⟨b, fun k hk => c k (Nat.zero_le _) (by omega)⟩
theorem Q_noiseL2 {pf : Nat} {s : Sto} (hne : 221 ≠ pf) : onl pf s (F_ME_noise_2_L0 pf 256 0 s) ∧ ∀ k, k < 256 → (F_ME_noise_2_L0 pf 256 0 s).1 pf k = nzR2 (bv (rb (s.1 221)) (4 * k) 4) := by
  obtain ⟨s1, a, b, c, -⟩ := el_loop (pf := pf) (G := F_ME_noise_2_L0 pf) (K := fun s => s) (e := fun i s => nzS2 ((nI 0 + (nI (rb (s.1 221) (2 * i * 2 + 0)) - nI (rb (s.1 221) (2 * i * 2 + 2 + 0)))) + (nI (rb (s.1 221) (2 * i * 2 + 1)) - nI (rb (s.1 221) (2 * i * 2 + 2 + 1))))) (fun i s => by rw [F_ME_noise_2_L0]) (fun n i s => by
    rw [F_ME_noise_2_L0]
    rw [F_ME_noise_2_L1, Q_bit, bnd_eq, Q_bit, bnd_eq, bnd_eq]
    rw [F_ME_noise_2_L1, Q_bit, bnd_eq, Q_bit, bnd_eq, bnd_eq]
    rw [F_ME_noise_2_L1]
    exact e_if) (fun i s s' o h => by simp only [o.1 221 hne]) 256 0 s
  rw [a]
  refine ⟨b, fun k hk => (c k (Nat.zero_le _) (by omega)).trans ?_⟩
  show nzS2 ((nI 0 + (nI (rb (s.1 221) (2 * k * 2 + 0)) - nI (rb (s.1 221) (2 * k * 2 + 2 + 0)))) + (nI (rb (s.1 221) (2 * k * 2 + 1)) - nI (rb (s.1 221) (2 * k * 2 + 2 + 1)))) = _
  have hv := bv4 (rb (s.1 221)) (4 * k)
  have b0 := rb_lt (r := s.1 221) (4 * k)
  have b1 := rb_lt (r := s.1 221) (4 * k + 1)
  have b2 := rb_lt (r := s.1 221) (4 * k + 2)
  have b3 := rb_lt (r := s.1 221) (4 * k + 3)
  generalize bv (rb (s.1 221)) (4 * k) 4 = v at hv
  unfold nzR2
  rw [show rb (s.1 221) (2 * k * 2 + 0) = v % 2 by rw [show 2 * k * 2 + 0 = 4 * k by omega]; omega]
  rw [show rb (s.1 221) (2 * k * 2 + 2 + 0) = v / 4 % 2 by rw [show 2 * k * 2 + 2 + 0 = 4 * k + 2 by omega]; omega]
  rw [show rb (s.1 221) (2 * k * 2 + 1) = v / 2 % 2 by rw [show 2 * k * 2 + 1 = 4 * k + 1 by omega]; omega]
  rw [show rb (s.1 221) (2 * k * 2 + 2 + 1) = v / 8 % 2 by rw [show 2 * k * 2 + 2 + 1 = 4 * k + 3 by omega]; omega]
/-- SamplePolyCBD, width 2 -/
theorem noise2_same {pf qf pb n at_ : Nat} {wh : Int32} {s t : Sto} (h1 : pf ≠ 14) (h2 : pf ≠ 35) (h3 : qf ≠ 172) (h4 : qf ≠ 221) (h5 : pb ≠ 172) (hb : ∀ j, j < 32 → s.1 34 (32 + j) = t.1 pb (at_ + j)) :
    (∀ k, k ≠ 14 → k ≠ 35 → k ≠ pf → (F_KM_sampleNoise_2 pf wh s).1 k = s.1 k) ∧ (∀ k, k ≠ 172 → k ≠ 221 → k ≠ qf → (F_ME_noise_2 qf pb n at_ wh t).1 k = t.1 k) ∧ sr 3329 ((F_KM_sampleNoise_2 pf wh s).1 pf) ((F_ME_noise_2 qf pb n at_ wh t).1 qf) := by
  have h0 : 0 < 136 := by decide
  have hr : 136 < 200 := by decide
  have hU : F_KM_sampleNoise_2 pf wh s = F_KM_sampleNoise_2_L0 pf 256 0 (F_BT_unpack pf 4 35 192 0 (F_SP_squeeze 14 15 35 192 0 128 (F_SP_finish 14 15 (F_SP_absorbByte 14 15 wh (F_SP_absorb 14 15 34 64 32 32 (F_SP_start_3 14 15 s)))))) := by
    unfold F_KM_sampleNoise_2
    repeat rw [bnd_eq]
  have hV : F_ME_noise_2 qf pb n at_ wh t = F_ME_noise_2_L0 qf 256 0 (F_MS_take 221 192 0 128 (F_MS_end (F_MS_put wh (F_MS_puts pb n at_ 32 (F_MS_begin 136 (nI 31) t))))) := by
    unfold F_ME_noise_2 F_MS_shake
    repeat rw [bnd_eq]
  have hs2 : F_SP_start_3 14 15 s = sI (sI (sI (F_AR_fillJ 15 25 0 s) 14 1 (nI 136)) 14 2 (nI 31)) 14 3 (nI 0) := by
    unfold F_SP_start_3
    repeat rw [bnd_eq]
  obtain ⟨a1, a2⟩ := P_start (pv := 14) (qv := 15) (rt := 136) (sf := nI 31) (s := s)
  rw [← hs2] at a1 a2
  obtain ⟨b1, b2⟩ := P_absorb (nb := 64) (at_ := 32) (len := 32) a1 hr h0 (show 34 ≠ 14 by decide)
  obtain ⟨c1, c2⟩ := P_absorbByte (v := wh) b1 hr (abN_lt h0 32)
  obtain ⟨f1, f2⟩ := P_finish c1 h0 hr (abF_lt (abN_lt h0 32))
  obtain ⟨a1', a2'⟩ := Q_begin (rt := 136) (sf := nI 31) (s := t)
  obtain ⟨b1', b2'⟩ := Q_puts (nb := n) (at_ := at_) (len := 32) a1' hr h0 h5
  obtain ⟨c1', c2'⟩ := Q_put (v := wh) b1' hr (abN_lt h0 32)
  obtain ⟨f1', f2'⟩ := Q_end c1' h0 hr (abF_lt (abN_lt h0 32))
  rw [a2.1 34 (by decide), abN_ab (b := s.1 34) (c := t.1 pb) (at1 := 32) (at2 := at_) 32 hb] at f1
  rw [a2'.1 pb h5] at f1'
  have m1 := ((a2.tr b2).tr c2).tr f2
  have m2 := ((a2'.tr b2').tr c2').tr f2'
  obtain ⟨g1, g2, g3, -, -⟩ := sq_same (nb := 192) (at1 := 0) (len := 128) (mb := 192) (at2 := 0) f1 f1' h0 hr (show 35 ≠ 14 by decide) (show 221 ≠ 172 by decide)
  rw [hU, hV]
  generalize F_SP_finish 14 15 (F_SP_absorbByte 14 15 wh (F_SP_absorb 14 15 34 64 32 32 (F_SP_start_3 14 15 s))) = s1 at m1 g1 g3 ⊢
  generalize F_SP_squeeze 14 15 35 192 0 128 s1 = s2 at g1 g3 ⊢
  generalize F_MS_end (F_MS_put wh (F_MS_puts pb n at_ 32 (F_MS_begin 136 (nI 31) t))) = t1 at m2 g2 g3 ⊢
  generalize F_MS_take 221 192 0 128 t1 = t2 at g2 g3 ⊢
  obtain ⟨u1, u2⟩ := P_unpack (n := 192) (at_ := 0) (s := s2) (Ne.symm h2) (show 1 ≤ 4 by decide) (by decide)
  generalize F_BT_unpack pf 4 35 192 0 s2 = s3 at u1 u2 ⊢
  obtain ⟨p1, p2⟩ := P_noiseL2 (pf := pf) (s := s3)
  obtain ⟨q1, q2⟩ := Q_noiseL2 (pf := qf) (s := t2) (Ne.symm h4)
  refine ⟨fun k w1 w2 w3 => ?_, fun k w1 w2 w3 => ?_, fun k hk => ?_⟩
  · rw [p1.1 k w3, u1.1 k w3, g1.1 k w1 w2, m1.1 k w1]
  · rw [q1.1 k w3, g2.1 k w1 w2, m2.1 k w1]
  · have e : bv (rb (s2.1 35)) (8 * 0 + 4 * k) 4 = bv (rb (t2.1 221)) (4 * k) 4 := bv_c 4 fun j hj => by
      have := rb_c (r := s2.1 35) (r' := t2.1 221) (a := 0) (a' := 0) (n := 256 * 4) (fun m hm => g3 m (by omega)) (k := 4 * k + j) (by omega)
      rw [Nat.mul_zero, Nat.zero_add] at this ⊢
      exact this
    have hl := bv_lt (P := 4 * k) (rb_lt (r := t2.1 221)) 4
    obtain ⟨z1, z2, z3⟩ := nz2_eq _ hl
    refine ⟨_, z3, ?_, ?_⟩
    · rw [p2 k hk, u2 k hk, e, z1]
      exact z2
    · rw [q2 k hk]
      exact z2
noncomputable def nzC3 (x : Int32) : Int32 := if 0 ≤ bC (x &&& nI 7) - bC (x >>> (nI 3 &&& 31)) then bC (x &&& nI 7) - bC (x >>> (nI 3 &&& 31)) else bC (x &&& nI 7) - bC (x >>> (nI 3 &&& 31)) + nI 3329
def nzS3 (z : Int32) : Int32 := if 0 ≤ z then z else z + nI 3329
def nzR3 (v : Nat) : Int32 := nzS3 (((nI 0 + (nI (v % 2) - nI (v / 8 % 2))) + (nI (v / 2 % 2) - nI (v / 16 % 2))) + (nI (v / 4 % 2) - nI (v / 32 % 2)))
theorem nz3_eq : ∀ v, v < 64 → nzC3 (nI v) = nzR3 v ∧ nzR3 v = nI (nzR3 v).toNatClampNeg ∧ (nzR3 v).toNatClampNeg < 3329 := by decide +kernel
theorem P_noiseL3 {pf : Nat} {s : Sto} : onl pf s (F_KM_sampleNoise_3_L0 pf 256 0 s) ∧ ∀ k, k < 256 → (F_KM_sampleNoise_3_L0 pf 256 0 s).1 pf k = nzC3 (s.1 pf k) := by
  obtain ⟨s1, a, b, c, -⟩ := el_loop (pf := pf) (G := F_KM_sampleNoise_3_L0 pf) (K := fun s => s) (e := fun i s => nzC3 (s.1 pf i)) (fun i s => by rw [F_KM_sampleNoise_3_L0]) (fun n i s => by
    rw [F_KM_sampleNoise_3_L0, bC_e, bnd_eq, bC_e, bnd_eq, bnd_eq]
    exact e_if) (fun i s s' o h => by simp only [h]) 256 0 s
  rw [a]
  exact ⟨b, fun k hk => c k (Nat.zero_le _) (by omega)⟩
theorem Q_noiseL3 {pf : Nat} {s : Sto} (hne : 221 ≠ pf) : onl pf s (F_ME_noise_3_L0 pf 256 0 s) ∧ ∀ k, k < 256 → (F_ME_noise_3_L0 pf 256 0 s).1 pf k = nzR3 (bv (rb (s.1 221)) (6 * k) 6) := by
  obtain ⟨s1, a, b, c, -⟩ := el_loop (pf := pf) (G := F_ME_noise_3_L0 pf) (K := fun s => s) (e := fun i s => nzS3 (((nI 0 + (nI (rb (s.1 221) (2 * i * 3 + 0)) - nI (rb (s.1 221) (2 * i * 3 + 3 + 0)))) + (nI (rb (s.1 221) (2 * i * 3 + 1)) - nI (rb (s.1 221) (2 * i * 3 + 3 + 1)))) + (nI (rb (s.1 221) (2 * i * 3 + 2)) - nI (rb (s.1 221) (2 * i * 3 + 3 + 2))))) (fun i s => by rw [F_ME_noise_3_L0]) (fun n i s => by
    rw [F_ME_noise_3_L0]
    rw [F_ME_noise_3_L1, Q_bit, bnd_eq, Q_bit, bnd_eq, bnd_eq]
    rw [F_ME_noise_3_L1, Q_bit, bnd_eq, Q_bit, bnd_eq, bnd_eq]
    rw [F_ME_noise_3_L1, Q_bit, bnd_eq, Q_bit, bnd_eq, bnd_eq]
    rw [F_ME_noise_3_L1]
    exact e_if) (fun i s s' o h => by simp only [o.1 221 hne]) 256 0 s
  rw [a]
  refine ⟨b, fun k hk => (c k (Nat.zero_le _) (by omega)).trans ?_⟩
  show nzS3 (((nI 0 + (nI (rb (s.1 221) (2 * k * 3 + 0)) - nI (rb (s.1 221) (2 * k * 3 + 3 + 0)))) + (nI (rb (s.1 221) (2 * k * 3 + 1)) - nI (rb (s.1 221) (2 * k * 3 + 3 + 1)))) + (nI (rb (s.1 221) (2 * k * 3 + 2)) - nI (rb (s.1 221) (2 * k * 3 + 3 + 2)))) = _
  have hv := bv6 (rb (s.1 221)) (6 * k)
  have b0 := rb_lt (r := s.1 221) (6 * k)
  have b1 := rb_lt (r := s.1 221) (6 * k + 1)
  have b2 := rb_lt (r := s.1 221) (6 * k + 2)
  have b3 := rb_lt (r := s.1 221) (6 * k + 3)
  have b4 := rb_lt (r := s.1 221) (6 * k + 4)
  have b5 := rb_lt (r := s.1 221) (6 * k + 5)
  generalize bv (rb (s.1 221)) (6 * k) 6 = v at hv
  unfold nzR3
  rw [show rb (s.1 221) (2 * k * 3 + 0) = v % 2 by rw [show 2 * k * 3 + 0 = 6 * k by omega]; omega]
  rw [show rb (s.1 221) (2 * k * 3 + 3 + 0) = v / 8 % 2 by rw [show 2 * k * 3 + 3 + 0 = 6 * k + 3 by omega]; omega]
  rw [show rb (s.1 221) (2 * k * 3 + 1) = v / 2 % 2 by rw [show 2 * k * 3 + 1 = 6 * k + 1 by omega]; omega]
  rw [show rb (s.1 221) (2 * k * 3 + 3 + 1) = v / 16 % 2 by rw [show 2 * k * 3 + 3 + 1 = 6 * k + 4 by omega]; omega]
  rw [show rb (s.1 221) (2 * k * 3 + 2) = v / 4 % 2 by rw [show 2 * k * 3 + 2 = 6 * k + 2 by omega]; omega]
  rw [show rb (s.1 221) (2 * k * 3 + 3 + 2) = v / 32 % 2 by rw [show 2 * k * 3 + 3 + 2 = 6 * k + 5 by omega]; omega]
/-- SamplePolyCBD, width 3 -/
theorem noise3_same {pf qf pb n at_ : Nat} {wh : Int32} {s t : Sto} (h1 : pf ≠ 14) (h2 : pf ≠ 35) (h3 : qf ≠ 172) (h4 : qf ≠ 221) (h5 : pb ≠ 172) (hb : ∀ j, j < 32 → s.1 34 (32 + j) = t.1 pb (at_ + j)) :
    (∀ k, k ≠ 14 → k ≠ 35 → k ≠ pf → (F_KM_sampleNoise_3 pf wh s).1 k = s.1 k) ∧ (∀ k, k ≠ 172 → k ≠ 221 → k ≠ qf → (F_ME_noise_3 qf pb n at_ wh t).1 k = t.1 k) ∧ sr 3329 ((F_KM_sampleNoise_3 pf wh s).1 pf) ((F_ME_noise_3 qf pb n at_ wh t).1 qf) := by
  have h0 : 0 < 136 := by decide
  have hr : 136 < 200 := by decide
  have hU : F_KM_sampleNoise_3 pf wh s = F_KM_sampleNoise_3_L0 pf 256 0 (F_BT_unpack pf 6 35 192 0 (F_SP_squeeze 14 15 35 192 0 192 (F_SP_finish 14 15 (F_SP_absorbByte 14 15 wh (F_SP_absorb 14 15 34 64 32 32 (F_SP_start_3 14 15 s)))))) := by
    unfold F_KM_sampleNoise_3
    repeat rw [bnd_eq]
  have hV : F_ME_noise_3 qf pb n at_ wh t = F_ME_noise_3_L0 qf 256 0 (F_MS_take 221 192 0 192 (F_MS_end (F_MS_put wh (F_MS_puts pb n at_ 32 (F_MS_begin 136 (nI 31) t))))) := by
    unfold F_ME_noise_3 F_MS_shake
    repeat rw [bnd_eq]
  have hs2 : F_SP_start_3 14 15 s = sI (sI (sI (F_AR_fillJ 15 25 0 s) 14 1 (nI 136)) 14 2 (nI 31)) 14 3 (nI 0) := by
    unfold F_SP_start_3
    repeat rw [bnd_eq]
  obtain ⟨a1, a2⟩ := P_start (pv := 14) (qv := 15) (rt := 136) (sf := nI 31) (s := s)
  rw [← hs2] at a1 a2
  obtain ⟨b1, b2⟩ := P_absorb (nb := 64) (at_ := 32) (len := 32) a1 hr h0 (show 34 ≠ 14 by decide)
  obtain ⟨c1, c2⟩ := P_absorbByte (v := wh) b1 hr (abN_lt h0 32)
  obtain ⟨f1, f2⟩ := P_finish c1 h0 hr (abF_lt (abN_lt h0 32))
  obtain ⟨a1', a2'⟩ := Q_begin (rt := 136) (sf := nI 31) (s := t)
  obtain ⟨b1', b2'⟩ := Q_puts (nb := n) (at_ := at_) (len := 32) a1' hr h0 h5
  obtain ⟨c1', c2'⟩ := Q_put (v := wh) b1' hr (abN_lt h0 32)
  obtain ⟨f1', f2'⟩ := Q_end c1' h0 hr (abF_lt (abN_lt h0 32))
  rw [a2.1 34 (by decide), abN_ab (b := s.1 34) (c := t.1 pb) (at1 := 32) (at2 := at_) 32 hb] at f1
  rw [a2'.1 pb h5] at f1'
  have m1 := ((a2.tr b2).tr c2).tr f2
  have m2 := ((a2'.tr b2').tr c2').tr f2'
  obtain ⟨g1, g2, g3, -, -⟩ := sq_same (nb := 192) (at1 := 0) (len := 192) (mb := 192) (at2 := 0) f1 f1' h0 hr (show 35 ≠ 14 by decide) (show 221 ≠ 172 by decide)
  rw [hU, hV]
  generalize F_SP_finish 14 15 (F_SP_absorbByte 14 15 wh (F_SP_absorb 14 15 34 64 32 32 (F_SP_start_3 14 15 s))) = s1 at m1 g1 g3 ⊢
  generalize F_SP_squeeze 14 15 35 192 0 192 s1 = s2 at g1 g3 ⊢
  generalize F_MS_end (F_MS_put wh (F_MS_puts pb n at_ 32 (F_MS_begin 136 (nI 31) t))) = t1 at m2 g2 g3 ⊢
  generalize F_MS_take 221 192 0 192 t1 = t2 at g2 g3 ⊢
  obtain ⟨u1, u2⟩ := P_unpack (n := 192) (at_ := 0) (s := s2) (Ne.symm h2) (show 1 ≤ 6 by decide) (by decide)
  generalize F_BT_unpack pf 6 35 192 0 s2 = s3 at u1 u2 ⊢
  obtain ⟨p1, p2⟩ := P_noiseL3 (pf := pf) (s := s3)
  obtain ⟨q1, q2⟩ := Q_noiseL3 (pf := qf) (s := t2) (Ne.symm h4)
  refine ⟨fun k w1 w2 w3 => ?_, fun k w1 w2 w3 => ?_, fun k hk => ?_⟩
  · rw [p1.1 k w3, u1.1 k w3, g1.1 k w1 w2, m1.1 k w1]
  · rw [q1.1 k w3, g2.1 k w1 w2, m2.1 k w1]
  · have e : bv (rb (s2.1 35)) (8 * 0 + 6 * k) 6 = bv (rb (t2.1 221)) (6 * k) 6 := bv_c 6 fun j hj => by
      have := rb_c (r := s2.1 35) (r' := t2.1 221) (a := 0) (a' := 0) (n := 256 * 6) (fun m hm => g3 m (by omega)) (k := 6 * k + j) (by omega)
      rw [Nat.mul_zero, Nat.zero_add] at this ⊢
      exact this
    have hl := bv_lt (P := 6 * k) (rb_lt (r := t2.1 221)) 6
    obtain ⟨z1, z2, z3⟩ := nz3_eq _ hl
    refine ⟨_, z3, ?_, ?_⟩
    · rw [p2 k hk, u2 k hk, e, z1]
      exact z2
    · rw [q2 k hk]
      exact z2
