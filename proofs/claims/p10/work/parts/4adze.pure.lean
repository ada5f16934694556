set_option linter.all false
/-! ML-DSA's samplers: the matrix -/
theorem sh3_2 {s : Sto} : F_SP_start_2 18 19 s = sI (sI (sI (F_AR_fillJ 19 25 0 s) 18 1 (nI 168)) 18 2 (nI 31)) 18 3 (nI 0) := by
  rw [F_SP_start_2]
  repeat rw [bnd_eq]
theorem sh3_3 {pv qv : Nat} {s : Sto} : F_SP_start_3 pv qv s = sI (sI (sI (F_AR_fillJ qv 25 0 s) pv 1 (nI 136)) pv 2 (nI 31)) pv 3 (nI 0) := by
  rw [F_SP_start_3]
  repeat rw [bnd_eq]
theorem shM {t : Sto} : F_MS_shake t = F_MS_begin 136 (nI 31) t := by rw [F_MS_shake, bnd_eq]
theorem spA_I {pv qv rt pf i : Nat} {st : Sp} {sf x : Int32} {s : Sto} (hne : pf ≠ pv) (h : spA pv qv st rt sf s) : spA pv qv st rt sf (sI s pf i x) := by
  have w : (sI s pf i x).1 pv = s.1 pv := uA_ne (Ne.symm hne)
  exact ⟨h.1, by rw [w]; exact h.2.1, by rw [w]; exact h.2.2.1, by rw [w]; exact h.2.2.2⟩
theorem spM_I {rt pf i : Nat} {st : Sp} {sf x : Int32} {s : Sto} (hne : pf ≠ 172) (h : spM st rt sf s) : spM st rt sf (sI s pf i x) := by
  have w : (sI s pf i x).1 172 = s.1 172 := uA_ne (Ne.symm hne)
  exact ⟨h.1, by rw [w]; exact h.2.1, by rw [w]; exact h.2.2.1, by rw [w]; exact h.2.2.2⟩
theorem s2rf {pv qv pb : Nat} {s : Sto} : same2 pv qv pb s s := ⟨fun _ _ _ => rfl, fun _ _ => rfl⟩
theorem s2w {pv qv pb : Nat} {s s1 : Sto} (h : same pv qv s s1) : same2 pv qv pb s s1 := ⟨fun k u _ => h.1 k u, h.2⟩
def d8 (rt : Nat) (st : Sp) : Nat := bt (nxS rt st) + 256 * bt (nxS rt (nxS rt st)) + 65536 * (bt (nxS rt (nxS rt (nxS rt st))) % 128)
noncomputable def dr8 (rt : Nat) : Nat → Nat → Sp → (Nat → Int32) → Nat → Int32
  | 0, _, _, r => r
  | n + 1, f, st, r => if 256 ≤ f then r else if 8380417 ≤ d8 rt st then dr8 rt n f (nxS rt (nxS rt (nxS rt st))) r else dr8 rt n (f + 1) (nxS rt (nxS rt (nxS rt st))) (upd r f (nI (d8 rt st)))
noncomputable def dE8 (rt : Nat) : Nat → Nat → Sp → Prop
  | 0, f, _ => 256 ≤ f
  | n + 1, f, st => if 256 ≤ f then True else if 8380417 ≤ d8 rt st then dE8 rt n f (nxS rt (nxS rt (nxS rt st))) else dE8 rt n (f + 1) (nxS rt (nxS rt (nxS rt st)))
theorem z8_or {a b c : Nat} (ha : a < 256) (hb : b < 256) (hc : c < 256) : (nI a ||| (nI b <<< (nI 8 &&& 31))) ||| ((nI c &&& nI 127) <<< (nI 16 &&& 31)) = nI (a + 256 * b + 65536 * (c % 128)) := by
  have h1 : nI b <<< (nI 8 &&& 31) = nI (b * 2 ^ 8) := pk_shlN _ 8 (by decide) (by omega)
  have h2 : nI c &&& nI 127 = nI (c % 128) := pk_andN (by omega) 7 (by decide)
  have h3 : nI (c % 128) <<< (nI 16 &&& 31) = nI (c % 128 * 2 ^ 16) := pk_shlN _ 16 (by decide) (by omega)
  refine Eq.trans (b := nI (a + 2 ^ 8 * b + 2 ^ 16 * (c % 128))) ?_ (congrArg nI (by omega))
  rw [h1, or_nI, or_lo 8 (by omega), h2, h3, or_nI, or_lo 16 (by omega)]
theorem z8_ad {a b c : Nat} (ha : a < 256) (hb : b < 256) (hc : c < 256) : (nI a + (nI b <<< (nI 8 &&& 31))) + ((nI c &&& nI 127) <<< (nI 16 &&& 31)) = nI (a + 256 * b + 65536 * (c % 128)) := by
  have h1 : nI b <<< (nI 8 &&& 31) = nI (b * 2 ^ 8) := pk_shlN _ 8 (by decide) (by omega)
  have h2 : nI c &&& nI 127 = nI (c % 128) := pk_andN (by omega) 7 (by decide)
  have h3 : nI (c % 128) <<< (nI 16 &&& 31) = nI (c % 128 * 2 ^ 16) := pk_shlN _ 16 (by decide) (by omega)
  refine Eq.trans (b := nI (a + b * 2 ^ 8 + c % 128 * 2 ^ 16)) ?_ (congrArg nI (by omega))
  rw [h1, nI_add, h2, h3, nI_add]
theorem d8_lt {rt : Nat} {st : Sp} : d8 rt st < 8388608 := by
  have l1 := bt_lt (nxS rt st)
  have l2 := bt_lt (nxS rt (nxS rt st))
  have l3 := bt_lt (nxS rt (nxS rt (nxS rt st)))
  unfold d8
  omega
/-- the program's entry of the matrix, any number of tries -/
theorem P_draw8 {pf rt : Nat} {sf : Int32} (h0 : 0 < rt) (hr : rt < 200) (hpf : pf ≠ 18) : ∀ (n i f : Nat) (st : Sp) (s : Sto), spA 18 19 st rt sf s → st.2 ≤ rt → (F_SA_sampleEntry_L0 pf n i f s).1 pf = dr8 rt n f st (s.1 pf) ∧ same2 18 19 pf s (F_SA_sampleEntry_L0 pf n i f s)
  | 0, i, f, _, s, _, _ => by
    have e : F_SA_sampleEntry_L0 pf 0 i f s = s := by
      rw [F_SA_sampleEntry_L0]
      by_cases q : 256 ≤ f
      · exact if_pos q
      · exact if_neg q
    rw [e]
    exact ⟨rfl, s2rf⟩
  | n + 1, i, f, st, s, h, hp => by
    by_cases q0 : 256 ≤ f
    · have e : F_SA_sampleEntry_L0 pf (n + 1) i f s = s := by rw [F_SA_sampleEntry_L0, if_pos q0]
      rw [e, dr8, if_pos q0]
      exact ⟨rfl, s2rf⟩
    · obtain ⟨a1, b1, c1⟩ := P_nextByte h h0 hr hp
      have p1 := nxS_le h0 hp
      obtain ⟨a2, b2, c2⟩ := P_nextByte b1 h0 hr p1
      have p2 := nxS_le h0 p1
      obtain ⟨a3, b3, c3⟩ := P_nextByte b2 h0 hr p2
      have p3 := nxS_le h0 p2
      have e1 : (F_SP_nextByte 18 19 s).1.toNatClampNeg = bt (nxS rt st) := congrArg Int32.toNatClampNeg a1
      have e2 : (F_SP_nextByte 18 19 (F_SP_nextByte 18 19 s).2).1.toNatClampNeg = bt (nxS rt (nxS rt st)) := congrArg Int32.toNatClampNeg a2
      have e3 : (F_SP_nextByte 18 19 (F_SP_nextByte 18 19 (F_SP_nextByte 18 19 s).2).2).1.toNatClampNeg = bt (nxS rt (nxS rt (nxS rt st))) := congrArg Int32.toNatClampNeg a3
      have hs := (c1.tr c2).tr c3
      have hU : F_SA_sampleEntry_L0 pf (n + 1) i f s = if nI 8380417 ≤ nI (d8 rt st) then F_SA_sampleEntry_L0 pf n (i + 1) f (F_SP_nextByte 18 19 (F_SP_nextByte 18 19 (F_SP_nextByte 18 19 s).2).2).2 else F_SA_sampleEntry_L0 pf n (i + 1) (f + 1) (sI (F_SP_nextByte 18 19 (F_SP_nextByte 18 19 (F_SP_nextByte 18 19 s).2).2).2 pf f (nI (d8 rt st))) := by
        rw [F_SA_sampleEntry_L0, if_neg q0]
        repeat rw [bnd_eq]
        rw [e1, e2, e3, z8_or (bt_lt _) (bt_lt _) (bt_lt _)]
        rfl
      generalize (F_SP_nextByte 18 19 (F_SP_nextByte 18 19 (F_SP_nextByte 18 19 s).2).2).2 = s3 at b3 hs hU
      have hd := d8_lt (rt := rt) (st := st)
      rw [dr8, if_neg q0]
      by_cases q1 : 8380417 ≤ d8 rt st
      · rw [if_pos ((nI_leI (by decide) (by omega)).mpr q1)] at hU
        obtain ⟨u1, u2⟩ := P_draw8 h0 hr hpf n (i + 1) f _ s3 b3 p3
        rw [hU, if_pos q1]
        rw [hs.1 pf hpf] at u1
        exact ⟨u1, (s2w hs).tr u2⟩
      · rw [if_neg (fun z => q1 ((nI_leI (by decide) (by omega)).mp z))] at hU
        obtain ⟨u1, u2⟩ := P_draw8 h0 hr hpf n (i + 1) (f + 1) _ (sI s3 pf f (nI (d8 rt st))) (spA_I hpf b3) p3
        rw [hU, if_neg q1]
        rw [sI_row, hs.1 pf hpf] at u1
        exact ⟨u1, same2.tr (same2_I (s2w hs)) u2⟩
def upto8 (f : Nat) (r r' : Nat → Int32) : Prop := ∀ k, k < f → k < 256 → ∃ v : Nat, v < 8380417 ∧ r k = nI v ∧ r' k = nI v
theorem upto8_s {f d : Nat} {r r' : Nat → Int32} (h : upto8 f r r') (hd : d < 8380417) : upto8 (f + 1) (upd r f (nI d)) (upd r' f (nI d)) := fun k h1 h2 => by
  by_cases q : k = f
  · subst q
    exact ⟨d, hd, upd_s, upd_s⟩
  · rw [upd_n q, upd_n q]
    exact h k (by omega) h2
theorem dr8_sr {rt : Nat} : ∀ (n f : Nat) (st : Sp) (r r' : Nat → Int32), dE8 rt n f st → upto8 f r r' → sr 8380417 (dr8 rt n f st r) (dr8 rt n f st r')
  | 0, f, _, r, r', h, hu => fun k hk => hu k (by have h1 : 256 ≤ f := h; omega) hk
  | n + 1, f, st, r, r', h, hu => by
    rw [dE8] at h
    rw [dr8, dr8]
    by_cases q0 : 256 ≤ f
    · rw [if_pos q0, if_pos q0]
      exact fun k hk => hu k (by omega) hk
    · rw [if_neg q0] at h
      rw [if_neg q0, if_neg q0]
      by_cases q1 : 8380417 ≤ d8 rt st
      · rw [if_pos q1] at h
        rw [if_pos q1, if_pos q1]
        exact dr8_sr n _ _ _ _ h hu
      · rw [if_neg q1] at h
        rw [if_neg q1, if_neg q1]
        exact dr8_sr n _ _ _ _ h (upto8_s hu (by omega))
theorem d8_end {rt : Nat} (h0 : 0 < rt) (P : Nat → Int64) : d8 rt (P, rt) = d8 rt (prm P, 0) := by
  unfold d8
  rw [nx_end h0]
theorem dr8_end {rt : Nat} (h0 : 0 < rt) (P : Nat → Int64) (r : Nat → Int32) (n f : Nat) : dr8 rt n f (P, rt) r = dr8 rt n f (prm P, 0) r := by
  cases n with
  | zero => rw [dr8, dr8]
  | succ n => rw [dr8, dr8, d8_end h0, nx_end h0]
/-- the reference's entry, set 0, any number of tries, where it ends in time -/
theorem Q_draw80 {i j rt : Nat} {sf : Int32} {kk : Nat → Sto → Sto} {ke : Nat → Sto → Prop} (h0 : 0 < rt) (hr : rt < 200) : ∀ (n f : Nat) (st : Sp) (t : Sto), spM st rt sf t → st.2 ≤ rt → E_MH_expand_0_L2 i j ke n f t → ∃ t1, F_MH_expand_0_L2 i j kk n f t = kk (j + 1) t1 ∧ ke (j + 1) t1 ∧ same2 172 173 (227 + (8 * i + j)) t t1 ∧ t1.1 (227 + (8 * i + j)) = dr8 rt n f st (t.1 (227 + (8 * i + j))) ∧ dE8 rt n f st
  | 0, f, st, t, _, _, hE => by
    rw [E_MH_expand_0_L2] at hE
    exact ⟨t, by rw [F_MH_expand_0_L2], hE.2, s2rf, by rw [dr8], by rw [dE8]; exact hE.1⟩
  | n + 1, f, st, t, h, hp, hE => by
    by_cases q0 : 256 ≤ f
    · rw [E_MH_expand_0_L2, if_pos q0] at hE
      exact ⟨t, by rw [F_MH_expand_0_L2, if_pos q0], hE, s2rf, by rw [dr8, if_pos q0], by rw [dE8, if_pos q0]; trivial⟩
    · obtain ⟨a1, b1, c1⟩ := Q_next h h0 hr hp
      have p1 := nxS_le h0 hp
      obtain ⟨a2, b2, c2⟩ := Q_next b1 h0 hr p1
      have p2 := nxS_le h0 p1
      obtain ⟨a3, b3, c3⟩ := Q_next b2 h0 hr p2
      have p3 := nxS_le h0 p2
      have e1 : (F_MS_next t).1.toNatClampNeg = bt (nxS rt st) := congrArg Int32.toNatClampNeg a1
      have e2 : (F_MS_next (F_MS_next t).2).1.toNatClampNeg = bt (nxS rt (nxS rt st)) := congrArg Int32.toNatClampNeg a2
      have e3 : (F_MS_next (F_MS_next (F_MS_next t).2).2).1.toNatClampNeg = bt (nxS rt (nxS rt (nxS rt st))) := congrArg Int32.toNatClampNeg a3
      have hs := (c1.tr c2).tr c3
      have hd := d8_lt (rt := rt) (st := st)
      have ed : (nI (bt (nxS rt st)) + (nI (bt (nxS rt (nxS rt st))) <<< (nI 8 &&& 31))) + ((nI (bt (nxS rt (nxS rt (nxS rt st)))) &&& nI 127) <<< (nI 16 &&& 31)) = nI (d8 rt st) := z8_ad (bt_lt _) (bt_lt _) (bt_lt _)
      have hU : F_MH_expand_0_L2 i j kk (n + 1) f t = if nI (d8 rt st) < nI 8380417 then F_MH_expand_0_L2 i j kk n (f + 1) (sI (F_MS_next (F_MS_next (F_MS_next t).2).2).2 (227 + (8 * i + j)) f (nI (d8 rt st))) else F_MH_expand_0_L2 i j kk n f (F_MS_next (F_MS_next (F_MS_next t).2).2).2 := by
        rw [F_MH_expand_0_L2, if_neg q0]
        repeat rw [bnd_eq]
        rw [e1, e2, e3, ed]
      rw [E_MH_expand_0_L2, if_neg q0] at hE
      repeat rw [bnd_eq] at hE
      rw [e1, e2, e3, ed] at hE
      generalize (F_MS_next (F_MS_next (F_MS_next t).2).2).2 = t3 at b3 hs hU hE
      have hq : 227 + (8 * i + j) ≠ 172 := by omega
      by_cases q1 : 8380417 ≤ d8 rt st
      · rw [if_neg (fun z => by have := (nI_ltI (by omega) (by decide)).mp z; omega)] at hU hE
        obtain ⟨t1, u1, u2, u3, u4, u5⟩ := Q_draw80 (kk := kk) h0 hr n f _ t3 b3 p3 hE
        refine ⟨t1, hU.trans u1, u2, (s2w hs).tr u3, ?_, ?_⟩
        · rw [u4, hs.1 _ hq, dr8, if_neg q0, if_pos q1]
        · rw [dE8, if_neg q0, if_pos q1]
          exact u5
      · rw [if_pos ((nI_ltI (by omega) (by decide)).mpr (by omega))] at hU hE
        obtain ⟨t1, u1, u2, u3, u4, u5⟩ := Q_draw80 (kk := kk) h0 hr n (f + 1) _ (sI t3 (227 + (8 * i + j)) f (nI (d8 rt st))) (spM_I hq b3) p3 hE
        refine ⟨t1, hU.trans u1, u2, same2.tr (same2_I (s2w hs)) u3, ?_, ?_⟩
        · rw [u4, sI_row, hs.1 _ hq, dr8, if_neg q0, if_neg q1]
        · rw [dE8, if_neg q0, if_neg q1]
          exact u5
theorem ent80 (N : Nat) {i j pf pb np qb nq : Nat} {kk : Nat → Sto → Sto} {ke : Nat → Sto → Prop} {s t T : Sto} (hT : T = F_MS_end (F_MS_put (nI i) (F_MS_put (nI j) (F_MS_puts qb nq 0 32 (F_MS_begin 168 (nI 31) t))))) (hpf : pf ≠ 18) (h1 : pb ≠ 18) (h2 : qb ≠ 172) (hb : ∀ x, x < 32 → s.1 pb x = t.1 qb x) (hE : E_MH_expand_0_L2 i j ke N 0 T) :
    ∃ t1, F_MH_expand_0_L2 i j kk N 0 T = kk (j + 1) t1 ∧ ke (j + 1) t1 ∧ same2 172 173 (227 + (8 * i + j)) t t1 ∧ same2 18 19 pf s (F_SA_sampleEntry_L0 pf N 0 0 (F_SP_finish 18 19 (F_SP_absorbByte 18 19 (nI i) (F_SP_absorbByte 18 19 (nI j) (F_SP_absorb 18 19 pb np 0 32 (F_SP_start_2 18 19 s)))))) ∧ sr 8380417 ((F_SA_sampleEntry_L0 pf N 0 0 (F_SP_finish 18 19 (F_SP_absorbByte 18 19 (nI i) (F_SP_absorbByte 18 19 (nI j) (F_SP_absorb 18 19 pb np 0 32 (F_SP_start_2 18 19 s)))))).1 pf) (t1.1 (227 + (8 * i + j))) := by
  have h0 : 0 < 168 := by decide
  have hr : 168 < 200 := by decide
  obtain ⟨a1, a2⟩ := P_start (pv := 18) (qv := 19) (rt := 168) (sf := nI 31) (s := s)
  rw [← sh3_2] at a1 a2
  obtain ⟨b1, b2⟩ := P_absorb (nb := np) (at_ := 0) (len := 32) a1 hr h0 h1
  obtain ⟨c1, c2⟩ := P_absorbByte (v := nI j) b1 hr (abN_lt h0 32)
  obtain ⟨d1, d2⟩ := P_absorbByte (v := nI i) c1 hr (abF_lt (abN_lt h0 32))
  obtain ⟨f1, f2⟩ := P_finish d1 h0 hr (abF_lt (abF_lt (abN_lt h0 32)))
  obtain ⟨g1, g2⟩ := P_draw8 (pf := pf) h0 hr hpf N 0 0 _ _ f1 (Nat.le_refl _)
  obtain ⟨a1', a2'⟩ := Q_begin (rt := 168) (sf := nI 31) (s := t)
  obtain ⟨b1', b2'⟩ := Q_puts (nb := nq) (at_ := 0) (len := 32) a1' hr h0 h2
  obtain ⟨c1', c2'⟩ := Q_put (v := nI j) b1' hr (abN_lt h0 32)
  obtain ⟨d1', d2'⟩ := Q_put (v := nI i) c1' hr (abF_lt (abN_lt h0 32))
  obtain ⟨f1', f2'⟩ := Q_end d1' h0 hr (abF_lt (abF_lt (abN_lt h0 32)))
  rw [← hT] at f1' f2'
  obtain ⟨t1, u1, u2, u3, u4, u5⟩ := Q_draw80 (kk := kk) h0 hr N 0 _ _ f1' (Nat.zero_le _) hE
  have m1 := (((a2.tr b2).tr c2).tr d2).tr f2
  have m2 := (((a2'.tr b2').tr c2').tr d2').tr f2'
  refine ⟨t1, u1, u2, (s2w m2).tr u3, (s2w m1).tr g2, ?_⟩
  rw [g1, u4, a2.1 pb h1]
  rw [a2'.1 qb h2] at u5 ⊢
  rw [abN_ab (b := s.1 pb) (c := t.1 qb) (at1 := 0) (at2 := 0) 32 (fun x hx => by rw [Nat.zero_add]; exact hb x hx), dr8_end h0]
  exact dr8_sr N 0 _ _ _ u5 (fun k hk => absurd hk (Nat.not_lt_zero _))
theorem ex8I0 {pb np qb nq i : Nat} {B : Nat → Int32} {kk kk' : Nat → Sto → Sto} {ke : Nat → Sto → Prop} (hp : pb ≠ 18 ∧ ¬ (41 ≤ pb ∧ pb ≤ 96)) (hq : qb ≠ 172 ∧ ¬ (227 ≤ qb ∧ qb ≤ 290)) (hi : i < 4) : ∀ (m j : Nat) (s t : Sto), j + m = 4 → (∀ x, x < 32 → s.1 pb x = B x) → (∀ x, x < 32 → t.1 qb x = B x) → E_MH_expand_0_L1 qb nq i ke m j t → (∀ x, x < j → sr 8380417 (s.1 (41 + (4 * i + x))) (t.1 (227 + (8 * i + x)))) →
    ∃ s1 t1, F_SA_expandMatrix_0_L1 pb np i kk m j s = kk (i + 1) s1 ∧ F_MH_expand_0_L1 qb nq i kk' m j t = kk' (i + 1) t1 ∧ ke (i + 1) t1 ∧ frm (fun k => k = 18 ∨ (41 + 4 * i ≤ k ∧ k < 41 + 4 * i + 4)) s s1 ∧ frm (fun k => k = 172 ∨ (227 + 8 * i ≤ k ∧ k < 227 + 8 * i + 4)) t t1 ∧ ∀ x, x < 4 → sr 8380417 (s1.1 (41 + (4 * i + x))) (t1.1 (227 + (8 * i + x)))
  | 0, j, s, t, hj, _, _, hE, h => by
    rw [E_MH_expand_0_L1, bnd_eq] at hE
    exact ⟨s, t, by rw [F_SA_expandMatrix_0_L1], by rw [F_MH_expand_0_L1, bnd_eq], hE, frm_rf, frm_rf, fun x hx => h x (by omega)⟩
  | m + 1, j, s, t, hj, h1, h2, hE, h => by
    rw [E_MH_expand_0_L1] at hE
    repeat rw [bnd_eq] at hE
    have hU : F_SA_expandMatrix_0_L1 pb np i kk (m + 1) j s = F_SA_expandMatrix_0_L1 pb np i kk m (j + 1) (F_SA_sampleEntry_L0 (41 + (4 * i + j)) fuelM 0 0 (F_SP_finish 18 19 (F_SP_absorbByte 18 19 (nI i) (F_SP_absorbByte 18 19 (nI j) (F_SP_absorb 18 19 pb np 0 32 (F_SP_start_2 18 19 s)))))) := by
      rw [F_SA_expandMatrix_0_L1, bnd_eq, F_SA_sampleEntry, fuelM_eq]
      repeat rw [bnd_eq]
    have hV : F_MH_expand_0_L1 qb nq i kk' (m + 1) j t = F_MH_expand_0_L2 i j (F_MH_expand_0_L1 qb nq i kk' m) fuelM 0 (F_MS_end (F_MS_put (nI i) (F_MS_put (nI j) (F_MS_puts qb nq 0 32 (F_MS_begin 168 (nI 31) t))))) := by
      rw [F_MH_expand_0_L1]
      repeat rw [bnd_eq]
    obtain ⟨t1, a1, a2, a3, a4, a5⟩ := ent80 fuelM (pf := 41 + (4 * i + j)) (pb := pb) (np := np) (kk := F_MH_expand_0_L1 qb nq i kk' m) (ke := E_MH_expand_0_L1 qb nq i ke m) (s := s) (t := t) rfl (by omega) hp.1 hq.1 (fun x hx => by rw [h1 x hx, h2 x hx]) hE
    generalize F_SA_sampleEntry_L0 (41 + (4 * i + j)) fuelM 0 0 (F_SP_finish 18 19 (F_SP_absorbByte 18 19 (nI i) (F_SP_absorbByte 18 19 (nI j) (F_SP_absorb 18 19 pb np 0 32 (F_SP_start_2 18 19 s))))) = s1 at a4 a5 hU
    obtain ⟨s2, t2, b1, b2, b3, b4, b5, b6⟩ := ex8I0 (np := np) (B := B) (kk := kk) (kk' := kk') hp hq hi m (j + 1) s1 t1 (by omega) (fun x hx => by rw [a4.1 pb (by omega) (by omega)]; exact h1 x hx) (fun x hx => by rw [a3.1 qb (by omega) (by omega)]; exact h2 x hx) a2 (fun x hx => by
      by_cases w : x = j
      · subst w
        exact a5
      · exact sr_w (h x (by omega)) (a4.1 _ (by omega) (by omega)) (a3.1 _ (by omega) (by omega)))
    exact ⟨s2, t2, hU.trans b1, (hV.trans a1).trans b2, b3, fun k hk => by rw [b4 k hk, a4.1 k (by omega) (by omega)], fun k hk => by rw [b5 k hk, a3.1 k (by omega) (by omega)], b6⟩
theorem ex8O0 {pb np qb nq : Nat} {B : Nat → Int32} (hp : pb ≠ 18 ∧ ¬ (41 ≤ pb ∧ pb ≤ 96)) (hq : qb ≠ 172 ∧ ¬ (227 ≤ qb ∧ qb ≤ 290)) : ∀ (m i : Nat) (s t : Sto), i + m = 4 → (∀ x, x < 32 → s.1 pb x = B x) → (∀ x, x < 32 → t.1 qb x = B x) → E_MH_expand_0_L0 qb nq m i t → (∀ y x, y < i → x < 4 → sr 8380417 (s.1 (41 + (4 * y + x))) (t.1 (227 + (8 * y + x)))) →
    ∃ s1 t1, F_SA_expandMatrix_0_L0 pb np m i s = s1 ∧ F_MH_expand_0_L0 qb nq m i t = t1 ∧ frm (fun k => k = 18 ∨ (41 ≤ k ∧ k ≤ 96)) s s1 ∧ frm (fun k => k = 172 ∨ (227 ≤ k ∧ k ≤ 290)) t t1 ∧ ∀ y x, y < 4 → x < 4 → sr 8380417 (s1.1 (41 + (4 * y + x))) (t1.1 (227 + (8 * y + x)))
  | 0, i, s, t, hi, _, _, hE, h => by
    obtain rfl : i = 4 := by omega
    exact ⟨s, t, by rw [F_SA_expandMatrix_0_L0], by rw [F_MH_expand_0_L0, bnd_eq], frm_rf, frm_rf, h⟩
  | m + 1, i, s, t, hi, h1, h2, hE, h => by
    rw [E_MH_expand_0_L0, bnd_eq] at hE
    obtain ⟨s1, t1, a1, a2, a3, a4, a5, a6⟩ := ex8I0 (np := np) (B := B) (kk := F_SA_expandMatrix_0_L0 pb np m) (kk' := F_MH_expand_0_L0 qb nq m) hp hq (show i < 4 by omega) 4 0 s t (by omega) h1 h2 hE (fun x hx => absurd hx (Nat.not_lt_zero _))
    have hU : F_SA_expandMatrix_0_L0 pb np (m + 1) i s = F_SA_expandMatrix_0_L0 pb np m (i + 1) s1 := by rw [F_SA_expandMatrix_0_L0, a1]
    have hV : F_MH_expand_0_L0 qb nq (m + 1) i t = F_MH_expand_0_L0 qb nq m (i + 1) t1 := by rw [F_MH_expand_0_L0, bnd_eq, a2]
    obtain ⟨s2, t2, b1, b2, b3, b4, b5⟩ := ex8O0 (np := np) (B := B) hp hq m (i + 1) s1 t1 (by omega) (fun x hx => by rw [a4 pb (by omega)]; exact h1 x hx) (fun x hx => by rw [a5 qb (by omega)]; exact h2 x hx) a3 (fun y x hy hx => by
      by_cases w : y = i
      · subst w
        exact a6 x hx
      · exact sr_w (h y x (by omega) hx) (a4 _ (by omega)) (a5 _ (by omega)))
    exact ⟨s2, t2, hU.trans b1, hV.trans b2, fun k hk => by rw [b3 k hk, a4 k (by omega)], fun k hk => by rw [b4 k hk, a5 k (by omega)], b5⟩
/-- ExpandA, set 0: where the reference's draws end in time, both matrices are the same -/
theorem exp0_same {pb np qb nq : Nat} {s t : Sto} (hp : pb ≠ 18 ∧ ¬ (41 ≤ pb ∧ pb ≤ 96)) (hq : qb ≠ 172 ∧ ¬ (227 ≤ qb ∧ qb ≤ 290)) (hB : ∀ x, x < 32 → s.1 pb x = t.1 qb x) (hE : E_MH_expand_0 qb nq t) : frm (fun k => k = 18 ∨ (41 ≤ k ∧ k ≤ 96)) s (F_SA_expandMatrix_0 pb np s) ∧ frm (fun k => k = 172 ∨ (227 ≤ k ∧ k ≤ 290)) t (F_MH_expand_0 qb nq t) ∧ ∀ y x, y < 4 → x < 4 → sr 8380417 ((F_SA_expandMatrix_0 pb np s).1 (41 + (4 * y + x))) ((F_MH_expand_0 qb nq t).1 (227 + (8 * y + x))) := by
  rw [E_MH_expand_0] at hE
  obtain ⟨s1, t1, a1, a2, a3, a4, a5⟩ := ex8O0 (np := np) (B := t.1 qb) hp hq 4 0 s t (by decide) hB (fun _ _ => rfl) hE (fun y x hy => absurd hy (Nat.not_lt_zero _))
  rw [F_SA_expandMatrix_0, F_MH_expand_0, a1, a2]
  exact ⟨a3, a4, a5⟩
/-- the reference's entry, set 1, any number of tries, where it ends in time -/
theorem Q_draw81 {i j rt : Nat} {sf : Int32} {kk : Nat → Sto → Sto} {ke : Nat → Sto → Prop} (h0 : 0 < rt) (hr : rt < 200) : ∀ (n f : Nat) (st : Sp) (t : Sto), spM st rt sf t → st.2 ≤ rt → E_MH_expand_1_L2 i j ke n f t → ∃ t1, F_MH_expand_1_L2 i j kk n f t = kk (j + 1) t1 ∧ ke (j + 1) t1 ∧ same2 172 173 (227 + (8 * i + j)) t t1 ∧ t1.1 (227 + (8 * i + j)) = dr8 rt n f st (t.1 (227 + (8 * i + j))) ∧ dE8 rt n f st
  | 0, f, st, t, _, _, hE => by
    rw [E_MH_expand_1_L2] at hE
    exact ⟨t, by rw [F_MH_expand_1_L2], hE.2, s2rf, by rw [dr8], by rw [dE8]; exact hE.1⟩
  | n + 1, f, st, t, h, hp, hE => by
    by_cases q0 : 256 ≤ f
    · rw [E_MH_expand_1_L2, if_pos q0] at hE
      exact ⟨t, by rw [F_MH_expand_1_L2, if_pos q0], hE, s2rf, by rw [dr8, if_pos q0], by rw [dE8, if_pos q0]; trivial⟩
    · obtain ⟨a1, b1, c1⟩ := Q_next h h0 hr hp
      have p1 := nxS_le h0 hp
      obtain ⟨a2, b2, c2⟩ := Q_next b1 h0 hr p1
      have p2 := nxS_le h0 p1
      obtain ⟨a3, b3, c3⟩ := Q_next b2 h0 hr p2
      have p3 := nxS_le h0 p2
      have e1 : (F_MS_next t).1.toNatClampNeg = bt (nxS rt st) := congrArg Int32.toNatClampNeg a1
      have e2 : (F_MS_next (F_MS_next t).2).1.toNatClampNeg = bt (nxS rt (nxS rt st)) := congrArg Int32.toNatClampNeg a2
      have e3 : (F_MS_next (F_MS_next (F_MS_next t).2).2).1.toNatClampNeg = bt (nxS rt (nxS rt (nxS rt st))) := congrArg Int32.toNatClampNeg a3
      have hs := (c1.tr c2).tr c3
      have hd := d8_lt (rt := rt) (st := st)
      have ed : (nI (bt (nxS rt st)) + (nI (bt (nxS rt (nxS rt st))) <<< (nI 8 &&& 31))) + ((nI (bt (nxS rt (nxS rt (nxS rt st)))) &&& nI 127) <<< (nI 16 &&& 31)) = nI (d8 rt st) := z8_ad (bt_lt _) (bt_lt _) (bt_lt _)
      have hU : F_MH_expand_1_L2 i j kk (n + 1) f t = if nI (d8 rt st) < nI 8380417 then F_MH_expand_1_L2 i j kk n (f + 1) (sI (F_MS_next (F_MS_next (F_MS_next t).2).2).2 (227 + (8 * i + j)) f (nI (d8 rt st))) else F_MH_expand_1_L2 i j kk n f (F_MS_next (F_MS_next (F_MS_next t).2).2).2 := by
        rw [F_MH_expand_1_L2, if_neg q0]
        repeat rw [bnd_eq]
        rw [e1, e2, e3, ed]
      rw [E_MH_expand_1_L2, if_neg q0] at hE
      repeat rw [bnd_eq] at hE
      rw [e1, e2, e3, ed] at hE
      generalize (F_MS_next (F_MS_next (F_MS_next t).2).2).2 = t3 at b3 hs hU hE
      have hq : 227 + (8 * i + j) ≠ 172 := by omega
      by_cases q1 : 8380417 ≤ d8 rt st
      · rw [if_neg (fun z => by have := (nI_ltI (by omega) (by decide)).mp z; omega)] at hU hE
        obtain ⟨t1, u1, u2, u3, u4, u5⟩ := Q_draw81 (kk := kk) h0 hr n f _ t3 b3 p3 hE
        refine ⟨t1, hU.trans u1, u2, (s2w hs).tr u3, ?_, ?_⟩
        · rw [u4, hs.1 _ hq, dr8, if_neg q0, if_pos q1]
        · rw [dE8, if_neg q0, if_pos q1]
          exact u5
      · rw [if_pos ((nI_ltI (by omega) (by decide)).mpr (by omega))] at hU hE
        obtain ⟨t1, u1, u2, u3, u4, u5⟩ := Q_draw81 (kk := kk) h0 hr n (f + 1) _ (sI t3 (227 + (8 * i + j)) f (nI (d8 rt st))) (spM_I hq b3) p3 hE
        refine ⟨t1, hU.trans u1, u2, same2.tr (same2_I (s2w hs)) u3, ?_, ?_⟩
        · rw [u4, sI_row, hs.1 _ hq, dr8, if_neg q0, if_neg q1]
        · rw [dE8, if_neg q0, if_neg q1]
          exact u5
theorem ent81 (N : Nat) {i j pf pb np qb nq : Nat} {kk : Nat → Sto → Sto} {ke : Nat → Sto → Prop} {s t T : Sto} (hT : T = F_MS_end (F_MS_put (nI i) (F_MS_put (nI j) (F_MS_puts qb nq 0 32 (F_MS_begin 168 (nI 31) t))))) (hpf : pf ≠ 18) (h1 : pb ≠ 18) (h2 : qb ≠ 172) (hb : ∀ x, x < 32 → s.1 pb x = t.1 qb x) (hE : E_MH_expand_1_L2 i j ke N 0 T) :
    ∃ t1, F_MH_expand_1_L2 i j kk N 0 T = kk (j + 1) t1 ∧ ke (j + 1) t1 ∧ same2 172 173 (227 + (8 * i + j)) t t1 ∧ same2 18 19 pf s (F_SA_sampleEntry_L0 pf N 0 0 (F_SP_finish 18 19 (F_SP_absorbByte 18 19 (nI i) (F_SP_absorbByte 18 19 (nI j) (F_SP_absorb 18 19 pb np 0 32 (F_SP_start_2 18 19 s)))))) ∧ sr 8380417 ((F_SA_sampleEntry_L0 pf N 0 0 (F_SP_finish 18 19 (F_SP_absorbByte 18 19 (nI i) (F_SP_absorbByte 18 19 (nI j) (F_SP_absorb 18 19 pb np 0 32 (F_SP_start_2 18 19 s)))))).1 pf) (t1.1 (227 + (8 * i + j))) := by
  have h0 : 0 < 168 := by decide
  have hr : 168 < 200 := by decide
  obtain ⟨a1, a2⟩ := P_start (pv := 18) (qv := 19) (rt := 168) (sf := nI 31) (s := s)
  rw [← sh3_2] at a1 a2
  obtain ⟨b1, b2⟩ := P_absorb (nb := np) (at_ := 0) (len := 32) a1 hr h0 h1
  obtain ⟨c1, c2⟩ := P_absorbByte (v := nI j) b1 hr (abN_lt h0 32)
  obtain ⟨d1, d2⟩ := P_absorbByte (v := nI i) c1 hr (abF_lt (abN_lt h0 32))
  obtain ⟨f1, f2⟩ := P_finish d1 h0 hr (abF_lt (abF_lt (abN_lt h0 32)))
  obtain ⟨g1, g2⟩ := P_draw8 (pf := pf) h0 hr hpf N 0 0 _ _ f1 (Nat.le_refl _)
  obtain ⟨a1', a2'⟩ := Q_begin (rt := 168) (sf := nI 31) (s := t)
  obtain ⟨b1', b2'⟩ := Q_puts (nb := nq) (at_ := 0) (len := 32) a1' hr h0 h2
  obtain ⟨c1', c2'⟩ := Q_put (v := nI j) b1' hr (abN_lt h0 32)
  obtain ⟨d1', d2'⟩ := Q_put (v := nI i) c1' hr (abF_lt (abN_lt h0 32))
  obtain ⟨f1', f2'⟩ := Q_end d1' h0 hr (abF_lt (abF_lt (abN_lt h0 32)))
  rw [← hT] at f1' f2'
  obtain ⟨t1, u1, u2, u3, u4, u5⟩ := Q_draw81 (kk := kk) h0 hr N 0 _ _ f1' (Nat.zero_le _) hE
  have m1 := (((a2.tr b2).tr c2).tr d2).tr f2
  have m2 := (((a2'.tr b2').tr c2').tr d2').tr f2'
  refine ⟨t1, u1, u2, (s2w m2).tr u3, (s2w m1).tr g2, ?_⟩
  rw [g1, u4, a2.1 pb h1]
  rw [a2'.1 qb h2] at u5 ⊢
  rw [abN_ab (b := s.1 pb) (c := t.1 qb) (at1 := 0) (at2 := 0) 32 (fun x hx => by rw [Nat.zero_add]; exact hb x hx), dr8_end h0]
  exact dr8_sr N 0 _ _ _ u5 (fun k hk => absurd hk (Nat.not_lt_zero _))
theorem ex8I1 {pb np qb nq i : Nat} {B : Nat → Int32} {kk kk' : Nat → Sto → Sto} {ke : Nat → Sto → Prop} (hp : pb ≠ 18 ∧ ¬ (41 ≤ pb ∧ pb ≤ 96)) (hq : qb ≠ 172 ∧ ¬ (227 ≤ qb ∧ qb ≤ 290)) (hi : i < 6) : ∀ (m j : Nat) (s t : Sto), j + m = 5 → (∀ x, x < 32 → s.1 pb x = B x) → (∀ x, x < 32 → t.1 qb x = B x) → E_MH_expand_1_L1 qb nq i ke m j t → (∀ x, x < j → sr 8380417 (s.1 (41 + (5 * i + x))) (t.1 (227 + (8 * i + x)))) →
    ∃ s1 t1, F_SA_expandMatrix_1_L1 pb np i kk m j s = kk (i + 1) s1 ∧ F_MH_expand_1_L1 qb nq i kk' m j t = kk' (i + 1) t1 ∧ ke (i + 1) t1 ∧ frm (fun k => k = 18 ∨ (41 + 5 * i ≤ k ∧ k < 41 + 5 * i + 5)) s s1 ∧ frm (fun k => k = 172 ∨ (227 + 8 * i ≤ k ∧ k < 227 + 8 * i + 5)) t t1 ∧ ∀ x, x < 5 → sr 8380417 (s1.1 (41 + (5 * i + x))) (t1.1 (227 + (8 * i + x)))
  | 0, j, s, t, hj, _, _, hE, h => by
    rw [E_MH_expand_1_L1, bnd_eq] at hE
    exact ⟨s, t, by rw [F_SA_expandMatrix_1_L1], by rw [F_MH_expand_1_L1, bnd_eq], hE, frm_rf, frm_rf, fun x hx => h x (by omega)⟩
  | m + 1, j, s, t, hj, h1, h2, hE, h => by
    rw [E_MH_expand_1_L1] at hE
    repeat rw [bnd_eq] at hE
    have hU : F_SA_expandMatrix_1_L1 pb np i kk (m + 1) j s = F_SA_expandMatrix_1_L1 pb np i kk m (j + 1) (F_SA_sampleEntry_L0 (41 + (5 * i + j)) fuelM 0 0 (F_SP_finish 18 19 (F_SP_absorbByte 18 19 (nI i) (F_SP_absorbByte 18 19 (nI j) (F_SP_absorb 18 19 pb np 0 32 (F_SP_start_2 18 19 s)))))) := by
      rw [F_SA_expandMatrix_1_L1, bnd_eq, F_SA_sampleEntry, fuelM_eq]
      repeat rw [bnd_eq]
    have hV : F_MH_expand_1_L1 qb nq i kk' (m + 1) j t = F_MH_expand_1_L2 i j (F_MH_expand_1_L1 qb nq i kk' m) fuelM 0 (F_MS_end (F_MS_put (nI i) (F_MS_put (nI j) (F_MS_puts qb nq 0 32 (F_MS_begin 168 (nI 31) t))))) := by
      rw [F_MH_expand_1_L1]
      repeat rw [bnd_eq]
    obtain ⟨t1, a1, a2, a3, a4, a5⟩ := ent81 fuelM (pf := 41 + (5 * i + j)) (pb := pb) (np := np) (kk := F_MH_expand_1_L1 qb nq i kk' m) (ke := E_MH_expand_1_L1 qb nq i ke m) (s := s) (t := t) rfl (by omega) hp.1 hq.1 (fun x hx => by rw [h1 x hx, h2 x hx]) hE
    generalize F_SA_sampleEntry_L0 (41 + (5 * i + j)) fuelM 0 0 (F_SP_finish 18 19 (F_SP_absorbByte 18 19 (nI i) (F_SP_absorbByte 18 19 (nI j) (F_SP_absorb 18 19 pb np 0 32 (F_SP_start_2 18 19 s))))) = s1 at a4 a5 hU
    obtain ⟨s2, t2, b1, b2, b3, b4, b5, b6⟩ := ex8I1 (np := np) (B := B) (kk := kk) (kk' := kk') hp hq hi m (j + 1) s1 t1 (by omega) (fun x hx => by rw [a4.1 pb (by omega) (by omega)]; exact h1 x hx) (fun x hx => by rw [a3.1 qb (by omega) (by omega)]; exact h2 x hx) a2 (fun x hx => by
      by_cases w : x = j
      · subst w
        exact a5
      · exact sr_w (h x (by omega)) (a4.1 _ (by omega) (by omega)) (a3.1 _ (by omega) (by omega)))
    exact ⟨s2, t2, hU.trans b1, (hV.trans a1).trans b2, b3, fun k hk => by rw [b4 k hk, a4.1 k (by omega) (by omega)], fun k hk => by rw [b5 k hk, a3.1 k (by omega) (by omega)], b6⟩
theorem ex8O1 {pb np qb nq : Nat} {B : Nat → Int32} (hp : pb ≠ 18 ∧ ¬ (41 ≤ pb ∧ pb ≤ 96)) (hq : qb ≠ 172 ∧ ¬ (227 ≤ qb ∧ qb ≤ 290)) : ∀ (m i : Nat) (s t : Sto), i + m = 6 → (∀ x, x < 32 → s.1 pb x = B x) → (∀ x, x < 32 → t.1 qb x = B x) → E_MH_expand_1_L0 qb nq m i t → (∀ y x, y < i → x < 5 → sr 8380417 (s.1 (41 + (5 * y + x))) (t.1 (227 + (8 * y + x)))) →
    ∃ s1 t1, F_SA_expandMatrix_1_L0 pb np m i s = s1 ∧ F_MH_expand_1_L0 qb nq m i t = t1 ∧ frm (fun k => k = 18 ∨ (41 ≤ k ∧ k ≤ 96)) s s1 ∧ frm (fun k => k = 172 ∨ (227 ≤ k ∧ k ≤ 290)) t t1 ∧ ∀ y x, y < 6 → x < 5 → sr 8380417 (s1.1 (41 + (5 * y + x))) (t1.1 (227 + (8 * y + x)))
  | 0, i, s, t, hi, _, _, hE, h => by
    obtain rfl : i = 6 := by omega
    exact ⟨s, t, by rw [F_SA_expandMatrix_1_L0], by rw [F_MH_expand_1_L0, bnd_eq], frm_rf, frm_rf, h⟩
  | m + 1, i, s, t, hi, h1, h2, hE, h => by
    rw [E_MH_expand_1_L0, bnd_eq] at hE
    obtain ⟨s1, t1, a1, a2, a3, a4, a5, a6⟩ := ex8I1 (np := np) (B := B) (kk := F_SA_expandMatrix_1_L0 pb np m) (kk' := F_MH_expand_1_L0 qb nq m) hp hq (show i < 6 by omega) 5 0 s t (by omega) h1 h2 hE (fun x hx => absurd hx (Nat.not_lt_zero _))
    have hU : F_SA_expandMatrix_1_L0 pb np (m + 1) i s = F_SA_expandMatrix_1_L0 pb np m (i + 1) s1 := by rw [F_SA_expandMatrix_1_L0, a1]
    have hV : F_MH_expand_1_L0 qb nq (m + 1) i t = F_MH_expand_1_L0 qb nq m (i + 1) t1 := by rw [F_MH_expand_1_L0, bnd_eq, a2]
    obtain ⟨s2, t2, b1, b2, b3, b4, b5⟩ := ex8O1 (np := np) (B := B) hp hq m (i + 1) s1 t1 (by omega) (fun x hx => by rw [a4 pb (by omega)]; exact h1 x hx) (fun x hx => by rw [a5 qb (by omega)]; exact h2 x hx) a3 (fun y x hy hx => by
      by_cases w : y = i
      · subst w
        exact a6 x hx
      · exact sr_w (h y x (by omega) hx) (a4 _ (by omega)) (a5 _ (by omega)))
    exact ⟨s2, t2, hU.trans b1, hV.trans b2, fun k hk => by rw [b3 k hk, a4 k (by omega)], fun k hk => by rw [b4 k hk, a5 k (by omega)], b5⟩
/-- ExpandA, set 1: where the reference's draws end in time, both matrices are the same -/
theorem exp1_same {pb np qb nq : Nat} {s t : Sto} (hp : pb ≠ 18 ∧ ¬ (41 ≤ pb ∧ pb ≤ 96)) (hq : qb ≠ 172 ∧ ¬ (227 ≤ qb ∧ qb ≤ 290)) (hB : ∀ x, x < 32 → s.1 pb x = t.1 qb x) (hE : E_MH_expand_1 qb nq t) : frm (fun k => k = 18 ∨ (41 ≤ k ∧ k ≤ 96)) s (F_SA_expandMatrix_1 pb np s) ∧ frm (fun k => k = 172 ∨ (227 ≤ k ∧ k ≤ 290)) t (F_MH_expand_1 qb nq t) ∧ ∀ y x, y < 6 → x < 5 → sr 8380417 ((F_SA_expandMatrix_1 pb np s).1 (41 + (5 * y + x))) ((F_MH_expand_1 qb nq t).1 (227 + (8 * y + x))) := by
  rw [E_MH_expand_1] at hE
  obtain ⟨s1, t1, a1, a2, a3, a4, a5⟩ := ex8O1 (np := np) (B := t.1 qb) hp hq 6 0 s t (by decide) hB (fun _ _ => rfl) hE (fun y x hy => absurd hy (Nat.not_lt_zero _))
  rw [F_SA_expandMatrix_1, F_MH_expand_1, a1, a2]
  exact ⟨a3, a4, a5⟩
/-- the reference's entry, set 2, any number of tries, where it ends in time -/
theorem Q_draw82 {i j rt : Nat} {sf : Int32} {kk : Nat → Sto → Sto} {ke : Nat → Sto → Prop} (h0 : 0 < rt) (hr : rt < 200) : ∀ (n f : Nat) (st : Sp) (t : Sto), spM st rt sf t → st.2 ≤ rt → E_MH_expand_2_L2 i j ke n f t → ∃ t1, F_MH_expand_2_L2 i j kk n f t = kk (j + 1) t1 ∧ ke (j + 1) t1 ∧ same2 172 173 (227 + (8 * i + j)) t t1 ∧ t1.1 (227 + (8 * i + j)) = dr8 rt n f st (t.1 (227 + (8 * i + j))) ∧ dE8 rt n f st
  | 0, f, st, t, _, _, hE => by
    rw [E_MH_expand_2_L2] at hE
    exact ⟨t, by rw [F_MH_expand_2_L2], hE.2, s2rf, by rw [dr8], by rw [dE8]; exact hE.1⟩
  | n + 1, f, st, t, h, hp, hE => by
    by_cases q0 : 256 ≤ f
    · rw [E_MH_expand_2_L2, if_pos q0] at hE
      exact ⟨t, by rw [F_MH_expand_2_L2, if_pos q0], hE, s2rf, by rw [dr8, if_pos q0], by rw [dE8, if_pos q0]; trivial⟩
    · obtain ⟨a1, b1, c1⟩ := Q_next h h0 hr hp
      have p1 := nxS_le h0 hp
      obtain ⟨a2, b2, c2⟩ := Q_next b1 h0 hr p1
      have p2 := nxS_le h0 p1
      obtain ⟨a3, b3, c3⟩ := Q_next b2 h0 hr p2
      have p3 := nxS_le h0 p2
      have e1 : (F_MS_next t).1.toNatClampNeg = bt (nxS rt st) := congrArg Int32.toNatClampNeg a1
      have e2 : (F_MS_next (F_MS_next t).2).1.toNatClampNeg = bt (nxS rt (nxS rt st)) := congrArg Int32.toNatClampNeg a2
      have e3 : (F_MS_next (F_MS_next (F_MS_next t).2).2).1.toNatClampNeg = bt (nxS rt (nxS rt (nxS rt st))) := congrArg Int32.toNatClampNeg a3
      have hs := (c1.tr c2).tr c3
      have hd := d8_lt (rt := rt) (st := st)
      have ed : (nI (bt (nxS rt st)) + (nI (bt (nxS rt (nxS rt st))) <<< (nI 8 &&& 31))) + ((nI (bt (nxS rt (nxS rt (nxS rt st)))) &&& nI 127) <<< (nI 16 &&& 31)) = nI (d8 rt st) := z8_ad (bt_lt _) (bt_lt _) (bt_lt _)
      have hU : F_MH_expand_2_L2 i j kk (n + 1) f t = if nI (d8 rt st) < nI 8380417 then F_MH_expand_2_L2 i j kk n (f + 1) (sI (F_MS_next (F_MS_next (F_MS_next t).2).2).2 (227 + (8 * i + j)) f (nI (d8 rt st))) else F_MH_expand_2_L2 i j kk n f (F_MS_next (F_MS_next (F_MS_next t).2).2).2 := by
        rw [F_MH_expand_2_L2, if_neg q0]
        repeat rw [bnd_eq]
        rw [e1, e2, e3, ed]
      rw [E_MH_expand_2_L2, if_neg q0] at hE
      repeat rw [bnd_eq] at hE
      rw [e1, e2, e3, ed] at hE
      generalize (F_MS_next (F_MS_next (F_MS_next t).2).2).2 = t3 at b3 hs hU hE
      have hq : 227 + (8 * i + j) ≠ 172 := by omega
      by_cases q1 : 8380417 ≤ d8 rt st
      · rw [if_neg (fun z => by have := (nI_ltI (by omega) (by decide)).mp z; omega)] at hU hE
        obtain ⟨t1, u1, u2, u3, u4, u5⟩ := Q_draw82 (kk := kk) h0 hr n f _ t3 b3 p3 hE
        refine ⟨t1, hU.trans u1, u2, (s2w hs).tr u3, ?_, ?_⟩
        · rw [u4, hs.1 _ hq, dr8, if_neg q0, if_pos q1]
        · rw [dE8, if_neg q0, if_pos q1]
          exact u5
      · rw [if_pos ((nI_ltI (by omega) (by decide)).mpr (by omega))] at hU hE
        obtain ⟨t1, u1, u2, u3, u4, u5⟩ := Q_draw82 (kk := kk) h0 hr n (f + 1) _ (sI t3 (227 + (8 * i + j)) f (nI (d8 rt st))) (spM_I hq b3) p3 hE
        refine ⟨t1, hU.trans u1, u2, same2.tr (same2_I (s2w hs)) u3, ?_, ?_⟩
        · rw [u4, sI_row, hs.1 _ hq, dr8, if_neg q0, if_neg q1]
        · rw [dE8, if_neg q0, if_neg q1]
          exact u5
theorem ent82 (N : Nat) {i j pf pb np qb nq : Nat} {kk : Nat → Sto → Sto} {ke : Nat → Sto → Prop} {s t T : Sto} (hT : T = F_MS_end (F_MS_put (nI i) (F_MS_put (nI j) (F_MS_puts qb nq 0 32 (F_MS_begin 168 (nI 31) t))))) (hpf : pf ≠ 18) (h1 : pb ≠ 18) (h2 : qb ≠ 172) (hb : ∀ x, x < 32 → s.1 pb x = t.1 qb x) (hE : E_MH_expand_2_L2 i j ke N 0 T) :
    ∃ t1, F_MH_expand_2_L2 i j kk N 0 T = kk (j + 1) t1 ∧ ke (j + 1) t1 ∧ same2 172 173 (227 + (8 * i + j)) t t1 ∧ same2 18 19 pf s (F_SA_sampleEntry_L0 pf N 0 0 (F_SP_finish 18 19 (F_SP_absorbByte 18 19 (nI i) (F_SP_absorbByte 18 19 (nI j) (F_SP_absorb 18 19 pb np 0 32 (F_SP_start_2 18 19 s)))))) ∧ sr 8380417 ((F_SA_sampleEntry_L0 pf N 0 0 (F_SP_finish 18 19 (F_SP_absorbByte 18 19 (nI i) (F_SP_absorbByte 18 19 (nI j) (F_SP_absorb 18 19 pb np 0 32 (F_SP_start_2 18 19 s)))))).1 pf) (t1.1 (227 + (8 * i + j))) := by
  have h0 : 0 < 168 := by decide
  have hr : 168 < 200 := by decide
  obtain ⟨a1, a2⟩ := P_start (pv := 18) (qv := 19) (rt := 168) (sf := nI 31) (s := s)
  rw [← sh3_2] at a1 a2
  obtain ⟨b1, b2⟩ := P_absorb (nb := np) (at_ := 0) (len := 32) a1 hr h0 h1
  obtain ⟨c1, c2⟩ := P_absorbByte (v := nI j) b1 hr (abN_lt h0 32)
  obtain ⟨d1, d2⟩ := P_absorbByte (v := nI i) c1 hr (abF_lt (abN_lt h0 32))
  obtain ⟨f1, f2⟩ := P_finish d1 h0 hr (abF_lt (abF_lt (abN_lt h0 32)))
  obtain ⟨g1, g2⟩ := P_draw8 (pf := pf) h0 hr hpf N 0 0 _ _ f1 (Nat.le_refl _)
  obtain ⟨a1', a2'⟩ := Q_begin (rt := 168) (sf := nI 31) (s := t)
  obtain ⟨b1', b2'⟩ := Q_puts (nb := nq) (at_ := 0) (len := 32) a1' hr h0 h2
  obtain ⟨c1', c2'⟩ := Q_put (v := nI j) b1' hr (abN_lt h0 32)
  obtain ⟨d1', d2'⟩ := Q_put (v := nI i) c1' hr (abF_lt (abN_lt h0 32))
  obtain ⟨f1', f2'⟩ := Q_end d1' h0 hr (abF_lt (abF_lt (abN_lt h0 32)))
  rw [← hT] at f1' f2'
  obtain ⟨t1, u1, u2, u3, u4, u5⟩ := Q_draw82 (kk := kk) h0 hr N 0 _ _ f1' (Nat.zero_le _) hE
  have m1 := (((a2.tr b2).tr c2).tr d2).tr f2
  have m2 := (((a2'.tr b2').tr c2').tr d2').tr f2'
  refine ⟨t1, u1, u2, (s2w m2).tr u3, (s2w m1).tr g2, ?_⟩
  rw [g1, u4, a2.1 pb h1]
  rw [a2'.1 qb h2] at u5 ⊢
  rw [abN_ab (b := s.1 pb) (c := t.1 qb) (at1 := 0) (at2 := 0) 32 (fun x hx => by rw [Nat.zero_add]; exact hb x hx), dr8_end h0]
  exact dr8_sr N 0 _ _ _ u5 (fun k hk => absurd hk (Nat.not_lt_zero _))
theorem ex8I2 {pb np qb nq i : Nat} {B : Nat → Int32} {kk kk' : Nat → Sto → Sto} {ke : Nat → Sto → Prop} (hp : pb ≠ 18 ∧ ¬ (41 ≤ pb ∧ pb ≤ 96)) (hq : qb ≠ 172 ∧ ¬ (227 ≤ qb ∧ qb ≤ 290)) (hi : i < 8) : ∀ (m j : Nat) (s t : Sto), j + m = 7 → (∀ x, x < 32 → s.1 pb x = B x) → (∀ x, x < 32 → t.1 qb x = B x) → E_MH_expand_2_L1 qb nq i ke m j t → (∀ x, x < j → sr 8380417 (s.1 (41 + (7 * i + x))) (t.1 (227 + (8 * i + x)))) →
    ∃ s1 t1, F_SA_expandMatrix_2_L1 pb np i kk m j s = kk (i + 1) s1 ∧ F_MH_expand_2_L1 qb nq i kk' m j t = kk' (i + 1) t1 ∧ ke (i + 1) t1 ∧ frm (fun k => k = 18 ∨ (41 + 7 * i ≤ k ∧ k < 41 + 7 * i + 7)) s s1 ∧ frm (fun k => k = 172 ∨ (227 + 8 * i ≤ k ∧ k < 227 + 8 * i + 7)) t t1 ∧ ∀ x, x < 7 → sr 8380417 (s1.1 (41 + (7 * i + x))) (t1.1 (227 + (8 * i + x)))
  | 0, j, s, t, hj, _, _, hE, h => by
    rw [E_MH_expand_2_L1, bnd_eq] at hE
    exact ⟨s, t, by rw [F_SA_expandMatrix_2_L1], by rw [F_MH_expand_2_L1, bnd_eq], hE, frm_rf, frm_rf, fun x hx => h x (by omega)⟩
  | m + 1, j, s, t, hj, h1, h2, hE, h => by
    rw [E_MH_expand_2_L1] at hE
    repeat rw [bnd_eq] at hE
    have hU : F_SA_expandMatrix_2_L1 pb np i kk (m + 1) j s = F_SA_expandMatrix_2_L1 pb np i kk m (j + 1) (F_SA_sampleEntry_L0 (41 + (7 * i + j)) fuelM 0 0 (F_SP_finish 18 19 (F_SP_absorbByte 18 19 (nI i) (F_SP_absorbByte 18 19 (nI j) (F_SP_absorb 18 19 pb np 0 32 (F_SP_start_2 18 19 s)))))) := by
      rw [F_SA_expandMatrix_2_L1, bnd_eq, F_SA_sampleEntry, fuelM_eq]
      repeat rw [bnd_eq]
    have hV : F_MH_expand_2_L1 qb nq i kk' (m + 1) j t = F_MH_expand_2_L2 i j (F_MH_expand_2_L1 qb nq i kk' m) fuelM 0 (F_MS_end (F_MS_put (nI i) (F_MS_put (nI j) (F_MS_puts qb nq 0 32 (F_MS_begin 168 (nI 31) t))))) := by
      rw [F_MH_expand_2_L1]
      repeat rw [bnd_eq]
    obtain ⟨t1, a1, a2, a3, a4, a5⟩ := ent82 fuelM (pf := 41 + (7 * i + j)) (pb := pb) (np := np) (kk := F_MH_expand_2_L1 qb nq i kk' m) (ke := E_MH_expand_2_L1 qb nq i ke m) (s := s) (t := t) rfl (by omega) hp.1 hq.1 (fun x hx => by rw [h1 x hx, h2 x hx]) hE
    generalize F_SA_sampleEntry_L0 (41 + (7 * i + j)) fuelM 0 0 (F_SP_finish 18 19 (F_SP_absorbByte 18 19 (nI i) (F_SP_absorbByte 18 19 (nI j) (F_SP_absorb 18 19 pb np 0 32 (F_SP_start_2 18 19 s))))) = s1 at a4 a5 hU
    obtain ⟨s2, t2, b1, b2, b3, b4, b5, b6⟩ := ex8I2 (np := np) (B := B) (kk := kk) (kk' := kk') hp hq hi m (j + 1) s1 t1 (by omega) (fun x hx => by rw [a4.1 pb (by omega) (by omega)]; exact h1 x hx) (fun x hx => by rw [a3.1 qb (by omega) (by omega)]; exact h2 x hx) a2 (fun x hx => by
      by_cases w : x = j
      · subst w
        exact a5
      · exact sr_w (h x (by omega)) (a4.1 _ (by omega) (by omega)) (a3.1 _ (by omega) (by omega)))
    exact ⟨s2, t2, hU.trans b1, (hV.trans a1).trans b2, b3, fun k hk => by rw [b4 k hk, a4.1 k (by omega) (by omega)], fun k hk => by rw [b5 k hk, a3.1 k (by omega) (by omega)], b6⟩
theorem ex8O2 {pb np qb nq : Nat} {B : Nat → Int32} (hp : pb ≠ 18 ∧ ¬ (41 ≤ pb ∧ pb ≤ 96)) (hq : qb ≠ 172 ∧ ¬ (227 ≤ qb ∧ qb ≤ 290)) : ∀ (m i : Nat) (s t : Sto), i + m = 8 → (∀ x, x < 32 → s.1 pb x = B x) → (∀ x, x < 32 → t.1 qb x = B x) → E_MH_expand_2_L0 qb nq m i t → (∀ y x, y < i → x < 7 → sr 8380417 (s.1 (41 + (7 * y + x))) (t.1 (227 + (8 * y + x)))) →
    ∃ s1 t1, F_SA_expandMatrix_2_L0 pb np m i s = s1 ∧ F_MH_expand_2_L0 qb nq m i t = t1 ∧ frm (fun k => k = 18 ∨ (41 ≤ k ∧ k ≤ 96)) s s1 ∧ frm (fun k => k = 172 ∨ (227 ≤ k ∧ k ≤ 290)) t t1 ∧ ∀ y x, y < 8 → x < 7 → sr 8380417 (s1.1 (41 + (7 * y + x))) (t1.1 (227 + (8 * y + x)))
  | 0, i, s, t, hi, _, _, hE, h => by
    obtain rfl : i = 8 := by omega
    exact ⟨s, t, by rw [F_SA_expandMatrix_2_L0], by rw [F_MH_expand_2_L0, bnd_eq], frm_rf, frm_rf, h⟩
  | m + 1, i, s, t, hi, h1, h2, hE, h => by
    rw [E_MH_expand_2_L0, bnd_eq] at hE
    obtain ⟨s1, t1, a1, a2, a3, a4, a5, a6⟩ := ex8I2 (np := np) (B := B) (kk := F_SA_expandMatrix_2_L0 pb np m) (kk' := F_MH_expand_2_L0 qb nq m) hp hq (show i < 8 by omega) 7 0 s t (by omega) h1 h2 hE (fun x hx => absurd hx (Nat.not_lt_zero _))
    have hU : F_SA_expandMatrix_2_L0 pb np (m + 1) i s = F_SA_expandMatrix_2_L0 pb np m (i + 1) s1 := by rw [F_SA_expandMatrix_2_L0, a1]
    have hV : F_MH_expand_2_L0 qb nq (m + 1) i t = F_MH_expand_2_L0 qb nq m (i + 1) t1 := by rw [F_MH_expand_2_L0, bnd_eq, a2]
    obtain ⟨s2, t2, b1, b2, b3, b4, b5⟩ := ex8O2 (np := np) (B := B) hp hq m (i + 1) s1 t1 (by omega) (fun x hx => by rw [a4 pb (by omega)]; exact h1 x hx) (fun x hx => by rw [a5 qb (by omega)]; exact h2 x hx) a3 (fun y x hy hx => by
      by_cases w : y = i
      · subst w
        exact a6 x hx
      · exact sr_w (h y x (by omega) hx) (a4 _ (by omega)) (a5 _ (by omega)))
    exact ⟨s2, t2, hU.trans b1, hV.trans b2, fun k hk => by rw [b3 k hk, a4 k (by omega)], fun k hk => by rw [b4 k hk, a5 k (by omega)], b5⟩
/-- ExpandA, set 2: where the reference's draws end in time, both matrices are the same -/
theorem exp2_same {pb np qb nq : Nat} {s t : Sto} (hp : pb ≠ 18 ∧ ¬ (41 ≤ pb ∧ pb ≤ 96)) (hq : qb ≠ 172 ∧ ¬ (227 ≤ qb ∧ qb ≤ 290)) (hB : ∀ x, x < 32 → s.1 pb x = t.1 qb x) (hE : E_MH_expand_2 qb nq t) : frm (fun k => k = 18 ∨ (41 ≤ k ∧ k ≤ 96)) s (F_SA_expandMatrix_2 pb np s) ∧ frm (fun k => k = 172 ∨ (227 ≤ k ∧ k ≤ 290)) t (F_MH_expand_2 qb nq t) ∧ ∀ y x, y < 8 → x < 7 → sr 8380417 ((F_SA_expandMatrix_2 pb np s).1 (41 + (7 * y + x))) ((F_MH_expand_2 qb nq t).1 (227 + (8 * y + x))) := by
  rw [E_MH_expand_2] at hE
  obtain ⟨s1, t1, a1, a2, a3, a4, a5⟩ := ex8O2 (np := np) (B := t.1 qb) hp hq 8 0 s t (by decide) hB (fun _ _ => rfl) hE (fun y x hy => absurd hy (Nat.not_lt_zero _))
  rw [F_SA_expandMatrix_2, F_MH_expand_2, a1, a2]
  exact ⟨a3, a4, a5⟩
