set_option linter.all false
/-! one entry of ML-KEM's matrix: the class's draw and the reference's, of the same stream, fill the row alike (for any number of tries; the reference's own number has no bound: E_ME_draw) -/
def bt (st : Sp) : Nat := (gtI st.1 (st.2 - 1)).toNatClampNeg
theorem bt_lt (st : Sp) : bt st < 256 := (and_cl _ 8 (by decide) (by decide)).2
theorem bt_n (st : Sp) : nI (bt st) = gtI st.1 (st.2 - 1) := gtI_n _ _
def stD (D : Nat → Sp → (Nat → Int32) → Nat → Int32) (f d1 d2 : Nat) (st3 : Sp) (r : Nat → Int32) : Nat → Int32 := if 256 ≤ f then r else if 3329 ≤ d1 then (if 3329 ≤ d2 then D f st3 r else D (f + 1) st3 (upd r f (nI d2))) else if 3329 ≤ d2 then D (f + 1) st3 (upd r f (nI d1)) else if 256 ≤ f + 1 then D (f + 1) st3 (upd r f (nI d1)) else D (f + 1 + 1) st3 (upd (upd r f (nI d1)) (f + 1) (nI d2))
noncomputable def drw (rt : Nat) : Nat → Nat → Sp → (Nat → Int32) → Nat → Int32
  | 0, _, _, r => r
  | n + 1, f, st, r => stD (drw rt n) f (bt (nxS rt st) + 256 * (bt (nxS rt (nxS rt st)) % 16)) (bt (nxS rt (nxS rt st)) / 16 + 16 * bt (nxS rt (nxS rt (nxS rt st)))) (nxS rt (nxS rt (nxS rt st))) r
theorem drw_s {rt n f : Nat} {st : Sp} {r : Nat → Int32} : drw rt (n + 1) f st r = stD (drw rt n) f (bt (nxS rt st) + 256 * (bt (nxS rt (nxS rt st)) % 16)) (bt (nxS rt (nxS rt st)) / 16 + 16 * bt (nxS rt (nxS rt (nxS rt st)))) (nxS rt (nxS rt (nxS rt st))) r := rfl
def stG (pk : Nat) (G : Nat → Sto → Sto) (f : Nat) (x1 x2 : Int32) (c1 c2 : Prop) [Decidable c1] [Decidable c2] (s s3 : Sto) : Sto := if 256 ≤ f then s else if c1 then (if c2 then G f s3 else if 256 ≤ f then G f s3 else G (f + 1) (sI s3 pk f x2)) else if c2 then G (f + 1) (sI s3 pk f x1) else if 256 ≤ f + 1 then G (f + 1) (sI s3 pk f x1) else G (f + 1 + 1) (sI (sI s3 pk f x1) pk (f + 1) x2)
theorem sI_row {s : Sto} {k i : Nat} {x : Int32} : (sI s k i x).1 k = upd (s.1 k) i x := uA_eq
theorem stG_ok {pk f d1 d2 : Nat} {D : Nat → Sp → (Nat → Int32) → Nat → Int32} {st3 : Sp} {s s3 : Sto} {G : Nat → Sto → Sto} {S X : Sto → Prop} {c1 c2 : Prop} [Decidable c1] [Decidable c2] (hc1 : c1 ↔ 3329 ≤ d1) (hc2 : c2 ↔ 3329 ≤ d2) (h3 : s3.1 pk = s.1 pk)
    (key : ∀ (f' : Nat) (s' : Sto), S s' → X s' → (G f' s').1 pk = D f' st3 (s'.1 pk) ∧ X (G f' s')) (hS : S s3) (hX : X s3) (hX0 : X s) (wS : ∀ i x s', S s' → S (sI s' pk i x)) (wX : ∀ i x s', X s' → X (sI s' pk i x)) :
    (stG pk G f (nI d1) (nI d2) c1 c2 s s3).1 pk = stD D f d1 d2 st3 (s.1 pk) ∧ X (stG pk G f (nI d1) (nI d2) c1 c2 s s3) := by
  by_cases q0 : 256 ≤ f
  · have eG : stG pk G f (nI d1) (nI d2) c1 c2 s s3 = s := by unfold stG; rw [if_pos q0]
    have eD : stD D f d1 d2 st3 (s.1 pk) = s.1 pk := by unfold stD; rw [if_pos q0]
    rw [eG, eD]
    exact ⟨rfl, hX0⟩
  · by_cases q1 : 3329 ≤ d1
    · by_cases q2 : 3329 ≤ d2
      · have eG : stG pk G f (nI d1) (nI d2) c1 c2 s s3 = G f s3 := by unfold stG; rw [if_neg q0, if_pos (hc1.mpr q1), if_pos (hc2.mpr q2)]
        have eD : stD D f d1 d2 st3 (s.1 pk) = D f st3 (s.1 pk) := by unfold stD; rw [if_neg q0, if_pos q1, if_pos q2]
        have k := key f s3 hS hX
        rw [h3] at k
        rw [eG, eD]
        exact k
      · have eG : stG pk G f (nI d1) (nI d2) c1 c2 s s3 = G (f + 1) (sI s3 pk f (nI d2)) := by unfold stG; rw [if_neg q0, if_pos (hc1.mpr q1), if_neg (mt hc2.mp q2), if_neg q0]
        have eD : stD D f d1 d2 st3 (s.1 pk) = D (f + 1) st3 (upd (s.1 pk) f (nI d2)) := by unfold stD; rw [if_neg q0, if_pos q1, if_neg q2]
        have k := key (f + 1) (sI s3 pk f (nI d2)) (wS _ _ _ hS) (wX _ _ _ hX)
        rw [sI_row, h3] at k
        rw [eG, eD]
        exact k
    · by_cases q2 : 3329 ≤ d2
      · have eG : stG pk G f (nI d1) (nI d2) c1 c2 s s3 = G (f + 1) (sI s3 pk f (nI d1)) := by unfold stG; rw [if_neg q0, if_neg (mt hc1.mp q1), if_pos (hc2.mpr q2)]
        have eD : stD D f d1 d2 st3 (s.1 pk) = D (f + 1) st3 (upd (s.1 pk) f (nI d1)) := by unfold stD; rw [if_neg q0, if_neg q1, if_pos q2]
        have k := key (f + 1) (sI s3 pk f (nI d1)) (wS _ _ _ hS) (wX _ _ _ hX)
        rw [sI_row, h3] at k
        rw [eG, eD]
        exact k
      · by_cases q3 : 256 ≤ f + 1
        · have eG : stG pk G f (nI d1) (nI d2) c1 c2 s s3 = G (f + 1) (sI s3 pk f (nI d1)) := by unfold stG; rw [if_neg q0, if_neg (mt hc1.mp q1), if_neg (mt hc2.mp q2), if_pos q3]
          have eD : stD D f d1 d2 st3 (s.1 pk) = D (f + 1) st3 (upd (s.1 pk) f (nI d1)) := by unfold stD; rw [if_neg q0, if_neg q1, if_neg q2, if_pos q3]
          have k := key (f + 1) (sI s3 pk f (nI d1)) (wS _ _ _ hS) (wX _ _ _ hX)
          rw [sI_row, h3] at k
          rw [eG, eD]
          exact k
        · have eG : stG pk G f (nI d1) (nI d2) c1 c2 s s3 = G (f + 1 + 1) (sI (sI s3 pk f (nI d1)) pk (f + 1) (nI d2)) := by unfold stG; rw [if_neg q0, if_neg (mt hc1.mp q1), if_neg (mt hc2.mp q2), if_neg q3]
          have eD : stD D f d1 d2 st3 (s.1 pk) = D (f + 1 + 1) st3 (upd (upd (s.1 pk) f (nI d1)) (f + 1) (nI d2)) := by unfold stD; rw [if_neg q0, if_neg q1, if_neg q2, if_neg q3]
          have k := key (f + 1 + 1) (sI (sI s3 pk f (nI d1)) pk (f + 1) (nI d2)) (wS _ _ _ (wS _ _ _ hS)) (wX _ _ _ (wX _ _ _ hX))
          rw [sI_row, sI_row, h3] at k
          rw [eG, eD]
          exact k
theorem or_lo {a x : Nat} (k : Nat) (ha : a < 2 ^ k) : a ||| x * 2 ^ k = a + 2 ^ k * x := by
  rw [Nat.or_comm, Nat.mul_comm x, ← Nat.two_pow_add_eq_or_of_lt ha, Nat.add_comm]
theorem z_lo {a b : Nat} (ha : a < 256) (hb : b < 256) : nI a ||| ((nI b &&& nI 15) <<< (nI 8 &&& 31)) = nI (a + 256 * (b % 16)) := by
  have h1 : nI b &&& nI 15 = nI (b % 16) := pk_andN (by omega) 4 (by decide)
  have h2 : nI (b % 16) <<< (nI 8 &&& 31) = nI (b % 16 * 2 ^ 8) := pk_shlN _ 8 (by decide) (by omega)
  rw [h1, h2, or_nI]
  exact congrArg nI (or_lo 8 ha)
theorem z_hi {b c : Nat} (hb : b < 256) (hc : c < 256) : nI (b / 16) ||| (nI c <<< (nI 4 &&& 31)) = nI (b / 16 + 16 * c) := by
  have h2 : nI c <<< (nI 4 &&& 31) = nI (c * 2 ^ 4) := pk_shlN _ 4 (by decide) (by omega)
  rw [h2, or_nI]
  exact congrArg nI (or_lo 4 (show b / 16 < 2 ^ 4 by omega))
theorem same2_I {pv qv pb i : Nat} {s s' : Sto} {x : Int32} (h : same2 pv qv pb s s') : same2 pv qv pb s (sI s' pb i x) := ⟨fun k w1 w2 => (show (sI s' pb i x).1 k = s'.1 k from uA_ne w2).trans (h.1 k w1 w2), h.2⟩
theorem same2.tr {pv qv pb : Nat} {s s1 s2 : Sto} (h : same2 pv qv pb s s1) (h1 : same2 pv qv pb s1 s2) : same2 pv qv pb s s2 := ⟨fun k w1 w2 => (h1.1 k w1 w2).trans (h.1 k w1 w2), fun k w => (h1.2 k w).trans (h.2 k w)⟩
theorem Q_draw {rt pt : Nat} {sf : Int32} (h0 : 0 < rt) (hr : rt < 200) (hb : pt ≠ 172) : ∀ (n f : Nat) (st : Sp) (s : Sto), spM st rt sf s → st.2 ≤ rt → (F_ME_draw_L0 pt n f s).1 pt = drw rt n f st (s.1 pt) ∧ same2 172 173 pt s (F_ME_draw_L0 pt n f s)
  | 0, _, _, _, _, _ => ⟨rfl, fun _ _ _ => rfl, fun _ _ => rfl⟩
  | n + 1, f, st, s, h, hp => by
    obtain ⟨a1, b1, c1⟩ := Q_next h h0 hr hp
    have p1 := nxS_le h0 hp
    obtain ⟨a2, b2, c2⟩ := Q_next b1 h0 hr p1
    have p2 := nxS_le h0 p1
    obtain ⟨a3, b3, c3⟩ := Q_next b2 h0 hr p2
    have p3 := nxS_le h0 p2
    have e1 : (F_MS_next s).1.toNatClampNeg = bt (nxS rt st) := congrArg Int32.toNatClampNeg a1
    have e2 : (F_MS_next (F_MS_next s).2).1.toNatClampNeg = bt (nxS rt (nxS rt st)) := congrArg Int32.toNatClampNeg a2
    have e3 : (F_MS_next (F_MS_next (F_MS_next s).2).2).1.toNatClampNeg = bt (nxS rt (nxS rt (nxS rt st))) := congrArg Int32.toNatClampNeg a3
    have hs := (c1.tr c2).tr c3
    have hU : F_ME_draw_L0 pt (n + 1) f s = stG pt (F_ME_draw_L0 pt n) f (nI ((F_MS_next s).1.toNatClampNeg + 256 * ((F_MS_next (F_MS_next s).2).1.toNatClampNeg % 16))) (nI ((F_MS_next (F_MS_next s).2).1.toNatClampNeg / 16 + 16 * (F_MS_next (F_MS_next (F_MS_next s).2).2).1.toNatClampNeg)) (3329 ≤ (F_MS_next s).1.toNatClampNeg + 256 * ((F_MS_next (F_MS_next s).2).1.toNatClampNeg % 16)) (3329 ≤ (F_MS_next (F_MS_next s).2).1.toNatClampNeg / 16 + 16 * (F_MS_next (F_MS_next (F_MS_next s).2).2).1.toNatClampNeg) s (F_MS_next (F_MS_next (F_MS_next s).2).2).2 := by
      have hB : F_ME_draw_L0 pt (n + 1) f s = if 256 ≤ f then s else bnd (F_MS_next  s) fun q21 => bnd (q21.1.toNatClampNeg) fun z21 => bnd (F_MS_next  q21.2) fun q22 => bnd (q22.1.toNatClampNeg) fun z22 => bnd (F_MS_next  q22.2) fun q23 => bnd (q23.1.toNatClampNeg) fun z23 => if 3329 ≤ z21 + (256 * (z22 % 16)) then if 3329 ≤ (z22 / 16) + (16 * z23) then F_ME_draw_L0 pt n f q23.2 else if 256 ≤ f then F_ME_draw_L0 pt n f q23.2 else bnd (sI q23.2 pt f (nI ((z22 / 16) + (16 * z23)))) fun s22 => F_ME_draw_L0 pt n (f + 1) s22 else bnd (sI q23.2 pt f (nI (z21 + (256 * (z22 % 16))))) fun s23 => if 3329 ≤ (z22 / 16) + (16 * z23) then F_ME_draw_L0 pt n (f + 1) s23 else if 256 ≤ f + 1 then F_ME_draw_L0 pt n (f + 1) s23 else bnd (sI s23 pt (f + 1) (nI ((z22 / 16) + (16 * z23)))) fun s24 => F_ME_draw_L0 pt n (f + 1 + 1) s24 := rfl
      rw [hB]
      unfold stG
      repeat rw [bnd_eq]
    rw [hU, e1, e2, e3, drw_s]
    exact stG_ok (S := spM (nxS rt (nxS rt (nxS rt st))) rt sf) (X := same2 172 173 pt s) Iff.rfl Iff.rfl (hs.1 pt hb) (fun f' s' q1 q2 => by
        obtain ⟨u1, u2⟩ := Q_draw h0 hr hb n f' _ s' q1 p3
        exact ⟨u1, q2.tr u2⟩) b3 ⟨fun k w _ => hs.1 k w, hs.2⟩ ⟨fun _ _ _ => rfl, fun _ _ => rfl⟩ (fun i x s' q => by
        have w : (sI s' pt i x).1 172 = s'.1 172 := uA_ne (Ne.symm hb)
        exact ⟨q.1, by rw [w]; exact q.2.1, by rw [w]; exact q.2.2.1, by rw [w]; exact q.2.2.2⟩) (fun i x s' q => same2_I q)
theorem P_draw {rt : Nat} {sf : Int32} (h0 : 0 < rt) (hr : rt < 200) : ∀ (n i f : Nat) (st : Sp) (s : Sto), spA 14 15 st rt sf s → st.2 ≤ rt → (F_KM_sampleEntry_L0 n i f s).1 31 = drw rt n f st (s.1 31) ∧ same2 14 15 31 s (F_KM_sampleEntry_L0 n i f s)
  | 0, i, f, _, s, _, _ => by
    have e : F_KM_sampleEntry_L0 0 i f s = s := by
      by_cases q : 256 ≤ f
      · exact if_pos q
      · exact if_neg q
    rw [e]
    exact ⟨rfl, fun _ _ _ => rfl, fun _ _ => rfl⟩
  | n + 1, i, f, st, s, h, hp => by
    obtain ⟨a1, b1, c1⟩ := P_nextByte h h0 hr hp
    have p1 := nxS_le h0 hp
    obtain ⟨a2, b2, c2⟩ := P_nextByte b1 h0 hr p1
    have p2 := nxS_le h0 p1
    obtain ⟨a3, b3, c3⟩ := P_nextByte b2 h0 hr p2
    have p3 := nxS_le h0 p2
    have e1 : (F_SP_nextByte 14 15 s).1.toNatClampNeg = bt (nxS rt st) := congrArg Int32.toNatClampNeg a1
    have e2 : (F_SP_nextByte 14 15 (F_SP_nextByte 14 15 s).2).1.toNatClampNeg = bt (nxS rt (nxS rt st)) := congrArg Int32.toNatClampNeg a2
    have e3 : (F_SP_nextByte 14 15 (F_SP_nextByte 14 15 (F_SP_nextByte 14 15 s).2).2).1.toNatClampNeg = bt (nxS rt (nxS rt (nxS rt st))) := congrArg Int32.toNatClampNeg a3
    have hs := (c1.tr c2).tr c3
    have l1 := bt_lt (nxS rt st)
    have l2 := bt_lt (nxS rt (nxS rt st))
    have l3 := bt_lt (nxS rt (nxS rt (nxS rt st)))
    have hU : ∀ z1 z2 z3 : Nat, (F_SP_nextByte 14 15 s).1.toNatClampNeg = z1 → (F_SP_nextByte 14 15 (F_SP_nextByte 14 15 s).2).1.toNatClampNeg = z2 → (F_SP_nextByte 14 15 (F_SP_nextByte 14 15 (F_SP_nextByte 14 15 s).2).2).1.toNatClampNeg = z3 → F_KM_sampleEntry_L0 (n + 1) i f s = stG 31 (F_KM_sampleEntry_L0 n (i + 1)) f (nI z1 ||| ((nI z2 &&& nI 15) <<< (nI 8 &&& 31))) (nI (z2 / 16) ||| (nI z3 <<< (nI 4 &&& 31))) (nI 3329 ≤ nI z1 ||| ((nI z2 &&& nI 15) <<< (nI 8 &&& 31))) (nI 3329 ≤ nI (z2 / 16) ||| (nI z3 <<< (nI 4 &&& 31))) s (F_SP_nextByte 14 15 (F_SP_nextByte 14 15 (F_SP_nextByte 14 15 s).2).2).2 := fun z1 z2 z3 w1 w2 w3 => by
      subst w1 w2 w3
      have hB : F_KM_sampleEntry_L0 (n + 1) i f s = if 256 ≤ f then s else bnd (F_SP_nextByte 14 15 s) fun q21 => bnd (q21.1.toNatClampNeg) fun z21 => bnd (F_SP_nextByte 14 15 q21.2) fun q22 => bnd (q22.1.toNatClampNeg) fun z22 => bnd (F_SP_nextByte 14 15 q22.2) fun q23 => bnd (q23.1.toNatClampNeg) fun z23 => bnd (((nI z21) ||| (((nI z22) &&& (nI 15)) <<< ((nI 8) &&& 31)))) fun z24 => bnd (((nI (z22 / 16)) ||| ((nI z23) <<< ((nI 4) &&& 31)))) fun z25 => if (nI 3329) ≤ z24 then if (nI 3329) ≤ z25 then F_KM_sampleEntry_L0  n (i + 1) f q23.2 else if 256 ≤ f then F_KM_sampleEntry_L0  n (i + 1) f q23.2 else bnd (sI q23.2 31 f z25) fun s27 => F_KM_sampleEntry_L0  n (i + 1) (f + 1) s27 else bnd (sI q23.2 31 f z24) fun s28 => if (nI 3329) ≤ z25 then F_KM_sampleEntry_L0  n (i + 1) (f + 1) s28 else if 256 ≤ f + 1 then F_KM_sampleEntry_L0  n (i + 1) (f + 1) s28 else bnd (sI s28 31 (f + 1) z25) fun s29 => F_KM_sampleEntry_L0  n (i + 1) (f + 1 + 1) s29 := rfl
      rw [hB]
      unfold stG
      repeat rw [bnd_eq]
    rw [hU _ _ _ e1 e2 e3, z_lo l1 l2, z_hi l2 l3, drw_s]
    exact stG_ok (S := spA 14 15 (nxS rt (nxS rt (nxS rt st))) rt sf) (X := same2 14 15 31 s) (nI_leI (by decide) (by omega)) (nI_leI (by decide) (by omega)) (hs.1 31 (by decide)) (fun f' s' q1 q2 => by
        obtain ⟨u1, u2⟩ := P_draw h0 hr n (i + 1) f' _ s' q1 p3
        exact ⟨u1, q2.tr u2⟩) b3 ⟨fun k w _ => hs.1 k w, hs.2⟩ ⟨fun _ _ _ => rfl, fun _ _ => rfl⟩ (fun i x s' q => by
        have w : (sI s' 31 i x).1 14 = s'.1 14 := by
          show uA s'.1 31 (upd (s'.1 31) i x) 14 = _
          exact uA_ne (by decide)
        exact ⟨q.1, by rw [w]; exact q.2.1, by rw [w]; exact q.2.2.1, by rw [w]; exact q.2.2.2⟩) (fun i x s' q => same2_I q)
theorem abN_ab {rt : Nat} {st : Sp} {b c : Nat → Int32} {at1 at2 : Nat} : ∀ n, (∀ j, j < n → b (at1 + j) = c (at2 + j)) → abN rt st b at1 n = abN rt st c at2 n
  | 0, _ => rfl
  | n + 1, h => by
    show abF rt (abN rt st b at1 n) (b (at1 + n)) = abF rt (abN rt st c at2 n) (c (at2 + n))
    rw [abN_ab n (fun j hj => h j (by omega)), h n (by omega)]
theorem nx_end {rt : Nat} (h0 : 0 < rt) (P : Nat → Int64) : nxS rt (P, rt) = nxS rt (prm P, 0) := it_end h0 P 0
theorem drw_end {rt : Nat} (h0 : 0 < rt) (P : Nat → Int64) (r : Nat → Int32) (n f : Nat) : drw rt n f (P, rt) r = drw rt n f (prm P, 0) r := by
  cases n with
  | zero => rfl
  | succ n => rw [drw_s, drw_s, nx_end h0]
/-- the matrix's entry of a rho and two numbers: the class's row and the reference's (cut at the class's number of tries) are the same row -/
theorem draw_same {pt at1 at2 pb1 pb2 nb1 nb2 : Nat} {v1 v2 : Int32} {s t : Sto} (h1 : pb1 ≠ 14) (h2 : pb2 ≠ 172) (h4 : pt ≠ 172) (hb : ∀ j, j < 32 → s.1 pb1 (at1 + j) = t.1 pb2 (at2 + j)) (ha : s.1 31 = t.1 pt) :
    (F_KM_sampleEntry pb1 nb1 at1 v1 v2 s).1 31 = (F_ME_draw pt (F_MS_end (F_MS_put v2 (F_MS_put v1 (F_MS_puts pb2 nb2 at2 32 (F_MS_begin 168 (nI 31) t)))))).1 pt := by
  have h0 : 0 < 168 := by decide
  have hr : 168 < 200 := by decide
  have hU : F_KM_sampleEntry pb1 nb1 at1 v1 v2 s = F_KM_sampleEntry_L0 1000000 0 0 (F_SP_finish 14 15 (F_SP_absorbByte 14 15 v2 (F_SP_absorbByte 14 15 v1 (F_SP_absorb 14 15 pb1 nb1 at1 32 (F_SP_start_2 14 15 s))))) := by
    unfold F_KM_sampleEntry
    repeat rw [bnd_eq]
  have hV : ∀ w : Sto, F_ME_draw pt w = F_ME_draw_L0 pt 1000000 0 w := fun w => by
    unfold F_ME_draw
    rfl
  have hs2 : F_SP_start_2 14 15 s = sI (sI (sI (F_AR_fillJ 15 25 0 s) 14 1 (nI 168)) 14 2 (nI 31)) 14 3 (nI 0) := by
    unfold F_SP_start_2
    repeat rw [bnd_eq]
  obtain ⟨a1, a2⟩ := P_start (pv := 14) (qv := 15) (rt := 168) (sf := nI 31) (s := s)
  rw [← hs2] at a1 a2
  obtain ⟨b1, b2⟩ := P_absorb (nb := nb1) (at_ := at1) (len := 32) a1 hr h0 h1
  obtain ⟨c1, c2⟩ := P_absorbByte (v := v1) b1 hr (abN_lt h0 32)
  obtain ⟨d1, d2⟩ := P_absorbByte (v := v2) c1 hr (abF_lt (abN_lt h0 32))
  obtain ⟨f1, f2⟩ := P_finish d1 h0 hr (abF_lt (abF_lt (abN_lt h0 32)))
  obtain ⟨g1, -⟩ := P_draw h0 hr 1000000 0 0 _ _ f1 (Nat.le_refl _)
  obtain ⟨a1', a2'⟩ := Q_begin (rt := 168) (sf := nI 31) (s := t)
  obtain ⟨b1', b2'⟩ := Q_puts (nb := nb2) (at_ := at2) (len := 32) a1' hr h0 h2
  obtain ⟨c1', c2'⟩ := Q_put (v := v1) b1' hr (abN_lt h0 32)
  obtain ⟨d1', d2'⟩ := Q_put (v := v2) c1' hr (abF_lt (abN_lt h0 32))
  obtain ⟨f1', f2'⟩ := Q_end d1' h0 hr (abF_lt (abF_lt (abN_lt h0 32)))
  obtain ⟨g1', -⟩ := Q_draw (pt := pt) h0 hr h4 1000000 0 _ _ f1' (Nat.zero_le _)
  rw [hU, hV, g1, g1', ((((a2.tr b2).tr c2).tr d2).tr f2).1 31 (by decide), ((((a2'.tr b2').tr c2').tr d2').tr f2').1 pt h4, a2.1 pb1 h1, a2'.1 pb2 h2, ha, abN_ab (b := s.1 pb1) (c := t.1 pb2) (at1 := at1) (at2 := at2) 32 hb]
  exact drw_end h0 _ _ 1000000 0
