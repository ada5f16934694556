set_option linter.all false
theorem Q_draw8E0 {i j rt : Nat} {sf : Int32} {ke : Nat → Sto → Prop} (h0 : 0 < rt) (hr : rt < 200) (hke : ∀ (a : Nat) (t : Sto), ke a t) : ∀ (n f : Nat) (st : Sp) (t : Sto), spM st rt sf t → st.2 ≤ rt → 256 ≤ f + c23 rt n st → E_MH_expand_0_L2 i j ke n f t
  | 0, f, st, t, _, _, hc => by
    rw [c23] at hc
    rw [E_MH_expand_0_L2]
    exact ⟨by omega, hke _ _⟩
  | n + 1, f, st, t, h, hp, hc => by
    by_cases q0 : 256 ≤ f
    · rw [E_MH_expand_0_L2, if_pos q0]
      exact hke _ _
    · obtain ⟨a1, b1, c1⟩ := Q_next h h0 hr hp
      have p1 := nxS_le h0 hp
      obtain ⟨a2, b2, c2⟩ := Q_next b1 h0 hr p1
      have p2 := nxS_le h0 p1
      obtain ⟨a3, b3, c3⟩ := Q_next b2 h0 hr p2
      have p3 := nxS_le h0 p2
      have e1 : (F_MS_next t).1.toNatClampNeg = bt (nxS rt st) := congrArg Int32.toNatClampNeg a1
      have e2 : (F_MS_next (F_MS_next t).2).1.toNatClampNeg = bt (nxS rt (nxS rt st)) := congrArg Int32.toNatClampNeg a2
      have e3 : (F_MS_next (F_MS_next (F_MS_next t).2).2).1.toNatClampNeg = bt (nxS rt (nxS rt (nxS rt st))) := congrArg Int32.toNatClampNeg a3
      have hd := d8_lt (rt := rt) (st := st)
      have ed : (nI (bt (nxS rt st)) + (nI (bt (nxS rt (nxS rt st))) <<< (nI 8 &&& 31))) + ((nI (bt (nxS rt (nxS rt (nxS rt st)))) &&& nI 127) <<< (nI 16 &&& 31)) = nI (d8 rt st) := z8_ad (bt_lt _) (bt_lt _) (bt_lt _)
      rw [c23] at hc
      rw [E_MH_expand_0_L2, if_neg q0]
      repeat rw [bnd_eq]
      rw [e1, e2, e3, ed]
      generalize (F_MS_next (F_MS_next (F_MS_next t).2).2).2 = t3 at b3 ⊢
      have hq : 227 + (8 * i + j) ≠ 172 := by omega
      by_cases q1 : 8380417 ≤ d8 rt st
      · have w : ¬ d8 rt st < 8380417 := by omega
        have w1 : ¬ nI (d8 rt st) < nI 8380417 := fun z => by have := (nI_ltI (by omega) (by decide)).mp z; omega
        rw [if_neg w] at hc
        rw [if_neg w1]
        exact Q_draw8E0 h0 hr hke n f _ t3 b3 p3 (by omega)
      · have w : d8 rt st < 8380417 := by omega
        have w1 : nI (d8 rt st) < nI 8380417 := (nI_ltI (by omega) (by decide)).mpr w
        rw [if_pos w] at hc
        rw [if_pos w1]
        exact Q_draw8E0 h0 hr hke n (f + 1) _ _ (spM_I hq b3) p3 (by omega)
theorem EA_MH_expand_0_L1 (hK : KALL) {pb n i21 : Nat} {ke : Nat → Sto → Prop} (hke : ∀ (a : Nat) (s : Sto), ke a s) : ∀ (m i22 : Nat) (s : Sto), E_MH_expand_0_L1 pb n i21 ke m i22 s
  | 0, i22, s22 => by
    rw [E_MH_expand_0_L1, bnd_eq]
    exact hke _ _
  | n22 + 1, i22, s22 => by
    obtain ⟨b, h⟩ := seed34 s22 (nI i22) (nI i21) pb n 0
    rw [E_MH_expand_0_L1]
    repeat rw [bnd_eq]
    exact Q_draw8E0 (by decide) (by decide) (fun a t => EA_MH_expand_0_L1 hK hke n22 a t) fuelM 0 _ _ h (Nat.zero_le _) (by rw [Nat.zero_add]; exact hK.1.2 b _ _)
theorem Q_smallE0 {pf rt : Nat} {sf : Int32} (h0 : 0 < rt) (hr : rt < 200) (hpf : pf ≠ 172) : ∀ (n f : Nat) (st : Sp) (t : Sto), spM st rt sf t → st.2 ≤ rt → 256 ≤ f + c4 14 rt n st → E_MH_small_0_L0 pf n f t
  | 0, f, st, t, _, _, hc => by
    rw [c4] at hc
    rw [E_MH_small_0_L0]
    exact ⟨by omega, trivial⟩
  | n + 1, f, st, t, h, hp, hc => by
    by_cases q0 : 256 ≤ f
    · rw [E_MH_small_0_L0, if_pos q0]
      trivial
    · obtain ⟨a1, b1, c1⟩ := Q_next h h0 hr hp
      have p1 := nxS_le h0 hp
      have e1 : (F_MS_next t).1.toNatClampNeg = bt (nxS rt st) := congrArg Int32.toNatClampNeg a1
      rw [c4] at hc
      rw [Q_smE0 q0 e1]
      exact Q_smallE0 h0 hr hpf n _ _ _ (smT_M hpf (smT_M hpf b1)) p1 (smF_c (smF_c hc))
theorem EA_MH_small_0 (hK : KALL) {pf pb n at_ : Nat} {wh : Int32} {s : Sto} (hpf : pf ≠ 172) : E_MH_small_0 pf pb n at_ wh s := by
  obtain ⟨b, h⟩ := seed66 s wh (wh >>> (nI 8 &&& 31)) pb n at_
  rw [E_MH_small_0]
  repeat rw [bnd_eq]
  rw [shM]
  exact Q_smallE0 (by decide) (by decide) hpf fuelM 0 _ _ h (Nat.zero_le _) (by rw [Nat.zero_add]; exact hK.2.1.1 b _ _)
theorem Q_bT0 {i rt : Nat} {y0 : Int64} {sf : Int32} {ke : Nat → Sto → Prop} {kE : Sp → Prop} (h0 : 0 < rt) (hr : rt < 200) (hke : ∀ (st : Sp) (t : Sto), spM st rt sf t → st.2 ≤ rt → kE st → ke (i + 1) t) : ∀ (n fl : Nat) (st : Sp) (t : Sto), spM st rt sf t → st.2 ≤ rt → bt st = fl → eT rt i kE n st → E_MH_ball_0_L3 y0 i ke n fl t
  | 0, fl, st, t, h, hp, hf, hE => by
    have hE2 : E_MH_ball_0_L3 y0 i ke 0 fl t = (fl ≤ i ∧ ke (i + 1) (blP 368 i fl (sgR y0 (i + 39)) t)) := by
      rw [E_MH_ball_0_L3]
      repeat rw [bnd_eq]
      unfold blP sgR
      by_cases d : lg_cmp (((y0.toUInt64 >>> ((nI (i + 39) - nI 256).toInt64.toUInt64 &&& Int64.toUInt64 63)).toInt64) &&& 1) 1 = 0
      · simp only [if_pos d]
      · simp only [if_neg d]
    rw [eT, hf] at hE
    rw [hE2]
    exact ⟨hE.1, hke st _ (spM_I (by decide) (spM_I (by decide) h)) hp hE.2⟩
  | n + 1, fl, st, t, h, hp, hf, hE => by
    rw [eT, hf] at hE
    by_cases q : fl ≤ i
    · have hE2 : E_MH_ball_0_L3 y0 i ke (n + 1) fl t = ke (i + 1) (blP 368 i fl (sgR y0 (i + 39)) t) := by
        rw [E_MH_ball_0_L3, if_pos q]
        repeat rw [bnd_eq]
        unfold blP sgR
        by_cases d : lg_cmp (((y0.toUInt64 >>> ((nI (i + 39) - nI 256).toInt64.toUInt64 &&& Int64.toUInt64 63)).toInt64) &&& 1) 1 = 0
        · simp only [if_pos d]
        · simp only [if_neg d]
      rw [if_pos q] at hE
      rw [hE2]
      exact hke st _ (spM_I (by decide) (spM_I (by decide) h)) hp hE
    · rw [if_neg q] at hE
      obtain ⟨a2, b2, c2⟩ := Q_next h h0 hr hp
      have e2 : (F_MS_next t).1.toNatClampNeg = bt (nxS rt st) := congrArg Int32.toNatClampNeg a2
      have hW : E_MH_ball_0_L3 y0 i ke (n + 1) fl t = E_MH_ball_0_L3 y0 i ke n (bt (nxS rt st)) (F_MS_next t).2 := by
        rw [E_MH_ball_0_L3, if_neg q]
        repeat rw [bnd_eq]
        rw [e2]
      rw [hW]
      exact Q_bT0 h0 hr hke n _ _ _ b2 (nxS_le h0 hp) rfl hE
set_option maxRecDepth 100000 in
theorem Q_bM0 {rt : Nat} {y0 : Int64} {sf : Int32} (h0 : 0 < rt) (hr : rt < 200) : ∀ (m i : Nat) (st : Sp) (t : Sto), spM st rt sf t → st.2 ≤ rt → eB rt m i st → E_MH_ball_0_L2 y0 m i t
  | 0, i, st, t, _, _, _ => by
    rw [E_MH_ball_0_L2]
    trivial
  | m + 1, i, st, t, h, hp, hE => by
    obtain ⟨a2, b2, c2⟩ := Q_next h h0 hr hp
    have e2 : (F_MS_next t).1.toNatClampNeg = bt (nxS rt st) := congrArg Int32.toNatClampNeg a2
    rw [eB] at hE
    rw [E_MH_ball_0_L2]
    repeat rw [bnd_eq]
    rw [e2]
    exact Q_bT0 (kE := eB rt m (i + 1)) h0 hr (fun st t a b c => Q_bM0 h0 hr m (i + 1) st t a b c) fuelM _ _ _ b2 (nxS_le h0 hp) rfl hE
set_option maxRecDepth 100000 in
theorem Q_bC0 {rt : Nat} {y0 : Int64} {sf : Int32} {st : Sp} (h0 : 0 < rt) (hr : rt < 200) (hp : st.2 ≤ rt) (hE : eB rt (256 - 217) 217 st) : ∀ (n i : Nat) (t : Sto), spM st rt sf t → E_MH_ball_0_L1 y0 n i t
  | 0, i, t, h => by
    rw [E_MH_ball_0_L1, bnd_eq]
    exact Q_bM0 h0 hr _ _ _ _ h hp hE
  | n + 1, i, t, h => by
    rw [E_MH_ball_0_L1, bnd_eq]
    exact Q_bC0 h0 hr hp hE n (i + 1) _ (spM_I (by decide) h)
set_option maxRecDepth 100000 in
theorem Q_bS0 {rt : Nat} {sf : Int32} (h0 : 0 < rt) (hr : rt < 200) : ∀ (n i : Nat) (y : Int64) (st : Sp) (t : Sto), spM st rt sf t → st.2 ≤ rt → eB rt (256 - 217) 217 (skp rt n st) → E_MH_ball_0_L0 n i y t
  | 0, i, y, st, t, h, hp, hE => by
    rw [E_MH_ball_0_L0]
    exact Q_bC0 h0 hr hp hE _ _ _ h
  | n + 1, i, y, st, t, h, hp, hE => by
    obtain ⟨a2, b2, c2⟩ := Q_next h h0 hr hp
    rw [E_MH_ball_0_L0]
    repeat rw [bnd_eq]
    exact Q_bS0 h0 hr n (i + 1) _ _ _ b2 (nxS_le h0 hp) hE
set_option maxRecDepth 100000 in
theorem EA_MH_ball_0 (hK : KALL) {pb : Nat} {s : Sto} : E_MH_ball_0 pb s := by
  obtain ⟨b, h⟩ := seedN s pb 64 0 32
  rw [E_MH_ball_0]
  repeat rw [bnd_eq]
  rw [shM]
  exact Q_bS0 (by decide) (by decide) 8 0 0 _ _ h (Nat.zero_le _) (hK.2.2.1 b)
theorem Q_draw8E1 {i j rt : Nat} {sf : Int32} {ke : Nat → Sto → Prop} (h0 : 0 < rt) (hr : rt < 200) (hke : ∀ (a : Nat) (t : Sto), ke a t) : ∀ (n f : Nat) (st : Sp) (t : Sto), spM st rt sf t → st.2 ≤ rt → 256 ≤ f + c23 rt n st → E_MH_expand_1_L2 i j ke n f t
  | 0, f, st, t, _, _, hc => by
    rw [c23] at hc
    rw [E_MH_expand_1_L2]
    exact ⟨by omega, hke _ _⟩
  | n + 1, f, st, t, h, hp, hc => by
    by_cases q0 : 256 ≤ f
    · rw [E_MH_expand_1_L2, if_pos q0]
      exact hke _ _
    · obtain ⟨a1, b1, c1⟩ := Q_next h h0 hr hp
      have p1 := nxS_le h0 hp
      obtain ⟨a2, b2, c2⟩ := Q_next b1 h0 hr p1
      have p2 := nxS_le h0 p1
      obtain ⟨a3, b3, c3⟩ := Q_next b2 h0 hr p2
      have p3 := nxS_le h0 p2
      have e1 : (F_MS_next t).1.toNatClampNeg = bt (nxS rt st) := congrArg Int32.toNatClampNeg a1
      have e2 : (F_MS_next (F_MS_next t).2).1.toNatClampNeg = bt (nxS rt (nxS rt st)) := congrArg Int32.toNatClampNeg a2
      have e3 : (F_MS_next (F_MS_next (F_MS_next t).2).2).1.toNatClampNeg = bt (nxS rt (nxS rt (nxS rt st))) := congrArg Int32.toNatClampNeg a3
      have hd := d8_lt (rt := rt) (st := st)
      have ed : (nI (bt (nxS rt st)) + (nI (bt (nxS rt (nxS rt st))) <<< (nI 8 &&& 31))) + ((nI (bt (nxS rt (nxS rt (nxS rt st)))) &&& nI 127) <<< (nI 16 &&& 31)) = nI (d8 rt st) := z8_ad (bt_lt _) (bt_lt _) (bt_lt _)
      rw [c23] at hc
      rw [E_MH_expand_1_L2, if_neg q0]
      repeat rw [bnd_eq]
      rw [e1, e2, e3, ed]
      generalize (F_MS_next (F_MS_next (F_MS_next t).2).2).2 = t3 at b3 ⊢
      have hq : 227 + (8 * i + j) ≠ 172 := by omega
      by_cases q1 : 8380417 ≤ d8 rt st
      · have w : ¬ d8 rt st < 8380417 := by omega
        have w1 : ¬ nI (d8 rt st) < nI 8380417 := fun z => by have := (nI_ltI (by omega) (by decide)).mp z; omega
        rw [if_neg w] at hc
        rw [if_neg w1]
        exact Q_draw8E1 h0 hr hke n f _ t3 b3 p3 (by omega)
      · have w : d8 rt st < 8380417 := by omega
        have w1 : nI (d8 rt st) < nI 8380417 := (nI_ltI (by omega) (by decide)).mpr w
        rw [if_pos w] at hc
        rw [if_pos w1]
        exact Q_draw8E1 h0 hr hke n (f + 1) _ _ (spM_I hq b3) p3 (by omega)
theorem EA_MH_expand_1_L1 (hK : KALL) {pb n i21 : Nat} {ke : Nat → Sto → Prop} (hke : ∀ (a : Nat) (s : Sto), ke a s) : ∀ (m i22 : Nat) (s : Sto), E_MH_expand_1_L1 pb n i21 ke m i22 s
  | 0, i22, s22 => by
    rw [E_MH_expand_1_L1, bnd_eq]
    exact hke _ _
  | n22 + 1, i22, s22 => by
    obtain ⟨b, h⟩ := seed34 s22 (nI i22) (nI i21) pb n 0
    rw [E_MH_expand_1_L1]
    repeat rw [bnd_eq]
    exact Q_draw8E1 (by decide) (by decide) (fun a t => EA_MH_expand_1_L1 hK hke n22 a t) fuelM 0 _ _ h (Nat.zero_le _) (by rw [Nat.zero_add]; exact hK.1.2 b _ _)
theorem Q_smallE1 {pf rt : Nat} {sf : Int32} (h0 : 0 < rt) (hr : rt < 200) (hpf : pf ≠ 172) : ∀ (n f : Nat) (st : Sp) (t : Sto), spM st rt sf t → st.2 ≤ rt → 256 ≤ f + c4 8 rt n st → E_MH_small_1_L0 pf n f t
  | 0, f, st, t, _, _, hc => by
    rw [c4] at hc
    rw [E_MH_small_1_L0]
    exact ⟨by omega, trivial⟩
  | n + 1, f, st, t, h, hp, hc => by
    by_cases q0 : 256 ≤ f
    · rw [E_MH_small_1_L0, if_pos q0]
      trivial
    · obtain ⟨a1, b1, c1⟩ := Q_next h h0 hr hp
      have p1 := nxS_le h0 hp
      have e1 : (F_MS_next t).1.toNatClampNeg = bt (nxS rt st) := congrArg Int32.toNatClampNeg a1
      rw [c4] at hc
      rw [Q_smE1 q0 e1]
      exact Q_smallE1 h0 hr hpf n _ _ _ (smT_M hpf (smT_M hpf b1)) p1 (smF_c (smF_c hc))
theorem EA_MH_small_1 (hK : KALL) {pf pb n at_ : Nat} {wh : Int32} {s : Sto} (hpf : pf ≠ 172) : E_MH_small_1 pf pb n at_ wh s := by
  obtain ⟨b, h⟩ := seed66 s wh (wh >>> (nI 8 &&& 31)) pb n at_
  rw [E_MH_small_1]
  repeat rw [bnd_eq]
  rw [shM]
  exact Q_smallE1 (by decide) (by decide) hpf fuelM 0 _ _ h (Nat.zero_le _) (by rw [Nat.zero_add]; exact hK.2.1.2 b _ _)
theorem Q_bT1 {i rt : Nat} {y0 : Int64} {sf : Int32} {ke : Nat → Sto → Prop} {kE : Sp → Prop} (h0 : 0 < rt) (hr : rt < 200) (hke : ∀ (st : Sp) (t : Sto), spM st rt sf t → st.2 ≤ rt → kE st → ke (i + 1) t) : ∀ (n fl : Nat) (st : Sp) (t : Sto), spM st rt sf t → st.2 ≤ rt → bt st = fl → eT rt i kE n st → E_MH_ball_1_L3 y0 i ke n fl t
  | 0, fl, st, t, h, hp, hf, hE => by
    have hE2 : E_MH_ball_1_L3 y0 i ke 0 fl t = (fl ≤ i ∧ ke (i + 1) (blP 368 i fl (sgR y0 (i + 49)) t)) := by
      rw [E_MH_ball_1_L3]
      repeat rw [bnd_eq]
      unfold blP sgR
      by_cases d : lg_cmp (((y0.toUInt64 >>> ((nI (i + 49) - nI 256).toInt64.toUInt64 &&& Int64.toUInt64 63)).toInt64) &&& 1) 1 = 0
      · simp only [if_pos d]
      · simp only [if_neg d]
    rw [eT, hf] at hE
    rw [hE2]
    exact ⟨hE.1, hke st _ (spM_I (by decide) (spM_I (by decide) h)) hp hE.2⟩
  | n + 1, fl, st, t, h, hp, hf, hE => by
    rw [eT, hf] at hE
    by_cases q : fl ≤ i
    · have hE2 : E_MH_ball_1_L3 y0 i ke (n + 1) fl t = ke (i + 1) (blP 368 i fl (sgR y0 (i + 49)) t) := by
        rw [E_MH_ball_1_L3, if_pos q]
        repeat rw [bnd_eq]
        unfold blP sgR
        by_cases d : lg_cmp (((y0.toUInt64 >>> ((nI (i + 49) - nI 256).toInt64.toUInt64 &&& Int64.toUInt64 63)).toInt64) &&& 1) 1 = 0
        · simp only [if_pos d]
        · simp only [if_neg d]
      rw [if_pos q] at hE
      rw [hE2]
      exact hke st _ (spM_I (by decide) (spM_I (by decide) h)) hp hE
    · rw [if_neg q] at hE
      obtain ⟨a2, b2, c2⟩ := Q_next h h0 hr hp
      have e2 : (F_MS_next t).1.toNatClampNeg = bt (nxS rt st) := congrArg Int32.toNatClampNeg a2
      have hW : E_MH_ball_1_L3 y0 i ke (n + 1) fl t = E_MH_ball_1_L3 y0 i ke n (bt (nxS rt st)) (F_MS_next t).2 := by
        rw [E_MH_ball_1_L3, if_neg q]
        repeat rw [bnd_eq]
        rw [e2]
      rw [hW]
      exact Q_bT1 h0 hr hke n _ _ _ b2 (nxS_le h0 hp) rfl hE
set_option maxRecDepth 100000 in
theorem Q_bM1 {rt : Nat} {y0 : Int64} {sf : Int32} (h0 : 0 < rt) (hr : rt < 200) : ∀ (m i : Nat) (st : Sp) (t : Sto), spM st rt sf t → st.2 ≤ rt → eB rt m i st → E_MH_ball_1_L2 y0 m i t
  | 0, i, st, t, _, _, _ => by
    rw [E_MH_ball_1_L2]
    trivial
  | m + 1, i, st, t, h, hp, hE => by
    obtain ⟨a2, b2, c2⟩ := Q_next h h0 hr hp
    have e2 : (F_MS_next t).1.toNatClampNeg = bt (nxS rt st) := congrArg Int32.toNatClampNeg a2
    rw [eB] at hE
    rw [E_MH_ball_1_L2]
    repeat rw [bnd_eq]
    rw [e2]
    exact Q_bT1 (kE := eB rt m (i + 1)) h0 hr (fun st t a b c => Q_bM1 h0 hr m (i + 1) st t a b c) fuelM _ _ _ b2 (nxS_le h0 hp) rfl hE
set_option maxRecDepth 100000 in
theorem Q_bC1 {rt : Nat} {y0 : Int64} {sf : Int32} {st : Sp} (h0 : 0 < rt) (hr : rt < 200) (hp : st.2 ≤ rt) (hE : eB rt (256 - 207) 207 st) : ∀ (n i : Nat) (t : Sto), spM st rt sf t → E_MH_ball_1_L1 y0 n i t
  | 0, i, t, h => by
    rw [E_MH_ball_1_L1, bnd_eq]
    exact Q_bM1 h0 hr _ _ _ _ h hp hE
  | n + 1, i, t, h => by
    rw [E_MH_ball_1_L1, bnd_eq]
    exact Q_bC1 h0 hr hp hE n (i + 1) _ (spM_I (by decide) h)
set_option maxRecDepth 100000 in
theorem Q_bS1 {rt : Nat} {sf : Int32} (h0 : 0 < rt) (hr : rt < 200) : ∀ (n i : Nat) (y : Int64) (st : Sp) (t : Sto), spM st rt sf t → st.2 ≤ rt → eB rt (256 - 207) 207 (skp rt n st) → E_MH_ball_1_L0 n i y t
  | 0, i, y, st, t, h, hp, hE => by
    rw [E_MH_ball_1_L0]
    exact Q_bC1 h0 hr hp hE _ _ _ h
  | n + 1, i, y, st, t, h, hp, hE => by
    obtain ⟨a2, b2, c2⟩ := Q_next h h0 hr hp
    rw [E_MH_ball_1_L0]
    repeat rw [bnd_eq]
    exact Q_bS1 h0 hr n (i + 1) _ _ _ b2 (nxS_le h0 hp) hE
set_option maxRecDepth 100000 in
theorem EA_MH_ball_1 (hK : KALL) {pb : Nat} {s : Sto} : E_MH_ball_1 pb s := by
  obtain ⟨b, h⟩ := seedN s pb 64 0 48
  rw [E_MH_ball_1]
  repeat rw [bnd_eq]
  rw [shM]
  exact Q_bS1 (by decide) (by decide) 8 0 0 _ _ h (Nat.zero_le _) (hK.2.2.2.1 b)
theorem Q_draw8E2 {i j rt : Nat} {sf : Int32} {ke : Nat → Sto → Prop} (h0 : 0 < rt) (hr : rt < 200) (hke : ∀ (a : Nat) (t : Sto), ke a t) : ∀ (n f : Nat) (st : Sp) (t : Sto), spM st rt sf t → st.2 ≤ rt → 256 ≤ f + c23 rt n st → E_MH_expand_2_L2 i j ke n f t
  | 0, f, st, t, _, _, hc => by
    rw [c23] at hc
    rw [E_MH_expand_2_L2]
    exact ⟨by omega, hke _ _⟩
  | n + 1, f, st, t, h, hp, hc => by
    by_cases q0 : 256 ≤ f
    · rw [E_MH_expand_2_L2, if_pos q0]
      exact hke _ _
    · obtain ⟨a1, b1, c1⟩ := Q_next h h0 hr hp
      have p1 := nxS_le h0 hp
      obtain ⟨a2, b2, c2⟩ := Q_next b1 h0 hr p1
      have p2 := nxS_le h0 p1
      obtain ⟨a3, b3, c3⟩ := Q_next b2 h0 hr p2
      have p3 := nxS_le h0 p2
      have e1 : (F_MS_next t).1.toNatClampNeg = bt (nxS rt st) := congrArg Int32.toNatClampNeg a1
      have e2 : (F_MS_next (F_MS_next t).2).1.toNatClampNeg = bt (nxS rt (nxS rt st)) := congrArg Int32.toNatClampNeg a2
      have e3 : (F_MS_next (F_MS_next (F_MS_next t).2).2).1.toNatClampNeg = bt (nxS rt (nxS rt (nxS rt st))) := congrArg Int32.toNatClampNeg a3
      have hd := d8_lt (rt := rt) (st := st)
      have ed : (nI (bt (nxS rt st)) + (nI (bt (nxS rt (nxS rt st))) <<< (nI 8 &&& 31))) + ((nI (bt (nxS rt (nxS rt (nxS rt st)))) &&& nI 127) <<< (nI 16 &&& 31)) = nI (d8 rt st) := z8_ad (bt_lt _) (bt_lt _) (bt_lt _)
      rw [c23] at hc
      rw [E_MH_expand_2_L2, if_neg q0]
      repeat rw [bnd_eq]
      rw [e1, e2, e3, ed]
      generalize (F_MS_next (F_MS_next (F_MS_next t).2).2).2 = t3 at b3 ⊢
      have hq : 227 + (8 * i + j) ≠ 172 := by omega
      by_cases q1 : 8380417 ≤ d8 rt st
      · have w : ¬ d8 rt st < 8380417 := by omega
        have w1 : ¬ nI (d8 rt st) < nI 8380417 := fun z => by have := (nI_ltI (by omega) (by decide)).mp z; omega
        rw [if_neg w] at hc
        rw [if_neg w1]
        exact Q_draw8E2 h0 hr hke n f _ t3 b3 p3 (by omega)
      · have w : d8 rt st < 8380417 := by omega
        have w1 : nI (d8 rt st) < nI 8380417 := (nI_ltI (by omega) (by decide)).mpr w
        rw [if_pos w] at hc
        rw [if_pos w1]
        exact Q_draw8E2 h0 hr hke n (f + 1) _ _ (spM_I hq b3) p3 (by omega)
theorem EA_MH_expand_2_L1 (hK : KALL) {pb n i21 : Nat} {ke : Nat → Sto → Prop} (hke : ∀ (a : Nat) (s : Sto), ke a s) : ∀ (m i22 : Nat) (s : Sto), E_MH_expand_2_L1 pb n i21 ke m i22 s
  | 0, i22, s22 => by
    rw [E_MH_expand_2_L1, bnd_eq]
    exact hke _ _
  | n22 + 1, i22, s22 => by
    obtain ⟨b, h⟩ := seed34 s22 (nI i22) (nI i21) pb n 0
    rw [E_MH_expand_2_L1]
    repeat rw [bnd_eq]
    exact Q_draw8E2 (by decide) (by decide) (fun a t => EA_MH_expand_2_L1 hK hke n22 a t) fuelM 0 _ _ h (Nat.zero_le _) (by rw [Nat.zero_add]; exact hK.1.2 b _ _)
theorem Q_smallE2 {pf rt : Nat} {sf : Int32} (h0 : 0 < rt) (hr : rt < 200) (hpf : pf ≠ 172) : ∀ (n f : Nat) (st : Sp) (t : Sto), spM st rt sf t → st.2 ≤ rt → 256 ≤ f + c4 14 rt n st → E_MH_small_2_L0 pf n f t
  | 0, f, st, t, _, _, hc => by
    rw [c4] at hc
    rw [E_MH_small_2_L0]
    exact ⟨by omega, trivial⟩
  | n + 1, f, st, t, h, hp, hc => by
    by_cases q0 : 256 ≤ f
    · rw [E_MH_small_2_L0, if_pos q0]
      trivial
    · obtain ⟨a1, b1, c1⟩ := Q_next h h0 hr hp
      have p1 := nxS_le h0 hp
      have e1 : (F_MS_next t).1.toNatClampNeg = bt (nxS rt st) := congrArg Int32.toNatClampNeg a1
      rw [c4] at hc
      rw [Q_smE2 q0 e1]
      exact Q_smallE2 h0 hr hpf n _ _ _ (smT_M hpf (smT_M hpf b1)) p1 (smF_c (smF_c hc))
theorem EA_MH_small_2 (hK : KALL) {pf pb n at_ : Nat} {wh : Int32} {s : Sto} (hpf : pf ≠ 172) : E_MH_small_2 pf pb n at_ wh s := by
  obtain ⟨b, h⟩ := seed66 s wh (wh >>> (nI 8 &&& 31)) pb n at_
  rw [E_MH_small_2]
  repeat rw [bnd_eq]
  rw [shM]
  exact Q_smallE2 (by decide) (by decide) hpf fuelM 0 _ _ h (Nat.zero_le _) (by rw [Nat.zero_add]; exact hK.2.1.1 b _ _)
theorem Q_bT2 {i rt : Nat} {y0 : Int64} {sf : Int32} {ke : Nat → Sto → Prop} {kE : Sp → Prop} (h0 : 0 < rt) (hr : rt < 200) (hke : ∀ (st : Sp) (t : Sto), spM st rt sf t → st.2 ≤ rt → kE st → ke (i + 1) t) : ∀ (n fl : Nat) (st : Sp) (t : Sto), spM st rt sf t → st.2 ≤ rt → bt st = fl → eT rt i kE n st → E_MH_ball_2_L3 y0 i ke n fl t
  | 0, fl, st, t, h, hp, hf, hE => by
    have hE2 : E_MH_ball_2_L3 y0 i ke 0 fl t = (fl ≤ i ∧ ke (i + 1) (blP 368 i fl (sgR y0 (i + 60)) t)) := by
      rw [E_MH_ball_2_L3]
      repeat rw [bnd_eq]
      unfold blP sgR
      by_cases d : lg_cmp (((y0.toUInt64 >>> ((nI (i + 60) - nI 256).toInt64.toUInt64 &&& Int64.toUInt64 63)).toInt64) &&& 1) 1 = 0
      · simp only [if_pos d]
      · simp only [if_neg d]
    rw [eT, hf] at hE
    rw [hE2]
    exact ⟨hE.1, hke st _ (spM_I (by decide) (spM_I (by decide) h)) hp hE.2⟩
  | n + 1, fl, st, t, h, hp, hf, hE => by
    rw [eT, hf] at hE
    by_cases q : fl ≤ i
    · have hE2 : E_MH_ball_2_L3 y0 i ke (n + 1) fl t = ke (i + 1) (blP 368 i fl (sgR y0 (i + 60)) t) := by
        rw [E_MH_ball_2_L3, if_pos q]
        repeat rw [bnd_eq]
        unfold blP sgR
        by_cases d : lg_cmp (((y0.toUInt64 >>> ((nI (i + 60) - nI 256).toInt64.toUInt64 &&& Int64.toUInt64 63)).toInt64) &&& 1) 1 = 0
        · simp only [if_pos d]
        · simp only [if_neg d]
      rw [if_pos q] at hE
      rw [hE2]
      exact hke st _ (spM_I (by decide) (spM_I (by decide) h)) hp hE
    · rw [if_neg q] at hE
      obtain ⟨a2, b2, c2⟩ := Q_next h h0 hr hp
      have e2 : (F_MS_next t).1.toNatClampNeg = bt (nxS rt st) := congrArg Int32.toNatClampNeg a2
      have hW : E_MH_ball_2_L3 y0 i ke (n + 1) fl t = E_MH_ball_2_L3 y0 i ke n (bt (nxS rt st)) (F_MS_next t).2 := by
        rw [E_MH_ball_2_L3, if_neg q]
        repeat rw [bnd_eq]
        rw [e2]
      rw [hW]
      exact Q_bT2 h0 hr hke n _ _ _ b2 (nxS_le h0 hp) rfl hE
set_option maxRecDepth 100000 in
theorem Q_bM2 {rt : Nat} {y0 : Int64} {sf : Int32} (h0 : 0 < rt) (hr : rt < 200) : ∀ (m i : Nat) (st : Sp) (t : Sto), spM st rt sf t → st.2 ≤ rt → eB rt m i st → E_MH_ball_2_L2 y0 m i t
  | 0, i, st, t, _, _, _ => by
    rw [E_MH_ball_2_L2]
    trivial
  | m + 1, i, st, t, h, hp, hE => by
    obtain ⟨a2, b2, c2⟩ := Q_next h h0 hr hp
    have e2 : (F_MS_next t).1.toNatClampNeg = bt (nxS rt st) := congrArg Int32.toNatClampNeg a2
    rw [eB] at hE
    rw [E_MH_ball_2_L2]
    repeat rw [bnd_eq]
    rw [e2]
    exact Q_bT2 (kE := eB rt m (i + 1)) h0 hr (fun st t a b c => Q_bM2 h0 hr m (i + 1) st t a b c) fuelM _ _ _ b2 (nxS_le h0 hp) rfl hE
set_option maxRecDepth 100000 in
theorem Q_bC2 {rt : Nat} {y0 : Int64} {sf : Int32} {st : Sp} (h0 : 0 < rt) (hr : rt < 200) (hp : st.2 ≤ rt) (hE : eB rt (256 - 196) 196 st) : ∀ (n i : Nat) (t : Sto), spM st rt sf t → E_MH_ball_2_L1 y0 n i t
  | 0, i, t, h => by
    rw [E_MH_ball_2_L1, bnd_eq]
    exact Q_bM2 h0 hr _ _ _ _ h hp hE
  | n + 1, i, t, h => by
    rw [E_MH_ball_2_L1, bnd_eq]
    exact Q_bC2 h0 hr hp hE n (i + 1) _ (spM_I (by decide) h)
set_option maxRecDepth 100000 in
theorem Q_bS2 {rt : Nat} {sf : Int32} (h0 : 0 < rt) (hr : rt < 200) : ∀ (n i : Nat) (y : Int64) (st : Sp) (t : Sto), spM st rt sf t → st.2 ≤ rt → eB rt (256 - 196) 196 (skp rt n st) → E_MH_ball_2_L0 n i y t
  | 0, i, y, st, t, h, hp, hE => by
    rw [E_MH_ball_2_L0]
    exact Q_bC2 h0 hr hp hE _ _ _ h
  | n + 1, i, y, st, t, h, hp, hE => by
    obtain ⟨a2, b2, c2⟩ := Q_next h h0 hr hp
    rw [E_MH_ball_2_L0]
    repeat rw [bnd_eq]
    exact Q_bS2 h0 hr n (i + 1) _ _ _ b2 (nxS_le h0 hp) hE
set_option maxRecDepth 100000 in
theorem EA_MH_ball_2 (hK : KALL) {pb : Nat} {s : Sto} : E_MH_ball_2 pb s := by
  obtain ⟨b, h⟩ := seedN s pb 64 0 64
  rw [E_MH_ball_2]
  repeat rw [bnd_eq]
  rw [shM]
  exact Q_bS2 (by decide) (by decide) 8 0 0 _ _ h (Nat.zero_le _) (hK.2.2.2.2 b)
