set_option linter.all false
/-! load -/
theorem pair_mk {p : Int32 × Sto} {a : Int32} {b : Sto} (h1 : a = p.1) (h2 : p.2 = b) : p = (a, b) := by
  subst h1 h2
  rfl
/-- a loop of the reference that copies bytes of the tape into a row of the new pair -/
theorem cpM {pn b fr : Nat} {G : Nat → Nat → Sto → Int32 × Sto} (hb : b + pn ≠ 148) (hb1 : b + pn ≠ 149) (h1 : ∀ n i s, s.1 148 3 = nI pn → G (n + 1) i s = G n (i + 1) (sB s (b + pn) i (s.1 149 (fr + i)))) : ∀ (n i : Nat) (s : Sto), s.1 148 3 = nI pn → ∃ s1, G n i s = G 0 (i + n) s1 ∧ onl (b + pn) s s1 ∧ (∀ k, i ≤ k → k < i + n → s1.1 (b + pn) k = vp_nar .byte (s.1 149 (fr + k))) ∧ ∀ k, k < i → s1.1 (b + pn) k = s.1 (b + pn) k
  | 0, i, s, _ => ⟨s, rfl, onl_rf, fun k u v => by omega, fun _ _ => rfl⟩
  | n + 1, i, s, h => by
    have hU := h1 n i s h
    have o1 : onl (b + pn) s (sB s (b + pn) i (s.1 149 (fr + i))) := onl_sI
    have r1 : (sB s (b + pn) i (s.1 149 (fr + i))).1 (b + pn) = upd (s.1 (b + pn)) i (vp_nar .byte (s.1 149 (fr + i))) := sI_row
    generalize sB s (b + pn) i (s.1 149 (fr + i)) = s0 at hU o1 r1
    obtain ⟨s1, a, c, d, e⟩ := cpM hb hb1 h1 n (i + 1) s0 (by rw [o1.1 148 (Ne.symm hb)]; exact h)
    refine ⟨s1, ?_, onl_tr o1 c, fun k u v => ?_, fun k u => ?_⟩
    · rw [hU, a, show i + 1 + n = i + (n + 1) by omega]
    · by_cases w : k = i
      · subst w
        rw [e k (by omega), r1, upd_s]
      · rw [d k (by omega) (by omega), o1.1 149 (Ne.symm hb1)]
    · rw [e k (by omega), r1, upd_n (by omega)]
theorem kcopy_at {nl nk : Nat} {s : Sto} (hn : nl ≤ 16384) (hk : nk ≠ 1) : (∀ k, k ≠ nk → (F_AR_copyOf nl nk s).1 k = s.1 k) ∧ ∀ j, j < nl → (F_AR_copyOf nl nk s).1 nk j = s.1 1 j := by
  have hU : F_AR_copyOf nl nk s = sC (sZ s nk) 1 nk 0 0 (min 16384 nl) := by rw [F_AR_copyOf, bnd_eq, bnd_eq]
  rw [hU]
  refine ⟨fun k u => by rw [sC_o.1 k u, sZ_ne u], fun j hj => ?_⟩
  have := sC_in (s := sZ s nk) (k0 := 1) (k1 := nk) (sp := 0) (dp := 0) (n := min 16384 nl) (j := j) (by omega)
  rw [Nat.zero_add, sZ_ne (Ne.symm hk)] at this
  exact this
theorem krange_at {fr to nk : Nat} {s : Sto} (hn : to ≤ 16384) (hk : nk ≠ 1) : (∀ k, k ≠ nk → (F_AR_copyOfRange fr to nk s).1 k = s.1 k) ∧ ∀ j, j < to - fr → (F_AR_copyOfRange fr to nk s).1 nk j = s.1 1 (fr + j) := by
  have hc : ∀ w : Sto, F_AR_checkLength fr to w = w := fun w => by rw [F_AR_checkLength]
  have hU : F_AR_copyOfRange fr to nk s = sC (sZ s nk) 1 nk fr 0 (min (16384 - fr) (to - fr)) := by rw [F_AR_copyOfRange, bnd_eq, F_AR_copyOfRangeByte, bnd_eq, hc, bnd_eq, bnd_eq]
  rw [hU]
  refine ⟨fun k u => by rw [sC_o.1 k u, sZ_ne u], fun j hj => ?_⟩
  have := sC_in (s := sZ s nk) (k0 := 1) (k1 := nk) (sp := fr) (dp := 0) (n := min (16384 - fr) (to - fr)) (j := j) (by omega)
  rw [Nat.zero_add, sZ_ne (Ne.symm hk)] at this
  exact this
theorem kset_y {c : Nat} {s : Sto} (hc : c < 6) : F_K_isSet (nI c) s = (nI 1, s) := by
  rw [F_K_isSet, if_neg (nI_nneg (by omega)), if_neg (fun q => absurd ((nI_leI (by decide) (by omega)).mp q) (by omega)), bnd_eq]
theorem kset_n {v : Int32} {s : Sto} (hv : v < 0 ∨ nI 5 < v) : F_K_isSet v s = (nI 0, s) := by
  rw [F_K_isSet]
  by_cases q : v < 0
  · rw [if_pos q]
  · have h5 := hv.resolve_left q
    obtain ⟨z, hz, rfl⟩ := i32_nat q
    have h6 := (nI_ltI (by decide) hz).mp h5
    rw [if_neg q, if_pos (show nI 6 ≤ nI z from nI_le (by omega) hz)]
theorem SAME_scr {tl al pn : Nat} {s t : Sto} (h : SAME tl al pn s) (o : ∀ k, (k < 14 ∨ (148 ≤ k ∧ k < 172) ∨ 379 ≤ k) → t.1 k = s.1 k) : SAME tl al pn t := by
  obtain ⟨⟨a1, a2, a3⟩, ⟨b1, b2, b3⟩, ⟨c1, c2, c3⟩, d, e, f⟩ := h
  have o0 := o 0 (by omega)
  have oM := o 148 (by omega)
  refine ⟨⟨by rw [o0]; exact a1, by rw [oM]; exact a2, a3⟩, ⟨by rw [o0]; exact b1, by rw [oM]; exact b2, b3⟩, ⟨by rw [o0]; exact c1, by rw [oM]; exact c2, c3⟩, ?_, ?_, fun i hi => PAIR_c (by omega) (fun k hk => o k (by unfold isP at hk; omega)) (f i hi)⟩
  · rw [o 1 (by omega), o 149 (by omega)]; exact d
  · rw [o 2 (by omega), o 150 (by omega)]; exact e
theorem alike_fail2 {tl al pn k : Nat} {s t : Sto} {f : Sto → Int32 × Sto} (h : SAME tl al pn t) (e : f s = (nI 0, sI t 148 0 (nI k))) (hk : ¬ nI k = nI 0) : ALIKE (nI k, nI 0, s) f := by
  unfold ALIKE
  dsimp only
  rw [e]
  exact ⟨⟨tl, al, pn, SAME_onlM h onlM1⟩, th_at, fun q => absurd q hk⟩
theorem kil0_p {tl : Nat} {sc : Int32} {s : Sto} (h : s.1 0 1 = nI tl) (ht : tl ≤ 16384) (q : sc = 0) : F_K_isLoadable (nI 0) sc s = (if tl = 800 then nI 1 else nI 0, s) := by
  rw [F_K_isLoadable, bnd_eq, kset_y (by decide)]
  dsimp only
  rw [if_neg (show ¬ nI 1 = 0 by decide), bnd_eq, nI_clamp (show 0 < 2 ^ 31 by decide), if_pos (show (0 : Nat) = 0 from rfl), if_pos q, bnd_eq, h, nI_clamp (show tl < 2 ^ 31 by omega), bnd_eq, F_K_publicLength_0]
  dsimp only
  rw [bnd_eq]
  by_cases r : tl = 800
  · rw [if_pos r, if_pos r]
  · rw [if_neg r, if_neg r]
theorem lop0 {pn : Nat} {t : Sto} (hp : pn < 8) (h3 : t.1 148 3 = nI pn) : ∃ t2, F_M_load_L0 800 0 t = (nI pn, sI (sI (sI (sI t2 170 pn (nI 0)) 171 pn (nI 0)) 148 3 (nI (pn + 1))) 148 1 (nI 0)) ∧ onl (153 + pn) t t2 ∧ ∀ k, k < 800 → t2.1 (153 + pn) k = vp_nar .byte (t.1 149 k) := by
  obtain ⟨t2, a, b, c, -⟩ := cpM (pn := pn) (b := 153) (fr := 0) (G := F_M_load_L0) (by omega) (by omega) (fun n i s hs => by
    rw [F_M_load_L0, bnd_eq, mos0]
    dsimp only
    rw [bnd_eq, bnd_eq, hs, nI_clamp (show pn < 2 ^ 31 by omega), bnd_eq]) 800 0 t h3
  refine ⟨t2, ?_, b, fun k hk => ?_⟩
  · rw [a, F_M_load_L0, bnd_eq, mos0]
    dsimp only
    rw [bnd_eq, bnd_eq, mmade_eq (by rw [b.1 148 (by omega)]; exact h3) hp]
  · have := c k (Nat.zero_le _) (by omega)
    rw [Nat.zero_add] at this
    exact this
theorem load_core0 {tl al pn : Nat} {s s' : Sto} (h : SAME tl al pn s) (hN : NB s) (ht : tl = 800) (hp : pn < 8) (o : ∀ k, (k < 14 ∨ 148 ≤ k) → s'.1 k = s.1 k) :
    ∀ s1, s1 = sI (sI (sI (F_AR_copyOf 800 (379 + 36 * pn + 19) s') 0 1 (nI 0)) 3 pn (nI (6 + 1))) 0 5 (nI (pn + 1)) → (∀ k, (148 ≤ k ∧ k < 379) → s1.1 k = s.1 k) ∧ ∃ T, F_M_load_L0 800 0 (sI s1 148 0 (nI 0)) = (nI pn, T) ∧ SAME 0 al (pn + 1) T ∧ T.1 148 0 = nI 0 := by
  intro s1 hs
  obtain ⟨⟨a1, a2, a3⟩, ⟨b1, b2, b3⟩, ⟨c1, c2, c3⟩, d, e, f⟩ := id h
  obtain ⟨u1, u2⟩ := kcopy_at (s := s') (nl := 800) (nk := 379 + 36 * pn + 19) (by decide) (by omega)
  generalize F_AR_copyOf 800 (379 + 36 * pn + 19) s' = sB_ at u1 u2 hs
  have f1 : ∀ k, (148 ≤ k ∧ k < 379) → s1.1 k = s.1 k := fun k u => by rw [hs, th_ne (by omega), th_ne (by omega), th_ne (by omega), u1 k (by omega), o k (by omega)]
  have h3 : (sI s1 148 0 (nI 0)).1 148 3 = nI pn := by rw [th_off (by decide), f1 148 (by omega)]; exact c2
  obtain ⟨t2, g1, g2, g3⟩ := lop0 hp h3
  refine ⟨f1, _, g1, ?_⟩
  refine keys_core (c := 6) (st := 0) (hb := 0) (sB_ := sB_) (t2 := t2) h hp (by decide) (by decide) (by decide) (fun k u v w => by rw [u1 k v, o k u]) (fun k u v w => by rw [← hs]; exact g2.1 k v) (fun x hx => ?_) (fun q => absurd q (by decide)) (fun q => absurd q (by decide))
  have hx : x < 800 := hx
  rw [u2 x hx, o 1 (by omega), g3 x hx, th_ne (by decide), f1 149 (by omega), show vp_nar .byte (s.1 149 x) = s.1 149 x from hN.1 x (by omega)]
  exact d x (by omega)
set_option maxRecDepth 100000 in
theorem load_p0 {tl al pn : Nat} {sc : Int32} {s : Sto} (h : SAME tl al pn s) (hN : NB s) (q : sc = 0) : ALIKE (F_K_load (nI 0) sc pn s) (F_M_load (nI 0) sc) := by
  obtain ⟨⟨a1, a2, a3⟩, ⟨b1, b2, b3⟩, ⟨c1, c2, c3⟩, d, e, f⟩ := id h
  by_cases ht : tl = 800
  · have gO : ∀ t : Sto, (∀ j, j < 800 → t.1 149 j = s.1 149 j) → onl 31 s (F_KM_numbersFit_0 1 16384 s).2 ∧ F_ME_goodOpen_0 149 t = ((F_KM_numbersFit_0 1 16384 s).1, t) := fun t hq => by
      obtain ⟨x1, x2, x3⟩ := fit0_same (pp := 1) (n := 16384) (pek := 149) (s := s) (t := t) (by decide) (fun j hj => by rw [hq j (by omega)]; exact d j (by omega))
      exact ⟨x1, pair_mk x3 x2⟩
    have oS := (gO s (fun _ _ => rfl)).1.1
    have gO := fun (t : Sto) (hq : ∀ j, j < 800 → t.1 149 j = s.1 149 j) => (gO t hq).2
    have hsn : F_K_isSound_0 sc s = ((F_KM_numbersFit_0 1 16384 s).1, (F_KM_numbersFit_0 1 16384 s).2) := by rw [F_K_isSound_0, if_pos q, bnd_eq]
    have k0 : F_K_load (nI 0) sc pn s = if (F_KM_numbersFit_0 1 16384 s).1 = 0 then (nI 2, nI 0, (F_KM_numbersFit_0 1 16384 s).2) else bnd (((F_KM_numbersFit_0 1 16384 s).2.1 0 5).toNatClampNeg) fun z => if z < 8 then bnd (((F_KM_numbersFit_0 1 16384 s).2.1 0 1).toNatClampNeg) fun z1 => bnd (F_AR_copyOf z1 (379 + 36 * pn + 19) (F_KM_numbersFit_0 1 16384 s).2) fun s1 => bnd (sI s1 0 1 (nI 0)) fun s2 => bnd (F_K_keep 6 s2) fun q => (nI 0, q.1, q.2) else (nI 3, nI 0, (F_KM_numbersFit_0 1 16384 s).2) := by
      rw [F_K_load, bnd_eq, kil0_p a1 a3 q, if_pos ht]
      dsimp only
      rw [if_neg (show ¬ nI 1 = 0 by decide), bnd_eq, nI_clamp (show 0 < 2 ^ 31 by decide), if_pos q, if_pos (show (0 : Nat) = 0 from rfl), bnd_eq, hsn]
    have m0 : ∀ t : Sto, t.1 148 = s.1 148 → t.1 149 = s.1 149 → F_M_load (nI 0) sc t = if (F_KM_numbersFit_0 1 16384 s).1 = 0 then (nI 0, sI (sI t 148 0 (nI 0)) 148 0 (nI 2)) else if pn = 8 then (nI 0, sI (sI t 148 0 (nI 0)) 148 0 (nI 3)) else F_M_load_L0 800 0 (sI t 148 0 (nI 0)) := fun t y1 y2 => by
      have w1 : (sI t 148 0 (nI 0)).1 148 1 = nI 800 := by rw [th_off (by decide), y1, ← ht]; exact a2
      have w3 : (sI t 148 0 (nI 0)).1 148 3 = nI pn := by rw [th_off (by decide), y1]; exact c2
      have wT := gO (sI t 148 0 (nI 0)) (fun j _ => by rw [th_ne (by decide), y2])
      rw [F_M_load, bnd_eq, if_neg (nI_nneg (by decide)), if_pos q, if_neg (show ¬ nI 5 < nI 0 by decide), bnd_eq, nI_clamp (show 0 < 2 ^ 31 by decide), if_pos (show (0 : Nat) = 0 from rfl)]
      generalize sI t 148 0 (nI 0) = t1 at w1 w3 wT ⊢
      rw [bnd_eq, w1, nI_clamp (show 800 < 2 ^ 31 by decide), bnd_eq, mos0]
      dsimp only
      rw [bnd_eq, if_pos (show (800 : Nat) = 800 from rfl), bnd_eq, wT]
      dsimp only
      by_cases r : (F_KM_numbersFit_0 1 16384 s).1 = 0
      · rw [if_pos r, if_pos r, bnd_eq, mfail_eq]
      · rw [if_neg r, if_neg r, bnd_eq, w3, nI_clamp (show pn < 2 ^ 31 by omega)]
        by_cases r8 : pn = 8
        · rw [if_pos r8, if_pos r8, bnd_eq, mfail_eq]
        · rw [if_neg r8, if_neg r8]
    generalize F_KM_numbersFit_0 1 16384 s = b at k0 m0 oS
    obtain ⟨b, s'⟩ := b
    dsimp only at k0 m0 oS
    have o : ∀ k, (k < 14 ∨ 148 ≤ k) → s'.1 k = s.1 k := fun k u => oS k (by omega)
    have hS := SAME_scr h (fun k u => o k (by omega))
    by_cases r : b = 0
    · rw [if_pos r] at k0
      rw [k0]
      refine alike_fail hS ?_ (by decide)
      rw [m0 s' (o 148 (by omega)) (o 149 (by omega)), if_pos r]
    · rw [if_neg r, bnd_eq, o 0 (by omega), c1, nI_clamp (show pn < 2 ^ 31 by omega)] at k0
      by_cases r8 : pn = 8
      · rw [if_neg (by omega)] at k0
        rw [k0]
        refine alike_fail hS ?_ (by decide)
        rw [m0 s' (o 148 (by omega)) (o 149 (by omega)), if_neg r, if_pos r8]
      · have hp : pn < 8 := by omega
        rw [if_pos hp, bnd_eq, a1, nI_clamp (show tl < 2 ^ 31 by omega), bnd_eq, bnd_eq, bnd_eq, kkeep_eq (pn := pn) (by rw [th_off (by decide), (kcopy_at (s := s') (nl := tl) (nk := 379 + 36 * pn + 19) (by omega) (by omega)).1 0 (by omega), o 0 (by omega)]; exact c1) hp, ht] at k0
        obtain ⟨s1, hs1⟩ : ∃ x, x = sI (sI (sI (F_AR_copyOf 800 (379 + 36 * pn + 19) s') 0 1 (nI 0)) 3 pn (nI (6 + 1))) 0 5 (nI (pn + 1)) := ⟨_, rfl⟩
        obtain ⟨f1, T, g1, g2, g3⟩ := load_core0 h hN ht hp o s1 hs1
        rw [k0]
        unfold ALIKE
        dsimp only
        rw [← hs1, m0 s1 (f1 148 (by omega)) (f1 149 (by omega)), if_neg r, if_neg r8, g1]
        exact ⟨⟨0, al, pn + 1, g2⟩, g3, fun _ => rfl⟩
  · have w1 : (sI s 148 0 (nI 0)).1 148 1 = nI tl := by rw [th_off (by decide)]; exact a2
    have k1 : F_K_load (nI 0) sc pn s = (nI 1, nI 0, s) := by
      rw [F_K_load, bnd_eq, kil0_p a1 a3 q, if_neg ht]
      dsimp only
      rw [if_pos (show nI 0 = 0 by decide)]
    rw [k1]
    refine alike_fail h ?_ (by decide)
    rw [F_M_load, bnd_eq, if_neg (nI_nneg (by decide)), if_pos q, if_neg (show ¬ nI 5 < nI 0 by decide), bnd_eq, nI_clamp (show 0 < 2 ^ 31 by decide), if_pos (show (0 : Nat) = 0 from rfl), bnd_eq, w1, nI_clamp (show tl < 2 ^ 31 by omega), bnd_eq, mos0]
    dsimp only
    rw [bnd_eq, if_neg ht, bnd_eq, mfail_eq]
theorem kil1_p {tl : Nat} {sc : Int32} {s : Sto} (h : s.1 0 1 = nI tl) (ht : tl ≤ 16384) (q : sc = 0) : F_K_isLoadable (nI 1) sc s = (if tl = 1184 then nI 1 else nI 0, s) := by
  rw [F_K_isLoadable, bnd_eq, kset_y (by decide)]
  dsimp only
  rw [if_neg (show ¬ nI 1 = 0 by decide), bnd_eq, nI_clamp (show 1 < 2 ^ 31 by decide), if_neg (show ¬ (1 : Nat) = 0 by decide), if_pos (show (1 : Nat) = 1 from rfl), if_pos q, bnd_eq, h, nI_clamp (show tl < 2 ^ 31 by omega), bnd_eq, F_K_publicLength_1]
  dsimp only
  rw [bnd_eq]
  by_cases r : tl = 1184
  · rw [if_pos r, if_pos r]
  · rw [if_neg r, if_neg r]
theorem lop1 {pn : Nat} {t : Sto} (hp : pn < 8) (h3 : t.1 148 3 = nI pn) : ∃ t2, F_M_load_L1 1184 0 t = (nI pn, sI (sI (sI (sI t2 170 pn (nI 1)) 171 pn (nI 0)) 148 3 (nI (pn + 1))) 148 1 (nI 0)) ∧ onl (153 + pn) t t2 ∧ ∀ k, k < 1184 → t2.1 (153 + pn) k = vp_nar .byte (t.1 149 k) := by
  obtain ⟨t2, a, b, c, -⟩ := cpM (pn := pn) (b := 153) (fr := 0) (G := F_M_load_L1) (by omega) (by omega) (fun n i s hs => by
    rw [F_M_load_L1, bnd_eq, mos1]
    dsimp only
    rw [bnd_eq, bnd_eq, hs, nI_clamp (show pn < 2 ^ 31 by omega), bnd_eq]) 1184 0 t h3
  refine ⟨t2, ?_, b, fun k hk => ?_⟩
  · rw [a, F_M_load_L1, bnd_eq, mos1]
    dsimp only
    rw [bnd_eq, bnd_eq, mmade_eq (by rw [b.1 148 (by omega)]; exact h3) hp]
  · have := c k (Nat.zero_le _) (by omega)
    rw [Nat.zero_add] at this
    exact this
theorem load_core1 {tl al pn : Nat} {s s' : Sto} (h : SAME tl al pn s) (hN : NB s) (ht : tl = 1184) (hp : pn < 8) (o : ∀ k, (k < 14 ∨ 148 ≤ k) → s'.1 k = s.1 k) :
    ∀ s1, s1 = sI (sI (sI (F_AR_copyOf 1184 (379 + 36 * pn + 22) s') 0 1 (nI 0)) 3 pn (nI (7 + 1))) 0 5 (nI (pn + 1)) → (∀ k, (148 ≤ k ∧ k < 379) → s1.1 k = s.1 k) ∧ ∃ T, F_M_load_L1 1184 0 (sI s1 148 0 (nI 0)) = (nI pn, T) ∧ SAME 0 al (pn + 1) T ∧ T.1 148 0 = nI 0 := by
  intro s1 hs
  obtain ⟨⟨a1, a2, a3⟩, ⟨b1, b2, b3⟩, ⟨c1, c2, c3⟩, d, e, f⟩ := id h
  obtain ⟨u1, u2⟩ := kcopy_at (s := s') (nl := 1184) (nk := 379 + 36 * pn + 22) (by decide) (by omega)
  generalize F_AR_copyOf 1184 (379 + 36 * pn + 22) s' = sB_ at u1 u2 hs
  have f1 : ∀ k, (148 ≤ k ∧ k < 379) → s1.1 k = s.1 k := fun k u => by rw [hs, th_ne (by omega), th_ne (by omega), th_ne (by omega), u1 k (by omega), o k (by omega)]
  have h3 : (sI s1 148 0 (nI 0)).1 148 3 = nI pn := by rw [th_off (by decide), f1 148 (by omega)]; exact c2
  obtain ⟨t2, g1, g2, g3⟩ := lop1 hp h3
  refine ⟨f1, _, g1, ?_⟩
  refine keys_core (c := 7) (st := 1) (hb := 0) (sB_ := sB_) (t2 := t2) h hp (by decide) (by decide) (by decide) (fun k u v w => by rw [u1 k v, o k u]) (fun k u v w => by rw [← hs]; exact g2.1 k v) (fun x hx => ?_) (fun q => absurd q (by decide)) (fun q => absurd q (by decide))
  have hx : x < 1184 := hx
  rw [u2 x hx, o 1 (by omega), g3 x hx, th_ne (by decide), f1 149 (by omega), show vp_nar .byte (s.1 149 x) = s.1 149 x from hN.1 x (by omega)]
  exact d x (by omega)
set_option maxRecDepth 100000 in
theorem load_p1 {tl al pn : Nat} {sc : Int32} {s : Sto} (h : SAME tl al pn s) (hN : NB s) (q : sc = 0) : ALIKE (F_K_load (nI 1) sc pn s) (F_M_load (nI 1) sc) := by
  obtain ⟨⟨a1, a2, a3⟩, ⟨b1, b2, b3⟩, ⟨c1, c2, c3⟩, d, e, f⟩ := id h
  by_cases ht : tl = 1184
  · have gO : ∀ t : Sto, (∀ j, j < 1184 → t.1 149 j = s.1 149 j) → onl 31 s (F_KM_numbersFit_1 1 16384 s).2 ∧ F_ME_goodOpen_1 149 t = ((F_KM_numbersFit_1 1 16384 s).1, t) := fun t hq => by
      obtain ⟨x1, x2, x3⟩ := fit1_same (pp := 1) (n := 16384) (pek := 149) (s := s) (t := t) (by decide) (fun j hj => by rw [hq j (by omega)]; exact d j (by omega))
      exact ⟨x1, pair_mk x3 x2⟩
    have oS := (gO s (fun _ _ => rfl)).1.1
    have gO := fun (t : Sto) (hq : ∀ j, j < 1184 → t.1 149 j = s.1 149 j) => (gO t hq).2
    have hsn : F_K_isSound_1 sc s = ((F_KM_numbersFit_1 1 16384 s).1, (F_KM_numbersFit_1 1 16384 s).2) := by rw [F_K_isSound_1, if_pos q, bnd_eq]
    have k0 : F_K_load (nI 1) sc pn s = if (F_KM_numbersFit_1 1 16384 s).1 = 0 then (nI 2, nI 0, (F_KM_numbersFit_1 1 16384 s).2) else bnd (((F_KM_numbersFit_1 1 16384 s).2.1 0 5).toNatClampNeg) fun z => if z < 8 then bnd (((F_KM_numbersFit_1 1 16384 s).2.1 0 1).toNatClampNeg) fun z1 => bnd (F_AR_copyOf z1 (379 + 36 * pn + 22) (F_KM_numbersFit_1 1 16384 s).2) fun s1 => bnd (sI s1 0 1 (nI 0)) fun s2 => bnd (F_K_keep 7 s2) fun q => (nI 0, q.1, q.2) else (nI 3, nI 0, (F_KM_numbersFit_1 1 16384 s).2) := by
      rw [F_K_load, bnd_eq, kil1_p a1 a3 q, if_pos ht]
      dsimp only
      rw [if_neg (show ¬ nI 1 = 0 by decide), bnd_eq, nI_clamp (show 1 < 2 ^ 31 by decide), if_pos q, if_neg (show ¬ (1 : Nat) = 0 by decide), if_pos (show (1 : Nat) = 1 from rfl), bnd_eq, hsn]
    have m0 : ∀ t : Sto, t.1 148 = s.1 148 → t.1 149 = s.1 149 → F_M_load (nI 1) sc t = if (F_KM_numbersFit_1 1 16384 s).1 = 0 then (nI 0, sI (sI t 148 0 (nI 0)) 148 0 (nI 2)) else if pn = 8 then (nI 0, sI (sI t 148 0 (nI 0)) 148 0 (nI 3)) else F_M_load_L1 1184 0 (sI t 148 0 (nI 0)) := fun t y1 y2 => by
      have w1 : (sI t 148 0 (nI 0)).1 148 1 = nI 1184 := by rw [th_off (by decide), y1, ← ht]; exact a2
      have w3 : (sI t 148 0 (nI 0)).1 148 3 = nI pn := by rw [th_off (by decide), y1]; exact c2
      have wT := gO (sI t 148 0 (nI 0)) (fun j _ => by rw [th_ne (by decide), y2])
      rw [F_M_load, bnd_eq, if_neg (nI_nneg (by decide)), if_pos q, if_neg (show ¬ nI 5 < nI 1 by decide), bnd_eq, nI_clamp (show 1 < 2 ^ 31 by decide), if_neg (show ¬ (1 : Nat) = 0 by decide), if_pos (show (1 : Nat) = 1 from rfl)]
      generalize sI t 148 0 (nI 0) = t1 at w1 w3 wT ⊢
      rw [bnd_eq, w1, nI_clamp (show 1184 < 2 ^ 31 by decide), bnd_eq, mos1]
      dsimp only
      rw [bnd_eq, if_pos (show (1184 : Nat) = 1184 from rfl), bnd_eq, wT]
      dsimp only
      by_cases r : (F_KM_numbersFit_1 1 16384 s).1 = 0
      · rw [if_pos r, if_pos r, bnd_eq, mfail_eq]
      · rw [if_neg r, if_neg r, bnd_eq, w3, nI_clamp (show pn < 2 ^ 31 by omega)]
        by_cases r8 : pn = 8
        · rw [if_pos r8, if_pos r8, bnd_eq, mfail_eq]
        · rw [if_neg r8, if_neg r8]
    generalize F_KM_numbersFit_1 1 16384 s = b at k0 m0 oS
    obtain ⟨b, s'⟩ := b
    dsimp only at k0 m0 oS
    have o : ∀ k, (k < 14 ∨ 148 ≤ k) → s'.1 k = s.1 k := fun k u => oS k (by omega)
    have hS := SAME_scr h (fun k u => o k (by omega))
    by_cases r : b = 0
    · rw [if_pos r] at k0
      rw [k0]
      refine alike_fail hS ?_ (by decide)
      rw [m0 s' (o 148 (by omega)) (o 149 (by omega)), if_pos r]
    · rw [if_neg r, bnd_eq, o 0 (by omega), c1, nI_clamp (show pn < 2 ^ 31 by omega)] at k0
      by_cases r8 : pn = 8
      · rw [if_neg (by omega)] at k0
        rw [k0]
        refine alike_fail hS ?_ (by decide)
        rw [m0 s' (o 148 (by omega)) (o 149 (by omega)), if_neg r, if_pos r8]
      · have hp : pn < 8 := by omega
        rw [if_pos hp, bnd_eq, a1, nI_clamp (show tl < 2 ^ 31 by omega), bnd_eq, bnd_eq, bnd_eq, kkeep_eq (pn := pn) (by rw [th_off (by decide), (kcopy_at (s := s') (nl := tl) (nk := 379 + 36 * pn + 22) (by omega) (by omega)).1 0 (by omega), o 0 (by omega)]; exact c1) hp, ht] at k0
        obtain ⟨s1, hs1⟩ : ∃ x, x = sI (sI (sI (F_AR_copyOf 1184 (379 + 36 * pn + 22) s') 0 1 (nI 0)) 3 pn (nI (7 + 1))) 0 5 (nI (pn + 1)) := ⟨_, rfl⟩
        obtain ⟨f1, T, g1, g2, g3⟩ := load_core1 h hN ht hp o s1 hs1
        rw [k0]
        unfold ALIKE
        dsimp only
        rw [← hs1, m0 s1 (f1 148 (by omega)) (f1 149 (by omega)), if_neg r, if_neg r8, g1]
        exact ⟨⟨0, al, pn + 1, g2⟩, g3, fun _ => rfl⟩
  · have w1 : (sI s 148 0 (nI 0)).1 148 1 = nI tl := by rw [th_off (by decide)]; exact a2
    have k1 : F_K_load (nI 1) sc pn s = (nI 1, nI 0, s) := by
      rw [F_K_load, bnd_eq, kil1_p a1 a3 q, if_neg ht]
      dsimp only
      rw [if_pos (show nI 0 = 0 by decide)]
    rw [k1]
    refine alike_fail h ?_ (by decide)
    rw [F_M_load, bnd_eq, if_neg (nI_nneg (by decide)), if_pos q, if_neg (show ¬ nI 5 < nI 1 by decide), bnd_eq, nI_clamp (show 1 < 2 ^ 31 by decide), if_neg (show ¬ (1 : Nat) = 0 by decide), if_pos (show (1 : Nat) = 1 from rfl), bnd_eq, w1, nI_clamp (show tl < 2 ^ 31 by omega), bnd_eq, mos1]
    dsimp only
    rw [bnd_eq, if_neg ht, bnd_eq, mfail_eq]
theorem kil2_p {tl : Nat} {sc : Int32} {s : Sto} (h : s.1 0 1 = nI tl) (ht : tl ≤ 16384) (q : sc = 0) : F_K_isLoadable (nI 2) sc s = (if tl = 1568 then nI 1 else nI 0, s) := by
  rw [F_K_isLoadable, bnd_eq, kset_y (by decide)]
  dsimp only
  rw [if_neg (show ¬ nI 1 = 0 by decide), bnd_eq, nI_clamp (show 2 < 2 ^ 31 by decide), if_neg (show ¬ (2 : Nat) = 0 by decide), if_neg (show ¬ (2 : Nat) = 1 by decide), if_pos (show (2 : Nat) = 2 from rfl), if_pos q, bnd_eq, h, nI_clamp (show tl < 2 ^ 31 by omega), bnd_eq, F_K_publicLength_2]
  dsimp only
  rw [bnd_eq]
  by_cases r : tl = 1568
  · rw [if_pos r, if_pos r]
  · rw [if_neg r, if_neg r]
theorem lop2 {pn : Nat} {t : Sto} (hp : pn < 8) (h3 : t.1 148 3 = nI pn) : ∃ t2, F_M_load_L2 1568 0 t = (nI pn, sI (sI (sI (sI t2 170 pn (nI 2)) 171 pn (nI 0)) 148 3 (nI (pn + 1))) 148 1 (nI 0)) ∧ onl (153 + pn) t t2 ∧ ∀ k, k < 1568 → t2.1 (153 + pn) k = vp_nar .byte (t.1 149 k) := by
  obtain ⟨t2, a, b, c, -⟩ := cpM (pn := pn) (b := 153) (fr := 0) (G := F_M_load_L2) (by omega) (by omega) (fun n i s hs => by
    rw [F_M_load_L2, bnd_eq, mos2]
    dsimp only
    rw [bnd_eq, bnd_eq, hs, nI_clamp (show pn < 2 ^ 31 by omega), bnd_eq]) 1568 0 t h3
  refine ⟨t2, ?_, b, fun k hk => ?_⟩
  · rw [a, F_M_load_L2, bnd_eq, mos2]
    dsimp only
    rw [bnd_eq, bnd_eq, mmade_eq (by rw [b.1 148 (by omega)]; exact h3) hp]
  · have := c k (Nat.zero_le _) (by omega)
    rw [Nat.zero_add] at this
    exact this
theorem load_core2 {tl al pn : Nat} {s s' : Sto} (h : SAME tl al pn s) (hN : NB s) (ht : tl = 1568) (hp : pn < 8) (o : ∀ k, (k < 14 ∨ 148 ≤ k) → s'.1 k = s.1 k) :
    ∀ s1, s1 = sI (sI (sI (F_AR_copyOf 1568 (379 + 36 * pn + 25) s') 0 1 (nI 0)) 3 pn (nI (8 + 1))) 0 5 (nI (pn + 1)) → (∀ k, (148 ≤ k ∧ k < 379) → s1.1 k = s.1 k) ∧ ∃ T, F_M_load_L2 1568 0 (sI s1 148 0 (nI 0)) = (nI pn, T) ∧ SAME 0 al (pn + 1) T ∧ T.1 148 0 = nI 0 := by
  intro s1 hs
  obtain ⟨⟨a1, a2, a3⟩, ⟨b1, b2, b3⟩, ⟨c1, c2, c3⟩, d, e, f⟩ := id h
  obtain ⟨u1, u2⟩ := kcopy_at (s := s') (nl := 1568) (nk := 379 + 36 * pn + 25) (by decide) (by omega)
  generalize F_AR_copyOf 1568 (379 + 36 * pn + 25) s' = sB_ at u1 u2 hs
  have f1 : ∀ k, (148 ≤ k ∧ k < 379) → s1.1 k = s.1 k := fun k u => by rw [hs, th_ne (by omega), th_ne (by omega), th_ne (by omega), u1 k (by omega), o k (by omega)]
  have h3 : (sI s1 148 0 (nI 0)).1 148 3 = nI pn := by rw [th_off (by decide), f1 148 (by omega)]; exact c2
  obtain ⟨t2, g1, g2, g3⟩ := lop2 hp h3
  refine ⟨f1, _, g1, ?_⟩
  refine keys_core (c := 8) (st := 2) (hb := 0) (sB_ := sB_) (t2 := t2) h hp (by decide) (by decide) (by decide) (fun k u v w => by rw [u1 k v, o k u]) (fun k u v w => by rw [← hs]; exact g2.1 k v) (fun x hx => ?_) (fun q => absurd q (by decide)) (fun q => absurd q (by decide))
  have hx : x < 1568 := hx
  rw [u2 x hx, o 1 (by omega), g3 x hx, th_ne (by decide), f1 149 (by omega), show vp_nar .byte (s.1 149 x) = s.1 149 x from hN.1 x (by omega)]
  exact d x (by omega)
set_option maxRecDepth 100000 in
theorem load_p2 {tl al pn : Nat} {sc : Int32} {s : Sto} (h : SAME tl al pn s) (hN : NB s) (q : sc = 0) : ALIKE (F_K_load (nI 2) sc pn s) (F_M_load (nI 2) sc) := by
  obtain ⟨⟨a1, a2, a3⟩, ⟨b1, b2, b3⟩, ⟨c1, c2, c3⟩, d, e, f⟩ := id h
  by_cases ht : tl = 1568
  · have gO : ∀ t : Sto, (∀ j, j < 1568 → t.1 149 j = s.1 149 j) → onl 31 s (F_KM_numbersFit_2 1 16384 s).2 ∧ F_ME_goodOpen_2 149 t = ((F_KM_numbersFit_2 1 16384 s).1, t) := fun t hq => by
      obtain ⟨x1, x2, x3⟩ := fit2_same (pp := 1) (n := 16384) (pek := 149) (s := s) (t := t) (by decide) (fun j hj => by rw [hq j (by omega)]; exact d j (by omega))
      exact ⟨x1, pair_mk x3 x2⟩
    have oS := (gO s (fun _ _ => rfl)).1.1
    have gO := fun (t : Sto) (hq : ∀ j, j < 1568 → t.1 149 j = s.1 149 j) => (gO t hq).2
    have hsn : F_K_isSound_2 sc s = ((F_KM_numbersFit_2 1 16384 s).1, (F_KM_numbersFit_2 1 16384 s).2) := by rw [F_K_isSound_2, if_pos q, bnd_eq]
    have k0 : F_K_load (nI 2) sc pn s = if (F_KM_numbersFit_2 1 16384 s).1 = 0 then (nI 2, nI 0, (F_KM_numbersFit_2 1 16384 s).2) else bnd (((F_KM_numbersFit_2 1 16384 s).2.1 0 5).toNatClampNeg) fun z => if z < 8 then bnd (((F_KM_numbersFit_2 1 16384 s).2.1 0 1).toNatClampNeg) fun z1 => bnd (F_AR_copyOf z1 (379 + 36 * pn + 25) (F_KM_numbersFit_2 1 16384 s).2) fun s1 => bnd (sI s1 0 1 (nI 0)) fun s2 => bnd (F_K_keep 8 s2) fun q => (nI 0, q.1, q.2) else (nI 3, nI 0, (F_KM_numbersFit_2 1 16384 s).2) := by
      rw [F_K_load, bnd_eq, kil2_p a1 a3 q, if_pos ht]
      dsimp only
      rw [if_neg (show ¬ nI 1 = 0 by decide), bnd_eq, nI_clamp (show 2 < 2 ^ 31 by decide), if_pos q, if_neg (show ¬ (2 : Nat) = 0 by decide), if_neg (show ¬ (2 : Nat) = 1 by decide), if_pos (show (2 : Nat) = 2 from rfl), bnd_eq, hsn]
    have m0 : ∀ t : Sto, t.1 148 = s.1 148 → t.1 149 = s.1 149 → F_M_load (nI 2) sc t = if (F_KM_numbersFit_2 1 16384 s).1 = 0 then (nI 0, sI (sI t 148 0 (nI 0)) 148 0 (nI 2)) else if pn = 8 then (nI 0, sI (sI t 148 0 (nI 0)) 148 0 (nI 3)) else F_M_load_L2 1568 0 (sI t 148 0 (nI 0)) := fun t y1 y2 => by
      have w1 : (sI t 148 0 (nI 0)).1 148 1 = nI 1568 := by rw [th_off (by decide), y1, ← ht]; exact a2
      have w3 : (sI t 148 0 (nI 0)).1 148 3 = nI pn := by rw [th_off (by decide), y1]; exact c2
      have wT := gO (sI t 148 0 (nI 0)) (fun j _ => by rw [th_ne (by decide), y2])
      rw [F_M_load, bnd_eq, if_neg (nI_nneg (by decide)), if_pos q, if_neg (show ¬ nI 5 < nI 2 by decide), bnd_eq, nI_clamp (show 2 < 2 ^ 31 by decide), if_neg (show ¬ (2 : Nat) = 0 by decide), if_neg (show ¬ (2 : Nat) = 1 by decide), if_pos (show (2 : Nat) = 2 from rfl)]
      generalize sI t 148 0 (nI 0) = t1 at w1 w3 wT ⊢
      rw [bnd_eq, w1, nI_clamp (show 1568 < 2 ^ 31 by decide), bnd_eq, mos2]
      dsimp only
      rw [bnd_eq, if_pos (show (1568 : Nat) = 1568 from rfl), bnd_eq, wT]
      dsimp only
      by_cases r : (F_KM_numbersFit_2 1 16384 s).1 = 0
      · rw [if_pos r, if_pos r, bnd_eq, mfail_eq]
      · rw [if_neg r, if_neg r, bnd_eq, w3, nI_clamp (show pn < 2 ^ 31 by omega)]
        by_cases r8 : pn = 8
        · rw [if_pos r8, if_pos r8, bnd_eq, mfail_eq]
        · rw [if_neg r8, if_neg r8]
    generalize F_KM_numbersFit_2 1 16384 s = b at k0 m0 oS
    obtain ⟨b, s'⟩ := b
    dsimp only at k0 m0 oS
    have o : ∀ k, (k < 14 ∨ 148 ≤ k) → s'.1 k = s.1 k := fun k u => oS k (by omega)
    have hS := SAME_scr h (fun k u => o k (by omega))
    by_cases r : b = 0
    · rw [if_pos r] at k0
      rw [k0]
      refine alike_fail hS ?_ (by decide)
      rw [m0 s' (o 148 (by omega)) (o 149 (by omega)), if_pos r]
    · rw [if_neg r, bnd_eq, o 0 (by omega), c1, nI_clamp (show pn < 2 ^ 31 by omega)] at k0
      by_cases r8 : pn = 8
      · rw [if_neg (by omega)] at k0
        rw [k0]
        refine alike_fail hS ?_ (by decide)
        rw [m0 s' (o 148 (by omega)) (o 149 (by omega)), if_neg r, if_pos r8]
      · have hp : pn < 8 := by omega
        rw [if_pos hp, bnd_eq, a1, nI_clamp (show tl < 2 ^ 31 by omega), bnd_eq, bnd_eq, bnd_eq, kkeep_eq (pn := pn) (by rw [th_off (by decide), (kcopy_at (s := s') (nl := tl) (nk := 379 + 36 * pn + 25) (by omega) (by omega)).1 0 (by omega), o 0 (by omega)]; exact c1) hp, ht] at k0
        obtain ⟨s1, hs1⟩ : ∃ x, x = sI (sI (sI (F_AR_copyOf 1568 (379 + 36 * pn + 25) s') 0 1 (nI 0)) 3 pn (nI (8 + 1))) 0 5 (nI (pn + 1)) := ⟨_, rfl⟩
        obtain ⟨f1, T, g1, g2, g3⟩ := load_core2 h hN ht hp o s1 hs1
        rw [k0]
        unfold ALIKE
        dsimp only
        rw [← hs1, m0 s1 (f1 148 (by omega)) (f1 149 (by omega)), if_neg r, if_neg r8, g1]
        exact ⟨⟨0, al, pn + 1, g2⟩, g3, fun _ => rfl⟩
  · have w1 : (sI s 148 0 (nI 0)).1 148 1 = nI tl := by rw [th_off (by decide)]; exact a2
    have k1 : F_K_load (nI 2) sc pn s = (nI 1, nI 0, s) := by
      rw [F_K_load, bnd_eq, kil2_p a1 a3 q, if_neg ht]
      dsimp only
      rw [if_pos (show nI 0 = 0 by decide)]
    rw [k1]
    refine alike_fail h ?_ (by decide)
    rw [F_M_load, bnd_eq, if_neg (nI_nneg (by decide)), if_pos q, if_neg (show ¬ nI 5 < nI 2 by decide), bnd_eq, nI_clamp (show 2 < 2 ^ 31 by decide), if_neg (show ¬ (2 : Nat) = 0 by decide), if_neg (show ¬ (2 : Nat) = 1 by decide), if_pos (show (2 : Nat) = 2 from rfl), bnd_eq, w1, nI_clamp (show tl < 2 ^ 31 by omega), bnd_eq, mos2]
    dsimp only
    rw [bnd_eq, if_neg ht, bnd_eq, mfail_eq]
theorem kil3_p {tl : Nat} {sc : Int32} {s : Sto} (h : s.1 0 1 = nI tl) (ht : tl ≤ 16384) (q : sc = 0) : F_K_isLoadable (nI 3) sc s = (if tl = 1312 then nI 1 else nI 0, s) := by
  rw [F_K_isLoadable, bnd_eq, kset_y (by decide)]
  dsimp only
  rw [if_neg (show ¬ nI 1 = 0 by decide), bnd_eq, nI_clamp (show 3 < 2 ^ 31 by decide), if_neg (show ¬ (3 : Nat) = 0 by decide), if_neg (show ¬ (3 : Nat) = 1 by decide), if_neg (show ¬ (3 : Nat) = 2 by decide), if_pos (show (3 : Nat) = 3 from rfl), if_pos q, bnd_eq, h, nI_clamp (show tl < 2 ^ 31 by omega), bnd_eq, F_K_publicLength_3]
  dsimp only
  rw [bnd_eq]
  by_cases r : tl = 1312
  · rw [if_pos r, if_pos r]
  · rw [if_neg r, if_neg r]
theorem lop3 {pn : Nat} {t : Sto} (hp : pn < 8) (h3 : t.1 148 3 = nI pn) : ∃ t2, F_M_load_L3 1312 0 t = (nI pn, sI (sI (sI (sI t2 170 pn (nI 3)) 171 pn (nI 0)) 148 3 (nI (pn + 1))) 148 1 (nI 0)) ∧ onl (153 + pn) t t2 ∧ ∀ k, k < 1312 → t2.1 (153 + pn) k = vp_nar .byte (t.1 149 k) := by
  obtain ⟨t2, a, b, c, -⟩ := cpM (pn := pn) (b := 153) (fr := 0) (G := F_M_load_L3) (by omega) (by omega) (fun n i s hs => by
    rw [F_M_load_L3, bnd_eq, mos3]
    dsimp only
    rw [bnd_eq, bnd_eq, hs, nI_clamp (show pn < 2 ^ 31 by omega), bnd_eq]) 1312 0 t h3
  refine ⟨t2, ?_, b, fun k hk => ?_⟩
  · rw [a, F_M_load_L3, bnd_eq, mos3]
    dsimp only
    rw [bnd_eq, bnd_eq, mmade_eq (by rw [b.1 148 (by omega)]; exact h3) hp]
  · have := c k (Nat.zero_le _) (by omega)
    rw [Nat.zero_add] at this
    exact this
theorem load_core3 {tl al pn : Nat} {s s' : Sto} (h : SAME tl al pn s) (hN : NB s) (ht : tl = 1312) (hp : pn < 8) (o : ∀ k, (k < 14 ∨ 148 ≤ k) → s'.1 k = s.1 k) :
    ∀ s1, s1 = sI (sI (sI (F_AR_copyOf 1312 (379 + 36 * pn + 28) s') 0 1 (nI 0)) 3 pn (nI (9 + 1))) 0 5 (nI (pn + 1)) → (∀ k, (148 ≤ k ∧ k < 379) → s1.1 k = s.1 k) ∧ ∃ T, F_M_load_L3 1312 0 (sI s1 148 0 (nI 0)) = (nI pn, T) ∧ SAME 0 al (pn + 1) T ∧ T.1 148 0 = nI 0 := by
  intro s1 hs
  obtain ⟨⟨a1, a2, a3⟩, ⟨b1, b2, b3⟩, ⟨c1, c2, c3⟩, d, e, f⟩ := id h
  obtain ⟨u1, u2⟩ := kcopy_at (s := s') (nl := 1312) (nk := 379 + 36 * pn + 28) (by decide) (by omega)
  generalize F_AR_copyOf 1312 (379 + 36 * pn + 28) s' = sB_ at u1 u2 hs
  have f1 : ∀ k, (148 ≤ k ∧ k < 379) → s1.1 k = s.1 k := fun k u => by rw [hs, th_ne (by omega), th_ne (by omega), th_ne (by omega), u1 k (by omega), o k (by omega)]
  have h3 : (sI s1 148 0 (nI 0)).1 148 3 = nI pn := by rw [th_off (by decide), f1 148 (by omega)]; exact c2
  obtain ⟨t2, g1, g2, g3⟩ := lop3 hp h3
  refine ⟨f1, _, g1, ?_⟩
  refine keys_core (c := 9) (st := 3) (hb := 0) (sB_ := sB_) (t2 := t2) h hp (by decide) (by decide) (by decide) (fun k u v w => by rw [u1 k v, o k u]) (fun k u v w => by rw [← hs]; exact g2.1 k v) (fun x hx => ?_) (fun q => absurd q (by decide)) (fun q => absurd q (by decide))
  have hx : x < 1312 := hx
  rw [u2 x hx, o 1 (by omega), g3 x hx, th_ne (by decide), f1 149 (by omega), show vp_nar .byte (s.1 149 x) = s.1 149 x from hN.1 x (by omega)]
  exact d x (by omega)
theorem load_p3 {tl al pn : Nat} {sc : Int32} {s : Sto} (h : SAME tl al pn s) (hN : NB s) (q : sc = 0) : ALIKE (F_K_load (nI 3) sc pn s) (F_M_load (nI 3) sc) := by
  obtain ⟨⟨a1, a2, a3⟩, ⟨b1, b2, b3⟩, ⟨c1, c2, c3⟩, d, e, f⟩ := id h
  by_cases ht : tl = 1312
  · have k0 : F_K_load (nI 3) sc pn s = bnd ((s.1 0 5).toNatClampNeg) fun z => if z < 8 then bnd ((s.1 0 1).toNatClampNeg) fun z1 => bnd (F_AR_copyOf z1 (379 + 36 * pn + 28) s) fun s1 => bnd (sI s1 0 1 (nI 0)) fun s2 => bnd (F_K_keep 9 s2) fun q => (nI 0, q.1, q.2) else (nI 3, nI 0, s) := by
      rw [F_K_load, bnd_eq, kil3_p a1 a3 q, if_pos ht]
      dsimp only
      rw [if_neg (show ¬ nI 1 = 0 by decide), bnd_eq, nI_clamp (show 3 < 2 ^ 31 by decide), if_pos q, if_neg (show ¬ (3 : Nat) = 0 by decide), if_neg (show ¬ (3 : Nat) = 1 by decide), if_neg (show ¬ (3 : Nat) = 2 by decide), if_pos (show (3 : Nat) = 3 from rfl)]
    have m0 : ∀ t : Sto, t.1 148 = s.1 148 → F_M_load (nI 3) sc t = if pn = 8 then (nI 0, sI (sI t 148 0 (nI 0)) 148 0 (nI 3)) else F_M_load_L3 1312 0 (sI t 148 0 (nI 0)) := fun t y1 => by
      have w1 : (sI t 148 0 (nI 0)).1 148 1 = nI 1312 := by rw [th_off (by decide), y1, ← ht]; exact a2
      have w3 : (sI t 148 0 (nI 0)).1 148 3 = nI pn := by rw [th_off (by decide), y1]; exact c2
      rw [F_M_load, bnd_eq, if_neg (nI_nneg (by decide)), if_pos q, if_neg (show ¬ nI 5 < nI 3 by decide), bnd_eq, nI_clamp (show 3 < 2 ^ 31 by decide), if_neg (show ¬ (3 : Nat) = 0 by decide), if_neg (show ¬ (3 : Nat) = 1 by decide), if_neg (show ¬ (3 : Nat) = 2 by decide), if_pos (show (3 : Nat) = 3 from rfl)]
      generalize sI t 148 0 (nI 0) = t1 at w1 w3 ⊢
      rw [bnd_eq, w1, nI_clamp (show 1312 < 2 ^ 31 by decide), bnd_eq, mos3]
      dsimp only
      rw [bnd_eq, if_pos (show (1312 : Nat) = 1312 from rfl), bnd_eq, w3, nI_clamp (show pn < 2 ^ 31 by omega)]
      by_cases r8 : pn = 8
      · rw [if_pos r8, if_pos r8, bnd_eq, mfail_eq]
      · rw [if_neg r8, if_neg r8]
    have o : ∀ k, (k < 14 ∨ 148 ≤ k) → s.1 k = s.1 k := fun _ _ => rfl
    rw [bnd_eq, c1, nI_clamp (show pn < 2 ^ 31 by omega)] at k0
    by_cases r8 : pn = 8
    · rw [if_neg (by omega)] at k0
      rw [k0]
      refine alike_fail h ?_ (by decide)
      rw [m0 s rfl, if_pos r8]
    · have hp : pn < 8 := by omega
      rw [if_pos hp, bnd_eq, a1, nI_clamp (show tl < 2 ^ 31 by omega), bnd_eq, bnd_eq, bnd_eq, kkeep_eq (pn := pn) (by rw [th_off (by decide), (kcopy_at (s := s) (nl := tl) (nk := 379 + 36 * pn + 28) (by omega) (by omega)).1 0 (by omega)]; exact c1) hp, ht] at k0
      obtain ⟨s1, hs1⟩ : ∃ x, x = sI (sI (sI (F_AR_copyOf 1312 (379 + 36 * pn + 28) s) 0 1 (nI 0)) 3 pn (nI (9 + 1))) 0 5 (nI (pn + 1)) := ⟨_, rfl⟩
      obtain ⟨f1, T, g1, g2, g3⟩ := load_core3 h hN ht hp o s1 hs1
      rw [k0]
      unfold ALIKE
      dsimp only
      rw [← hs1, m0 s1 (f1 148 (by omega)), if_neg r8, g1]
      exact ⟨⟨0, al, pn + 1, g2⟩, g3, fun _ => rfl⟩
  · have w1 : (sI s 148 0 (nI 0)).1 148 1 = nI tl := by rw [th_off (by decide)]; exact a2
    have k1 : F_K_load (nI 3) sc pn s = (nI 1, nI 0, s) := by
      rw [F_K_load, bnd_eq, kil3_p a1 a3 q, if_neg ht]
      dsimp only
      rw [if_pos (show nI 0 = 0 by decide)]
    rw [k1]
    refine alike_fail h ?_ (by decide)
    rw [F_M_load, bnd_eq, if_neg (nI_nneg (by decide)), if_pos q, if_neg (show ¬ nI 5 < nI 3 by decide), bnd_eq, nI_clamp (show 3 < 2 ^ 31 by decide), if_neg (show ¬ (3 : Nat) = 0 by decide), if_neg (show ¬ (3 : Nat) = 1 by decide), if_neg (show ¬ (3 : Nat) = 2 by decide), if_pos (show (3 : Nat) = 3 from rfl), bnd_eq, w1, nI_clamp (show tl < 2 ^ 31 by omega), bnd_eq, mos3]
    dsimp only
    rw [bnd_eq, if_neg ht, bnd_eq, mfail_eq]
theorem load_s3 {tl al pn : Nat} {sc : Int32} {s : Sto} (h : SAME tl al pn s) (q : ¬ sc = 0) : ALIKE (F_K_load (nI 3) sc pn s) (F_M_load (nI 3) sc) := by
  have k1 : F_K_load (nI 3) sc pn s = (nI 1, nI 0, s) := by
    rw [F_K_load, bnd_eq, F_K_isLoadable, bnd_eq, kset_y (by decide)]
    dsimp only
    rw [if_neg (show ¬ nI 1 = 0 by decide), bnd_eq, nI_clamp (show 3 < 2 ^ 31 by decide), if_neg (show ¬ (3 : Nat) = 0 by decide), if_neg (show ¬ (3 : Nat) = 1 by decide), if_neg (show ¬ (3 : Nat) = 2 by decide), if_pos (show (3 : Nat) = 3 from rfl), if_neg q]
    dsimp only
    rw [if_pos (show nI 0 = 0 by decide)]
  rw [k1]
  refine alike_fail h ?_ (by decide)
  rw [F_M_load, bnd_eq, if_neg (nI_nneg (by decide)), if_neg q, if_pos (show nI 2 < nI 3 by decide), bnd_eq, mfail_eq]
theorem kil4_p {tl : Nat} {sc : Int32} {s : Sto} (h : s.1 0 1 = nI tl) (ht : tl ≤ 16384) (q : sc = 0) : F_K_isLoadable (nI 4) sc s = (if tl = 1952 then nI 1 else nI 0, s) := by
  rw [F_K_isLoadable, bnd_eq, kset_y (by decide)]
  dsimp only
  rw [if_neg (show ¬ nI 1 = 0 by decide), bnd_eq, nI_clamp (show 4 < 2 ^ 31 by decide), if_neg (show ¬ (4 : Nat) = 0 by decide), if_neg (show ¬ (4 : Nat) = 1 by decide), if_neg (show ¬ (4 : Nat) = 2 by decide), if_neg (show ¬ (4 : Nat) = 3 by decide), if_pos (show (4 : Nat) = 4 from rfl), if_pos q, bnd_eq, h, nI_clamp (show tl < 2 ^ 31 by omega), bnd_eq, F_K_publicLength_4]
  dsimp only
  rw [bnd_eq]
  by_cases r : tl = 1952
  · rw [if_pos r, if_pos r]
  · rw [if_neg r, if_neg r]
theorem lop4 {pn : Nat} {t : Sto} (hp : pn < 8) (h3 : t.1 148 3 = nI pn) : ∃ t2, F_M_load_L4 1952 0 t = (nI pn, sI (sI (sI (sI t2 170 pn (nI 4)) 171 pn (nI 0)) 148 3 (nI (pn + 1))) 148 1 (nI 0)) ∧ onl (153 + pn) t t2 ∧ ∀ k, k < 1952 → t2.1 (153 + pn) k = vp_nar .byte (t.1 149 k) := by
  obtain ⟨t2, a, b, c, -⟩ := cpM (pn := pn) (b := 153) (fr := 0) (G := F_M_load_L4) (by omega) (by omega) (fun n i s hs => by
    rw [F_M_load_L4, bnd_eq, mos4]
    dsimp only
    rw [bnd_eq, bnd_eq, hs, nI_clamp (show pn < 2 ^ 31 by omega), bnd_eq]) 1952 0 t h3
  refine ⟨t2, ?_, b, fun k hk => ?_⟩
  · rw [a, F_M_load_L4, bnd_eq, mos4]
    dsimp only
    rw [bnd_eq, bnd_eq, mmade_eq (by rw [b.1 148 (by omega)]; exact h3) hp]
  · have := c k (Nat.zero_le _) (by omega)
    rw [Nat.zero_add] at this
    exact this
theorem load_core4 {tl al pn : Nat} {s s' : Sto} (h : SAME tl al pn s) (hN : NB s) (ht : tl = 1952) (hp : pn < 8) (o : ∀ k, (k < 14 ∨ 148 ≤ k) → s'.1 k = s.1 k) :
    ∀ s1, s1 = sI (sI (sI (F_AR_copyOf 1952 (379 + 36 * pn + 31) s') 0 1 (nI 0)) 3 pn (nI (10 + 1))) 0 5 (nI (pn + 1)) → (∀ k, (148 ≤ k ∧ k < 379) → s1.1 k = s.1 k) ∧ ∃ T, F_M_load_L4 1952 0 (sI s1 148 0 (nI 0)) = (nI pn, T) ∧ SAME 0 al (pn + 1) T ∧ T.1 148 0 = nI 0 := by
  intro s1 hs
  obtain ⟨⟨a1, a2, a3⟩, ⟨b1, b2, b3⟩, ⟨c1, c2, c3⟩, d, e, f⟩ := id h
  obtain ⟨u1, u2⟩ := kcopy_at (s := s') (nl := 1952) (nk := 379 + 36 * pn + 31) (by decide) (by omega)
  generalize F_AR_copyOf 1952 (379 + 36 * pn + 31) s' = sB_ at u1 u2 hs
  have f1 : ∀ k, (148 ≤ k ∧ k < 379) → s1.1 k = s.1 k := fun k u => by rw [hs, th_ne (by omega), th_ne (by omega), th_ne (by omega), u1 k (by omega), o k (by omega)]
  have h3 : (sI s1 148 0 (nI 0)).1 148 3 = nI pn := by rw [th_off (by decide), f1 148 (by omega)]; exact c2
  obtain ⟨t2, g1, g2, g3⟩ := lop4 hp h3
  refine ⟨f1, _, g1, ?_⟩
  refine keys_core (c := 10) (st := 4) (hb := 0) (sB_ := sB_) (t2 := t2) h hp (by decide) (by decide) (by decide) (fun k u v w => by rw [u1 k v, o k u]) (fun k u v w => by rw [← hs]; exact g2.1 k v) (fun x hx => ?_) (fun q => absurd q (by decide)) (fun q => absurd q (by decide))
  have hx : x < 1952 := hx
  rw [u2 x hx, o 1 (by omega), g3 x hx, th_ne (by decide), f1 149 (by omega), show vp_nar .byte (s.1 149 x) = s.1 149 x from hN.1 x (by omega)]
  exact d x (by omega)
theorem load_p4 {tl al pn : Nat} {sc : Int32} {s : Sto} (h : SAME tl al pn s) (hN : NB s) (q : sc = 0) : ALIKE (F_K_load (nI 4) sc pn s) (F_M_load (nI 4) sc) := by
  obtain ⟨⟨a1, a2, a3⟩, ⟨b1, b2, b3⟩, ⟨c1, c2, c3⟩, d, e, f⟩ := id h
  by_cases ht : tl = 1952
  · have k0 : F_K_load (nI 4) sc pn s = bnd ((s.1 0 5).toNatClampNeg) fun z => if z < 8 then bnd ((s.1 0 1).toNatClampNeg) fun z1 => bnd (F_AR_copyOf z1 (379 + 36 * pn + 31) s) fun s1 => bnd (sI s1 0 1 (nI 0)) fun s2 => bnd (F_K_keep 10 s2) fun q => (nI 0, q.1, q.2) else (nI 3, nI 0, s) := by
      rw [F_K_load, bnd_eq, kil4_p a1 a3 q, if_pos ht]
      dsimp only
      rw [if_neg (show ¬ nI 1 = 0 by decide), bnd_eq, nI_clamp (show 4 < 2 ^ 31 by decide), if_pos q, if_neg (show ¬ (4 : Nat) = 0 by decide), if_neg (show ¬ (4 : Nat) = 1 by decide), if_neg (show ¬ (4 : Nat) = 2 by decide), if_neg (show ¬ (4 : Nat) = 3 by decide), if_pos (show (4 : Nat) = 4 from rfl)]
    have m0 : ∀ t : Sto, t.1 148 = s.1 148 → F_M_load (nI 4) sc t = if pn = 8 then (nI 0, sI (sI t 148 0 (nI 0)) 148 0 (nI 3)) else F_M_load_L4 1952 0 (sI t 148 0 (nI 0)) := fun t y1 => by
      have w1 : (sI t 148 0 (nI 0)).1 148 1 = nI 1952 := by rw [th_off (by decide), y1, ← ht]; exact a2
      have w3 : (sI t 148 0 (nI 0)).1 148 3 = nI pn := by rw [th_off (by decide), y1]; exact c2
      rw [F_M_load, bnd_eq, if_neg (nI_nneg (by decide)), if_pos q, if_neg (show ¬ nI 5 < nI 4 by decide), bnd_eq, nI_clamp (show 4 < 2 ^ 31 by decide), if_neg (show ¬ (4 : Nat) = 0 by decide), if_neg (show ¬ (4 : Nat) = 1 by decide), if_neg (show ¬ (4 : Nat) = 2 by decide), if_neg (show ¬ (4 : Nat) = 3 by decide), if_pos (show (4 : Nat) = 4 from rfl)]
      generalize sI t 148 0 (nI 0) = t1 at w1 w3 ⊢
      rw [bnd_eq, w1, nI_clamp (show 1952 < 2 ^ 31 by decide), bnd_eq, mos4]
      dsimp only
      rw [bnd_eq, if_pos (show (1952 : Nat) = 1952 from rfl), bnd_eq, w3, nI_clamp (show pn < 2 ^ 31 by omega)]
      by_cases r8 : pn = 8
      · rw [if_pos r8, if_pos r8, bnd_eq, mfail_eq]
      · rw [if_neg r8, if_neg r8]
    have o : ∀ k, (k < 14 ∨ 148 ≤ k) → s.1 k = s.1 k := fun _ _ => rfl
    rw [bnd_eq, c1, nI_clamp (show pn < 2 ^ 31 by omega)] at k0
    by_cases r8 : pn = 8
    · rw [if_neg (by omega)] at k0
      rw [k0]
      refine alike_fail h ?_ (by decide)
      rw [m0 s rfl, if_pos r8]
    · have hp : pn < 8 := by omega
      rw [if_pos hp, bnd_eq, a1, nI_clamp (show tl < 2 ^ 31 by omega), bnd_eq, bnd_eq, bnd_eq, kkeep_eq (pn := pn) (by rw [th_off (by decide), (kcopy_at (s := s) (nl := tl) (nk := 379 + 36 * pn + 31) (by omega) (by omega)).1 0 (by omega)]; exact c1) hp, ht] at k0
      obtain ⟨s1, hs1⟩ : ∃ x, x = sI (sI (sI (F_AR_copyOf 1952 (379 + 36 * pn + 31) s) 0 1 (nI 0)) 3 pn (nI (10 + 1))) 0 5 (nI (pn + 1)) := ⟨_, rfl⟩
      obtain ⟨f1, T, g1, g2, g3⟩ := load_core4 h hN ht hp o s1 hs1
      rw [k0]
      unfold ALIKE
      dsimp only
      rw [← hs1, m0 s1 (f1 148 (by omega)), if_neg r8, g1]
      exact ⟨⟨0, al, pn + 1, g2⟩, g3, fun _ => rfl⟩
  · have w1 : (sI s 148 0 (nI 0)).1 148 1 = nI tl := by rw [th_off (by decide)]; exact a2
    have k1 : F_K_load (nI 4) sc pn s = (nI 1, nI 0, s) := by
      rw [F_K_load, bnd_eq, kil4_p a1 a3 q, if_neg ht]
      dsimp only
      rw [if_pos (show nI 0 = 0 by decide)]
    rw [k1]
    refine alike_fail h ?_ (by decide)
    rw [F_M_load, bnd_eq, if_neg (nI_nneg (by decide)), if_pos q, if_neg (show ¬ nI 5 < nI 4 by decide), bnd_eq, nI_clamp (show 4 < 2 ^ 31 by decide), if_neg (show ¬ (4 : Nat) = 0 by decide), if_neg (show ¬ (4 : Nat) = 1 by decide), if_neg (show ¬ (4 : Nat) = 2 by decide), if_neg (show ¬ (4 : Nat) = 3 by decide), if_pos (show (4 : Nat) = 4 from rfl), bnd_eq, w1, nI_clamp (show tl < 2 ^ 31 by omega), bnd_eq, mos4]
    dsimp only
    rw [bnd_eq, if_neg ht, bnd_eq, mfail_eq]
theorem load_s4 {tl al pn : Nat} {sc : Int32} {s : Sto} (h : SAME tl al pn s) (q : ¬ sc = 0) : ALIKE (F_K_load (nI 4) sc pn s) (F_M_load (nI 4) sc) := by
  have k1 : F_K_load (nI 4) sc pn s = (nI 1, nI 0, s) := by
    rw [F_K_load, bnd_eq, F_K_isLoadable, bnd_eq, kset_y (by decide)]
    dsimp only
    rw [if_neg (show ¬ nI 1 = 0 by decide), bnd_eq, nI_clamp (show 4 < 2 ^ 31 by decide), if_neg (show ¬ (4 : Nat) = 0 by decide), if_neg (show ¬ (4 : Nat) = 1 by decide), if_neg (show ¬ (4 : Nat) = 2 by decide), if_neg (show ¬ (4 : Nat) = 3 by decide), if_pos (show (4 : Nat) = 4 from rfl), if_neg q]
    dsimp only
    rw [if_pos (show nI 0 = 0 by decide)]
  rw [k1]
  refine alike_fail h ?_ (by decide)
  rw [F_M_load, bnd_eq, if_neg (nI_nneg (by decide)), if_neg q, if_pos (show nI 2 < nI 4 by decide), bnd_eq, mfail_eq]
theorem kil5_p {tl : Nat} {sc : Int32} {s : Sto} (h : s.1 0 1 = nI tl) (ht : tl ≤ 16384) (q : sc = 0) : F_K_isLoadable (nI 5) sc s = (if tl = 2592 then nI 1 else nI 0, s) := by
  rw [F_K_isLoadable, bnd_eq, kset_y (by decide)]
  dsimp only
  rw [if_neg (show ¬ nI 1 = 0 by decide), bnd_eq, nI_clamp (show 5 < 2 ^ 31 by decide), if_neg (show ¬ (5 : Nat) = 0 by decide), if_neg (show ¬ (5 : Nat) = 1 by decide), if_neg (show ¬ (5 : Nat) = 2 by decide), if_neg (show ¬ (5 : Nat) = 3 by decide), if_neg (show ¬ (5 : Nat) = 4 by decide), if_pos q, bnd_eq, h, nI_clamp (show tl < 2 ^ 31 by omega), bnd_eq, F_K_publicLength_5]
  dsimp only
  rw [bnd_eq]
  by_cases r : tl = 2592
  · rw [if_pos r, if_pos r]
  · rw [if_neg r, if_neg r]
theorem lop5 {pn : Nat} {t : Sto} (hp : pn < 8) (h3 : t.1 148 3 = nI pn) : ∃ t2, F_M_load_L5 2592 0 t = (nI pn, sI (sI (sI (sI t2 170 pn (nI 5)) 171 pn (nI 0)) 148 3 (nI (pn + 1))) 148 1 (nI 0)) ∧ onl (153 + pn) t t2 ∧ ∀ k, k < 2592 → t2.1 (153 + pn) k = vp_nar .byte (t.1 149 k) := by
  obtain ⟨t2, a, b, c, -⟩ := cpM (pn := pn) (b := 153) (fr := 0) (G := F_M_load_L5) (by omega) (by omega) (fun n i s hs => by
    rw [F_M_load_L5, bnd_eq, mos5]
    dsimp only
    rw [bnd_eq, bnd_eq, hs, nI_clamp (show pn < 2 ^ 31 by omega), bnd_eq]) 2592 0 t h3
  refine ⟨t2, ?_, b, fun k hk => ?_⟩
  · rw [a, F_M_load_L5, bnd_eq, mos5]
    dsimp only
    rw [bnd_eq, bnd_eq, mmade_eq (by rw [b.1 148 (by omega)]; exact h3) hp]
  · have := c k (Nat.zero_le _) (by omega)
    rw [Nat.zero_add] at this
    exact this
theorem load_core5 {tl al pn : Nat} {s s' : Sto} (h : SAME tl al pn s) (hN : NB s) (ht : tl = 2592) (hp : pn < 8) (o : ∀ k, (k < 14 ∨ 148 ≤ k) → s'.1 k = s.1 k) :
    ∀ s1, s1 = sI (sI (sI (F_AR_copyOf 2592 (379 + 36 * pn + 34) s') 0 1 (nI 0)) 3 pn (nI (11 + 1))) 0 5 (nI (pn + 1)) → (∀ k, (148 ≤ k ∧ k < 379) → s1.1 k = s.1 k) ∧ ∃ T, F_M_load_L5 2592 0 (sI s1 148 0 (nI 0)) = (nI pn, T) ∧ SAME 0 al (pn + 1) T ∧ T.1 148 0 = nI 0 := by
  intro s1 hs
  obtain ⟨⟨a1, a2, a3⟩, ⟨b1, b2, b3⟩, ⟨c1, c2, c3⟩, d, e, f⟩ := id h
  obtain ⟨u1, u2⟩ := kcopy_at (s := s') (nl := 2592) (nk := 379 + 36 * pn + 34) (by decide) (by omega)
  generalize F_AR_copyOf 2592 (379 + 36 * pn + 34) s' = sB_ at u1 u2 hs
  have f1 : ∀ k, (148 ≤ k ∧ k < 379) → s1.1 k = s.1 k := fun k u => by rw [hs, th_ne (by omega), th_ne (by omega), th_ne (by omega), u1 k (by omega), o k (by omega)]
  have h3 : (sI s1 148 0 (nI 0)).1 148 3 = nI pn := by rw [th_off (by decide), f1 148 (by omega)]; exact c2
  obtain ⟨t2, g1, g2, g3⟩ := lop5 hp h3
  refine ⟨f1, _, g1, ?_⟩
  refine keys_core (c := 11) (st := 5) (hb := 0) (sB_ := sB_) (t2 := t2) h hp (by decide) (by decide) (by decide) (fun k u v w => by rw [u1 k v, o k u]) (fun k u v w => by rw [← hs]; exact g2.1 k v) (fun x hx => ?_) (fun q => absurd q (by decide)) (fun q => absurd q (by decide))
  have hx : x < 2592 := hx
  rw [u2 x hx, o 1 (by omega), g3 x hx, th_ne (by decide), f1 149 (by omega), show vp_nar .byte (s.1 149 x) = s.1 149 x from hN.1 x (by omega)]
  exact d x (by omega)
theorem load_p5 {tl al pn : Nat} {sc : Int32} {s : Sto} (h : SAME tl al pn s) (hN : NB s) (q : sc = 0) : ALIKE (F_K_load (nI 5) sc pn s) (F_M_load (nI 5) sc) := by
  obtain ⟨⟨a1, a2, a3⟩, ⟨b1, b2, b3⟩, ⟨c1, c2, c3⟩, d, e, f⟩ := id h
  by_cases ht : tl = 2592
  · have k0 : F_K_load (nI 5) sc pn s = bnd ((s.1 0 5).toNatClampNeg) fun z => if z < 8 then bnd ((s.1 0 1).toNatClampNeg) fun z1 => bnd (F_AR_copyOf z1 (379 + 36 * pn + 34) s) fun s1 => bnd (sI s1 0 1 (nI 0)) fun s2 => bnd (F_K_keep 11 s2) fun q => (nI 0, q.1, q.2) else (nI 3, nI 0, s) := by
      rw [F_K_load, bnd_eq, kil5_p a1 a3 q, if_pos ht]
      dsimp only
      rw [if_neg (show ¬ nI 1 = 0 by decide), bnd_eq, nI_clamp (show 5 < 2 ^ 31 by decide), if_pos q, if_neg (show ¬ (5 : Nat) = 0 by decide), if_neg (show ¬ (5 : Nat) = 1 by decide), if_neg (show ¬ (5 : Nat) = 2 by decide), if_neg (show ¬ (5 : Nat) = 3 by decide), if_neg (show ¬ (5 : Nat) = 4 by decide)]
    have m0 : ∀ t : Sto, t.1 148 = s.1 148 → F_M_load (nI 5) sc t = if pn = 8 then (nI 0, sI (sI t 148 0 (nI 0)) 148 0 (nI 3)) else F_M_load_L5 2592 0 (sI t 148 0 (nI 0)) := fun t y1 => by
      have w1 : (sI t 148 0 (nI 0)).1 148 1 = nI 2592 := by rw [th_off (by decide), y1, ← ht]; exact a2
      have w3 : (sI t 148 0 (nI 0)).1 148 3 = nI pn := by rw [th_off (by decide), y1]; exact c2
      rw [F_M_load, bnd_eq, if_neg (nI_nneg (by decide)), if_pos q, if_neg (show ¬ nI 5 < nI 5 by decide), bnd_eq, nI_clamp (show 5 < 2 ^ 31 by decide), if_neg (show ¬ (5 : Nat) = 0 by decide), if_neg (show ¬ (5 : Nat) = 1 by decide), if_neg (show ¬ (5 : Nat) = 2 by decide), if_neg (show ¬ (5 : Nat) = 3 by decide), if_neg (show ¬ (5 : Nat) = 4 by decide)]
      generalize sI t 148 0 (nI 0) = t1 at w1 w3 ⊢
      rw [bnd_eq, w1, nI_clamp (show 2592 < 2 ^ 31 by decide), bnd_eq, mos5]
      dsimp only
      rw [bnd_eq, if_pos (show (2592 : Nat) = 2592 from rfl), bnd_eq, w3, nI_clamp (show pn < 2 ^ 31 by omega)]
      by_cases r8 : pn = 8
      · rw [if_pos r8, if_pos r8, bnd_eq, mfail_eq]
      · rw [if_neg r8, if_neg r8]
    have o : ∀ k, (k < 14 ∨ 148 ≤ k) → s.1 k = s.1 k := fun _ _ => rfl
    rw [bnd_eq, c1, nI_clamp (show pn < 2 ^ 31 by omega)] at k0
    by_cases r8 : pn = 8
    · rw [if_neg (by omega)] at k0
      rw [k0]
      refine alike_fail h ?_ (by decide)
      rw [m0 s rfl, if_pos r8]
    · have hp : pn < 8 := by omega
      rw [if_pos hp, bnd_eq, a1, nI_clamp (show tl < 2 ^ 31 by omega), bnd_eq, bnd_eq, bnd_eq, kkeep_eq (pn := pn) (by rw [th_off (by decide), (kcopy_at (s := s) (nl := tl) (nk := 379 + 36 * pn + 34) (by omega) (by omega)).1 0 (by omega)]; exact c1) hp, ht] at k0
      obtain ⟨s1, hs1⟩ : ∃ x, x = sI (sI (sI (F_AR_copyOf 2592 (379 + 36 * pn + 34) s) 0 1 (nI 0)) 3 pn (nI (11 + 1))) 0 5 (nI (pn + 1)) := ⟨_, rfl⟩
      obtain ⟨f1, T, g1, g2, g3⟩ := load_core5 h hN ht hp o s1 hs1
      rw [k0]
      unfold ALIKE
      dsimp only
      rw [← hs1, m0 s1 (f1 148 (by omega)), if_neg r8, g1]
      exact ⟨⟨0, al, pn + 1, g2⟩, g3, fun _ => rfl⟩
  · have w1 : (sI s 148 0 (nI 0)).1 148 1 = nI tl := by rw [th_off (by decide)]; exact a2
    have k1 : F_K_load (nI 5) sc pn s = (nI 1, nI 0, s) := by
      rw [F_K_load, bnd_eq, kil5_p a1 a3 q, if_neg ht]
      dsimp only
      rw [if_pos (show nI 0 = 0 by decide)]
    rw [k1]
    refine alike_fail h ?_ (by decide)
    rw [F_M_load, bnd_eq, if_neg (nI_nneg (by decide)), if_pos q, if_neg (show ¬ nI 5 < nI 5 by decide), bnd_eq, nI_clamp (show 5 < 2 ^ 31 by decide), if_neg (show ¬ (5 : Nat) = 0 by decide), if_neg (show ¬ (5 : Nat) = 1 by decide), if_neg (show ¬ (5 : Nat) = 2 by decide), if_neg (show ¬ (5 : Nat) = 3 by decide), if_neg (show ¬ (5 : Nat) = 4 by decide), bnd_eq, w1, nI_clamp (show tl < 2 ^ 31 by omega), bnd_eq, mos5]
    dsimp only
    rw [bnd_eq, if_neg ht, bnd_eq, mfail_eq]
theorem load_s5 {tl al pn : Nat} {sc : Int32} {s : Sto} (h : SAME tl al pn s) (q : ¬ sc = 0) : ALIKE (F_K_load (nI 5) sc pn s) (F_M_load (nI 5) sc) := by
  have k1 : F_K_load (nI 5) sc pn s = (nI 1, nI 0, s) := by
    rw [F_K_load, bnd_eq, F_K_isLoadable, bnd_eq, kset_y (by decide)]
    dsimp only
    rw [if_neg (show ¬ nI 1 = 0 by decide), bnd_eq, nI_clamp (show 5 < 2 ^ 31 by decide), if_neg (show ¬ (5 : Nat) = 0 by decide), if_neg (show ¬ (5 : Nat) = 1 by decide), if_neg (show ¬ (5 : Nat) = 2 by decide), if_neg (show ¬ (5 : Nat) = 3 by decide), if_neg (show ¬ (5 : Nat) = 4 by decide), if_neg q]
    dsimp only
    rw [if_pos (show nI 0 = 0 by decide)]
  rw [k1]
  refine alike_fail h ?_ (by decide)
  rw [F_M_load, bnd_eq, if_neg (nI_nneg (by decide)), if_neg q, if_pos (show nI 2 < nI 5 by decide), bnd_eq, mfail_eq]
theorem kil0_s {tl : Nat} {sc : Int32} {s : Sto} (h : s.1 0 1 = nI tl) (ht : tl ≤ 16384) (q : ¬ sc = 0) : F_K_isLoadable (nI 0) sc s = (if tl = 1632 then nI 1 else nI 0, s) := by
  rw [F_K_isLoadable, bnd_eq, kset_y (by decide)]
  dsimp only
  rw [if_neg (show ¬ nI 1 = 0 by decide), bnd_eq, nI_clamp (show 0 < 2 ^ 31 by decide), if_pos (show (0 : Nat) = 0 from rfl), if_neg q, bnd_eq, h, nI_clamp (show tl < 2 ^ 31 by omega), bnd_eq, F_K_secretLength_0]
  dsimp only
  rw [bnd_eq]
  by_cases r : tl = 1632
  · rw [if_pos r, if_pos r]
  · rw [if_neg r, if_neg r]
theorem mhs0 {s : Sto} : F_M_hiddenSize_0 s = (nI 1632, s) := by rw [F_M_hiddenSize_0, bnd_eq, F_ME_hiddenSize_0, bnd_eq]
theorem los0 {pn : Nat} {t : Sto} (hp : pn < 8) (h3 : t.1 148 3 = nI pn) (h1 : t.1 148 1 = nI 1632) : ∃ t3, F_M_load_L6 800 0 t = (nI pn, sI (sI (sI (sI t3 170 pn (nI 0)) 171 pn (nI 1632)) 148 3 (nI (pn + 1))) 148 1 (nI 0)) ∧ (∀ k, k ≠ 153 + pn → k ≠ 162 + pn → t3.1 k = t.1 k) ∧ (∀ k, k < 800 → t3.1 (153 + pn) k = vp_nar .byte (t.1 149 (768 + k))) ∧ ∀ k, k < 1632 → t3.1 (162 + pn) k = vp_nar .byte (t.1 149 k) := by
  obtain ⟨t2, a, b, c, -⟩ := cpM (pn := pn) (b := 153) (fr := 768) (G := F_M_load_L6) (by omega) (by omega) (fun n i s hs => by
    rw [F_M_load_L6, bnd_eq, mos0]
    dsimp only
    rw [bnd_eq, bnd_eq, hs, nI_clamp (show pn < 2 ^ 31 by omega), bnd_eq]) 800 0 t h3
  have b3 : t2.1 148 = t.1 148 := b.1 148 (by omega)
  obtain ⟨t3, a', b', c', -⟩ := cpM (pn := pn) (b := 162) (fr := 0) (G := F_M_load_L7) (by omega) (by omega) (fun n i s hs => by
    rw [F_M_load_L7, bnd_eq, bnd_eq, hs, nI_clamp (show pn < 2 ^ 31 by omega), bnd_eq, Nat.zero_add]) 1632 0 t2 (by rw [b3]; exact h3)
  have b4 : t3.1 148 = t.1 148 := (b'.1 148 (by omega)).trans b3
  refine ⟨t3, ?_, fun k u v => (b'.1 k v).trans (b.1 k u), fun k hk => ?_, fun k hk => ?_⟩
  · rw [a, F_M_load_L6, bnd_eq, mos0]
    dsimp only
    rw [bnd_eq, a', F_M_load_L7, bnd_eq, bnd_eq, b4, h1, nI_clamp (show 1632 < 2 ^ 31 by decide), bnd_eq, mmade_eq (by rw [b4]; exact h3) hp]
  · rw [b'.1 (153 + pn) (by omega)]
    exact c k (Nat.zero_le _) (by omega)
  · have := c' k (Nat.zero_le _) (by omega)
    rw [Nat.zero_add, b.1 149 (by omega)] at this
    exact this
theorem ksf0 {pn : Nat} {s : Sto} (hp : pn < 8) (h : s.1 0 1 = nI 1632) : (∀ k, k ≠ 379 + 36 * pn + 1 → k ≠ 379 + 36 * pn + 2 → (F_K_secretFromTape_0 pn s).1 k = s.1 k) ∧ (∀ x, x < 800 → (F_K_secretFromTape_0 pn s).1 (379 + 36 * pn + 1) x = s.1 1 (768 + x)) ∧ ∀ x, x < 1632 → (F_K_secretFromTape_0 pn s).1 (379 + 36 * pn + 2) x = s.1 1 x := by
  obtain ⟨u1, u2⟩ := krange_at (s := s) (fr := 768) (to := 1568) (nk := 379 + 36 * pn + 1) (by decide) (by omega)
  obtain ⟨v1, v2⟩ := kcopy_at (s := F_AR_copyOfRange 768 1568 (379 + 36 * pn + 1) s) (nl := 1632) (nk := 379 + 36 * pn + 2) (by decide) (by omega)
  have hU : F_K_secretFromTape_0 pn s = F_AR_copyOf 1632 (379 + 36 * pn + 2) (F_AR_copyOfRange 768 1568 (379 + 36 * pn + 1) s) := by
    rw [F_K_secretFromTape_0, bnd_eq, F_K_publicLength_0]
    dsimp only
    rw [bnd_eq, bnd_eq, bnd_eq, u1 0 (by omega), h, nI_clamp (show 1632 < 2 ^ 31 by decide), bnd_eq]
  rw [hU]
  refine ⟨fun k u v => by rw [v1 k v, u1 k u], fun x hx => ?_, fun x hx => ?_⟩
  · rw [v1 (379 + 36 * pn + 1) (by omega)]
    exact u2 x hx
  · rw [v2 x hx, u1 1 (by omega)]
set_option maxRecDepth 100000 in
theorem load_s0 {tl al pn : Nat} {sc : Int32} {s : Sto} (h : SAME tl al pn s) (hN : NB s) (q : ¬ sc = 0) : ALIKE (F_K_load (nI 0) sc pn s) (F_M_load (nI 0) sc) := by
  obtain ⟨⟨a1, a2, a3⟩, ⟨b1, b2, b3⟩, ⟨c1, c2, c3⟩, d, e, f⟩ := id h
  by_cases ht : tl = 1632
  · have gH := fun (t : Sto) (hq : ∀ j, j < 1632 → t.1 149 j = s.1 149 j) => hash0_fits (psk := 1) (n := 16384) (pdk := 149) (s := s) (t := t) (by decide) (by decide) (by decide) (by decide) (fun j hj => by rw [hq j hj]; exact d j (by omega))
    have oS := (gH s (fun _ _ => rfl)).1
    have gO := fun (t : Sto) (hq : ∀ j, j < 1632 → t.1 149 j = s.1 149 j) => (gH t hq).2
    have hsn : F_K_isSound_0 sc s = ((F_KM_hashFits_0 1 16384 s).1, (F_KM_hashFits_0 1 16384 s).2) := by rw [F_K_isSound_0, if_neg q, bnd_eq]
    have k0 : F_K_load (nI 0) sc pn s = if (F_KM_hashFits_0 1 16384 s).1 = 0 then (nI 2, nI 0, (F_KM_hashFits_0 1 16384 s).2) else bnd (((F_KM_hashFits_0 1 16384 s).2.1 0 5).toNatClampNeg) fun z => if z < 8 then bnd (F_K_secretFromTape_0 pn (F_KM_hashFits_0 1 16384 s).2) fun s1 => bnd (sI s1 0 1 (nI 0)) fun s2 => bnd (F_K_keep 0 s2) fun q => (nI 0, q.1, q.2) else (nI 3, nI 0, (F_KM_hashFits_0 1 16384 s).2) := by
      rw [F_K_load, bnd_eq, kil0_s a1 a3 q, if_pos ht]
      dsimp only
      rw [if_neg (show ¬ nI 1 = 0 by decide), bnd_eq, nI_clamp (show 0 < 2 ^ 31 by decide), if_neg q, if_pos (show (0 : Nat) = 0 from rfl), bnd_eq, hsn]
    have m0 : ∀ t : Sto, t.1 148 = s.1 148 → t.1 149 = s.1 149 → ∃ t' : Sto, (∀ k, k ≠ 172 → k ≠ 222 → t'.1 k = (sI t 148 0 (nI 0)).1 k) ∧ F_M_load (nI 0) sc t = if (F_KM_hashFits_0 1 16384 s).1 = 0 then (nI 0, sI t' 148 0 (nI 2)) else if pn = 8 then (nI 0, sI t' 148 0 (nI 3)) else F_M_load_L6 800 0 t' := fun t y1 y2 => by
      have w1 : (sI t 148 0 (nI 0)).1 148 1 = nI 1632 := by rw [th_off (by decide), y1, ← ht]; exact a2
      have w3 : (sI t 148 0 (nI 0)).1 148 3 = nI pn := by rw [th_off (by decide), y1]; exact c2
      obtain ⟨wT, wV⟩ := gO (sI t 148 0 (nI 0)) (fun j _ => by rw [th_ne (by decide), y2])
      rw [F_M_load, bnd_eq, if_neg (nI_nneg (by decide)), if_neg q, if_neg (show ¬ nI 2 < nI 0 by decide), bnd_eq, nI_clamp (show 0 < 2 ^ 31 by decide), if_pos (show (0 : Nat) = 0 from rfl)]
      generalize sI t 148 0 (nI 0) = t1 at w1 w3 wT wV ⊢
      rw [bnd_eq, w1, nI_clamp (show 1632 < 2 ^ 31 by decide), bnd_eq, mhs0]
      dsimp only
      rw [bnd_eq, if_pos (show (1632 : Nat) = 1632 from rfl), bnd_eq, ← wV]
      have w3' : (F_ME_goodHidden_0 149 t1).2.1 148 3 = nI pn := by rw [wT 148 (by decide) (by decide)]; exact w3
      generalize (F_ME_goodHidden_0 149 t1).2 = t' at wT w3' ⊢
      refine ⟨t', wT, ?_⟩
      by_cases r : (F_KM_hashFits_0 1 16384 s).1 = 0
      · rw [if_pos r, if_pos r, bnd_eq, mfail_eq]
      · rw [if_neg r, if_neg r, bnd_eq, w3', nI_clamp (show pn < 2 ^ 31 by omega)]
        by_cases r8 : pn = 8
        · rw [if_pos r8, if_pos r8, bnd_eq, mfail_eq]
        · rw [if_neg r8, if_neg r8, bnd_eq, mos0]
          dsimp only
          rw [bnd_eq]
    generalize F_KM_hashFits_0 1 16384 s = b at k0 m0 oS
    obtain ⟨b, s'⟩ := b
    dsimp only at k0 m0 oS
    have o : ∀ k, (k < 14 ∨ 148 ≤ k) → s'.1 k = s.1 k := fun k u => oS k (by omega) (by omega)
    have hS := SAME_scr h (fun k u => o k (by omega))
    by_cases r : b = 0
    · rw [if_pos r] at k0
      obtain ⟨t', y1, y2⟩ := m0 s' (o 148 (by omega)) (o 149 (by omega))
      rw [if_pos r] at y2
      rw [k0]
      exact alike_fail2 (SAME_scr (SAME_onlM hS onlM1) (fun k u => y1 k (by omega) (by omega))) y2 (by decide)
    · rw [if_neg r, bnd_eq, o 0 (by omega), c1, nI_clamp (show pn < 2 ^ 31 by omega)] at k0
      by_cases r8 : pn = 8
      · rw [if_neg (by omega)] at k0
        obtain ⟨t', y1, y2⟩ := m0 s' (o 148 (by omega)) (o 149 (by omega))
        rw [if_neg r, if_pos r8] at y2
        rw [k0]
        exact alike_fail2 (SAME_scr (SAME_onlM hS onlM1) (fun k u => y1 k (by omega) (by omega))) y2 (by decide)
      · have hp : pn < 8 := by omega
        obtain ⟨x1, x2, x3⟩ := ksf0 (s := s') hp (by rw [o 0 (by omega), ← ht]; exact a1)
        rw [if_pos hp, bnd_eq, bnd_eq, bnd_eq, kkeep_eq (pn := pn) (by rw [th_off (by decide), x1 0 (by omega) (by omega), o 0 (by omega)]; exact c1) hp] at k0
        generalize F_K_secretFromTape_0 pn s' = sB_ at x1 x2 x3 k0
        obtain ⟨s1, hs1⟩ : ∃ x, x = sI (sI (sI sB_ 0 1 (nI 0)) 3 pn (nI (0 + 1))) 0 5 (nI (pn + 1)) := ⟨_, rfl⟩
        have f1 : ∀ k, (148 ≤ k ∧ k < 379) → s1.1 k = s.1 k := fun k u => by rw [hs1, th_ne (by omega), th_ne (by omega), th_ne (by omega), x1 k (by omega) (by omega), o k (by omega)]
        obtain ⟨t', y1, y2⟩ := m0 s1 (f1 148 (by omega)) (f1 149 (by omega))
        rw [if_neg r, if_neg r8] at y2
        have tM : t'.1 148 = (sI s1 148 0 (nI 0)).1 148 := y1 148 (by decide) (by decide)
        have tT : t'.1 149 = s.1 149 := by rw [y1 149 (by decide) (by decide), th_ne (by decide), f1 149 (by omega)]
        obtain ⟨t3, g1, g2, g3, g4⟩ := los0 (t := t') hp (by rw [tM, th_off (by decide), f1 148 (by omega)]; exact c2) (by rw [tM, th_off (by decide), f1 148 (by omega), ← ht]; exact a2)
        obtain ⟨z1, z2⟩ := keys_core (c := 0) (st := 0) (hb := 1632) (sB_ := sB_) (t2 := t3) h hp (by decide) (by decide) (by decide) (fun k u v w => by rw [x1 k v w, o k u]) (fun k u v w => by rw [← hs1, g2 k v w]; exact y1 k (by omega) (by omega)) (fun x hx => by
            have hx : x < 800 := hx
            rw [x2 x hx, o 1 (by omega), g3 x hx, tT, show vp_nar .byte (s.1 149 (768 + x)) = s.1 149 (768 + x) from hN.1 _ (by omega)]
            exact d _ (by omega)) (fun _ x hx => by
            have hx : x < 1632 := hx
            rw [x3 x hx, o 1 (by omega), g4 x hx, tT, show vp_nar .byte (s.1 149 x) = s.1 149 x from hN.1 _ (by omega)]
            exact d _ (by omega)) (fun _ x hx => by
            have hx : x < 800 := hx
            rw [g3 x hx]
            exact (g4 (768 + x) (by omega)).symm)
        rw [k0]
        unfold ALIKE
        dsimp only
        rw [← hs1, y2, g1]
        exact ⟨⟨0, al, pn + 1, z1⟩, z2, fun _ => rfl⟩
  · have w1 : (sI s 148 0 (nI 0)).1 148 1 = nI tl := by rw [th_off (by decide)]; exact a2
    have k1 : F_K_load (nI 0) sc pn s = (nI 1, nI 0, s) := by
      rw [F_K_load, bnd_eq, kil0_s a1 a3 q, if_neg ht]
      dsimp only
      rw [if_pos (show nI 0 = 0 by decide)]
    rw [k1]
    refine alike_fail h ?_ (by decide)
    rw [F_M_load, bnd_eq, if_neg (nI_nneg (by decide)), if_neg q, if_neg (show ¬ nI 2 < nI 0 by decide), bnd_eq, nI_clamp (show 0 < 2 ^ 31 by decide), if_pos (show (0 : Nat) = 0 from rfl), bnd_eq, w1, nI_clamp (show tl < 2 ^ 31 by omega), bnd_eq, mhs0]
    dsimp only
    rw [bnd_eq, if_neg ht, bnd_eq, mfail_eq]
theorem kil1_s {tl : Nat} {sc : Int32} {s : Sto} (h : s.1 0 1 = nI tl) (ht : tl ≤ 16384) (q : ¬ sc = 0) : F_K_isLoadable (nI 1) sc s = (if tl = 2400 then nI 1 else nI 0, s) := by
  rw [F_K_isLoadable, bnd_eq, kset_y (by decide)]
  dsimp only
  rw [if_neg (show ¬ nI 1 = 0 by decide), bnd_eq, nI_clamp (show 1 < 2 ^ 31 by decide), if_neg (show ¬ (1 : Nat) = 0 by decide), if_pos (show (1 : Nat) = 1 from rfl), if_neg q, bnd_eq, h, nI_clamp (show tl < 2 ^ 31 by omega), bnd_eq, F_K_secretLength_1]
  dsimp only
  rw [bnd_eq]
  by_cases r : tl = 2400
  · rw [if_pos r, if_pos r]
  · rw [if_neg r, if_neg r]
theorem mhs1 {s : Sto} : F_M_hiddenSize_1 s = (nI 2400, s) := by rw [F_M_hiddenSize_1, bnd_eq, F_ME_hiddenSize_1, bnd_eq]
theorem los1 {pn : Nat} {t : Sto} (hp : pn < 8) (h3 : t.1 148 3 = nI pn) (h1 : t.1 148 1 = nI 2400) : ∃ t3, F_M_load_L8 1184 0 t = (nI pn, sI (sI (sI (sI t3 170 pn (nI 1)) 171 pn (nI 2400)) 148 3 (nI (pn + 1))) 148 1 (nI 0)) ∧ (∀ k, k ≠ 153 + pn → k ≠ 162 + pn → t3.1 k = t.1 k) ∧ (∀ k, k < 1184 → t3.1 (153 + pn) k = vp_nar .byte (t.1 149 (1152 + k))) ∧ ∀ k, k < 2400 → t3.1 (162 + pn) k = vp_nar .byte (t.1 149 k) := by
  obtain ⟨t2, a, b, c, -⟩ := cpM (pn := pn) (b := 153) (fr := 1152) (G := F_M_load_L8) (by omega) (by omega) (fun n i s hs => by
    rw [F_M_load_L8, bnd_eq, mos1]
    dsimp only
    rw [bnd_eq, bnd_eq, hs, nI_clamp (show pn < 2 ^ 31 by omega), bnd_eq]) 1184 0 t h3
  have b3 : t2.1 148 = t.1 148 := b.1 148 (by omega)
  obtain ⟨t3, a', b', c', -⟩ := cpM (pn := pn) (b := 162) (fr := 0) (G := F_M_load_L9) (by omega) (by omega) (fun n i s hs => by
    rw [F_M_load_L9, bnd_eq, bnd_eq, hs, nI_clamp (show pn < 2 ^ 31 by omega), bnd_eq, Nat.zero_add]) 2400 0 t2 (by rw [b3]; exact h3)
  have b4 : t3.1 148 = t.1 148 := (b'.1 148 (by omega)).trans b3
  refine ⟨t3, ?_, fun k u v => (b'.1 k v).trans (b.1 k u), fun k hk => ?_, fun k hk => ?_⟩
  · rw [a, F_M_load_L8, bnd_eq, mos1]
    dsimp only
    rw [bnd_eq, a', F_M_load_L9, bnd_eq, bnd_eq, b4, h1, nI_clamp (show 2400 < 2 ^ 31 by decide), bnd_eq, mmade_eq (by rw [b4]; exact h3) hp]
  · rw [b'.1 (153 + pn) (by omega)]
    exact c k (Nat.zero_le _) (by omega)
  · have := c' k (Nat.zero_le _) (by omega)
    rw [Nat.zero_add, b.1 149 (by omega)] at this
    exact this
theorem ksf1 {pn : Nat} {s : Sto} (hp : pn < 8) (h : s.1 0 1 = nI 2400) : (∀ k, k ≠ 379 + 36 * pn + 4 → k ≠ 379 + 36 * pn + 5 → (F_K_secretFromTape_1 pn s).1 k = s.1 k) ∧ (∀ x, x < 1184 → (F_K_secretFromTape_1 pn s).1 (379 + 36 * pn + 4) x = s.1 1 (1152 + x)) ∧ ∀ x, x < 2400 → (F_K_secretFromTape_1 pn s).1 (379 + 36 * pn + 5) x = s.1 1 x := by
  obtain ⟨u1, u2⟩ := krange_at (s := s) (fr := 1152) (to := 2336) (nk := 379 + 36 * pn + 4) (by decide) (by omega)
  obtain ⟨v1, v2⟩ := kcopy_at (s := F_AR_copyOfRange 1152 2336 (379 + 36 * pn + 4) s) (nl := 2400) (nk := 379 + 36 * pn + 5) (by decide) (by omega)
  have hU : F_K_secretFromTape_1 pn s = F_AR_copyOf 2400 (379 + 36 * pn + 5) (F_AR_copyOfRange 1152 2336 (379 + 36 * pn + 4) s) := by
    rw [F_K_secretFromTape_1, bnd_eq, F_K_publicLength_1]
    dsimp only
    rw [bnd_eq, bnd_eq, bnd_eq, u1 0 (by omega), h, nI_clamp (show 2400 < 2 ^ 31 by decide), bnd_eq]
  rw [hU]
  refine ⟨fun k u v => by rw [v1 k v, u1 k u], fun x hx => ?_, fun x hx => ?_⟩
  · rw [v1 (379 + 36 * pn + 4) (by omega)]
    exact u2 x hx
  · rw [v2 x hx, u1 1 (by omega)]
set_option maxRecDepth 100000 in
theorem load_s1 {tl al pn : Nat} {sc : Int32} {s : Sto} (h : SAME tl al pn s) (hN : NB s) (q : ¬ sc = 0) : ALIKE (F_K_load (nI 1) sc pn s) (F_M_load (nI 1) sc) := by
  obtain ⟨⟨a1, a2, a3⟩, ⟨b1, b2, b3⟩, ⟨c1, c2, c3⟩, d, e, f⟩ := id h
  by_cases ht : tl = 2400
  · have gH := fun (t : Sto) (hq : ∀ j, j < 2400 → t.1 149 j = s.1 149 j) => hash1_fits (psk := 1) (n := 16384) (pdk := 149) (s := s) (t := t) (by decide) (by decide) (by decide) (by decide) (fun j hj => by rw [hq j hj]; exact d j (by omega))
    have oS := (gH s (fun _ _ => rfl)).1
    have gO := fun (t : Sto) (hq : ∀ j, j < 2400 → t.1 149 j = s.1 149 j) => (gH t hq).2
    have hsn : F_K_isSound_1 sc s = ((F_KM_hashFits_1 1 16384 s).1, (F_KM_hashFits_1 1 16384 s).2) := by rw [F_K_isSound_1, if_neg q, bnd_eq]
    have k0 : F_K_load (nI 1) sc pn s = if (F_KM_hashFits_1 1 16384 s).1 = 0 then (nI 2, nI 0, (F_KM_hashFits_1 1 16384 s).2) else bnd (((F_KM_hashFits_1 1 16384 s).2.1 0 5).toNatClampNeg) fun z => if z < 8 then bnd (F_K_secretFromTape_1 pn (F_KM_hashFits_1 1 16384 s).2) fun s1 => bnd (sI s1 0 1 (nI 0)) fun s2 => bnd (F_K_keep 1 s2) fun q => (nI 0, q.1, q.2) else (nI 3, nI 0, (F_KM_hashFits_1 1 16384 s).2) := by
      rw [F_K_load, bnd_eq, kil1_s a1 a3 q, if_pos ht]
      dsimp only
      rw [if_neg (show ¬ nI 1 = 0 by decide), bnd_eq, nI_clamp (show 1 < 2 ^ 31 by decide), if_neg q, if_neg (show ¬ (1 : Nat) = 0 by decide), if_pos (show (1 : Nat) = 1 from rfl), bnd_eq, hsn]
    have m0 : ∀ t : Sto, t.1 148 = s.1 148 → t.1 149 = s.1 149 → ∃ t' : Sto, (∀ k, k ≠ 172 → k ≠ 222 → t'.1 k = (sI t 148 0 (nI 0)).1 k) ∧ F_M_load (nI 1) sc t = if (F_KM_hashFits_1 1 16384 s).1 = 0 then (nI 0, sI t' 148 0 (nI 2)) else if pn = 8 then (nI 0, sI t' 148 0 (nI 3)) else F_M_load_L8 1184 0 t' := fun t y1 y2 => by
      have w1 : (sI t 148 0 (nI 0)).1 148 1 = nI 2400 := by rw [th_off (by decide), y1, ← ht]; exact a2
      have w3 : (sI t 148 0 (nI 0)).1 148 3 = nI pn := by rw [th_off (by decide), y1]; exact c2
      obtain ⟨wT, wV⟩ := gO (sI t 148 0 (nI 0)) (fun j _ => by rw [th_ne (by decide), y2])
      rw [F_M_load, bnd_eq, if_neg (nI_nneg (by decide)), if_neg q, if_neg (show ¬ nI 2 < nI 1 by decide), bnd_eq, nI_clamp (show 1 < 2 ^ 31 by decide), if_neg (show ¬ (1 : Nat) = 0 by decide), if_pos (show (1 : Nat) = 1 from rfl)]
      generalize sI t 148 0 (nI 0) = t1 at w1 w3 wT wV ⊢
      rw [bnd_eq, w1, nI_clamp (show 2400 < 2 ^ 31 by decide), bnd_eq, mhs1]
      dsimp only
      rw [bnd_eq, if_pos (show (2400 : Nat) = 2400 from rfl), bnd_eq, ← wV]
      have w3' : (F_ME_goodHidden_1 149 t1).2.1 148 3 = nI pn := by rw [wT 148 (by decide) (by decide)]; exact w3
      generalize (F_ME_goodHidden_1 149 t1).2 = t' at wT w3' ⊢
      refine ⟨t', wT, ?_⟩
      by_cases r : (F_KM_hashFits_1 1 16384 s).1 = 0
      · rw [if_pos r, if_pos r, bnd_eq, mfail_eq]
      · rw [if_neg r, if_neg r, bnd_eq, w3', nI_clamp (show pn < 2 ^ 31 by omega)]
        by_cases r8 : pn = 8
        · rw [if_pos r8, if_pos r8, bnd_eq, mfail_eq]
        · rw [if_neg r8, if_neg r8, bnd_eq, mos1]
          dsimp only
          rw [bnd_eq]
    generalize F_KM_hashFits_1 1 16384 s = b at k0 m0 oS
    obtain ⟨b, s'⟩ := b
    dsimp only at k0 m0 oS
    have o : ∀ k, (k < 14 ∨ 148 ≤ k) → s'.1 k = s.1 k := fun k u => oS k (by omega) (by omega)
    have hS := SAME_scr h (fun k u => o k (by omega))
    by_cases r : b = 0
    · rw [if_pos r] at k0
      obtain ⟨t', y1, y2⟩ := m0 s' (o 148 (by omega)) (o 149 (by omega))
      rw [if_pos r] at y2
      rw [k0]
      exact alike_fail2 (SAME_scr (SAME_onlM hS onlM1) (fun k u => y1 k (by omega) (by omega))) y2 (by decide)
    · rw [if_neg r, bnd_eq, o 0 (by omega), c1, nI_clamp (show pn < 2 ^ 31 by omega)] at k0
      by_cases r8 : pn = 8
      · rw [if_neg (by omega)] at k0
        obtain ⟨t', y1, y2⟩ := m0 s' (o 148 (by omega)) (o 149 (by omega))
        rw [if_neg r, if_pos r8] at y2
        rw [k0]
        exact alike_fail2 (SAME_scr (SAME_onlM hS onlM1) (fun k u => y1 k (by omega) (by omega))) y2 (by decide)
      · have hp : pn < 8 := by omega
        obtain ⟨x1, x2, x3⟩ := ksf1 (s := s') hp (by rw [o 0 (by omega), ← ht]; exact a1)
        rw [if_pos hp, bnd_eq, bnd_eq, bnd_eq, kkeep_eq (pn := pn) (by rw [th_off (by decide), x1 0 (by omega) (by omega), o 0 (by omega)]; exact c1) hp] at k0
        generalize F_K_secretFromTape_1 pn s' = sB_ at x1 x2 x3 k0
        obtain ⟨s1, hs1⟩ : ∃ x, x = sI (sI (sI sB_ 0 1 (nI 0)) 3 pn (nI (1 + 1))) 0 5 (nI (pn + 1)) := ⟨_, rfl⟩
        have f1 : ∀ k, (148 ≤ k ∧ k < 379) → s1.1 k = s.1 k := fun k u => by rw [hs1, th_ne (by omega), th_ne (by omega), th_ne (by omega), x1 k (by omega) (by omega), o k (by omega)]
        obtain ⟨t', y1, y2⟩ := m0 s1 (f1 148 (by omega)) (f1 149 (by omega))
        rw [if_neg r, if_neg r8] at y2
        have tM : t'.1 148 = (sI s1 148 0 (nI 0)).1 148 := y1 148 (by decide) (by decide)
        have tT : t'.1 149 = s.1 149 := by rw [y1 149 (by decide) (by decide), th_ne (by decide), f1 149 (by omega)]
        obtain ⟨t3, g1, g2, g3, g4⟩ := los1 (t := t') hp (by rw [tM, th_off (by decide), f1 148 (by omega)]; exact c2) (by rw [tM, th_off (by decide), f1 148 (by omega), ← ht]; exact a2)
        obtain ⟨z1, z2⟩ := keys_core (c := 1) (st := 1) (hb := 2400) (sB_ := sB_) (t2 := t3) h hp (by decide) (by decide) (by decide) (fun k u v w => by rw [x1 k v w, o k u]) (fun k u v w => by rw [← hs1, g2 k v w]; exact y1 k (by omega) (by omega)) (fun x hx => by
            have hx : x < 1184 := hx
            rw [x2 x hx, o 1 (by omega), g3 x hx, tT, show vp_nar .byte (s.1 149 (1152 + x)) = s.1 149 (1152 + x) from hN.1 _ (by omega)]
            exact d _ (by omega)) (fun _ x hx => by
            have hx : x < 2400 := hx
            rw [x3 x hx, o 1 (by omega), g4 x hx, tT, show vp_nar .byte (s.1 149 x) = s.1 149 x from hN.1 _ (by omega)]
            exact d _ (by omega)) (fun _ x hx => by
            have hx : x < 1184 := hx
            rw [g3 x hx]
            exact (g4 (1152 + x) (by omega)).symm)
        rw [k0]
        unfold ALIKE
        dsimp only
        rw [← hs1, y2, g1]
        exact ⟨⟨0, al, pn + 1, z1⟩, z2, fun _ => rfl⟩
  · have w1 : (sI s 148 0 (nI 0)).1 148 1 = nI tl := by rw [th_off (by decide)]; exact a2
    have k1 : F_K_load (nI 1) sc pn s = (nI 1, nI 0, s) := by
      rw [F_K_load, bnd_eq, kil1_s a1 a3 q, if_neg ht]
      dsimp only
      rw [if_pos (show nI 0 = 0 by decide)]
    rw [k1]
    refine alike_fail h ?_ (by decide)
    rw [F_M_load, bnd_eq, if_neg (nI_nneg (by decide)), if_neg q, if_neg (show ¬ nI 2 < nI 1 by decide), bnd_eq, nI_clamp (show 1 < 2 ^ 31 by decide), if_neg (show ¬ (1 : Nat) = 0 by decide), if_pos (show (1 : Nat) = 1 from rfl), bnd_eq, w1, nI_clamp (show tl < 2 ^ 31 by omega), bnd_eq, mhs1]
    dsimp only
    rw [bnd_eq, if_neg ht, bnd_eq, mfail_eq]
theorem kil2_s {tl : Nat} {sc : Int32} {s : Sto} (h : s.1 0 1 = nI tl) (ht : tl ≤ 16384) (q : ¬ sc = 0) : F_K_isLoadable (nI 2) sc s = (if tl = 3168 then nI 1 else nI 0, s) := by
  rw [F_K_isLoadable, bnd_eq, kset_y (by decide)]
  dsimp only
  rw [if_neg (show ¬ nI 1 = 0 by decide), bnd_eq, nI_clamp (show 2 < 2 ^ 31 by decide), if_neg (show ¬ (2 : Nat) = 0 by decide), if_neg (show ¬ (2 : Nat) = 1 by decide), if_pos (show (2 : Nat) = 2 from rfl), if_neg q, bnd_eq, h, nI_clamp (show tl < 2 ^ 31 by omega), bnd_eq, F_K_secretLength_2]
  dsimp only
  rw [bnd_eq]
  by_cases r : tl = 3168
  · rw [if_pos r, if_pos r]
  · rw [if_neg r, if_neg r]
theorem mhs2 {s : Sto} : F_M_hiddenSize_2 s = (nI 3168, s) := by rw [F_M_hiddenSize_2, bnd_eq, F_ME_hiddenSize_2, bnd_eq]
theorem los2 {pn : Nat} {t : Sto} (hp : pn < 8) (h3 : t.1 148 3 = nI pn) (h1 : t.1 148 1 = nI 3168) : ∃ t3, F_M_load_L10 1568 0 t = (nI pn, sI (sI (sI (sI t3 170 pn (nI 2)) 171 pn (nI 3168)) 148 3 (nI (pn + 1))) 148 1 (nI 0)) ∧ (∀ k, k ≠ 153 + pn → k ≠ 162 + pn → t3.1 k = t.1 k) ∧ (∀ k, k < 1568 → t3.1 (153 + pn) k = vp_nar .byte (t.1 149 (1536 + k))) ∧ ∀ k, k < 3168 → t3.1 (162 + pn) k = vp_nar .byte (t.1 149 k) := by
  obtain ⟨t2, a, b, c, -⟩ := cpM (pn := pn) (b := 153) (fr := 1536) (G := F_M_load_L10) (by omega) (by omega) (fun n i s hs => by
    rw [F_M_load_L10, bnd_eq, mos2]
    dsimp only
    rw [bnd_eq, bnd_eq, hs, nI_clamp (show pn < 2 ^ 31 by omega), bnd_eq]) 1568 0 t h3
  have b3 : t2.1 148 = t.1 148 := b.1 148 (by omega)
  obtain ⟨t3, a', b', c', -⟩ := cpM (pn := pn) (b := 162) (fr := 0) (G := F_M_load_L11) (by omega) (by omega) (fun n i s hs => by
    rw [F_M_load_L11, bnd_eq, bnd_eq, hs, nI_clamp (show pn < 2 ^ 31 by omega), bnd_eq, Nat.zero_add]) 3168 0 t2 (by rw [b3]; exact h3)
  have b4 : t3.1 148 = t.1 148 := (b'.1 148 (by omega)).trans b3
  refine ⟨t3, ?_, fun k u v => (b'.1 k v).trans (b.1 k u), fun k hk => ?_, fun k hk => ?_⟩
  · rw [a, F_M_load_L10, bnd_eq, mos2]
    dsimp only
    rw [bnd_eq, a', F_M_load_L11, bnd_eq, bnd_eq, b4, h1, nI_clamp (show 3168 < 2 ^ 31 by decide), bnd_eq, mmade_eq (by rw [b4]; exact h3) hp]
  · rw [b'.1 (153 + pn) (by omega)]
    exact c k (Nat.zero_le _) (by omega)
  · have := c' k (Nat.zero_le _) (by omega)
    rw [Nat.zero_add, b.1 149 (by omega)] at this
    exact this
theorem ksf2 {pn : Nat} {s : Sto} (hp : pn < 8) (h : s.1 0 1 = nI 3168) : (∀ k, k ≠ 379 + 36 * pn + 7 → k ≠ 379 + 36 * pn + 8 → (F_K_secretFromTape_2 pn s).1 k = s.1 k) ∧ (∀ x, x < 1568 → (F_K_secretFromTape_2 pn s).1 (379 + 36 * pn + 7) x = s.1 1 (1536 + x)) ∧ ∀ x, x < 3168 → (F_K_secretFromTape_2 pn s).1 (379 + 36 * pn + 8) x = s.1 1 x := by
  obtain ⟨u1, u2⟩ := krange_at (s := s) (fr := 1536) (to := 3104) (nk := 379 + 36 * pn + 7) (by decide) (by omega)
  obtain ⟨v1, v2⟩ := kcopy_at (s := F_AR_copyOfRange 1536 3104 (379 + 36 * pn + 7) s) (nl := 3168) (nk := 379 + 36 * pn + 8) (by decide) (by omega)
  have hU : F_K_secretFromTape_2 pn s = F_AR_copyOf 3168 (379 + 36 * pn + 8) (F_AR_copyOfRange 1536 3104 (379 + 36 * pn + 7) s) := by
    rw [F_K_secretFromTape_2, bnd_eq, F_K_publicLength_2]
    dsimp only
    rw [bnd_eq, bnd_eq, bnd_eq, u1 0 (by omega), h, nI_clamp (show 3168 < 2 ^ 31 by decide), bnd_eq]
  rw [hU]
  refine ⟨fun k u v => by rw [v1 k v, u1 k u], fun x hx => ?_, fun x hx => ?_⟩
  · rw [v1 (379 + 36 * pn + 7) (by omega)]
    exact u2 x hx
  · rw [v2 x hx, u1 1 (by omega)]
set_option maxRecDepth 100000 in
theorem load_s2 {tl al pn : Nat} {sc : Int32} {s : Sto} (h : SAME tl al pn s) (hN : NB s) (q : ¬ sc = 0) : ALIKE (F_K_load (nI 2) sc pn s) (F_M_load (nI 2) sc) := by
  obtain ⟨⟨a1, a2, a3⟩, ⟨b1, b2, b3⟩, ⟨c1, c2, c3⟩, d, e, f⟩ := id h
  by_cases ht : tl = 3168
  · have gH := fun (t : Sto) (hq : ∀ j, j < 3168 → t.1 149 j = s.1 149 j) => hash2_fits (psk := 1) (n := 16384) (pdk := 149) (s := s) (t := t) (by decide) (by decide) (by decide) (by decide) (fun j hj => by rw [hq j hj]; exact d j (by omega))
    have oS := (gH s (fun _ _ => rfl)).1
    have gO := fun (t : Sto) (hq : ∀ j, j < 3168 → t.1 149 j = s.1 149 j) => (gH t hq).2
    have hsn : F_K_isSound_2 sc s = ((F_KM_hashFits_2 1 16384 s).1, (F_KM_hashFits_2 1 16384 s).2) := by rw [F_K_isSound_2, if_neg q, bnd_eq]
    have k0 : F_K_load (nI 2) sc pn s = if (F_KM_hashFits_2 1 16384 s).1 = 0 then (nI 2, nI 0, (F_KM_hashFits_2 1 16384 s).2) else bnd (((F_KM_hashFits_2 1 16384 s).2.1 0 5).toNatClampNeg) fun z => if z < 8 then bnd (F_K_secretFromTape_2 pn (F_KM_hashFits_2 1 16384 s).2) fun s1 => bnd (sI s1 0 1 (nI 0)) fun s2 => bnd (F_K_keep 2 s2) fun q => (nI 0, q.1, q.2) else (nI 3, nI 0, (F_KM_hashFits_2 1 16384 s).2) := by
      rw [F_K_load, bnd_eq, kil2_s a1 a3 q, if_pos ht]
      dsimp only
      rw [if_neg (show ¬ nI 1 = 0 by decide), bnd_eq, nI_clamp (show 2 < 2 ^ 31 by decide), if_neg q, if_neg (show ¬ (2 : Nat) = 0 by decide), if_neg (show ¬ (2 : Nat) = 1 by decide), bnd_eq, hsn]
    have m0 : ∀ t : Sto, t.1 148 = s.1 148 → t.1 149 = s.1 149 → ∃ t' : Sto, (∀ k, k ≠ 172 → k ≠ 222 → t'.1 k = (sI t 148 0 (nI 0)).1 k) ∧ F_M_load (nI 2) sc t = if (F_KM_hashFits_2 1 16384 s).1 = 0 then (nI 0, sI t' 148 0 (nI 2)) else if pn = 8 then (nI 0, sI t' 148 0 (nI 3)) else F_M_load_L10 1568 0 t' := fun t y1 y2 => by
      have w1 : (sI t 148 0 (nI 0)).1 148 1 = nI 3168 := by rw [th_off (by decide), y1, ← ht]; exact a2
      have w3 : (sI t 148 0 (nI 0)).1 148 3 = nI pn := by rw [th_off (by decide), y1]; exact c2
      obtain ⟨wT, wV⟩ := gO (sI t 148 0 (nI 0)) (fun j _ => by rw [th_ne (by decide), y2])
      rw [F_M_load, bnd_eq, if_neg (nI_nneg (by decide)), if_neg q, if_neg (show ¬ nI 2 < nI 2 by decide), bnd_eq, nI_clamp (show 2 < 2 ^ 31 by decide), if_neg (show ¬ (2 : Nat) = 0 by decide), if_neg (show ¬ (2 : Nat) = 1 by decide)]
      generalize sI t 148 0 (nI 0) = t1 at w1 w3 wT wV ⊢
      rw [bnd_eq, w1, nI_clamp (show 3168 < 2 ^ 31 by decide), bnd_eq, mhs2]
      dsimp only
      rw [bnd_eq, if_pos (show (3168 : Nat) = 3168 from rfl), bnd_eq, ← wV]
      have w3' : (F_ME_goodHidden_2 149 t1).2.1 148 3 = nI pn := by rw [wT 148 (by decide) (by decide)]; exact w3
      generalize (F_ME_goodHidden_2 149 t1).2 = t' at wT w3' ⊢
      refine ⟨t', wT, ?_⟩
      by_cases r : (F_KM_hashFits_2 1 16384 s).1 = 0
      · rw [if_pos r, if_pos r, bnd_eq, mfail_eq]
      · rw [if_neg r, if_neg r, bnd_eq, w3', nI_clamp (show pn < 2 ^ 31 by omega)]
        by_cases r8 : pn = 8
        · rw [if_pos r8, if_pos r8, bnd_eq, mfail_eq]
        · rw [if_neg r8, if_neg r8, bnd_eq, mos2]
          dsimp only
          rw [bnd_eq]
    generalize F_KM_hashFits_2 1 16384 s = b at k0 m0 oS
    obtain ⟨b, s'⟩ := b
    dsimp only at k0 m0 oS
    have o : ∀ k, (k < 14 ∨ 148 ≤ k) → s'.1 k = s.1 k := fun k u => oS k (by omega) (by omega)
    have hS := SAME_scr h (fun k u => o k (by omega))
    by_cases r : b = 0
    · rw [if_pos r] at k0
      obtain ⟨t', y1, y2⟩ := m0 s' (o 148 (by omega)) (o 149 (by omega))
      rw [if_pos r] at y2
      rw [k0]
      exact alike_fail2 (SAME_scr (SAME_onlM hS onlM1) (fun k u => y1 k (by omega) (by omega))) y2 (by decide)
    · rw [if_neg r, bnd_eq, o 0 (by omega), c1, nI_clamp (show pn < 2 ^ 31 by omega)] at k0
      by_cases r8 : pn = 8
      · rw [if_neg (by omega)] at k0
        obtain ⟨t', y1, y2⟩ := m0 s' (o 148 (by omega)) (o 149 (by omega))
        rw [if_neg r, if_pos r8] at y2
        rw [k0]
        exact alike_fail2 (SAME_scr (SAME_onlM hS onlM1) (fun k u => y1 k (by omega) (by omega))) y2 (by decide)
      · have hp : pn < 8 := by omega
        obtain ⟨x1, x2, x3⟩ := ksf2 (s := s') hp (by rw [o 0 (by omega), ← ht]; exact a1)
        rw [if_pos hp, bnd_eq, bnd_eq, bnd_eq, kkeep_eq (pn := pn) (by rw [th_off (by decide), x1 0 (by omega) (by omega), o 0 (by omega)]; exact c1) hp] at k0
        generalize F_K_secretFromTape_2 pn s' = sB_ at x1 x2 x3 k0
        obtain ⟨s1, hs1⟩ : ∃ x, x = sI (sI (sI sB_ 0 1 (nI 0)) 3 pn (nI (2 + 1))) 0 5 (nI (pn + 1)) := ⟨_, rfl⟩
        have f1 : ∀ k, (148 ≤ k ∧ k < 379) → s1.1 k = s.1 k := fun k u => by rw [hs1, th_ne (by omega), th_ne (by omega), th_ne (by omega), x1 k (by omega) (by omega), o k (by omega)]
        obtain ⟨t', y1, y2⟩ := m0 s1 (f1 148 (by omega)) (f1 149 (by omega))
        rw [if_neg r, if_neg r8] at y2
        have tM : t'.1 148 = (sI s1 148 0 (nI 0)).1 148 := y1 148 (by decide) (by decide)
        have tT : t'.1 149 = s.1 149 := by rw [y1 149 (by decide) (by decide), th_ne (by decide), f1 149 (by omega)]
        obtain ⟨t3, g1, g2, g3, g4⟩ := los2 (t := t') hp (by rw [tM, th_off (by decide), f1 148 (by omega)]; exact c2) (by rw [tM, th_off (by decide), f1 148 (by omega), ← ht]; exact a2)
        obtain ⟨z1, z2⟩ := keys_core (c := 2) (st := 2) (hb := 3168) (sB_ := sB_) (t2 := t3) h hp (by decide) (by decide) (by decide) (fun k u v w => by rw [x1 k v w, o k u]) (fun k u v w => by rw [← hs1, g2 k v w]; exact y1 k (by omega) (by omega)) (fun x hx => by
            have hx : x < 1568 := hx
            rw [x2 x hx, o 1 (by omega), g3 x hx, tT, show vp_nar .byte (s.1 149 (1536 + x)) = s.1 149 (1536 + x) from hN.1 _ (by omega)]
            exact d _ (by omega)) (fun _ x hx => by
            have hx : x < 3168 := hx
            rw [x3 x hx, o 1 (by omega), g4 x hx, tT, show vp_nar .byte (s.1 149 x) = s.1 149 x from hN.1 _ (by omega)]
            exact d _ (by omega)) (fun _ x hx => by
            have hx : x < 1568 := hx
            rw [g3 x hx]
            exact (g4 (1536 + x) (by omega)).symm)
        rw [k0]
        unfold ALIKE
        dsimp only
        rw [← hs1, y2, g1]
        exact ⟨⟨0, al, pn + 1, z1⟩, z2, fun _ => rfl⟩
  · have w1 : (sI s 148 0 (nI 0)).1 148 1 = nI tl := by rw [th_off (by decide)]; exact a2
    have k1 : F_K_load (nI 2) sc pn s = (nI 1, nI 0, s) := by
      rw [F_K_load, bnd_eq, kil2_s a1 a3 q, if_neg ht]
      dsimp only
      rw [if_pos (show nI 0 = 0 by decide)]
    rw [k1]
    refine alike_fail h ?_ (by decide)
    rw [F_M_load, bnd_eq, if_neg (nI_nneg (by decide)), if_neg q, if_neg (show ¬ nI 2 < nI 2 by decide), bnd_eq, nI_clamp (show 2 < 2 ^ 31 by decide), if_neg (show ¬ (2 : Nat) = 0 by decide), if_neg (show ¬ (2 : Nat) = 1 by decide), bnd_eq, w1, nI_clamp (show tl < 2 ^ 31 by omega), bnd_eq, mhs2]
    dsimp only
    rw [bnd_eq, if_neg ht, bnd_eq, mfail_eq]
theorem load_alike {tl al pn : Nat} {v sc : Int32} {s : Sto} (h : SAME tl al pn s) (hN : NB s) : ALIKE (F_K_load v sc pn s) (F_M_load v sc) := by
  by_cases hv : v < 0 ∨ nI 5 < v
  · have k1 : F_K_load v sc pn s = (nI 1, nI 0, s) := by
      rw [F_K_load, bnd_eq, F_K_isLoadable, bnd_eq, kset_n hv]
      dsimp only
      rw [if_pos (show nI 0 = 0 by decide)]
      dsimp only
      rw [if_pos (show nI 0 = 0 by decide)]
    rw [k1]
    refine alike_fail h ?_ (by decide)
    rw [F_M_load, bnd_eq]
    by_cases q : v < 0
    · rw [if_pos q, bnd_eq, mfail_eq]
    · have h5 := hv.resolve_left q
      rw [if_neg q]
      by_cases q1 : sc = 0
      · rw [if_pos q1, if_pos h5, bnd_eq, mfail_eq]
      · rw [if_neg q1, if_pos (Int32.lt_trans (show nI 2 < nI 5 by decide) h5), bnd_eq, mfail_eq]
  · have q0 : ¬ v < 0 := fun q => hv (Or.inl q)
    obtain ⟨c, hc, rfl⟩ := i32_lex q0 (by decide) (fun q => hv (Or.inr q))
    have h9 : c = 0 ∨ c = 1 ∨ c = 2 ∨ c = 3 ∨ c = 4 ∨ c = 5 := by omega
    by_cases q : sc = 0
    · rcases h9 with rfl | rfl | rfl | rfl | rfl | rfl
      · exact load_p0 h hN q
      · exact load_p1 h hN q
      · exact load_p2 h hN q
      · exact load_p3 h hN q
      · exact load_p4 h hN q
      · exact load_p5 h hN q
    · rcases h9 with rfl | rfl | rfl | rfl | rfl | rfl
      · exact load_s0 h hN q
      · exact load_s1 h hN q
      · exact load_s2 h hN q
      · exact load_s3 h q
      · exact load_s4 h q
      · exact load_s5 h q
