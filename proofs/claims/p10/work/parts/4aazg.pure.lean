set_option linter.all false
/-! Decaps -/
theorem or_z (a b : Int32) : a ||| b = 0 ↔ a = 0 ∧ b = 0 := by
  constructor
  · intro h
    have h1 : (a ||| b).toBitVec.toNat = 0 := by rw [h]; rfl
    rw [Int32.toBitVec_or, BitVec.toNat_or] at h1
    have h2 := Nat.or_eq_zero_iff.mp h1
    exact ⟨Int32.toBitVec_inj.mp (BitVec.eq_of_toNat_eq h2.1), Int32.toBitVec_inj.mp (BitVec.eq_of_toNat_eq h2.2)⟩
  · rintro ⟨rfl, rfl⟩
    rfl
theorem xor_z (a b : Int32) : a ^^^ b = 0 ↔ a = b := by
  constructor
  · intro h
    have h1 : a = (a ^^^ b) ^^^ b := by rw [Int32.xor_assoc, Int32.xor_self, Int32.xor_zero]
    exact h1.trans (by rw [h, Int32.zero_xor])
  · rintro rfl
    exact Int32.xor_self
/-- names of the caller, for Decaps -/
def apD (psk pc_ : Nat) : Prop := psk ≠ 14 ∧ ¬ (26 ≤ psk ∧ psk ≤ 36) ∧ pc_ ≠ 14 ∧ ¬ (26 ≤ pc_ ∧ pc_ ≤ 36)
def apT (pdk pct : Nat) : Prop := pdk ≠ 172 ∧ ¬ (186 ≤ pdk ∧ pdk ≤ 224) ∧ pct ≠ 172 ∧ ¬ (186 ≤ pct ∧ pct ≤ 224)
theorem el_loopA {α : Type} {pf : Nat} {G : Nat → Nat → Sto → α} {K : Sto → α} {e : Nat → Sto → Int32} (h0 : ∀ i s, G 0 i s = K s) (h1 : ∀ n i s, G (n + 1) i s = G n (i + 1) (sI s pf i (e i s))) (he : ∀ i s s', onl pf s s' → s'.1 pf i = s.1 pf i → e i s' = e i s) : ∀ (n i : Nat) (s : Sto), ∃ s1, G n i s = K s1 ∧ onl pf s s1 ∧ (∀ k, i ≤ k → k < i + n → s1.1 pf k = e k s) ∧ ∀ k, (k < i ∨ i + n ≤ k) → s1.1 pf k = s.1 pf k
  | 0, i, s => ⟨s, h0 i s, onl_rf, fun k u v => by omega, fun _ _ => rfl⟩
  | n + 1, i, s => by
    have o1 : onl pf s (sI s pf i (e i s)) := onl_sI
    have r1 : (sI s pf i (e i s)).1 pf = upd (s.1 pf) i (e i s) := sI_row
    have hU := h1 n i s
    generalize sI s pf i (e i s) = s0 at hU o1 r1
    obtain ⟨s1, a, b, c, d⟩ := el_loopA h0 h1 he n (i + 1) s0
    refine ⟨s1, hU.trans a, onl_tr o1 b, fun k u v => ?_, fun k u => ?_⟩
    · by_cases w : k = i
      · subst w
        rw [d k (by omega), r1, upd_s]
      · rw [c k (by omega) (by omega)]
        exact he k s s0 o1 (by rw [r1, upd_n w])
    · rw [d k (by omega), r1, upd_n (by omega)]
/-- the refusal's secret: SHAKE256 of two pieces -/
theorem refuse_same {pa na at1 pb nb lb pt qa ma bt1 qb mb qt : Nat} {s t : Sto} (h1 : pa ≠ 14) (h2 : pb ≠ 14) (h3 : pt ≠ 14) (h4 : qa ≠ 172) (h5 : qb ≠ 172) (h6 : qt ≠ 172) (hA : ∀ j, j < 32 → s.1 pa (at1 + j) = t.1 qa (bt1 + j)) (hB : ∀ j, j < lb → s.1 pb j = t.1 qb j) : same2 14 15 pt s (F_SP_squeeze 14 15 pt 8192 0 32 (F_SP_finish 14 15 (F_SP_absorb 14 15 pb nb 0 lb (F_SP_absorb 14 15 pa na at1 32 (F_SP_start_3 14 15 s))))) ∧ same2 172 173 qt t (F_MS_take qt 8192 0 32 (F_MS_end (F_MS_puts qb mb 0 lb (F_MS_puts qa ma bt1 32 (F_MS_begin 136 (nI 31) t))))) ∧ ∀ j, j < 32 → (F_SP_squeeze 14 15 pt 8192 0 32 (F_SP_finish 14 15 (F_SP_absorb 14 15 pb nb 0 lb (F_SP_absorb 14 15 pa na at1 32 (F_SP_start_3 14 15 s))))).1 pt j = (F_MS_take qt 8192 0 32 (F_MS_end (F_MS_puts qb mb 0 lb (F_MS_puts qa ma bt1 32 (F_MS_begin 136 (nI 31) t))))).1 qt j := by
  have h0 : 0 < 136 := by decide
  have hr : 136 < 200 := by decide
  have hs2 : F_SP_start_3 14 15 s = sI (sI (sI (F_AR_fillJ 15 25 0 s) 14 1 (nI 136)) 14 2 (nI 31)) 14 3 (nI 0) := by
    unfold F_SP_start_3
    repeat rw [bnd_eq]
  obtain ⟨a1, a2⟩ := P_start (pv := 14) (qv := 15) (rt := 136) (sf := nI 31) (s := s)
  rw [← hs2] at a1 a2
  obtain ⟨b1, b2⟩ := P_absorb (pb := pa) (nb := na) (at_ := at1) (len := 32) a1 hr h0 h1
  obtain ⟨c1, c2⟩ := P_absorb (pb := pb) (nb := nb) (at_ := 0) (len := lb) b1 hr (abN_lt h0 32) h2
  obtain ⟨f1, f2⟩ := P_finish c1 h0 hr (abN_lt (abN_lt h0 32) lb)
  obtain ⟨a1', a2'⟩ := Q_begin (rt := 136) (sf := nI 31) (s := t)
  obtain ⟨b1', b2'⟩ := Q_puts (pb := qa) (nb := ma) (at_ := bt1) (len := 32) a1' hr h0 h4
  obtain ⟨c1', c2'⟩ := Q_puts (pb := qb) (nb := mb) (at_ := 0) (len := lb) b1' hr (abN_lt h0 32) h5
  obtain ⟨f1', f2'⟩ := Q_end c1' h0 hr (abN_lt (abN_lt h0 32) lb)
  rw [b2.1 pb h2, a2.1 pb h2, a2.1 pa h1, abN_ab (b := s.1 pa) (c := t.1 qa) (at1 := at1) (at2 := bt1) 32 hA, abN_ab (b := s.1 pb) (c := t.1 qb) (at1 := 0) (at2 := 0) lb (fun j hj => by rw [Nat.zero_add]; exact hB j hj)] at f1
  rw [b2'.1 qb h5, a2'.1 qb h5, a2'.1 qa h4] at f1'
  have m1 := ((a2.tr b2).tr c2).tr f2
  have m2 := ((a2'.tr b2').tr c2').tr f2'
  obtain ⟨g1, g2, g3, -, -⟩ := sq_same (pb := pt) (qb := qt) (nb := 8192) (at1 := 0) (len := 32) (mb := 8192) (at2 := 0) f1 f1' h0 hr h3 h6
  refine ⟨same2.tr ⟨fun k u _ => m1.1 k u, m1.2⟩ g1, same2.tr ⟨fun k u _ => m2.1 k u, m2.2⟩ g2, fun j hj => ?_⟩
  have := g3 j hj
  rw [Nat.zero_add] at this
  exact this
/-- set 0: the sum of decryption -/
theorem deA0 {psk pc_ n pdk pct pt : Nat} {BC BD : Nat → Int32} (hC : apD psk pc_) (hR : apT pdk pct) : ∀ (m i : Nat) (s t : Sto), i + m = 2 → (∀ j, j < 768 → s.1 pc_ j = BC j) → (∀ j, j < 768 → t.1 pct j = BC j) → (∀ j, j < 768 → s.1 psk j = BD j) → (∀ j, j < 768 → t.1 pdk j = BD j) → sr 3329 (s.1 30) (t.1 217) → ∃ s1 t1, F_KM_decrypt_0_L0 psk pc_ n m i s = F_KM_decrypt_0_L0 psk pc_ n 0 2 s1 ∧ F_ME_open_0_L0 pdk pct pt m i t = F_ME_open_0_L0 pdk pct pt 0 2 t1 ∧ E_ME_open_0_L0 pdk pct pt m i t = E_ME_open_0_L0 pdk pct pt 0 2 t1 ∧ frm (fun k => 26 ≤ k ∧ k ≤ 31) s s1 ∧ frm (fun k => 203 ≤ k ∧ k ≤ 219) t t1 ∧ sr 3329 (s1.1 30) (t1.1 217)
  | 0, i, s, t, hi, _, _, _, _, h => by
    obtain rfl : i = 2 := by omega
    exact ⟨s, t, rfl, rfl, rfl, frm_rf, frm_rf, h⟩
  | m + 1, i, s, t, hi, h1, h2, h3, h4, h => by
    have hC' := hC
    unfold apD at hC'
    have hR' := hR
    unfold apT at hR'
    have hU : F_KM_decrypt_0_L0 psk pc_ n (m + 1) i s = F_KM_decrypt_0_L0 psk pc_ n m (i + 1) (F_RG_addProduct_7 30 31 (26 + i) (F_KM_readReduced psk 1632 (384 * i) (F_RG_transform_7 (26 + i) (F_KM_readRounded (26 + i) 10 pc_ n (320 * i) s)))) := by
      rw [F_KM_decrypt_0_L0]
      repeat rw [bnd_eq]
    have hV : F_ME_open_0_L0 pdk pct pt (m + 1) i t = F_ME_open_0_L0 pdk pct pt m (i + 1) (F_ME_product (208 + i) (203 + i) 217 (F_ME_proper (208 + i) (F_ME_read_12 pdk 4896 (384 * i) (208 + i) (F_ME_forth (203 + i) (F_ME_more_10 (203 + i) (F_ME_read_10 pct 16384 (320 * i) (203 + i) t)))))) := by
      rw [F_ME_open_0_L0]
      repeat rw [bnd_eq]
    have hW : E_ME_open_0_L0 pdk pct pt (m + 1) i t = E_ME_open_0_L0 pdk pct pt m (i + 1) (F_ME_product (208 + i) (203 + i) 217 (F_ME_proper (208 + i) (F_ME_read_12 pdk 4896 (384 * i) (208 + i) (F_ME_forth (203 + i) (F_ME_more_10 (203 + i) (F_ME_read_10 pct 16384 (320 * i) (203 + i) t)))))) := by
      rw [E_ME_open_0_L0]
      repeat rw [bnd_eq]
    obtain ⟨a1, a2, a3⟩ := spread10_same (pf := 26 + i) (pr_ := pc_) (n := n) (at_ := 320 * i) (qf := 203 + i) (qr := pct) (m := 16384) (bt := 320 * i) (s := s) (t := t) (by omega) (by omega) (fun j hj => by rw [h1 _ (by omega), h2 _ (by omega)])
    generalize F_KM_readRounded (26 + i) 10 pc_ n (320 * i) s = s1 at a1 a3 hU
    generalize F_ME_more_10 (203 + i) (F_ME_read_10 pct 16384 (320 * i) (203 + i) t) = t1 at a2 a3 hV hW
    obtain ⟨b1, b2, b3⟩ := forth_sr (by omega) a3
    generalize F_RG_transform_7 (26 + i) s1 = s2 at b1 b3 hU
    generalize F_ME_forth (203 + i) t1 = t2 at b2 b3 hV hW
    have e1 : s2.1 psk = s.1 psk := by rw [b1.1 psk (by omega), a1.1 psk (by omega)]
    have e2 : t2.1 pdk = t.1 pdk := by rw [b2.1 pdk (by omega) (by omega), a2.1 pdk (by omega)]
    obtain ⟨c1, c2, c3⟩ := reduced_same (pb := psk) (n := 1632) (at_ := 384 * i) (qb := pdk) (m := 4896) (bt := 384 * i) (qf := 208 + i) (s := s2) (t := t2) (by omega) (by omega) (fun j hj => by rw [e1, e2, h3 _ (by omega), h4 _ (by omega)])
    generalize F_KM_readReduced psk 1632 (384 * i) s2 = s3 at c1 c3 hU
    generalize F_ME_proper (208 + i) (F_ME_read_12 pdk 4896 (384 * i) (208 + i) t2) = t3 at c2 c3 hV hW
    obtain ⟨d1, d2, d3⟩ := product_sr (ps := 30) (pf := 31) (pg := 26 + i) (qs := 217) (qf := 208 + i) (qg := 203 + i) (s := s3) (t := t3) (by omega) (by omega) (by omega) (by omega) (sr_w h (by rw [c1.1 30 (by omega), b1.1 30 (by omega), a1.1 30 (by omega)]) (by rw [c2.1 217 (by omega), b2.1 217 (by omega) (by omega), a2.1 217 (by omega)])) c3 (sr_w b3 (c1.1 (26 + i) (by omega)) (c2.1 (203 + i) (by omega)))
    generalize F_RG_addProduct_7 30 31 (26 + i) s3 = s4 at d1 d3 hU
    generalize F_ME_product (208 + i) (203 + i) 217 t3 = t4 at d2 d3 hV hW
    have g1 : frm (fun k => 26 ≤ k ∧ k ≤ 31) s s4 := fun k hk => by rw [d1.1 k (by omega), c1.1 k (by omega), b1.1 k (by omega), a1.1 k (by omega)]
    have g2 : frm (fun k => 203 ≤ k ∧ k ≤ 219) t t4 := fun k hk => by rw [d2.1 k (by omega), c2.1 k (by omega), b2.1 k (by omega) (by omega), a2.1 k (by omega)]
    obtain ⟨s5, t5, f1, f2, f2e, f3, f4, f5⟩ := deA0 (n := n) (pt := pt) (BC := BC) (BD := BD) hC hR m (i + 1) s4 t4 (by omega) (fun j hj => by rw [g1 pc_ (by omega)]; exact h1 j hj) (fun j hj => by rw [g2 pct (by omega)]; exact h2 j hj) (fun j hj => by rw [g1 psk (by omega)]; exact h3 j hj) (fun j hj => by rw [g2 pdk (by omega)]; exact h4 j hj) d3
    exact ⟨s5, t5, hU.trans f1, hV.trans f2, hW.trans f2e, ftr g1 f3, ftr g2 f4, f5⟩
/-- set 0: decryption gives the same message -/
theorem decrypt0_same {psk pc_ n pdk pct pt : Nat} {s t : Sto} (hC : apD psk pc_) (hR : apT pdk pct) (h1 : ∀ j, j < 768 → s.1 pc_ j = t.1 pct j) (h3 : ∀ j, j < 768 → s.1 psk j = t.1 pdk j) : ∃ t1, F_ME_open_0 pdk pct pt t = F_ME_open_0_L2 pdk pct pt 32 0 t1 ∧ E_ME_open_0 pdk pct pt t = E_ME_open_0_L2 pdk pct pt 32 0 t1 ∧ frm (fun k => 26 ≤ k ∧ k ≤ 32) s (F_KM_decrypt_0 psk pc_ n s) ∧ frm (fun k => (203 ≤ k ∧ k ≤ 219) ∨ k = 223) t t1 ∧ ∀ j, j < 32 → (F_KM_decrypt_0 psk pc_ n s).1 32 j = t1.1 223 j := by
  have hC' := hC
  unfold apD at hC'
  have hR' := hR
  unfold apT at hR'
  have o3 : ∀ w : Sto, (F_ME_sealedSize_0 w).2 = w := fun w => by rw [F_ME_sealedSize_0]
  have hU : F_KM_decrypt_0 psk pc_ n s = F_KM_decrypt_0_L0 psk pc_ n 2 0 (F_AR_fillI 30 256 (nI 0) s) := by rw [F_KM_decrypt_0, bnd_eq]
  have hV : F_ME_open_0 pdk pct pt t = F_ME_open_0_L0 pdk pct pt 2 0 (F_ME_clear 217 t) := by
    rw [F_ME_open_0]
    repeat rw [bnd_eq]
    rw [o3]
  have hW : E_ME_open_0 pdk pct pt t = E_ME_open_0_L0 pdk pct pt 2 0 (F_ME_clear 217 t) := by
    rw [E_ME_open_0]
    repeat rw [bnd_eq]
    rw [o3]
  obtain ⟨a1, a2⟩ := P_fill (pf := 30) (v := nI 0) (s := s)
  obtain ⟨b1, b2⟩ := Q_clear (pf := 217) (s := t)
  generalize F_AR_fillI 30 256 (nI 0) s = s0 at a1 a2 hU
  generalize F_ME_clear 217 t = t0 at b1 b2 hV hW
  obtain ⟨s1, t1, c1, c2, c2e, c3, c4, c5⟩ := deA0 (n := n) (pt := pt) (BC := t.1 pct) (BD := t.1 pdk) hC hR 2 0 s0 t0 (by decide) (fun j hj => by rw [a1.1 pc_ (by omega)]; exact h1 j hj) (fun j hj => by rw [b1.1 pct (by omega)]) (fun j hj => by rw [a1.1 psk (by omega)]; exact h3 j hj) (fun j hj => by rw [b1.1 pdk (by omega)]) (fun k hk => ⟨0, by decide, a2 k hk, b2 k hk⟩)
  rw [c1] at hU
  rw [c2] at hV
  rw [c2e] at hW
  have hU2 : F_KM_decrypt_0_L0 psk pc_ n 0 2 s1 = F_KM_writeRounded 31 1 32 32 0 (F_RG_subtract_7 31 30 (F_KM_readRounded 31 4 pc_ n 640 (F_RG_restore_7 30 s1))) := by
    rw [F_KM_decrypt_0_L0]
    repeat rw [bnd_eq]
  have hV2 : F_ME_open_0_L0 pdk pct pt 0 2 t1 = F_ME_open_0_L1 pdk pct pt 256 0 (F_ME_more_4 218 (F_ME_read_4 pct 16384 640 218 (F_ME_back 217 t1))) := by
    rw [F_ME_open_0_L0]
    repeat rw [bnd_eq]
  have hW2 : E_ME_open_0_L0 pdk pct pt 0 2 t1 = E_ME_open_0_L1 pdk pct pt 256 0 (F_ME_more_4 218 (F_ME_read_4 pct 16384 640 218 (F_ME_back 217 t1))) := by
    rw [E_ME_open_0_L0]
    repeat rw [bnd_eq]
  rw [hU2] at hU
  rw [hV2] at hV
  rw [hW2] at hW
  obtain ⟨d1, d2, d3⟩ := back_sr (by decide) c5
  generalize F_RG_restore_7 30 s1 = s2 at d1 d3 hU
  generalize F_ME_back 217 t1 = t2 at d2 d3 hV hW
  have p1 : s2.1 pc_ = s.1 pc_ := by rw [d1.1 pc_ (by omega), c3 pc_ (by omega), a1.1 pc_ (by omega)]
  have p2 : t2.1 pct = t.1 pct := by rw [d2.1 pct (by omega) (by omega), c4 pct (by omega), b1.1 pct (by omega)]
  obtain ⟨f1, f2, f3⟩ := spread4_same (pf := 31) (pr_ := pc_) (n := n) (at_ := 640) (qf := 218) (qr := pct) (m := 16384) (bt := 640) (s := s2) (t := t2) (by omega) (by omega) (fun j hj => by rw [p1, p2]; exact h1 _ (by omega))
  generalize F_KM_readRounded 31 4 pc_ n 640 s2 = s3 at f1 f3 hU
  generalize F_ME_more_4 218 (F_ME_read_4 pct 16384 640 218 t2) = t3 at f2 f3 hV hW
  have d4 : sr 3329 (s3.1 30) (t3.1 217) := sr_w d3 (f1.1 30 (by decide)) (f2.1 217 (by decide))
  obtain ⟨g1, g2⟩ := P_subtract (pf := 31) (pg := 30) (s := s3) (by decide)
  generalize F_RG_subtract_7 31 30 s3 = s4 at g1 g2 hU
  obtain ⟨t4, w1, w2, w3, -⟩ := el_loopA (α := Sto × Prop) (pf := 218) (G := fun n i s => (F_ME_open_0_L1 pdk pct pt n i s, E_ME_open_0_L1 pdk pct pt n i s)) (K := fun s => (F_ME_open_0_L2 pdk pct pt 32 0 (F_ME_write_1 218 223 32 0 (F_ME_less_1 218 s)), E_ME_open_0_L2 pdk pct pt 32 0 (F_ME_write_1 218 223 32 0 (F_ME_less_1 218 s)))) (e := fun i s => ((s.1 218 i - s.1 217 i) + nI 3329) - ((s.1 218 i - s.1 217 i) + nI 3329) / nI 3329 * nI 3329) (fun i s => by
    show (F_ME_open_0_L1 pdk pct pt 0 i s, E_ME_open_0_L1 pdk pct pt 0 i s) = _
    rw [F_ME_open_0_L1, E_ME_open_0_L1]
    repeat rw [bnd_eq]) (fun n i s => by
    show (F_ME_open_0_L1 pdk pct pt (n + 1) i s, E_ME_open_0_L1 pdk pct pt (n + 1) i s) = _
    rw [F_ME_open_0_L1, E_ME_open_0_L1]
    repeat rw [bnd_eq]) (fun i s s' o h => by simp only [h, o.1 217 (by decide)]) 256 0 t3
  have w1' : (F_ME_open_0_L1 pdk pct pt 256 0 t3, E_ME_open_0_L1 pdk pct pt 256 0 t3) = (F_ME_open_0_L2 pdk pct pt 32 0 (F_ME_write_1 218 223 32 0 (F_ME_less_1 218 t4)), E_ME_open_0_L2 pdk pct pt 32 0 (F_ME_write_1 218 223 32 0 (F_ME_less_1 218 t4))) := w1
  obtain ⟨v1, v2⟩ := Prod.mk.inj w1'
  have key : sr 3329 (s4.1 31) (t4.1 218) := fun k hk => by
    obtain ⟨a, ha, e1, e2⟩ := f3 k hk
    obtain ⟨b, hb, e3, e4⟩ := d4 k hk
    refine ⟨(a + 3329 - b) % 3329, Nat.mod_lt _ (by decide), ?_, ?_⟩
    · rw [g2 k hk, e1, e3]
      by_cases z : b ≤ a
      · rw [if_pos ((sub_nn (by omega) (by omega)).mpr z), pk_sub z]
        exact congrArg nI (by omega)
      · rw [if_neg (fun c => z ((sub_nn (by omega) (by omega)).mp c)), nI_sa (by omega)]
        exact congrArg nI (by omega)
    · rw [w3 k (Nat.zero_le _) (by omega)]
      show ((t3.1 218 k - t3.1 217 k) + nI 3329) - ((t3.1 218 k - t3.1 217 k) + nI 3329) / nI 3329 * nI 3329 = _
      rw [e2, e4, nI_sa (by omega), pk_rem (by omega) (by decide) (by decide)]
  obtain ⟨x1, x2, x3, -, -⟩ := rounded1_same (pf := 31) (pt := 32) (n := 32) (at_ := 0) (qf := 218) (qt := 223) (m := 32) (bt := 0) (s := s4) (t := t4) (by decide) (by decide) key
  refine ⟨F_ME_write_1 218 223 32 0 (F_ME_less_1 218 t4), hV.trans v1, hW.trans v2, fun k hk => ?_, fun k hk => ?_, fun j hj => ?_⟩
  · rw [hU, x1 k (by omega) (by omega), g1.1 k (by omega), f1.1 k (by omega), d1.1 k (by omega), c3 k (by omega), a1.1 k (by omega)]
  · rw [x2 k (by omega) (by omega), w2.1 k (by omega), f2.1 k (by omega), d2.1 k (by omega) (by omega), c4 k (by omega), b1.1 k (by omega)]
  · have := x3 j (by omega)
    rw [Nat.zero_add] at this
    rw [hU]
    exact this
theorem cmP0 {psn pc_ n pt : Nat} {s : Sto} : ∀ (m i : Nat) (z : Int32), i + m = 768 → ∃ z1, F_KM_decapsulate_0_L0 psn pc_ n pt m i z s = F_KM_decapsulate_0_L0 psn pc_ n pt 0 768 z1 s ∧ (z1 = 0 ↔ z = 0 ∧ ∀ k, i ≤ k → k < 768 → s.1 pc_ k = s.1 36 k)
  | 0, i, z, hi => by
    obtain rfl : i = 768 := by omega
    exact ⟨z, rfl, fun h => ⟨h, fun k h1 h2 => by omega⟩, fun h => h.1⟩
  | m + 1, i, z, hi => by
    obtain ⟨z1, e, h⟩ := cmP0 (psn := psn) (pc_ := pc_) (n := n) (pt := pt) (s := s) m (i + 1) (z ||| ((s.1 pc_ i) ^^^ (s.1 36 i))) (by omega)
    refine ⟨z1, Eq.trans (by rw [F_KM_decapsulate_0_L0, bnd_eq]) e, h.trans ?_⟩
    rw [or_z, xor_z]
    constructor
    · rintro ⟨⟨h1, h2⟩, h3⟩
      refine ⟨h1, fun k u v => ?_⟩
      by_cases w : k = i
      · subst w
        exact h2
      · exact h3 k (by omega) v
    · rintro ⟨h1, h2⟩
      exact ⟨⟨h1, h2 i (Nat.le_refl _) (by omega)⟩, fun k u v => h2 k (by omega) v⟩
theorem cmQ0 {pdk pct pt : Nat} {s : Sto} : ∀ (m i : Nat) (z : Int32), i + m = 768 → (z = nI 1 ∨ z = nI 0) → ∃ z1, F_ME_open_0_L3 pdk pct pt m i z s = F_ME_open_0_L3 pdk pct pt 0 768 z1 s ∧ (z1 = nI 1 ∨ z1 = nI 0) ∧ (z1 = nI 1 ↔ z = nI 1 ∧ ∀ k, i ≤ k → k < 768 → s.1 224 k = s.1 pct k)
  | 0, i, z, hi, hz => by
    obtain rfl : i = 768 := by omega
    exact ⟨z, rfl, hz, fun h => ⟨h, fun k h1 h2 => by omega⟩, fun h => h.1⟩
  | m + 1, i, z, hi, hz => by
    have n10 : nI 1 ≠ nI 0 := by decide
    by_cases q : s.1 224 i = s.1 pct i
    · have ez : z &&& nI 1 = z := by
        rcases hz with rfl | rfl <;> decide
      obtain ⟨z1, e, h1, h⟩ := cmQ0 (pdk := pdk) (pct := pct) (pt := pt) (s := s) m (i + 1) z (by omega) hz
      refine ⟨z1, Eq.trans (by rw [F_ME_open_0_L3, if_pos q, bnd_eq, ez]) e, h1, h.trans ?_⟩
      constructor
      · rintro ⟨h2, h3⟩
        refine ⟨h2, fun k u v => ?_⟩
        by_cases w : k = i
        · subst w
          exact q
        · exact h3 k (by omega) v
      · rintro ⟨h2, h3⟩
        exact ⟨h2, fun k u v => h3 k (by omega) v⟩
    · have ez : z &&& nI 0 = nI 0 := by
        rcases hz with rfl | rfl <;> decide
      obtain ⟨z1, e, h1, h⟩ := cmQ0 (pdk := pdk) (pct := pct) (pt := pt) (s := s) m (i + 1) (nI 0) (by omega) (Or.inr rfl)
      refine ⟨z1, Eq.trans (by rw [F_ME_open_0_L3, if_neg q, bnd_eq, ez]) e, h1, h.trans ?_⟩
      constructor
      · rintro ⟨h2, -⟩
        exact absurd h2.symm n10
      · rintro ⟨-, h3⟩
        exact absurd (h3 i (Nat.le_refl _) (by omega)) q
set_option maxRecDepth 100000 in
/-- ML-KEM.Decaps, set 0: where the reference's draws end in time, the shared secret is the same bytes -/
theorem open0_same {kn pp psn pc_ n pt pdk pct qt : Nat} {s t : Sto} (hD : apD psn pc_) (hT : apT pdk pct) (hC : apC pp 36) (hpt : pt ≠ 14 ∧ ¬ (26 ≤ pt ∧ pt ≤ 36)) (hqt : qt ≠ 172 ∧ ¬ (186 ≤ qt ∧ qt ≤ 224) ∧ qt ≠ pdk ∧ qt ≠ pct) (h1 : ∀ j, j < 768 → s.1 pc_ j = t.1 pct j) (h3 : ∀ j, j < 1632 → s.1 psn j = t.1 pdk j) (h4 : ∀ j, j < 800 → s.1 pp j = t.1 pdk (768 + j)) (hN : ∀ j, j < 1632 → vp_nar .byte (t.1 pdk j) = t.1 pdk j) (hE : E_ME_open_0 pdk pct qt t) : frm (fun k => k = 14 ∨ (26 ≤ k ∧ k ≤ 36) ∨ k = pt) s (F_KM_decapsulate_0 kn pp psn pc_ n pt s) ∧ frm (fun k => k = 172 ∨ (186 ≤ k ∧ k ≤ 224) ∨ k = qt) t (F_ME_open_0 pdk pct qt t) ∧ ∀ x, x < 32 → (F_KM_decapsulate_0 kn pp psn pc_ n pt s).1 pt x = (F_ME_open_0 pdk pct qt t).1 qt x := by
  have hD' := hD
  unfold apD at hD'
  have hT' := hT
  unfold apT at hT'
  have hC' := hC
  unfold apC at hC'
  obtain ⟨t1, a1, a2, a3, a4, a5⟩ := decrypt0_same (n := n) (pt := qt) hD hT h1 (fun j hj => h3 j (by omega))
  have hU : F_KM_decapsulate_0 kn pp psn pc_ n pt s = F_KM_decapsulate_0_L0 psn pc_ n pt 768 0 (nI 0) (F_KM_encrypt_0 pp 36 1568 (F_KM_deriveSeeds psn 1632 1568 (F_KM_decrypt_0 psn pc_ n s))) := by
    rw [F_KM_decapsulate_0]
    repeat rw [bnd_eq]
  rw [a2] at hE
  generalize F_KM_decrypt_0 psn pc_ n s = s1 at a3 a5 hU
  obtain ⟨t2, w1, w2, w3, -⟩ := cp_loop (α := Sto × Prop) (pt := 222) (pr_ := pdk) (o := 0) (r := 1568) (G := fun n i s => (F_ME_open_0_L2 pdk pct qt n i s, E_ME_open_0_L2 pdk pct qt n i s)) (K := fun s => (F_ME_open_0_L3 pdk pct qt 768 0 (nI 1) (F_ME_encrypt_0 pdk 4896 768 223 32 224 1568 (F_ME_both 223 32 s)), (E_ME_encrypt_0 pdk 4896 768 223 32 224 1568 (F_ME_both 223 32 s)) ∧ E_ME_open_0_L3 pdk pct qt 768 0 (nI 1) (F_ME_encrypt_0 pdk 4896 768 223 32 224 1568 (F_ME_both 223 32 s)))) (by omega) (fun i s => by
    show (F_ME_open_0_L2 pdk pct qt 0 i s, E_ME_open_0_L2 pdk pct qt 0 i s) = _
    rw [F_ME_open_0_L2, E_ME_open_0_L2]
    repeat rw [bnd_eq]) (fun n i s => by
    show (F_ME_open_0_L2 pdk pct qt (n + 1) i s, E_ME_open_0_L2 pdk pct qt (n + 1) i s) = _
    rw [F_ME_open_0_L2, E_ME_open_0_L2, Nat.zero_add]
    repeat rw [bnd_eq]) 32 0 t1
  have w1' : (F_ME_open_0_L2 pdk pct qt 32 0 t1, E_ME_open_0_L2 pdk pct qt 32 0 t1) = (F_ME_open_0_L3 pdk pct qt 768 0 (nI 1) (F_ME_encrypt_0 pdk 4896 768 223 32 224 1568 (F_ME_both 223 32 t2)), (E_ME_encrypt_0 pdk 4896 768 223 32 224 1568 (F_ME_both 223 32 t2) ∧ E_ME_open_0_L3 pdk pct qt 768 0 (nI 1) (F_ME_encrypt_0 pdk 4896 768 223 32 224 1568 (F_ME_both 223 32 t2)))) := w1
  obtain ⟨v1, v2⟩ := Prod.mk.inj w1'
  have hE1 := (Eq.mp v2 hE).1
  have hV : F_ME_open_0 pdk pct qt t = F_ME_open_0_L3 pdk pct qt 768 0 (nI 1) (F_ME_encrypt_0 pdk 4896 768 223 32 224 1568 (F_ME_both 223 32 t2)) := a1.trans v1
  have p1 : s1.1 psn = s.1 psn := a3 psn (by omega)
  have p2 : t1.1 pdk = t.1 pdk := a4 pdk (by omega)
  obtain ⟨c1, c2, c3, c4⟩ := seeds_same (pb := psn) (n := 1632) (at_ := 1568) (qb := 223) (m := 32) (s := s1) (t := t2) (by omega) (by decide) (fun j hj => by rw [w2.1 223 (by decide)]; exact a5 j hj) (fun j hj => by
    have := w3 j (Nat.zero_le _) (by omega)
    rw [Nat.zero_add] at this
    rw [this, p1, p2, hN _ (by omega)]
    exact h3 _ (by omega))
  have q1 : ∀ j, j < 32 → t2.1 223 j = s1.1 32 j := fun j hj => by rw [w2.1 223 (by decide)]; exact (a5 j hj).symm
  generalize F_KM_deriveSeeds psn 1632 1568 s1 = s3 at c1 c3 hU
  generalize F_ME_both 223 32 t2 = t3 at c2 c3 c4 hV hE1
  have e3 : s3.1 pp = s.1 pp := by rw [c1.1 pp (by omega) (by omega), a3 pp (by omega)]
  have e4 : t3.1 pdk = t.1 pdk := by rw [c2.1 pdk (by omega) (by omega), w2.1 pdk (by omega), p2]
  obtain ⟨d1, d2, d3⟩ := encrypt0_same (pp := pp) (pt := 36) (n := 1568) (pek := pdk) (nn := 4896) (at_ := 768) (pms := 223) (nm := 32) (pct := 224) (nc := 1568) (s := s3) (t := t3) hC (by unfold apR; omega) (fun j hj => by rw [e3, e4]; exact h4 j hj) (fun j hj => by rw [c1.1 32 (by decide) (by decide), c2.1 223 (by decide) (by decide)]; exact (q1 j hj).symm) (fun j hj => c3 (32 + j) (by omega)) hE1
  generalize F_KM_encrypt_0 pp 36 1568 s3 = s4 at d1 d3 hU
  generalize F_ME_encrypt_0 pdk 4896 768 223 32 224 1568 t3 = t4 at d2 d3 hV
  have f1 : ∀ y, y ≠ 14 → ¬ (26 ≤ y ∧ y ≤ 36) → s4.1 y = s.1 y := fun y x1 x2 => by rw [d1 y (by unfold MC; omega), c1.1 y (by omega) (by omega), a3 y (by omega)]
  have f2 : ∀ y, y ≠ 172 → ¬ (186 ≤ y ∧ y ≤ 224) → t4.1 y = t.1 y := fun y x1 x2 => by rw [d2 y (by unfold MR; omega), c2.1 y (by omega) (by omega), w2.1 y (by omega), a4 y (by omega)]
  have e7 : s4.1 34 = s3.1 34 := d1 34 (by unfold MC; omega)
  have e8 : t4.1 220 = t3.1 220 := d2 220 (by unfold MR; omega)
  obtain ⟨z1, g1, g2⟩ := cmP0 (psn := psn) (pc_ := pc_) (n := n) (pt := pt) (s := s4) 768 0 (nI 0) (by decide)
  obtain ⟨z2, k1, k2, k3⟩ := cmQ0 (pdk := pdk) (pct := pct) (pt := qt) (s := t4) 768 0 (nI 1) (by decide) (Or.inl rfl)
  rw [g1] at hU
  rw [k1] at hV
  have hz : z1 = 0 ↔ z2 = nI 1 := by
    rw [g2, k3]
    constructor
    · rintro ⟨-, h⟩
      refine ⟨rfl, fun k u v => ?_⟩
      have := h k u v
      rw [f1 pc_ (by omega) (by omega), h1 k v, d3 k v, ← f2 pct (by omega) (by omega)] at this
      exact this.symm
    · rintro ⟨-, h⟩
      refine ⟨by decide, fun k u v => ?_⟩
      have := h k u v
      rw [f1 pc_ (by omega) (by omega), h1 k v, d3 k v, ← f2 pct (by omega) (by omega)]
      exact this.symm
  have hV2 : F_ME_open_0_L3 pdk pct qt 0 768 z2 t4 = F_ME_open_0_L4 pdk pct qt z2 32 0 t4 := by rw [F_ME_open_0_L3]
  obtain ⟨t5, m1, m2, m3, -⟩ := cp_loop (pt := qt) (pr_ := 220) (o := 0) (r := 0) (G := F_ME_open_0_L4 pdk pct qt z2) (K := fun s => if z2 = 0 then F_MS_take qt 8192 0 32 (F_MS_end (F_MS_puts pct 16384 0 768 (F_MS_puts pdk 4896 1600 32 (F_MS_begin 136 (nI 31) s)))) else s) (by omega) (fun i s => by
    rw [F_ME_open_0_L4]
    repeat rw [bnd_eq]
    rw [F_MS_shake, bnd_eq]) (fun n i s => by rw [F_ME_open_0_L4, bnd_eq, Nat.zero_add]) 32 0 t4
  rw [hV2, m1] at hV
  have r1 : t5.1 pdk = t.1 pdk := by rw [m2.1 pdk (by omega), f2 pdk (by omega) (by omega)]
  have r2 : t5.1 pct = t.1 pct := by rw [m2.1 pct (by omega), f2 pct (by omega) (by omega)]
  have n10 : nI 1 ≠ (0 : Int32) := by decide
  by_cases q : z1 = 0
  · have q2 : ¬ z2 = 0 := by rw [hz.mp q]; exact n10
    have hU2 : F_KM_decapsulate_0_L0 psn pc_ n pt 0 768 z1 s4 = sC s4 34 pt 0 0 32 := by rw [F_KM_decapsulate_0_L0, if_pos q, bnd_eq]
    rw [hU2] at hU
    rw [if_neg q2] at hV
    rw [hU, hV]
    refine ⟨fun k hk => ?_, fun k hk => ?_, fun x hx => ?_⟩
    · rw [(sC_o (s := s4) (k0 := 34) (k1 := pt) (sp := 0) (dp := 0) (n := 32)).1 k (by omega), f1 k (by omega) (by omega)]
    · rw [m2.1 k (by omega), f2 k (by omega) (by omega)]
    · have g3 := sC_in (s := s4) (k0 := 34) (k1 := pt) (sp := 0) (dp := 0) (n := 32) (j := x) hx
      have g4 := m3 x (Nat.zero_le _) (by omega)
      rw [Nat.zero_add] at g3 g4
      rw [g3, g4, e7, e8, c4 _ (by omega)]
      exact c3 _ (by omega)
  · have q2 : z2 = 0 := by
      rcases k2 with h | h
      · exact absurd (hz.mpr h) q
      · rw [h]
        decide
    have hU2 : F_KM_decapsulate_0_L0 psn pc_ n pt 0 768 z1 s4 = F_SP_squeeze 14 15 pt 8192 0 32 (F_SP_finish 14 15 (F_SP_absorb 14 15 pc_ n 0 768 (F_SP_absorb 14 15 psn 1632 1600 32 (F_SP_start_3 14 15 s4)))) := by
      rw [F_KM_decapsulate_0_L0, if_neg q]
      repeat rw [bnd_eq]
    rw [hU2] at hU
    rw [if_pos q2] at hV
    obtain ⟨x1, x2, x3⟩ := refuse_same (pa := psn) (na := 1632) (at1 := 1600) (pb := pc_) (nb := n) (lb := 768) (pt := pt) (qa := pdk) (ma := 4896) (bt1 := 1600) (qb := pct) (mb := 16384) (qt := qt) (s := s4) (t := t5) (by omega) (by omega) (by omega) (by omega) (by omega) (by omega) (fun j hj => by rw [f1 psn (by omega) (by omega), r1]; exact h3 _ (by omega)) (fun j hj => by rw [f1 pc_ (by omega) (by omega), r2]; exact h1 j hj)
    rw [hU, hV]
    refine ⟨fun k hk => ?_, fun k hk => ?_, x3⟩
    · rw [x1.1 k (by omega) (by omega), f1 k (by omega) (by omega)]
    · rw [x2.1 k (by omega) (by omega), m2.1 k (by omega), f2 k (by omega) (by omega)]
/-- set 1: the sum of decryption -/
theorem deA1 {psk pc_ n pdk pct pt : Nat} {BC BD : Nat → Int32} (hC : apD psk pc_) (hR : apT pdk pct) : ∀ (m i : Nat) (s t : Sto), i + m = 3 → (∀ j, j < 1088 → s.1 pc_ j = BC j) → (∀ j, j < 1088 → t.1 pct j = BC j) → (∀ j, j < 1152 → s.1 psk j = BD j) → (∀ j, j < 1152 → t.1 pdk j = BD j) → sr 3329 (s.1 30) (t.1 217) → ∃ s1 t1, F_KM_decrypt_1_L0 psk pc_ n m i s = F_KM_decrypt_1_L0 psk pc_ n 0 3 s1 ∧ F_ME_open_1_L0 pdk pct pt m i t = F_ME_open_1_L0 pdk pct pt 0 3 t1 ∧ E_ME_open_1_L0 pdk pct pt m i t = E_ME_open_1_L0 pdk pct pt 0 3 t1 ∧ frm (fun k => 26 ≤ k ∧ k ≤ 31) s s1 ∧ frm (fun k => 203 ≤ k ∧ k ≤ 219) t t1 ∧ sr 3329 (s1.1 30) (t1.1 217)
  | 0, i, s, t, hi, _, _, _, _, h => by
    obtain rfl : i = 3 := by omega
    exact ⟨s, t, rfl, rfl, rfl, frm_rf, frm_rf, h⟩
  | m + 1, i, s, t, hi, h1, h2, h3, h4, h => by
    have hC' := hC
    unfold apD at hC'
    have hR' := hR
    unfold apT at hR'
    have hU : F_KM_decrypt_1_L0 psk pc_ n (m + 1) i s = F_KM_decrypt_1_L0 psk pc_ n m (i + 1) (F_RG_addProduct_7 30 31 (26 + i) (F_KM_readReduced psk 2400 (384 * i) (F_RG_transform_7 (26 + i) (F_KM_readRounded (26 + i) 10 pc_ n (320 * i) s)))) := by
      rw [F_KM_decrypt_1_L0]
      repeat rw [bnd_eq]
    have hV : F_ME_open_1_L0 pdk pct pt (m + 1) i t = F_ME_open_1_L0 pdk pct pt m (i + 1) (F_ME_product (208 + i) (203 + i) 217 (F_ME_proper (208 + i) (F_ME_read_12 pdk 4896 (384 * i) (208 + i) (F_ME_forth (203 + i) (F_ME_more_10 (203 + i) (F_ME_read_10 pct 16384 (320 * i) (203 + i) t)))))) := by
      rw [F_ME_open_1_L0]
      repeat rw [bnd_eq]
    have hW : E_ME_open_1_L0 pdk pct pt (m + 1) i t = E_ME_open_1_L0 pdk pct pt m (i + 1) (F_ME_product (208 + i) (203 + i) 217 (F_ME_proper (208 + i) (F_ME_read_12 pdk 4896 (384 * i) (208 + i) (F_ME_forth (203 + i) (F_ME_more_10 (203 + i) (F_ME_read_10 pct 16384 (320 * i) (203 + i) t)))))) := by
      rw [E_ME_open_1_L0]
      repeat rw [bnd_eq]
    obtain ⟨a1, a2, a3⟩ := spread10_same (pf := 26 + i) (pr_ := pc_) (n := n) (at_ := 320 * i) (qf := 203 + i) (qr := pct) (m := 16384) (bt := 320 * i) (s := s) (t := t) (by omega) (by omega) (fun j hj => by rw [h1 _ (by omega), h2 _ (by omega)])
    generalize F_KM_readRounded (26 + i) 10 pc_ n (320 * i) s = s1 at a1 a3 hU
    generalize F_ME_more_10 (203 + i) (F_ME_read_10 pct 16384 (320 * i) (203 + i) t) = t1 at a2 a3 hV hW
    obtain ⟨b1, b2, b3⟩ := forth_sr (by omega) a3
    generalize F_RG_transform_7 (26 + i) s1 = s2 at b1 b3 hU
    generalize F_ME_forth (203 + i) t1 = t2 at b2 b3 hV hW
    have e1 : s2.1 psk = s.1 psk := by rw [b1.1 psk (by omega), a1.1 psk (by omega)]
    have e2 : t2.1 pdk = t.1 pdk := by rw [b2.1 pdk (by omega) (by omega), a2.1 pdk (by omega)]
    obtain ⟨c1, c2, c3⟩ := reduced_same (pb := psk) (n := 2400) (at_ := 384 * i) (qb := pdk) (m := 4896) (bt := 384 * i) (qf := 208 + i) (s := s2) (t := t2) (by omega) (by omega) (fun j hj => by rw [e1, e2, h3 _ (by omega), h4 _ (by omega)])
    generalize F_KM_readReduced psk 2400 (384 * i) s2 = s3 at c1 c3 hU
    generalize F_ME_proper (208 + i) (F_ME_read_12 pdk 4896 (384 * i) (208 + i) t2) = t3 at c2 c3 hV hW
    obtain ⟨d1, d2, d3⟩ := product_sr (ps := 30) (pf := 31) (pg := 26 + i) (qs := 217) (qf := 208 + i) (qg := 203 + i) (s := s3) (t := t3) (by omega) (by omega) (by omega) (by omega) (sr_w h (by rw [c1.1 30 (by omega), b1.1 30 (by omega), a1.1 30 (by omega)]) (by rw [c2.1 217 (by omega), b2.1 217 (by omega) (by omega), a2.1 217 (by omega)])) c3 (sr_w b3 (c1.1 (26 + i) (by omega)) (c2.1 (203 + i) (by omega)))
    generalize F_RG_addProduct_7 30 31 (26 + i) s3 = s4 at d1 d3 hU
    generalize F_ME_product (208 + i) (203 + i) 217 t3 = t4 at d2 d3 hV hW
    have g1 : frm (fun k => 26 ≤ k ∧ k ≤ 31) s s4 := fun k hk => by rw [d1.1 k (by omega), c1.1 k (by omega), b1.1 k (by omega), a1.1 k (by omega)]
    have g2 : frm (fun k => 203 ≤ k ∧ k ≤ 219) t t4 := fun k hk => by rw [d2.1 k (by omega), c2.1 k (by omega), b2.1 k (by omega) (by omega), a2.1 k (by omega)]
    obtain ⟨s5, t5, f1, f2, f2e, f3, f4, f5⟩ := deA1 (n := n) (pt := pt) (BC := BC) (BD := BD) hC hR m (i + 1) s4 t4 (by omega) (fun j hj => by rw [g1 pc_ (by omega)]; exact h1 j hj) (fun j hj => by rw [g2 pct (by omega)]; exact h2 j hj) (fun j hj => by rw [g1 psk (by omega)]; exact h3 j hj) (fun j hj => by rw [g2 pdk (by omega)]; exact h4 j hj) d3
    exact ⟨s5, t5, hU.trans f1, hV.trans f2, hW.trans f2e, ftr g1 f3, ftr g2 f4, f5⟩
/-- set 1: decryption gives the same message -/
theorem decrypt1_same {psk pc_ n pdk pct pt : Nat} {s t : Sto} (hC : apD psk pc_) (hR : apT pdk pct) (h1 : ∀ j, j < 1088 → s.1 pc_ j = t.1 pct j) (h3 : ∀ j, j < 1152 → s.1 psk j = t.1 pdk j) : ∃ t1, F_ME_open_1 pdk pct pt t = F_ME_open_1_L2 pdk pct pt 32 0 t1 ∧ E_ME_open_1 pdk pct pt t = E_ME_open_1_L2 pdk pct pt 32 0 t1 ∧ frm (fun k => 26 ≤ k ∧ k ≤ 32) s (F_KM_decrypt_1 psk pc_ n s) ∧ frm (fun k => (203 ≤ k ∧ k ≤ 219) ∨ k = 223) t t1 ∧ ∀ j, j < 32 → (F_KM_decrypt_1 psk pc_ n s).1 32 j = t1.1 223 j := by
  have hC' := hC
  unfold apD at hC'
  have hR' := hR
  unfold apT at hR'
  have o3 : ∀ w : Sto, (F_ME_sealedSize_1 w).2 = w := fun w => by rw [F_ME_sealedSize_1]
  have hU : F_KM_decrypt_1 psk pc_ n s = F_KM_decrypt_1_L0 psk pc_ n 3 0 (F_AR_fillI 30 256 (nI 0) s) := by rw [F_KM_decrypt_1, bnd_eq]
  have hV : F_ME_open_1 pdk pct pt t = F_ME_open_1_L0 pdk pct pt 3 0 (F_ME_clear 217 t) := by
    rw [F_ME_open_1]
    repeat rw [bnd_eq]
    rw [o3]
  have hW : E_ME_open_1 pdk pct pt t = E_ME_open_1_L0 pdk pct pt 3 0 (F_ME_clear 217 t) := by
    rw [E_ME_open_1]
    repeat rw [bnd_eq]
    rw [o3]
  obtain ⟨a1, a2⟩ := P_fill (pf := 30) (v := nI 0) (s := s)
  obtain ⟨b1, b2⟩ := Q_clear (pf := 217) (s := t)
  generalize F_AR_fillI 30 256 (nI 0) s = s0 at a1 a2 hU
  generalize F_ME_clear 217 t = t0 at b1 b2 hV hW
  obtain ⟨s1, t1, c1, c2, c2e, c3, c4, c5⟩ := deA1 (n := n) (pt := pt) (BC := t.1 pct) (BD := t.1 pdk) hC hR 3 0 s0 t0 (by decide) (fun j hj => by rw [a1.1 pc_ (by omega)]; exact h1 j hj) (fun j hj => by rw [b1.1 pct (by omega)]) (fun j hj => by rw [a1.1 psk (by omega)]; exact h3 j hj) (fun j hj => by rw [b1.1 pdk (by omega)]) (fun k hk => ⟨0, by decide, a2 k hk, b2 k hk⟩)
  rw [c1] at hU
  rw [c2] at hV
  rw [c2e] at hW
  have hU2 : F_KM_decrypt_1_L0 psk pc_ n 0 3 s1 = F_KM_writeRounded 31 1 32 32 0 (F_RG_subtract_7 31 30 (F_KM_readRounded 31 4 pc_ n 960 (F_RG_restore_7 30 s1))) := by
    rw [F_KM_decrypt_1_L0]
    repeat rw [bnd_eq]
  have hV2 : F_ME_open_1_L0 pdk pct pt 0 3 t1 = F_ME_open_1_L1 pdk pct pt 256 0 (F_ME_more_4 218 (F_ME_read_4 pct 16384 960 218 (F_ME_back 217 t1))) := by
    rw [F_ME_open_1_L0]
    repeat rw [bnd_eq]
  have hW2 : E_ME_open_1_L0 pdk pct pt 0 3 t1 = E_ME_open_1_L1 pdk pct pt 256 0 (F_ME_more_4 218 (F_ME_read_4 pct 16384 960 218 (F_ME_back 217 t1))) := by
    rw [E_ME_open_1_L0]
    repeat rw [bnd_eq]
  rw [hU2] at hU
  rw [hV2] at hV
  rw [hW2] at hW
  obtain ⟨d1, d2, d3⟩ := back_sr (by decide) c5
  generalize F_RG_restore_7 30 s1 = s2 at d1 d3 hU
  generalize F_ME_back 217 t1 = t2 at d2 d3 hV hW
  have p1 : s2.1 pc_ = s.1 pc_ := by rw [d1.1 pc_ (by omega), c3 pc_ (by omega), a1.1 pc_ (by omega)]
  have p2 : t2.1 pct = t.1 pct := by rw [d2.1 pct (by omega) (by omega), c4 pct (by omega), b1.1 pct (by omega)]
  obtain ⟨f1, f2, f3⟩ := spread4_same (pf := 31) (pr_ := pc_) (n := n) (at_ := 960) (qf := 218) (qr := pct) (m := 16384) (bt := 960) (s := s2) (t := t2) (by omega) (by omega) (fun j hj => by rw [p1, p2]; exact h1 _ (by omega))
  generalize F_KM_readRounded 31 4 pc_ n 960 s2 = s3 at f1 f3 hU
  generalize F_ME_more_4 218 (F_ME_read_4 pct 16384 960 218 t2) = t3 at f2 f3 hV hW
  have d4 : sr 3329 (s3.1 30) (t3.1 217) := sr_w d3 (f1.1 30 (by decide)) (f2.1 217 (by decide))
  obtain ⟨g1, g2⟩ := P_subtract (pf := 31) (pg := 30) (s := s3) (by decide)
  generalize F_RG_subtract_7 31 30 s3 = s4 at g1 g2 hU
  obtain ⟨t4, w1, w2, w3, -⟩ := el_loopA (α := Sto × Prop) (pf := 218) (G := fun n i s => (F_ME_open_1_L1 pdk pct pt n i s, E_ME_open_1_L1 pdk pct pt n i s)) (K := fun s => (F_ME_open_1_L2 pdk pct pt 32 0 (F_ME_write_1 218 223 32 0 (F_ME_less_1 218 s)), E_ME_open_1_L2 pdk pct pt 32 0 (F_ME_write_1 218 223 32 0 (F_ME_less_1 218 s)))) (e := fun i s => ((s.1 218 i - s.1 217 i) + nI 3329) - ((s.1 218 i - s.1 217 i) + nI 3329) / nI 3329 * nI 3329) (fun i s => by
    show (F_ME_open_1_L1 pdk pct pt 0 i s, E_ME_open_1_L1 pdk pct pt 0 i s) = _
    rw [F_ME_open_1_L1, E_ME_open_1_L1]
    repeat rw [bnd_eq]) (fun n i s => by
    show (F_ME_open_1_L1 pdk pct pt (n + 1) i s, E_ME_open_1_L1 pdk pct pt (n + 1) i s) = _
    rw [F_ME_open_1_L1, E_ME_open_1_L1]
    repeat rw [bnd_eq]) (fun i s s' o h => by simp only [h, o.1 217 (by decide)]) 256 0 t3
  have w1' : (F_ME_open_1_L1 pdk pct pt 256 0 t3, E_ME_open_1_L1 pdk pct pt 256 0 t3) = (F_ME_open_1_L2 pdk pct pt 32 0 (F_ME_write_1 218 223 32 0 (F_ME_less_1 218 t4)), E_ME_open_1_L2 pdk pct pt 32 0 (F_ME_write_1 218 223 32 0 (F_ME_less_1 218 t4))) := w1
  obtain ⟨v1, v2⟩ := Prod.mk.inj w1'
  have key : sr 3329 (s4.1 31) (t4.1 218) := fun k hk => by
    obtain ⟨a, ha, e1, e2⟩ := f3 k hk
    obtain ⟨b, hb, e3, e4⟩ := d4 k hk
    refine ⟨(a + 3329 - b) % 3329, Nat.mod_lt _ (by decide), ?_, ?_⟩
    · rw [g2 k hk, e1, e3]
      by_cases z : b ≤ a
      · rw [if_pos ((sub_nn (by omega) (by omega)).mpr z), pk_sub z]
        exact congrArg nI (by omega)
      · rw [if_neg (fun c => z ((sub_nn (by omega) (by omega)).mp c)), nI_sa (by omega)]
        exact congrArg nI (by omega)
    · rw [w3 k (Nat.zero_le _) (by omega)]
      show ((t3.1 218 k - t3.1 217 k) + nI 3329) - ((t3.1 218 k - t3.1 217 k) + nI 3329) / nI 3329 * nI 3329 = _
      rw [e2, e4, nI_sa (by omega), pk_rem (by omega) (by decide) (by decide)]
  obtain ⟨x1, x2, x3, -, -⟩ := rounded1_same (pf := 31) (pt := 32) (n := 32) (at_ := 0) (qf := 218) (qt := 223) (m := 32) (bt := 0) (s := s4) (t := t4) (by decide) (by decide) key
  refine ⟨F_ME_write_1 218 223 32 0 (F_ME_less_1 218 t4), hV.trans v1, hW.trans v2, fun k hk => ?_, fun k hk => ?_, fun j hj => ?_⟩
  · rw [hU, x1 k (by omega) (by omega), g1.1 k (by omega), f1.1 k (by omega), d1.1 k (by omega), c3 k (by omega), a1.1 k (by omega)]
  · rw [x2 k (by omega) (by omega), w2.1 k (by omega), f2.1 k (by omega), d2.1 k (by omega) (by omega), c4 k (by omega), b1.1 k (by omega)]
  · have := x3 j (by omega)
    rw [Nat.zero_add] at this
    rw [hU]
    exact this
theorem cmP1 {psn pc_ n pt : Nat} {s : Sto} : ∀ (m i : Nat) (z : Int32), i + m = 1088 → ∃ z1, F_KM_decapsulate_1_L0 psn pc_ n pt m i z s = F_KM_decapsulate_1_L0 psn pc_ n pt 0 1088 z1 s ∧ (z1 = 0 ↔ z = 0 ∧ ∀ k, i ≤ k → k < 1088 → s.1 pc_ k = s.1 36 k)
  | 0, i, z, hi => by
    obtain rfl : i = 1088 := by omega
    exact ⟨z, rfl, fun h => ⟨h, fun k h1 h2 => by omega⟩, fun h => h.1⟩
  | m + 1, i, z, hi => by
    obtain ⟨z1, e, h⟩ := cmP1 (psn := psn) (pc_ := pc_) (n := n) (pt := pt) (s := s) m (i + 1) (z ||| ((s.1 pc_ i) ^^^ (s.1 36 i))) (by omega)
    refine ⟨z1, Eq.trans (by rw [F_KM_decapsulate_1_L0, bnd_eq]) e, h.trans ?_⟩
    rw [or_z, xor_z]
    constructor
    · rintro ⟨⟨h1, h2⟩, h3⟩
      refine ⟨h1, fun k u v => ?_⟩
      by_cases w : k = i
      · subst w
        exact h2
      · exact h3 k (by omega) v
    · rintro ⟨h1, h2⟩
      exact ⟨⟨h1, h2 i (Nat.le_refl _) (by omega)⟩, fun k u v => h2 k (by omega) v⟩
theorem cmQ1 {pdk pct pt : Nat} {s : Sto} : ∀ (m i : Nat) (z : Int32), i + m = 1088 → (z = nI 1 ∨ z = nI 0) → ∃ z1, F_ME_open_1_L3 pdk pct pt m i z s = F_ME_open_1_L3 pdk pct pt 0 1088 z1 s ∧ (z1 = nI 1 ∨ z1 = nI 0) ∧ (z1 = nI 1 ↔ z = nI 1 ∧ ∀ k, i ≤ k → k < 1088 → s.1 224 k = s.1 pct k)
  | 0, i, z, hi, hz => by
    obtain rfl : i = 1088 := by omega
    exact ⟨z, rfl, hz, fun h => ⟨h, fun k h1 h2 => by omega⟩, fun h => h.1⟩
  | m + 1, i, z, hi, hz => by
    have n10 : nI 1 ≠ nI 0 := by decide
    by_cases q : s.1 224 i = s.1 pct i
    · have ez : z &&& nI 1 = z := by
        rcases hz with rfl | rfl <;> decide
      obtain ⟨z1, e, h1, h⟩ := cmQ1 (pdk := pdk) (pct := pct) (pt := pt) (s := s) m (i + 1) z (by omega) hz
      refine ⟨z1, Eq.trans (by rw [F_ME_open_1_L3, if_pos q, bnd_eq, ez]) e, h1, h.trans ?_⟩
      constructor
      · rintro ⟨h2, h3⟩
        refine ⟨h2, fun k u v => ?_⟩
        by_cases w : k = i
        · subst w
          exact q
        · exact h3 k (by omega) v
      · rintro ⟨h2, h3⟩
        exact ⟨h2, fun k u v => h3 k (by omega) v⟩
    · have ez : z &&& nI 0 = nI 0 := by
        rcases hz with rfl | rfl <;> decide
      obtain ⟨z1, e, h1, h⟩ := cmQ1 (pdk := pdk) (pct := pct) (pt := pt) (s := s) m (i + 1) (nI 0) (by omega) (Or.inr rfl)
      refine ⟨z1, Eq.trans (by rw [F_ME_open_1_L3, if_neg q, bnd_eq, ez]) e, h1, h.trans ?_⟩
      constructor
      · rintro ⟨h2, -⟩
        exact absurd h2.symm n10
      · rintro ⟨-, h3⟩
        exact absurd (h3 i (Nat.le_refl _) (by omega)) q
set_option maxRecDepth 100000 in
/-- ML-KEM.Decaps, set 1: where the reference's draws end in time, the shared secret is the same bytes -/
theorem open1_same {kn pp psn pc_ n pt pdk pct qt : Nat} {s t : Sto} (hD : apD psn pc_) (hT : apT pdk pct) (hC : apC pp 36) (hpt : pt ≠ 14 ∧ ¬ (26 ≤ pt ∧ pt ≤ 36)) (hqt : qt ≠ 172 ∧ ¬ (186 ≤ qt ∧ qt ≤ 224) ∧ qt ≠ pdk ∧ qt ≠ pct) (h1 : ∀ j, j < 1088 → s.1 pc_ j = t.1 pct j) (h3 : ∀ j, j < 2400 → s.1 psn j = t.1 pdk j) (h4 : ∀ j, j < 1184 → s.1 pp j = t.1 pdk (1152 + j)) (hN : ∀ j, j < 2400 → vp_nar .byte (t.1 pdk j) = t.1 pdk j) (hE : E_ME_open_1 pdk pct qt t) : frm (fun k => k = 14 ∨ (26 ≤ k ∧ k ≤ 36) ∨ k = pt) s (F_KM_decapsulate_1 kn pp psn pc_ n pt s) ∧ frm (fun k => k = 172 ∨ (186 ≤ k ∧ k ≤ 224) ∨ k = qt) t (F_ME_open_1 pdk pct qt t) ∧ ∀ x, x < 32 → (F_KM_decapsulate_1 kn pp psn pc_ n pt s).1 pt x = (F_ME_open_1 pdk pct qt t).1 qt x := by
  have hD' := hD
  unfold apD at hD'
  have hT' := hT
  unfold apT at hT'
  have hC' := hC
  unfold apC at hC'
  obtain ⟨t1, a1, a2, a3, a4, a5⟩ := decrypt1_same (n := n) (pt := qt) hD hT h1 (fun j hj => h3 j (by omega))
  have hU : F_KM_decapsulate_1 kn pp psn pc_ n pt s = F_KM_decapsulate_1_L0 psn pc_ n pt 1088 0 (nI 0) (F_KM_encrypt_1 pp 36 1568 (F_KM_deriveSeeds psn 2400 2336 (F_KM_decrypt_1 psn pc_ n s))) := by
    rw [F_KM_decapsulate_1]
    repeat rw [bnd_eq]
  rw [a2] at hE
  generalize F_KM_decrypt_1 psn pc_ n s = s1 at a3 a5 hU
  obtain ⟨t2, w1, w2, w3, -⟩ := cp_loop (α := Sto × Prop) (pt := 222) (pr_ := pdk) (o := 0) (r := 2336) (G := fun n i s => (F_ME_open_1_L2 pdk pct qt n i s, E_ME_open_1_L2 pdk pct qt n i s)) (K := fun s => (F_ME_open_1_L3 pdk pct qt 1088 0 (nI 1) (F_ME_encrypt_1 pdk 4896 1152 223 32 224 1568 (F_ME_both 223 32 s)), (E_ME_encrypt_1 pdk 4896 1152 223 32 224 1568 (F_ME_both 223 32 s)) ∧ E_ME_open_1_L3 pdk pct qt 1088 0 (nI 1) (F_ME_encrypt_1 pdk 4896 1152 223 32 224 1568 (F_ME_both 223 32 s)))) (by omega) (fun i s => by
    show (F_ME_open_1_L2 pdk pct qt 0 i s, E_ME_open_1_L2 pdk pct qt 0 i s) = _
    rw [F_ME_open_1_L2, E_ME_open_1_L2]
    repeat rw [bnd_eq]) (fun n i s => by
    show (F_ME_open_1_L2 pdk pct qt (n + 1) i s, E_ME_open_1_L2 pdk pct qt (n + 1) i s) = _
    rw [F_ME_open_1_L2, E_ME_open_1_L2, Nat.zero_add]
    repeat rw [bnd_eq]) 32 0 t1
  have w1' : (F_ME_open_1_L2 pdk pct qt 32 0 t1, E_ME_open_1_L2 pdk pct qt 32 0 t1) = (F_ME_open_1_L3 pdk pct qt 1088 0 (nI 1) (F_ME_encrypt_1 pdk 4896 1152 223 32 224 1568 (F_ME_both 223 32 t2)), (E_ME_encrypt_1 pdk 4896 1152 223 32 224 1568 (F_ME_both 223 32 t2) ∧ E_ME_open_1_L3 pdk pct qt 1088 0 (nI 1) (F_ME_encrypt_1 pdk 4896 1152 223 32 224 1568 (F_ME_both 223 32 t2)))) := w1
  obtain ⟨v1, v2⟩ := Prod.mk.inj w1'
  have hE1 := (Eq.mp v2 hE).1
  have hV : F_ME_open_1 pdk pct qt t = F_ME_open_1_L3 pdk pct qt 1088 0 (nI 1) (F_ME_encrypt_1 pdk 4896 1152 223 32 224 1568 (F_ME_both 223 32 t2)) := a1.trans v1
  have p1 : s1.1 psn = s.1 psn := a3 psn (by omega)
  have p2 : t1.1 pdk = t.1 pdk := a4 pdk (by omega)
  obtain ⟨c1, c2, c3, c4⟩ := seeds_same (pb := psn) (n := 2400) (at_ := 2336) (qb := 223) (m := 32) (s := s1) (t := t2) (by omega) (by decide) (fun j hj => by rw [w2.1 223 (by decide)]; exact a5 j hj) (fun j hj => by
    have := w3 j (Nat.zero_le _) (by omega)
    rw [Nat.zero_add] at this
    rw [this, p1, p2, hN _ (by omega)]
    exact h3 _ (by omega))
  have q1 : ∀ j, j < 32 → t2.1 223 j = s1.1 32 j := fun j hj => by rw [w2.1 223 (by decide)]; exact (a5 j hj).symm
  generalize F_KM_deriveSeeds psn 2400 2336 s1 = s3 at c1 c3 hU
  generalize F_ME_both 223 32 t2 = t3 at c2 c3 c4 hV hE1
  have e3 : s3.1 pp = s.1 pp := by rw [c1.1 pp (by omega) (by omega), a3 pp (by omega)]
  have e4 : t3.1 pdk = t.1 pdk := by rw [c2.1 pdk (by omega) (by omega), w2.1 pdk (by omega), p2]
  obtain ⟨d1, d2, d3⟩ := encrypt1_same (pp := pp) (pt := 36) (n := 1568) (pek := pdk) (nn := 4896) (at_ := 1152) (pms := 223) (nm := 32) (pct := 224) (nc := 1568) (s := s3) (t := t3) hC (by unfold apR; omega) (fun j hj => by rw [e3, e4]; exact h4 j hj) (fun j hj => by rw [c1.1 32 (by decide) (by decide), c2.1 223 (by decide) (by decide)]; exact (q1 j hj).symm) (fun j hj => c3 (32 + j) (by omega)) hE1
  generalize F_KM_encrypt_1 pp 36 1568 s3 = s4 at d1 d3 hU
  generalize F_ME_encrypt_1 pdk 4896 1152 223 32 224 1568 t3 = t4 at d2 d3 hV
  have f1 : ∀ y, y ≠ 14 → ¬ (26 ≤ y ∧ y ≤ 36) → s4.1 y = s.1 y := fun y x1 x2 => by rw [d1 y (by unfold MC; omega), c1.1 y (by omega) (by omega), a3 y (by omega)]
  have f2 : ∀ y, y ≠ 172 → ¬ (186 ≤ y ∧ y ≤ 224) → t4.1 y = t.1 y := fun y x1 x2 => by rw [d2 y (by unfold MR; omega), c2.1 y (by omega) (by omega), w2.1 y (by omega), a4 y (by omega)]
  have e7 : s4.1 34 = s3.1 34 := d1 34 (by unfold MC; omega)
  have e8 : t4.1 220 = t3.1 220 := d2 220 (by unfold MR; omega)
  obtain ⟨z1, g1, g2⟩ := cmP1 (psn := psn) (pc_ := pc_) (n := n) (pt := pt) (s := s4) 1088 0 (nI 0) (by decide)
  obtain ⟨z2, k1, k2, k3⟩ := cmQ1 (pdk := pdk) (pct := pct) (pt := qt) (s := t4) 1088 0 (nI 1) (by decide) (Or.inl rfl)
  rw [g1] at hU
  rw [k1] at hV
  have hz : z1 = 0 ↔ z2 = nI 1 := by
    rw [g2, k3]
    constructor
    · rintro ⟨-, h⟩
      refine ⟨rfl, fun k u v => ?_⟩
      have := h k u v
      rw [f1 pc_ (by omega) (by omega), h1 k v, d3 k v, ← f2 pct (by omega) (by omega)] at this
      exact this.symm
    · rintro ⟨-, h⟩
      refine ⟨by decide, fun k u v => ?_⟩
      have := h k u v
      rw [f1 pc_ (by omega) (by omega), h1 k v, d3 k v, ← f2 pct (by omega) (by omega)]
      exact this.symm
  have hV2 : F_ME_open_1_L3 pdk pct qt 0 1088 z2 t4 = F_ME_open_1_L4 pdk pct qt z2 32 0 t4 := by rw [F_ME_open_1_L3]
  obtain ⟨t5, m1, m2, m3, -⟩ := cp_loop (pt := qt) (pr_ := 220) (o := 0) (r := 0) (G := F_ME_open_1_L4 pdk pct qt z2) (K := fun s => if z2 = 0 then F_MS_take qt 8192 0 32 (F_MS_end (F_MS_puts pct 16384 0 1088 (F_MS_puts pdk 4896 2368 32 (F_MS_begin 136 (nI 31) s)))) else s) (by omega) (fun i s => by
    rw [F_ME_open_1_L4]
    repeat rw [bnd_eq]
    rw [F_MS_shake, bnd_eq]) (fun n i s => by rw [F_ME_open_1_L4, bnd_eq, Nat.zero_add]) 32 0 t4
  rw [hV2, m1] at hV
  have r1 : t5.1 pdk = t.1 pdk := by rw [m2.1 pdk (by omega), f2 pdk (by omega) (by omega)]
  have r2 : t5.1 pct = t.1 pct := by rw [m2.1 pct (by omega), f2 pct (by omega) (by omega)]
  have n10 : nI 1 ≠ (0 : Int32) := by decide
  by_cases q : z1 = 0
  · have q2 : ¬ z2 = 0 := by rw [hz.mp q]; exact n10
    have hU2 : F_KM_decapsulate_1_L0 psn pc_ n pt 0 1088 z1 s4 = sC s4 34 pt 0 0 32 := by rw [F_KM_decapsulate_1_L0, if_pos q, bnd_eq]
    rw [hU2] at hU
    rw [if_neg q2] at hV
    rw [hU, hV]
    refine ⟨fun k hk => ?_, fun k hk => ?_, fun x hx => ?_⟩
    · rw [(sC_o (s := s4) (k0 := 34) (k1 := pt) (sp := 0) (dp := 0) (n := 32)).1 k (by omega), f1 k (by omega) (by omega)]
    · rw [m2.1 k (by omega), f2 k (by omega) (by omega)]
    · have g3 := sC_in (s := s4) (k0 := 34) (k1 := pt) (sp := 0) (dp := 0) (n := 32) (j := x) hx
      have g4 := m3 x (Nat.zero_le _) (by omega)
      rw [Nat.zero_add] at g3 g4
      rw [g3, g4, e7, e8, c4 _ (by omega)]
      exact c3 _ (by omega)
  · have q2 : z2 = 0 := by
      rcases k2 with h | h
      · exact absurd (hz.mpr h) q
      · rw [h]
        decide
    have hU2 : F_KM_decapsulate_1_L0 psn pc_ n pt 0 1088 z1 s4 = F_SP_squeeze 14 15 pt 8192 0 32 (F_SP_finish 14 15 (F_SP_absorb 14 15 pc_ n 0 1088 (F_SP_absorb 14 15 psn 2400 2368 32 (F_SP_start_3 14 15 s4)))) := by
      rw [F_KM_decapsulate_1_L0, if_neg q]
      repeat rw [bnd_eq]
    rw [hU2] at hU
    rw [if_pos q2] at hV
    obtain ⟨x1, x2, x3⟩ := refuse_same (pa := psn) (na := 2400) (at1 := 2368) (pb := pc_) (nb := n) (lb := 1088) (pt := pt) (qa := pdk) (ma := 4896) (bt1 := 2368) (qb := pct) (mb := 16384) (qt := qt) (s := s4) (t := t5) (by omega) (by omega) (by omega) (by omega) (by omega) (by omega) (fun j hj => by rw [f1 psn (by omega) (by omega), r1]; exact h3 _ (by omega)) (fun j hj => by rw [f1 pc_ (by omega) (by omega), r2]; exact h1 j hj)
    rw [hU, hV]
    refine ⟨fun k hk => ?_, fun k hk => ?_, x3⟩
    · rw [x1.1 k (by omega) (by omega), f1 k (by omega) (by omega)]
    · rw [x2.1 k (by omega) (by omega), m2.1 k (by omega), f2 k (by omega) (by omega)]
/-- set 2: the sum of decryption -/
theorem deA2 {psk pc_ n pdk pct pt : Nat} {BC BD : Nat → Int32} (hC : apD psk pc_) (hR : apT pdk pct) : ∀ (m i : Nat) (s t : Sto), i + m = 4 → (∀ j, j < 1568 → s.1 pc_ j = BC j) → (∀ j, j < 1568 → t.1 pct j = BC j) → (∀ j, j < 1536 → s.1 psk j = BD j) → (∀ j, j < 1536 → t.1 pdk j = BD j) → sr 3329 (s.1 30) (t.1 217) → ∃ s1 t1, F_KM_decrypt_2_L0 psk pc_ n m i s = F_KM_decrypt_2_L0 psk pc_ n 0 4 s1 ∧ F_ME_open_2_L0 pdk pct pt m i t = F_ME_open_2_L0 pdk pct pt 0 4 t1 ∧ E_ME_open_2_L0 pdk pct pt m i t = E_ME_open_2_L0 pdk pct pt 0 4 t1 ∧ frm (fun k => 26 ≤ k ∧ k ≤ 31) s s1 ∧ frm (fun k => 203 ≤ k ∧ k ≤ 219) t t1 ∧ sr 3329 (s1.1 30) (t1.1 217)
  | 0, i, s, t, hi, _, _, _, _, h => by
    obtain rfl : i = 4 := by omega
    exact ⟨s, t, rfl, rfl, rfl, frm_rf, frm_rf, h⟩
  | m + 1, i, s, t, hi, h1, h2, h3, h4, h => by
    have hC' := hC
    unfold apD at hC'
    have hR' := hR
    unfold apT at hR'
    have hU : F_KM_decrypt_2_L0 psk pc_ n (m + 1) i s = F_KM_decrypt_2_L0 psk pc_ n m (i + 1) (F_RG_addProduct_7 30 31 (26 + i) (F_KM_readReduced psk 3168 (384 * i) (F_RG_transform_7 (26 + i) (F_KM_readRounded (26 + i) 11 pc_ n (352 * i) s)))) := by
      rw [F_KM_decrypt_2_L0]
      repeat rw [bnd_eq]
    have hV : F_ME_open_2_L0 pdk pct pt (m + 1) i t = F_ME_open_2_L0 pdk pct pt m (i + 1) (F_ME_product (208 + i) (203 + i) 217 (F_ME_proper (208 + i) (F_ME_read_12 pdk 4896 (384 * i) (208 + i) (F_ME_forth (203 + i) (F_ME_more_11 (203 + i) (F_ME_read_11 pct 16384 (352 * i) (203 + i) t)))))) := by
      rw [F_ME_open_2_L0]
      repeat rw [bnd_eq]
    have hW : E_ME_open_2_L0 pdk pct pt (m + 1) i t = E_ME_open_2_L0 pdk pct pt m (i + 1) (F_ME_product (208 + i) (203 + i) 217 (F_ME_proper (208 + i) (F_ME_read_12 pdk 4896 (384 * i) (208 + i) (F_ME_forth (203 + i) (F_ME_more_11 (203 + i) (F_ME_read_11 pct 16384 (352 * i) (203 + i) t)))))) := by
      rw [E_ME_open_2_L0]
      repeat rw [bnd_eq]
    obtain ⟨a1, a2, a3⟩ := spread11_same (pf := 26 + i) (pr_ := pc_) (n := n) (at_ := 352 * i) (qf := 203 + i) (qr := pct) (m := 16384) (bt := 352 * i) (s := s) (t := t) (by omega) (by omega) (fun j hj => by rw [h1 _ (by omega), h2 _ (by omega)])
    generalize F_KM_readRounded (26 + i) 11 pc_ n (352 * i) s = s1 at a1 a3 hU
    generalize F_ME_more_11 (203 + i) (F_ME_read_11 pct 16384 (352 * i) (203 + i) t) = t1 at a2 a3 hV hW
    obtain ⟨b1, b2, b3⟩ := forth_sr (by omega) a3
    generalize F_RG_transform_7 (26 + i) s1 = s2 at b1 b3 hU
    generalize F_ME_forth (203 + i) t1 = t2 at b2 b3 hV hW
    have e1 : s2.1 psk = s.1 psk := by rw [b1.1 psk (by omega), a1.1 psk (by omega)]
    have e2 : t2.1 pdk = t.1 pdk := by rw [b2.1 pdk (by omega) (by omega), a2.1 pdk (by omega)]
    obtain ⟨c1, c2, c3⟩ := reduced_same (pb := psk) (n := 3168) (at_ := 384 * i) (qb := pdk) (m := 4896) (bt := 384 * i) (qf := 208 + i) (s := s2) (t := t2) (by omega) (by omega) (fun j hj => by rw [e1, e2, h3 _ (by omega), h4 _ (by omega)])
    generalize F_KM_readReduced psk 3168 (384 * i) s2 = s3 at c1 c3 hU
    generalize F_ME_proper (208 + i) (F_ME_read_12 pdk 4896 (384 * i) (208 + i) t2) = t3 at c2 c3 hV hW
    obtain ⟨d1, d2, d3⟩ := product_sr (ps := 30) (pf := 31) (pg := 26 + i) (qs := 217) (qf := 208 + i) (qg := 203 + i) (s := s3) (t := t3) (by omega) (by omega) (by omega) (by omega) (sr_w h (by rw [c1.1 30 (by omega), b1.1 30 (by omega), a1.1 30 (by omega)]) (by rw [c2.1 217 (by omega), b2.1 217 (by omega) (by omega), a2.1 217 (by omega)])) c3 (sr_w b3 (c1.1 (26 + i) (by omega)) (c2.1 (203 + i) (by omega)))
    generalize F_RG_addProduct_7 30 31 (26 + i) s3 = s4 at d1 d3 hU
    generalize F_ME_product (208 + i) (203 + i) 217 t3 = t4 at d2 d3 hV hW
    have g1 : frm (fun k => 26 ≤ k ∧ k ≤ 31) s s4 := fun k hk => by rw [d1.1 k (by omega), c1.1 k (by omega), b1.1 k (by omega), a1.1 k (by omega)]
    have g2 : frm (fun k => 203 ≤ k ∧ k ≤ 219) t t4 := fun k hk => by rw [d2.1 k (by omega), c2.1 k (by omega), b2.1 k (by omega) (by omega), a2.1 k (by omega)]
    obtain ⟨s5, t5, f1, f2, f2e, f3, f4, f5⟩ := deA2 (n := n) (pt := pt) (BC := BC) (BD := BD) hC hR m (i + 1) s4 t4 (by omega) (fun j hj => by rw [g1 pc_ (by omega)]; exact h1 j hj) (fun j hj => by rw [g2 pct (by omega)]; exact h2 j hj) (fun j hj => by rw [g1 psk (by omega)]; exact h3 j hj) (fun j hj => by rw [g2 pdk (by omega)]; exact h4 j hj) d3
    exact ⟨s5, t5, hU.trans f1, hV.trans f2, hW.trans f2e, ftr g1 f3, ftr g2 f4, f5⟩
/-- set 2: decryption gives the same message -/
theorem decrypt2_same {psk pc_ n pdk pct pt : Nat} {s t : Sto} (hC : apD psk pc_) (hR : apT pdk pct) (h1 : ∀ j, j < 1568 → s.1 pc_ j = t.1 pct j) (h3 : ∀ j, j < 1536 → s.1 psk j = t.1 pdk j) : ∃ t1, F_ME_open_2 pdk pct pt t = F_ME_open_2_L2 pdk pct pt 32 0 t1 ∧ E_ME_open_2 pdk pct pt t = E_ME_open_2_L2 pdk pct pt 32 0 t1 ∧ frm (fun k => 26 ≤ k ∧ k ≤ 32) s (F_KM_decrypt_2 psk pc_ n s) ∧ frm (fun k => (203 ≤ k ∧ k ≤ 219) ∨ k = 223) t t1 ∧ ∀ j, j < 32 → (F_KM_decrypt_2 psk pc_ n s).1 32 j = t1.1 223 j := by
  have hC' := hC
  unfold apD at hC'
  have hR' := hR
  unfold apT at hR'
  have o3 : ∀ w : Sto, (F_ME_sealedSize_2 w).2 = w := fun w => by rw [F_ME_sealedSize_2]
  have hU : F_KM_decrypt_2 psk pc_ n s = F_KM_decrypt_2_L0 psk pc_ n 4 0 (F_AR_fillI 30 256 (nI 0) s) := by rw [F_KM_decrypt_2, bnd_eq]
  have hV : F_ME_open_2 pdk pct pt t = F_ME_open_2_L0 pdk pct pt 4 0 (F_ME_clear 217 t) := by
    rw [F_ME_open_2]
    repeat rw [bnd_eq]
    rw [o3]
  have hW : E_ME_open_2 pdk pct pt t = E_ME_open_2_L0 pdk pct pt 4 0 (F_ME_clear 217 t) := by
    rw [E_ME_open_2]
    repeat rw [bnd_eq]
    rw [o3]
  obtain ⟨a1, a2⟩ := P_fill (pf := 30) (v := nI 0) (s := s)
  obtain ⟨b1, b2⟩ := Q_clear (pf := 217) (s := t)
  generalize F_AR_fillI 30 256 (nI 0) s = s0 at a1 a2 hU
  generalize F_ME_clear 217 t = t0 at b1 b2 hV hW
  obtain ⟨s1, t1, c1, c2, c2e, c3, c4, c5⟩ := deA2 (n := n) (pt := pt) (BC := t.1 pct) (BD := t.1 pdk) hC hR 4 0 s0 t0 (by decide) (fun j hj => by rw [a1.1 pc_ (by omega)]; exact h1 j hj) (fun j hj => by rw [b1.1 pct (by omega)]) (fun j hj => by rw [a1.1 psk (by omega)]; exact h3 j hj) (fun j hj => by rw [b1.1 pdk (by omega)]) (fun k hk => ⟨0, by decide, a2 k hk, b2 k hk⟩)
  rw [c1] at hU
  rw [c2] at hV
  rw [c2e] at hW
  have hU2 : F_KM_decrypt_2_L0 psk pc_ n 0 4 s1 = F_KM_writeRounded 31 1 32 32 0 (F_RG_subtract_7 31 30 (F_KM_readRounded 31 5 pc_ n 1408 (F_RG_restore_7 30 s1))) := by
    rw [F_KM_decrypt_2_L0]
    repeat rw [bnd_eq]
  have hV2 : F_ME_open_2_L0 pdk pct pt 0 4 t1 = F_ME_open_2_L1 pdk pct pt 256 0 (F_ME_more_5 218 (F_ME_read_5 pct 16384 1408 218 (F_ME_back 217 t1))) := by
    rw [F_ME_open_2_L0]
    repeat rw [bnd_eq]
  have hW2 : E_ME_open_2_L0 pdk pct pt 0 4 t1 = E_ME_open_2_L1 pdk pct pt 256 0 (F_ME_more_5 218 (F_ME_read_5 pct 16384 1408 218 (F_ME_back 217 t1))) := by
    rw [E_ME_open_2_L0]
    repeat rw [bnd_eq]
  rw [hU2] at hU
  rw [hV2] at hV
  rw [hW2] at hW
  obtain ⟨d1, d2, d3⟩ := back_sr (by decide) c5
  generalize F_RG_restore_7 30 s1 = s2 at d1 d3 hU
  generalize F_ME_back 217 t1 = t2 at d2 d3 hV hW
  have p1 : s2.1 pc_ = s.1 pc_ := by rw [d1.1 pc_ (by omega), c3 pc_ (by omega), a1.1 pc_ (by omega)]
  have p2 : t2.1 pct = t.1 pct := by rw [d2.1 pct (by omega) (by omega), c4 pct (by omega), b1.1 pct (by omega)]
  obtain ⟨f1, f2, f3⟩ := spread5_same (pf := 31) (pr_ := pc_) (n := n) (at_ := 1408) (qf := 218) (qr := pct) (m := 16384) (bt := 1408) (s := s2) (t := t2) (by omega) (by omega) (fun j hj => by rw [p1, p2]; exact h1 _ (by omega))
  generalize F_KM_readRounded 31 5 pc_ n 1408 s2 = s3 at f1 f3 hU
  generalize F_ME_more_5 218 (F_ME_read_5 pct 16384 1408 218 t2) = t3 at f2 f3 hV hW
  have d4 : sr 3329 (s3.1 30) (t3.1 217) := sr_w d3 (f1.1 30 (by decide)) (f2.1 217 (by decide))
  obtain ⟨g1, g2⟩ := P_subtract (pf := 31) (pg := 30) (s := s3) (by decide)
  generalize F_RG_subtract_7 31 30 s3 = s4 at g1 g2 hU
  obtain ⟨t4, w1, w2, w3, -⟩ := el_loopA (α := Sto × Prop) (pf := 218) (G := fun n i s => (F_ME_open_2_L1 pdk pct pt n i s, E_ME_open_2_L1 pdk pct pt n i s)) (K := fun s => (F_ME_open_2_L2 pdk pct pt 32 0 (F_ME_write_1 218 223 32 0 (F_ME_less_1 218 s)), E_ME_open_2_L2 pdk pct pt 32 0 (F_ME_write_1 218 223 32 0 (F_ME_less_1 218 s)))) (e := fun i s => ((s.1 218 i - s.1 217 i) + nI 3329) - ((s.1 218 i - s.1 217 i) + nI 3329) / nI 3329 * nI 3329) (fun i s => by
    show (F_ME_open_2_L1 pdk pct pt 0 i s, E_ME_open_2_L1 pdk pct pt 0 i s) = _
    rw [F_ME_open_2_L1, E_ME_open_2_L1]
    repeat rw [bnd_eq]) (fun n i s => by
    show (F_ME_open_2_L1 pdk pct pt (n + 1) i s, E_ME_open_2_L1 pdk pct pt (n + 1) i s) = _
    rw [F_ME_open_2_L1, E_ME_open_2_L1]
    repeat rw [bnd_eq]) (fun i s s' o h => by simp only [h, o.1 217 (by decide)]) 256 0 t3
  have w1' : (F_ME_open_2_L1 pdk pct pt 256 0 t3, E_ME_open_2_L1 pdk pct pt 256 0 t3) = (F_ME_open_2_L2 pdk pct pt 32 0 (F_ME_write_1 218 223 32 0 (F_ME_less_1 218 t4)), E_ME_open_2_L2 pdk pct pt 32 0 (F_ME_write_1 218 223 32 0 (F_ME_less_1 218 t4))) := w1
  obtain ⟨v1, v2⟩ := Prod.mk.inj w1'
  have key : sr 3329 (s4.1 31) (t4.1 218) := fun k hk => by
    obtain ⟨a, ha, e1, e2⟩ := f3 k hk
    obtain ⟨b, hb, e3, e4⟩ := d4 k hk
    refine ⟨(a + 3329 - b) % 3329, Nat.mod_lt _ (by decide), ?_, ?_⟩
    · rw [g2 k hk, e1, e3]
      by_cases z : b ≤ a
      · rw [if_pos ((sub_nn (by omega) (by omega)).mpr z), pk_sub z]
        exact congrArg nI (by omega)
      · rw [if_neg (fun c => z ((sub_nn (by omega) (by omega)).mp c)), nI_sa (by omega)]
        exact congrArg nI (by omega)
    · rw [w3 k (Nat.zero_le _) (by omega)]
      show ((t3.1 218 k - t3.1 217 k) + nI 3329) - ((t3.1 218 k - t3.1 217 k) + nI 3329) / nI 3329 * nI 3329 = _
      rw [e2, e4, nI_sa (by omega), pk_rem (by omega) (by decide) (by decide)]
  obtain ⟨x1, x2, x3, -, -⟩ := rounded1_same (pf := 31) (pt := 32) (n := 32) (at_ := 0) (qf := 218) (qt := 223) (m := 32) (bt := 0) (s := s4) (t := t4) (by decide) (by decide) key
  refine ⟨F_ME_write_1 218 223 32 0 (F_ME_less_1 218 t4), hV.trans v1, hW.trans v2, fun k hk => ?_, fun k hk => ?_, fun j hj => ?_⟩
  · rw [hU, x1 k (by omega) (by omega), g1.1 k (by omega), f1.1 k (by omega), d1.1 k (by omega), c3 k (by omega), a1.1 k (by omega)]
  · rw [x2 k (by omega) (by omega), w2.1 k (by omega), f2.1 k (by omega), d2.1 k (by omega) (by omega), c4 k (by omega), b1.1 k (by omega)]
  · have := x3 j (by omega)
    rw [Nat.zero_add] at this
    rw [hU]
    exact this
theorem cmP2 {psn pc_ n pt : Nat} {s : Sto} : ∀ (m i : Nat) (z : Int32), i + m = 1568 → ∃ z1, F_KM_decapsulate_2_L0 psn pc_ n pt m i z s = F_KM_decapsulate_2_L0 psn pc_ n pt 0 1568 z1 s ∧ (z1 = 0 ↔ z = 0 ∧ ∀ k, i ≤ k → k < 1568 → s.1 pc_ k = s.1 36 k)
  | 0, i, z, hi => by
    obtain rfl : i = 1568 := by omega
    exact ⟨z, rfl, fun h => ⟨h, fun k h1 h2 => by omega⟩, fun h => h.1⟩
  | m + 1, i, z, hi => by
    obtain ⟨z1, e, h⟩ := cmP2 (psn := psn) (pc_ := pc_) (n := n) (pt := pt) (s := s) m (i + 1) (z ||| ((s.1 pc_ i) ^^^ (s.1 36 i))) (by omega)
    refine ⟨z1, Eq.trans (by rw [F_KM_decapsulate_2_L0, bnd_eq]) e, h.trans ?_⟩
    rw [or_z, xor_z]
    constructor
    · rintro ⟨⟨h1, h2⟩, h3⟩
      refine ⟨h1, fun k u v => ?_⟩
      by_cases w : k = i
      · subst w
        exact h2
      · exact h3 k (by omega) v
    · rintro ⟨h1, h2⟩
      exact ⟨⟨h1, h2 i (Nat.le_refl _) (by omega)⟩, fun k u v => h2 k (by omega) v⟩
theorem cmQ2 {pdk pct pt : Nat} {s : Sto} : ∀ (m i : Nat) (z : Int32), i + m = 1568 → (z = nI 1 ∨ z = nI 0) → ∃ z1, F_ME_open_2_L3 pdk pct pt m i z s = F_ME_open_2_L3 pdk pct pt 0 1568 z1 s ∧ (z1 = nI 1 ∨ z1 = nI 0) ∧ (z1 = nI 1 ↔ z = nI 1 ∧ ∀ k, i ≤ k → k < 1568 → s.1 224 k = s.1 pct k)
  | 0, i, z, hi, hz => by
    obtain rfl : i = 1568 := by omega
    exact ⟨z, rfl, hz, fun h => ⟨h, fun k h1 h2 => by omega⟩, fun h => h.1⟩
  | m + 1, i, z, hi, hz => by
    have n10 : nI 1 ≠ nI 0 := by decide
    by_cases q : s.1 224 i = s.1 pct i
    · have ez : z &&& nI 1 = z := by
        rcases hz with rfl | rfl <;> decide
      obtain ⟨z1, e, h1, h⟩ := cmQ2 (pdk := pdk) (pct := pct) (pt := pt) (s := s) m (i + 1) z (by omega) hz
      refine ⟨z1, Eq.trans (by rw [F_ME_open_2_L3, if_pos q, bnd_eq, ez]) e, h1, h.trans ?_⟩
      constructor
      · rintro ⟨h2, h3⟩
        refine ⟨h2, fun k u v => ?_⟩
        by_cases w : k = i
        · subst w
          exact q
        · exact h3 k (by omega) v
      · rintro ⟨h2, h3⟩
        exact ⟨h2, fun k u v => h3 k (by omega) v⟩
    · have ez : z &&& nI 0 = nI 0 := by
        rcases hz with rfl | rfl <;> decide
      obtain ⟨z1, e, h1, h⟩ := cmQ2 (pdk := pdk) (pct := pct) (pt := pt) (s := s) m (i + 1) (nI 0) (by omega) (Or.inr rfl)
      refine ⟨z1, Eq.trans (by rw [F_ME_open_2_L3, if_neg q, bnd_eq, ez]) e, h1, h.trans ?_⟩
      constructor
      · rintro ⟨h2, -⟩
        exact absurd h2.symm n10
      · rintro ⟨-, h3⟩
        exact absurd (h3 i (Nat.le_refl _) (by omega)) q
set_option maxRecDepth 100000 in
/-- ML-KEM.Decaps, set 2: where the reference's draws end in time, the shared secret is the same bytes -/
theorem open2_same {kn pp psn pc_ n pt pdk pct qt : Nat} {s t : Sto} (hD : apD psn pc_) (hT : apT pdk pct) (hC : apC pp 36) (hpt : pt ≠ 14 ∧ ¬ (26 ≤ pt ∧ pt ≤ 36)) (hqt : qt ≠ 172 ∧ ¬ (186 ≤ qt ∧ qt ≤ 224) ∧ qt ≠ pdk ∧ qt ≠ pct) (h1 : ∀ j, j < 1568 → s.1 pc_ j = t.1 pct j) (h3 : ∀ j, j < 3168 → s.1 psn j = t.1 pdk j) (h4 : ∀ j, j < 1568 → s.1 pp j = t.1 pdk (1536 + j)) (hN : ∀ j, j < 3168 → vp_nar .byte (t.1 pdk j) = t.1 pdk j) (hE : E_ME_open_2 pdk pct qt t) : frm (fun k => k = 14 ∨ (26 ≤ k ∧ k ≤ 36) ∨ k = pt) s (F_KM_decapsulate_2 kn pp psn pc_ n pt s) ∧ frm (fun k => k = 172 ∨ (186 ≤ k ∧ k ≤ 224) ∨ k = qt) t (F_ME_open_2 pdk pct qt t) ∧ ∀ x, x < 32 → (F_KM_decapsulate_2 kn pp psn pc_ n pt s).1 pt x = (F_ME_open_2 pdk pct qt t).1 qt x := by
  have hD' := hD
  unfold apD at hD'
  have hT' := hT
  unfold apT at hT'
  have hC' := hC
  unfold apC at hC'
  obtain ⟨t1, a1, a2, a3, a4, a5⟩ := decrypt2_same (n := n) (pt := qt) hD hT h1 (fun j hj => h3 j (by omega))
  have hU : F_KM_decapsulate_2 kn pp psn pc_ n pt s = F_KM_decapsulate_2_L0 psn pc_ n pt 1568 0 (nI 0) (F_KM_encrypt_2 pp 36 1568 (F_KM_deriveSeeds psn 3168 3104 (F_KM_decrypt_2 psn pc_ n s))) := by
    rw [F_KM_decapsulate_2]
    repeat rw [bnd_eq]
  rw [a2] at hE
  generalize F_KM_decrypt_2 psn pc_ n s = s1 at a3 a5 hU
  obtain ⟨t2, w1, w2, w3, -⟩ := cp_loop (α := Sto × Prop) (pt := 222) (pr_ := pdk) (o := 0) (r := 3104) (G := fun n i s => (F_ME_open_2_L2 pdk pct qt n i s, E_ME_open_2_L2 pdk pct qt n i s)) (K := fun s => (F_ME_open_2_L3 pdk pct qt 1568 0 (nI 1) (F_ME_encrypt_2 pdk 4896 1536 223 32 224 1568 (F_ME_both 223 32 s)), (E_ME_encrypt_2 pdk 4896 1536 223 32 224 1568 (F_ME_both 223 32 s)) ∧ E_ME_open_2_L3 pdk pct qt 1568 0 (nI 1) (F_ME_encrypt_2 pdk 4896 1536 223 32 224 1568 (F_ME_both 223 32 s)))) (by omega) (fun i s => by
    show (F_ME_open_2_L2 pdk pct qt 0 i s, E_ME_open_2_L2 pdk pct qt 0 i s) = _
    rw [F_ME_open_2_L2, E_ME_open_2_L2]
    repeat rw [bnd_eq]) (fun n i s => by
    show (F_ME_open_2_L2 pdk pct qt (n + 1) i s, E_ME_open_2_L2 pdk pct qt (n + 1) i s) = _
    rw [F_ME_open_2_L2, E_ME_open_2_L2, Nat.zero_add]
    repeat rw [bnd_eq]) 32 0 t1
  have w1' : (F_ME_open_2_L2 pdk pct qt 32 0 t1, E_ME_open_2_L2 pdk pct qt 32 0 t1) = (F_ME_open_2_L3 pdk pct qt 1568 0 (nI 1) (F_ME_encrypt_2 pdk 4896 1536 223 32 224 1568 (F_ME_both 223 32 t2)), (E_ME_encrypt_2 pdk 4896 1536 223 32 224 1568 (F_ME_both 223 32 t2) ∧ E_ME_open_2_L3 pdk pct qt 1568 0 (nI 1) (F_ME_encrypt_2 pdk 4896 1536 223 32 224 1568 (F_ME_both 223 32 t2)))) := w1
  obtain ⟨v1, v2⟩ := Prod.mk.inj w1'
  have hE1 := (Eq.mp v2 hE).1
  have hV : F_ME_open_2 pdk pct qt t = F_ME_open_2_L3 pdk pct qt 1568 0 (nI 1) (F_ME_encrypt_2 pdk 4896 1536 223 32 224 1568 (F_ME_both 223 32 t2)) := a1.trans v1
  have p1 : s1.1 psn = s.1 psn := a3 psn (by omega)
  have p2 : t1.1 pdk = t.1 pdk := a4 pdk (by omega)
  obtain ⟨c1, c2, c3, c4⟩ := seeds_same (pb := psn) (n := 3168) (at_ := 3104) (qb := 223) (m := 32) (s := s1) (t := t2) (by omega) (by decide) (fun j hj => by rw [w2.1 223 (by decide)]; exact a5 j hj) (fun j hj => by
    have := w3 j (Nat.zero_le _) (by omega)
    rw [Nat.zero_add] at this
    rw [this, p1, p2, hN _ (by omega)]
    exact h3 _ (by omega))
  have q1 : ∀ j, j < 32 → t2.1 223 j = s1.1 32 j := fun j hj => by rw [w2.1 223 (by decide)]; exact (a5 j hj).symm
  generalize F_KM_deriveSeeds psn 3168 3104 s1 = s3 at c1 c3 hU
  generalize F_ME_both 223 32 t2 = t3 at c2 c3 c4 hV hE1
  have e3 : s3.1 pp = s.1 pp := by rw [c1.1 pp (by omega) (by omega), a3 pp (by omega)]
  have e4 : t3.1 pdk = t.1 pdk := by rw [c2.1 pdk (by omega) (by omega), w2.1 pdk (by omega), p2]
  obtain ⟨d1, d2, d3⟩ := encrypt2_same (pp := pp) (pt := 36) (n := 1568) (pek := pdk) (nn := 4896) (at_ := 1536) (pms := 223) (nm := 32) (pct := 224) (nc := 1568) (s := s3) (t := t3) hC (by unfold apR; omega) (fun j hj => by rw [e3, e4]; exact h4 j hj) (fun j hj => by rw [c1.1 32 (by decide) (by decide), c2.1 223 (by decide) (by decide)]; exact (q1 j hj).symm) (fun j hj => c3 (32 + j) (by omega)) hE1
  generalize F_KM_encrypt_2 pp 36 1568 s3 = s4 at d1 d3 hU
  generalize F_ME_encrypt_2 pdk 4896 1536 223 32 224 1568 t3 = t4 at d2 d3 hV
  have f1 : ∀ y, y ≠ 14 → ¬ (26 ≤ y ∧ y ≤ 36) → s4.1 y = s.1 y := fun y x1 x2 => by rw [d1 y (by unfold MC; omega), c1.1 y (by omega) (by omega), a3 y (by omega)]
  have f2 : ∀ y, y ≠ 172 → ¬ (186 ≤ y ∧ y ≤ 224) → t4.1 y = t.1 y := fun y x1 x2 => by rw [d2 y (by unfold MR; omega), c2.1 y (by omega) (by omega), w2.1 y (by omega), a4 y (by omega)]
  have e7 : s4.1 34 = s3.1 34 := d1 34 (by unfold MC; omega)
  have e8 : t4.1 220 = t3.1 220 := d2 220 (by unfold MR; omega)
  obtain ⟨z1, g1, g2⟩ := cmP2 (psn := psn) (pc_ := pc_) (n := n) (pt := pt) (s := s4) 1568 0 (nI 0) (by decide)
  obtain ⟨z2, k1, k2, k3⟩ := cmQ2 (pdk := pdk) (pct := pct) (pt := qt) (s := t4) 1568 0 (nI 1) (by decide) (Or.inl rfl)
  rw [g1] at hU
  rw [k1] at hV
  have hz : z1 = 0 ↔ z2 = nI 1 := by
    rw [g2, k3]
    constructor
    · rintro ⟨-, h⟩
      refine ⟨rfl, fun k u v => ?_⟩
      have := h k u v
      rw [f1 pc_ (by omega) (by omega), h1 k v, d3 k v, ← f2 pct (by omega) (by omega)] at this
      exact this.symm
    · rintro ⟨-, h⟩
      refine ⟨by decide, fun k u v => ?_⟩
      have := h k u v
      rw [f1 pc_ (by omega) (by omega), h1 k v, d3 k v, ← f2 pct (by omega) (by omega)]
      exact this.symm
  have hV2 : F_ME_open_2_L3 pdk pct qt 0 1568 z2 t4 = F_ME_open_2_L4 pdk pct qt z2 32 0 t4 := by rw [F_ME_open_2_L3]
  obtain ⟨t5, m1, m2, m3, -⟩ := cp_loop (pt := qt) (pr_ := 220) (o := 0) (r := 0) (G := F_ME_open_2_L4 pdk pct qt z2) (K := fun s => if z2 = 0 then F_MS_take qt 8192 0 32 (F_MS_end (F_MS_puts pct 16384 0 1568 (F_MS_puts pdk 4896 3136 32 (F_MS_begin 136 (nI 31) s)))) else s) (by omega) (fun i s => by
    rw [F_ME_open_2_L4]
    repeat rw [bnd_eq]
    rw [F_MS_shake, bnd_eq]) (fun n i s => by rw [F_ME_open_2_L4, bnd_eq, Nat.zero_add]) 32 0 t4
  rw [hV2, m1] at hV
  have r1 : t5.1 pdk = t.1 pdk := by rw [m2.1 pdk (by omega), f2 pdk (by omega) (by omega)]
  have r2 : t5.1 pct = t.1 pct := by rw [m2.1 pct (by omega), f2 pct (by omega) (by omega)]
  have n10 : nI 1 ≠ (0 : Int32) := by decide
  by_cases q : z1 = 0
  · have q2 : ¬ z2 = 0 := by rw [hz.mp q]; exact n10
    have hU2 : F_KM_decapsulate_2_L0 psn pc_ n pt 0 1568 z1 s4 = sC s4 34 pt 0 0 32 := by rw [F_KM_decapsulate_2_L0, if_pos q, bnd_eq]
    rw [hU2] at hU
    rw [if_neg q2] at hV
    rw [hU, hV]
    refine ⟨fun k hk => ?_, fun k hk => ?_, fun x hx => ?_⟩
    · rw [(sC_o (s := s4) (k0 := 34) (k1 := pt) (sp := 0) (dp := 0) (n := 32)).1 k (by omega), f1 k (by omega) (by omega)]
    · rw [m2.1 k (by omega), f2 k (by omega) (by omega)]
    · have g3 := sC_in (s := s4) (k0 := 34) (k1 := pt) (sp := 0) (dp := 0) (n := 32) (j := x) hx
      have g4 := m3 x (Nat.zero_le _) (by omega)
      rw [Nat.zero_add] at g3 g4
      rw [g3, g4, e7, e8, c4 _ (by omega)]
      exact c3 _ (by omega)
  · have q2 : z2 = 0 := by
      rcases k2 with h | h
      · exact absurd (hz.mpr h) q
      · rw [h]
        decide
    have hU2 : F_KM_decapsulate_2_L0 psn pc_ n pt 0 1568 z1 s4 = F_SP_squeeze 14 15 pt 8192 0 32 (F_SP_finish 14 15 (F_SP_absorb 14 15 pc_ n 0 1568 (F_SP_absorb 14 15 psn 3168 3136 32 (F_SP_start_3 14 15 s4)))) := by
      rw [F_KM_decapsulate_2_L0, if_neg q]
      repeat rw [bnd_eq]
    rw [hU2] at hU
    rw [if_pos q2] at hV
    obtain ⟨x1, x2, x3⟩ := refuse_same (pa := psn) (na := 3168) (at1 := 3136) (pb := pc_) (nb := n) (lb := 1568) (pt := pt) (qa := pdk) (ma := 4896) (bt1 := 3136) (qb := pct) (mb := 16384) (qt := qt) (s := s4) (t := t5) (by omega) (by omega) (by omega) (by omega) (by omega) (by omega) (fun j hj => by rw [f1 psn (by omega) (by omega), r1]; exact h3 _ (by omega)) (fun j hj => by rw [f1 pc_ (by omega) (by omega), r2]; exact h1 j hj)
    rw [hU, hV]
    refine ⟨fun k hk => ?_, fun k hk => ?_, x3⟩
    · rw [x1.1 k (by omega) (by omega), f1 k (by omega) (by omega)]
    · rw [x2.1 k (by omega) (by omega), m2.1 k (by omega), f2 k (by omega) (by omega)]
