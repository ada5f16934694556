set_option linter.all false
noncomputable def hN1 (v : Nat) : Nat := (F_MH_high_1 (nI v) z0S).1.toNatClampNeg
theorem hN1_e {v : Nat} (hv : v < 8380417) : hN1 v < 16 ∧ (∀ s, F_DS_high_1 (nI v) s = (nI (hN1 v), s)) ∧ ∀ t, F_MH_high_1 (nI v) t = (nI (hN1 v), t) := by
  have e : ∀ (h : Nat), h < 16 → F_MH_high_1 (nI v) z0S = (nI h, z0S) → hN1 v = h := fun h h1 h2 => by
    unfold hN1
    rw [h2]
    exact nI_clamp (by omega)
  obtain ⟨h, h1, h2, h3⟩ := hi1 hv (s := z0S) (t := z0S)
  refine ⟨by rw [e h h1 h3]; exact h1, fun s => ?_, fun t => ?_⟩
  · obtain ⟨h', g1, g2, g3⟩ := hi1 hv (s := s) (t := z0S)
    rw [e h' g1 g3]
    exact g2
  · obtain ⟨h', g1, g2, g3⟩ := hi1 hv (s := z0S) (t := t)
    have q : h' = h := (nI_eq (by omega) (by omega)).mp (congrArg Prod.fst (g2.symm.trans h2))
    rw [e h h1 h3, ← q]
    exact g3
/-- a mask, as the reference has drawn it -/
def isMk1 (CH : Nat → Int32) (wh : Int32) (r : Nat → Int32) : Prop := ∀ (pf : Nat) (s : Sto), pf ≠ 18 → pf ≠ 38 → (∀ x, x < 64 → s.1 142 x = CH x) → (∀ y, y ≠ 18 → y ≠ 38 → y ≠ pf → (F_RG_flip_8 pf (nI 524288) pf (F_SA_sampleMask_1 pf 142 128 wh s)).1 y = s.1 y) ∧ sr 8380417 ((F_RG_flip_8 pf (nI 524288) pf (F_SA_sampleMask_1 pf 142 128 wh s)).1 pf) r
theorem mq1 {fr : Int32} {CH : Nat → Int32} : ∀ (m i : Nat) (t : Sto), i + m = 5 → (∀ x, x < 64 → t.1 374 x = CH x) → (∀ r, r < i → isMk1 CH (fr + nI r) (t.1 (327 + r)) ∧ rdc 8380417 (t.1 (327 + r))) →
    ∃ t1, F_MH_mask_1_L0 fr m i t = t1 ∧ frm (fun k => k = 172 ∨ k = 375 ∨ (327 ≤ k ∧ k ≤ 333)) t t1 ∧ ∀ r, r < 5 → isMk1 CH (fr + nI r) (t1.1 (327 + r)) ∧ rdc 8380417 (t1.1 (327 + r))
  | 0, i, t, hi, _, h => by
    obtain rfl : i = 5 := by omega
    exact ⟨t, by rw [F_MH_mask_1_L0, bnd_eq], frm_rf, h⟩
  | m + 1, i, t, hi, h1, h => by
    have hV : F_MH_mask_1_L0 fr (m + 1) i t = F_MH_mask_1_L1 i (F_MH_mask_1_L0 fr m) 256 0 (F_MS_take 375 640 0 640 (F_MS_end (F_MS_put ((fr + nI i) >>> (nI 8 &&& 31)) (F_MS_put (fr + nI i) (F_MS_puts 374 64 0 64 (F_MS_begin 136 (nI 31) t)))))) := by
      rw [F_MH_mask_1_L0]
      repeat rw [bnd_eq]
      rw [shM]
    have key := fun (s : Sto) (hB : ∀ j, j < 64 → s.1 142 j = t.1 374 j) => mk8_same (MB := 640) (wh := fr + nI i) (s := s) (t := t) hB
    have a2 := (key (fun _ x => t.1 374 x, fun _ _ => 0) (fun _ _ => rfl)).2.1
    generalize F_MS_take 375 640 0 640 (F_MS_end (F_MS_put ((fr + nI i) >>> (nI 8 &&& 31)) (F_MS_put (fr + nI i) (F_MS_puts 374 64 0 64 (F_MS_begin 136 (nI 31) t))))) = t1 at key a2 hV
    obtain ⟨t2, b1, b2, b3⟩ := rd_loop (pr_ := 375) (b := 20) (T := 524288) (at_ := 0) (qf := 327 + i) (G := F_MH_mask_1_L1 i (F_MH_mask_1_L0 fr m)) (K := F_MH_mask_1_L0 fr m (i + 1)) (by omega) (by decide) (by decide) (fun s => by rw [F_MH_mask_1_L1]) (fun n k s hk => by
      rw [F_MH_mask_1_L1]
      repeat rw [bnd_eq]
      rw [Q_unpack (by decide)]
      dsimp only
      rw [Q_minus, Nat.mul_zero, Nat.zero_add]) t1
    have c1 : isMk1 CH (fr + nI i) (t2.1 (327 + i)) := fun pf s u1 u2 u3 => by
      obtain ⟨d1, -, d3⟩ := key s (fun j hj => by rw [u3 j hj, h1 j hj])
      have hU : F_SA_sampleMask_1 pf 142 128 (fr + nI i) s = F_BT_unpack pf 20 38 640 0 (F_SP_squeeze 18 19 38 640 0 640 (F_SP_finish 18 19 (F_SP_absorbByte 18 19 ((fr + nI i) >>> (nI 8 &&& 31)) (F_SP_absorbByte 18 19 (fr + nI i) (F_SP_absorb 18 19 142 128 0 64 (F_SP_start_3 18 19 s)))))) := by
        rw [F_SA_sampleMask_1, F_SA_startNumbered]
        repeat rw [bnd_eq]
      generalize F_SP_squeeze 18 19 38 640 0 640 (F_SP_finish 18 19 (F_SP_absorbByte 18 19 ((fr + nI i) >>> (nI 8 &&& 31)) (F_SP_absorbByte 18 19 (fr + nI i) (F_SP_absorb 18 19 142 128 0 64 (F_SP_start_3 18 19 s))))) = s1 at d1 d3 hU
      rw [hU]
      obtain ⟨f1, f2⟩ := P_readFl (pf := pf) (b := 20) (T := 524288) (pr_ := 38) (n := 640) (at_ := 0) (s := s1) (Ne.symm u2) (by decide) (by decide) (by decide)
      have e : F_DA_readFlipped pf 20 (nI 524288) 38 640 0 s1 = F_RG_flip_8 pf (nI 524288) pf (F_BT_unpack pf 20 38 640 0 s1) := by
        rw [F_DA_readFlipped]
        repeat rw [bnd_eq]
      rw [← e]
      refine ⟨fun y v1 v2 v3 => by rw [f1.1 y v3, d1.1 y v1 v2], fun k hk => ⟨_, Nat.mod_lt _ (by decide), f2 k hk, ?_⟩⟩
      rw [b3 k hk]
      exact (rwN_c (fun j hj => by rw [Nat.zero_add]; exact (d3 j (by omega)).symm) hk)
    have c2 : rdc 8380417 (t2.1 (327 + i)) := fun k hk => ⟨_, Nat.mod_lt _ (by decide), b3 k hk⟩
    obtain ⟨t3, g1, g2, g3⟩ := mq1 (fr := fr) (CH := CH) m (i + 1) t2 (by omega) (fun x hx => by rw [b2.1 374 (by omega), a2.1 374 (by decide) (by decide)]; exact h1 x hx) (fun r hr => by
      by_cases w : r = i
      · subst w
        exact ⟨c1, c2⟩
      · rw [b2.1 _ (by omega), a2.1 _ (by omega) (by omega)]
        exact h r (by omega))
    exact ⟨t3, (hV.trans b1).trans g1, fun k hk => by rw [g2 k hk, b2.1 k (by omega), a2.1 k (by omega) (by omega)], g3⟩
theorem cm41 {j : Nat} {kk : Nat → Sto → Sto} {M : Nat → Nat → Nat → Int32} {H : Nat → Nat → Int32} (hj : j < 5) (hM : ∀ y x, y < 6 → x < 5 → rdc 8380417 (M y x)) : ∀ (m i : Nat) (s : Sto), i + m = 6 → (∀ y x, y < 6 → x < 5 → s.1 (41 + (5 * y + x)) = M y x) → sr 8380417 (s.1 141) (H j) → (∀ y, y < 6 → rdc 8380417 (s.1 (132 + y))) → (∀ y k, y < 6 → k < 256 → cg ((8380417 : Nat) : Int) (vl (s.1 (132 + y)) k) (sm (if y < i then j + 1 else j) fun x => vl (M y x) k * vl (H x) k)) →
    ∃ s1, F_DA_commit_1_L4 j kk m i s = kk (j + 1) s1 ∧ frm (fun k => 132 ≤ k ∧ k ≤ 139) s s1 ∧ (∀ y, y < 6 → rdc 8380417 (s1.1 (132 + y))) ∧ ∀ y k, y < 6 → k < 256 → cg ((8380417 : Nat) : Int) (vl (s1.1 (132 + y)) k) (sm (j + 1) fun x => vl (M y x) k * vl (H x) k)
  | 0, i, s, hi, _, _, h3, h4 => ⟨s, by rw [F_DA_commit_1_L4], frm_rf, h3, fun y k hy hk => by
      have := h4 y k hy hk
      rw [if_pos (by omega)] at this
      exact this⟩
  | m + 1, i, s, hi, h1, h2, h3, h4 => by
    have hU : F_DA_commit_1_L4 j kk (m + 1) i s = F_DA_commit_1_L4 j kk m (i + 1) (F_RG_addProduct_8 (132 + i) (41 + (5 * i + j)) 141 s) := by rw [F_DA_commit_1_L4, bnd_eq]
    have e1 := h1 i j (by omega) hj
    obtain ⟨a1, a2⟩ := P_addProduct8 (ps := 132 + i) (pf := 41 + (5 * i + j)) (pg := 141) (s := s) (by omega) (by omega) (h3 i (by omega)) (by rw [e1]; exact hM i j (by omega) hj) (sr_l h2)
    generalize F_RG_addProduct_8 (132 + i) (41 + (5 * i + j)) 141 s = s1 at a1 a2 hU
    obtain ⟨s2, b1, b2, b3, b4⟩ := cm41 (kk := kk) hj hM m (i + 1) s1 (by omega) (fun y x hy hx => by rw [a1.1 _ (by omega)]; exact h1 y x hy hx) (by rw [a1.1 141 (by omega)]; exact h2) (fun y hy => by
      by_cases w : y = i
      · subst w
        intro k hk
        obtain ⟨n, q1, q2, -⟩ := a2 k hk
        exact ⟨n, q1, q2⟩
      · rw [a1.1 _ (by omega)]
        exact h3 y hy) (fun y k hy hk => by
      by_cases w : y = i
      · subst w
        obtain ⟨n, q1, q2, q3⟩ := a2 k hk
        have h9 := h4 y k hy hk
        rw [if_neg (by omega)] at h9
        obtain ⟨z, z1, z2, z3⟩ := h2 k hk
        rw [e1, vl_n z2 (by omega), ← vl_n z3 (by omega)] at q3
        rw [vl_n q2 (by omega), if_pos (by omega), sm_last]
        exact cg_tr q3 (cg_add h9 cg_rf)
      · rw [a1.1 _ (by omega)]
        have h9 := h4 y k hy hk
        by_cases v : y < i
        · rw [if_pos v] at h9
          rw [if_pos (by omega)]
          exact h9
        · rw [if_neg v] at h9
          rw [if_neg (by omega)]
          exact h9)
    exact ⟨s2, hU.trans b1, fun k hk => by rw [b2 k hk, a1.1 k (by omega)], b3, b4⟩
theorem cm11 {cn : Int32} {CH : Nat → Int32} {M : Nat → Nat → Nat → Int32} {Y H : Nat → Nat → Int32} (hM : ∀ y x, y < 6 → x < 5 → rdc 8380417 (M y x)) (hY : ∀ x, x < 5 → isMk1 CH (cn + nI x) (Y x)) (hH : ∀ x, x < 5 → isF8 (Y x) (H x)) : ∀ (m j : Nat) (s : Sto), j + m = 5 → (∀ x, x < 64 → s.1 142 x = CH x) → (∀ y x, y < 6 → x < 5 → s.1 (41 + (5 * y + x)) = M y x) → (∀ x, x < j → sr 8380417 (s.1 (124 + x)) (Y x)) → (∀ y, y < 6 → rdc 8380417 (s.1 (132 + y))) → (∀ y k, y < 6 → k < 256 → cg ((8380417 : Nat) : Int) (vl (s.1 (132 + y)) k) (sm j fun x => vl (M y x) k * vl (H x) k)) →
    ∃ s1, F_DA_commit_1_L1 cn m j s = F_DA_commit_1_L2 6 0 (F_DA_startChallenge s1) ∧ frm (fun k => k = 18 ∨ k = 38 ∨ (124 ≤ k ∧ k ≤ 139) ∨ k = 141) s s1 ∧ (∀ x, x < 5 → sr 8380417 (s1.1 (124 + x)) (Y x)) ∧ (∀ y, y < 6 → rdc 8380417 (s1.1 (132 + y))) ∧ ∀ y k, y < 6 → k < 256 → cg ((8380417 : Nat) : Int) (vl (s1.1 (132 + y)) k) (sm 5 fun x => vl (M y x) k * vl (H x) k)
  | 0, j, s, hj, _, _, h3, h4, h5 => by
    obtain rfl : j = 5 := by omega
    exact ⟨s, by rw [F_DA_commit_1_L1, bnd_eq], frm_rf, h3, h4, h5⟩
  | m + 1, j, s, hj, h1, h2, h3, h4, h5 => by
    have hU : F_DA_commit_1_L1 cn (m + 1) j s = F_DA_commit_1_L4 j (F_DA_commit_1_L1 cn m) 6 0 (F_RG_transform_8 141 (sC (F_RG_flip_8 (124 + j) (nI 524288) (124 + j) (F_SA_sampleMask_1 (124 + j) 142 128 (cn + nI j) s)) (124 + j) 141 0 0 256)) := by
      rw [F_DA_commit_1_L1]
      repeat rw [bnd_eq]
    obtain ⟨a1, a2⟩ := hY j (by omega) (124 + j) s (by omega) (by omega) h1
    generalize F_RG_flip_8 (124 + j) (nI 524288) (124 + j) (F_SA_sampleMask_1 (124 + j) 142 128 (cn + nI j) s) = s1 at a1 a2 hU
    have b1 : onl 141 s1 (sC s1 (124 + j) 141 0 0 256) := sC_o
    have b2 : sr 8380417 ((sC s1 (124 + j) 141 0 0 256).1 141) (Y j) := fun k hk => by
      obtain ⟨n, q1, q2, q3⟩ := a2 k hk
      have := sC_in (s := s1) (k0 := 124 + j) (k1 := 141) (sp := 0) (dp := 0) hk
      rw [Nat.zero_add] at this
      exact ⟨n, q1, this.trans q2, q3⟩
    generalize sC s1 (124 + j) 141 0 0 256 = s2 at b1 b2 hU
    have c2 := hH j (by omega) s2 141 b2
    have c1 := (P_transform8 (sr_l b2)).1
    generalize F_RG_transform_8 141 s2 = s3 at c1 c2 hU
    have g : ∀ y, y ≠ 18 → y ≠ 38 → y ≠ 124 + j → y ≠ 141 → s3.1 y = s.1 y := fun y v1 v2 v3 v4 => by rw [c1.1 y v4, b1.1 y v4, a1 y v1 v2 v3]
    obtain ⟨s4, d1, d2, d3, d4⟩ := cm41 (kk := F_DA_commit_1_L1 cn m) (M := M) (H := H) (show j < 5 by omega) hM 6 0 s3 (by decide) (fun y x hy hx => by rw [g _ (by omega) (by omega) (by omega) (by omega)]; exact h2 y x hy hx) c2 (fun y hy => by rw [g _ (by omega) (by omega) (by omega) (by omega)]; exact h4 y hy) (fun y k hy hk => by
      rw [g _ (by omega) (by omega) (by omega) (by omega), if_neg (Nat.not_lt_zero _)]
      exact h5 y k hy hk)
    obtain ⟨s5, e1, e2, e3⟩ := cm11 (CH := CH) (Y := Y) hM hY hH m (j + 1) s4 (by omega) (fun x hx => by rw [d2 142 (by omega), g 142 (by omega) (by omega) (by omega) (by omega)]; exact h1 x hx) (fun y x hy hx => by rw [d2 _ (by omega), g _ (by omega) (by omega) (by omega) (by omega)]; exact h2 y x hy hx) (fun x hx => by
      by_cases w : x = j
      · subst w
        rw [d2 _ (by omega), c1.1 _ (by omega), b1.1 _ (by omega)]
        exact a2
      · rw [d2 _ (by omega), g _ (by omega) (by omega) (by omega) (by omega)]
        exact h3 x (by omega)) d3 d4
    exact ⟨s5, (hU.trans d1).trans e1, fun k hk => by rw [e2 k hk, d2 k (by omega), g k (by omega) (by omega) (by omega) (by omega)], e3⟩
theorem cm21 {MU : Nat → Int32} {M : Nat → Nat → Nat → Int32} {H WW : Nat → Nat → Int32} (hW : ∀ y, y < 6 → ∀ s : Sto, rdc 8380417 (s.1 (132 + y)) → (∀ k, k < 256 → cg ((8380417 : Nat) : Int) (vl (s.1 (132 + y)) k) (sm 5 fun x => vl (M y x) k * vl (H x) k)) → sr 8380417 ((F_RG_restore_8 (132 + y) s).1 (132 + y)) (WW y)) : ∀ (m i : Nat) (s : Sto), i + m = 6 → (∀ y, i ≤ y → y < 6 → rdc 8380417 (s.1 (132 + y)) ∧ ∀ k, k < 256 → cg ((8380417 : Nat) : Int) (vl (s.1 (132 + y)) k) (sm 5 fun x => vl (M y x) k * vl (H x) k)) → spA 16 17 (chS 4 128 MU (fun y k => hN1 (vn (WW y) k)) i) 136 (nI 31) s → (∀ y, y < i → sr 8380417 (s.1 (132 + y)) (WW y)) →
    ∃ s1, F_DA_commit_1_L2 m i s = F_DA_commit_1_L2 0 6 s1 ∧ frm (fun k => k = 16 ∨ (132 ≤ k ∧ k ≤ 139) ∨ k = 141 ∨ k = 147) s s1 ∧ spA 16 17 (chS 4 128 MU (fun y k => hN1 (vn (WW y) k)) 6) 136 (nI 31) s1 ∧ ∀ y, y < 6 → sr 8380417 (s1.1 (132 + y)) (WW y)
  | 0, i, s, hi, _, h2, h3 => by
    obtain rfl : i = 6 := by omega
    exact ⟨s, rfl, frm_rf, h2, h3⟩
  | m + 1, i, s, hi, h1, h2, h3 => by
    have hU : F_DA_commit_1_L2 (m + 1) i s = F_DA_commit_1_L3 i (F_DA_commit_1_L2 m) 256 0 (F_RG_restore_8 (132 + i) s) := by rw [F_DA_commit_1_L2, bnd_eq]
    obtain ⟨r1, r2⟩ := h1 i (Nat.le_refl _) (by omega)
    have a2 := hW i (by omega) s r1 r2
    have a1 := (P_restore8 r1).1
    generalize F_RG_restore_8 (132 + i) s = s1 at a1 a2 hU
    have hA1 := spA_o (pf := 132 + i) (by omega) a1 h2
    obtain ⟨s2, b1, b2, b3, -⟩ := el_loopC (pf := 141) (s0 := s1) (G := F_DA_commit_1_L3 i (F_DA_commit_1_L2 m)) (K := fun s => F_DA_commit_1_L2 m (i + 1) (F_DA_absorbHigh_1 s)) (e := fun k _ => nI (hN1 (vn (WW i) k))) (fun s => by rw [F_DA_commit_1_L3, bnd_eq]) (fun n k s hk o => by
      obtain ⟨v, hv, e1, e2⟩ := a2 k hk
      show F_DA_commit_1_L3 i (F_DA_commit_1_L2 m) (n + 1) k s = F_DA_commit_1_L3 i (F_DA_commit_1_L2 m) n (k + 1) (sI s 141 k (nI (hN1 (vn (WW i) k))))
      rw [F_DA_commit_1_L3, o.1 (132 + i) (by omega), e1, (hN1_e hv).2.1 s, bnd_eq, bnd_eq, vn_n e2 (by omega)]) 256 0 s1 rfl onl_rf
    have b1' : F_DA_commit_1_L3 i (F_DA_commit_1_L2 m) 256 0 s1 = F_DA_commit_1_L2 m (i + 1) (F_DA_absorbHigh_1 s2) := b1
    have hA2 := spA_o (pf := 141) (by decide) b2 hA1
    have hX : F_DA_absorbHigh_1 s2 = F_SP_absorb 16 17 147 192 0 128 (F_BT_pack 141 4 147 192 0 s2) := by
      rw [F_DA_absorbHigh_1]
      repeat rw [bnd_eq]
    obtain ⟨c1, c2, -⟩ := P_packW (pf := 141) (b := 4) (pt := 147) (n := 192) (at_ := 0) (W := fun k => hN1 (vn (WW i) k)) (s := s2) (by decide) (by decide) (by decide) (fun k hk => by
      obtain ⟨v, hv, e1, e2⟩ := a2 k hk
      have := (hN1_e hv).1
      refine ⟨?_, b3 k (Nat.zero_le _) hk⟩
      show hN1 (vn (WW i) k) < _
      rw [vn_n e2 (by omega)]
      omega)
    generalize F_BT_pack 141 4 147 192 0 s2 = s3 at c1 c2 hX
    have hA3 := spA_o (pf := 147) (by decide) c1 hA2
    obtain ⟨d1, d2⟩ := P_absorb (pb := 147) (nb := 192) (at_ := 0) (len := 128) hA3 (by decide) (chS_lt i) (by decide)
    rw [← hX] at d1 d2
    rw [abN_ext (c := pkb 4 (fun k => hN1 (vn (WW i) k))) 128 (fun j hj => by rw [c2 j (by omega), Nat.zero_add])] at d1
    generalize F_DA_absorbHigh_1 s2 = s4 at b1' d1 d2 hX
    have g : ∀ y, y ≠ 16 → y ≠ 132 + i → y ≠ 141 → y ≠ 147 → s4.1 y = s.1 y := fun y v1 v2 v3 v4 => by rw [d2.1 y v1, c1.1 y v4, b2.1 y v3, a1.1 y v2]
    obtain ⟨s5, e1, e2, e3⟩ := cm21 (MU := MU) hW m (i + 1) s4 (by omega) (fun y hy1 hy2 => by rw [g _ (by omega) (by omega) (by omega) (by omega)]; exact h1 y (by omega) hy2) d1 (fun y hy => by
      by_cases w : y = i
      · subst w
        rw [d2.1 _ (by omega), c1.1 _ (by omega), b2.1 _ (by omega)]
        exact a2
      · rw [g _ (by omega) (by omega) (by omega) (by omega)]
        exact h3 y (by omega))
    exact ⟨s5, (hU.trans b1').trans e1, fun k hk => by rw [e2 k hk, g k (by omega) (by omega) (by omega) (by omega)], e3⟩
theorem mr01 {pt : Nat} {MU : Nat → Int32} {WW : Nat → Nat → Int32} (hR : ∀ y, y < 6 → rdc 8380417 (WW y)) : ∀ (m i : Nat) (t : Sto), i + m = 6 → spM (chS 4 128 MU (fun y k => hN1 (vn (WW y) k)) i) 136 (nI 31) t → (∀ y, y < 6 → t.1 (351 + y) = WW y) →
    ∃ t1, F_MH_marked_1_L0 (nI 0) pt m i t = F_MS_take pt 64 0 48 (F_MS_end t1) ∧ frm (fun k => k = 172 ∨ k = 375) t t1 ∧ spM (chS 4 128 MU (fun y k => hN1 (vn (WW y) k)) 6) 136 (nI 31) t1
  | 0, i, t, hi, h1, _ => by
    obtain rfl : i = 6 := by omega
    refine ⟨t, ?_, frm_rf, h1⟩
    rw [F_MH_marked_1_L0]
    repeat rw [bnd_eq]
  | m + 1, i, t, hi, h1, h2 => by
    have hV : F_MH_marked_1_L0 (nI 0) pt (m + 1) i t = F_MH_marked_1_L1 (nI 0) i (F_MH_marked_1_L0 (nI 0) pt m) 256 0 t := by rw [F_MH_marked_1_L0, bnd_eq]
    have key : ∀ k, k < 256 → ∃ v : Nat, v < 8380417 ∧ WW i k = nI v := fun k hk => hR i (by omega) k hk
    obtain ⟨t1, a1, a2, a3, -⟩ := rpk_row (pt := 375) (N := 640) (b := 4) (at_ := 0) (G := F_MH_marked_1_L1 (nI 0) i (F_MH_marked_1_L0 (nI 0) pt m)) (K := fun s => F_MH_marked_1_L0 (nI 0) pt m (i + 1) (F_MS_puts 375 640 0 128 s)) (v := fun k _ => nI (hN1 (vn (WW i) k))) (W := fun k => hN1 (vn (WW i) k)) (s0 := t) (by decide) (by decide) (fun s => by rw [F_MH_marked_1_L1, bnd_eq]) (fun n k s hk o => by
      obtain ⟨v, hv, e⟩ := key k hk
      show F_MH_marked_1_L1 (nI 0) i (F_MH_marked_1_L0 (nI 0) pt m) (n + 1) k s = F_MH_marked_1_L1 (nI 0) i (F_MH_marked_1_L0 (nI 0) pt m) n (k + 1) (F_M_pack 375 640 (8 * 0 + 4 * k) 4 (nI (hN1 (vn (WW i) k))) s)
      rw [F_MH_marked_1_L1, if_pos (show nI 0 = 0 by decide), o.1 (351 + i) (by omega), h2 i (by omega), e, (hN1_e hv).2.2 s, bnd_eq, bnd_eq, vn_n e (by omega), Nat.mul_zero, Nat.zero_add]) (fun k s hk o => rfl) (fun k hk => by
      obtain ⟨v, hv, e⟩ := key k hk
      have := (hN1_e hv).1
      show hN1 (vn (WW i) k) < _
      rw [vn_n e (by omega)]
      omega)
    have a1' : F_MH_marked_1_L1 (nI 0) i (F_MH_marked_1_L0 (nI 0) pt m) 256 0 t = F_MH_marked_1_L0 (nI 0) pt m (i + 1) (F_MS_puts 375 640 0 128 t1) := a1
    have hM1 := spM_o (pf := 375) (by decide) a2 h1
    obtain ⟨d1, d2⟩ := Q_puts (pb := 375) (nb := 640) (at_ := 0) (len := 128) hM1 (by decide) (chS_lt i) (by decide)
    rw [abN_ext (c := pkb 4 (fun k => hN1 (vn (WW i) k))) 128 (fun j hj => by rw [a3 j (by omega), Nat.zero_add])] at d1
    generalize F_MS_puts 375 640 0 128 t1 = t2 at a1' d1 d2
    obtain ⟨t3, e1, e2, e3⟩ := mr01 (pt := pt) (MU := MU) hR m (i + 1) t2 (by omega) d1 (fun y hy => by rw [d2.1 _ (by omega), a2.1 _ (by omega)]; exact h2 y hy)
    exact ⟨t3, (hV.trans a1').trans e1, fun k hk => by rw [e2 k hk, d2.1 k (by omega), a2.1 k (by omega)], e3⟩
