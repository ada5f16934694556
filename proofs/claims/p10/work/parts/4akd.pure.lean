set_option linter.all false
theorem sm_subf {f g : Nat → Int} : ∀ n, sm n (fun u => f u - g u) = sm n f - sm n g
  | 0 => by
    show (0 : Int) = 0 - 0
    omega
  | n + 1 => by
    rw [sm_last, sm_last, sm_last, sm_subf n]
    omega
/-- the way back of a difference -/
theorem rest_sub8 {pa pb pc : Nat} {a b c : Sto} (ha : rdc 8380417 (a.1 pa)) (hb : rdc 8380417 (b.1 pb)) (hc : rdc 8380417 (c.1 pc)) (h : ∀ k, k < 256 → cg ((8380417 : Nat) : Int) (vl (c.1 pc) k) (vl (a.1 pa) k - vl (b.1 pb) k)) {k : Nat} (hk : k < 256) : cg ((8380417 : Nat) : Int) (vl ((F_RG_restore_8 pc c).1 pc) k) (vl ((F_RG_restore_8 pa a).1 pa) k - vl ((F_RG_restore_8 pb b).1 pb) k) := by
  have A := (P_restore8 ha).2.2 k 0 hk (by decide)
  have B := (P_restore8 hb).2.2 k 0 hk (by decide)
  have C := (P_restore8 hc).2.2 k 0 hk (by decide)
  rw [Nat.one_mul, Nat.add_zero] at A B C
  refine cg_tr C (cg_tr ?_ (cg_sy (cg_sub A B)))
  refine cg_tr (cg_mulr (sm_cg 256 fun u hu => cg_mulr (h (1 * u + 0) (by omega)))) (cg_of ?_)
  rw [← Int.sub_mul, ← sm_subf]
  refine congrArg (fun x => x * 8347681) (sm_ext 256 fun u hu => ?_)
  exact Int.sub_mul _ _ _
/-- a row of the public part's high bits, shifted up -/
def t1N (B : Nat → Int32) (at_ k : Nat) : Nat := bv (rb B) (8 * at_ + 10 * k) 10 * 8192
theorem t1N_lt {B : Nat → Int32} {at_ k : Nat} : t1N B at_ k < 8380417 := by
  have h := bv_lt (P := 8 * at_ + 10 * k) (rb_lt (r := B)) 10
  unfold t1N
  omega
theorem t1_sh {x : Nat} (h : x < 1024) : nI x <<< (nI 13 &&& 31) = nI (x * 8192) := pk_shlN _ 13 (by decide) (by omega)
theorem t1_bv {B : Nat → Int32} {P : Nat} : bv (rb B) P 10 < 1024 := bv_lt (P := P) (rb_lt (r := B)) 10
/-- the reference's row of the verifier, set 0: t1, the product, the difference -/
theorem vr50 {pp r : Nat} {kk : Nat → Sto → Int32 × Sto} {t : Sto} {a : Nat → Int32} (hp : ¬ (225 ≤ pp ∧ pp ≤ 378)) (hr : r < 4) (ha : tern a (t.1 368)) (hw : rdc 8380417 (t.1 (351 + r))) : ∃ t1 : Sto, F_MH_verify_0_L5 pp r kk 256 0 t = kk (r + 1) t1 ∧ frm (fun k => k = 318 + r ∨ k = 351 + r ∨ k = 369) t t1 ∧ ∃ P : Nat → Int32, rdc 8380417 P ∧ (∀ k, k < 256 → cg ((8380417 : Nat) : Int) (vl P k) (sm 256 fun i => (t.1 368 i).toInt * shf (fun j => ((t1N (t.1 pp) (32 + 320 * r) j : Nat) : Int)) i k)) ∧ ∀ k, k < 256 → t1.1 (351 + r) k = nI ((8380417 + vn (t.1 (351 + r)) k - vn P k) % 8380417) := by
  obtain ⟨t0, w1, w2, w3, -⟩ := el_loopB (α := Int32 × Sto) (pf := 318 + r) (G := fun n i s => F_MH_verify_0_L5 pp r kk n i s) (K := fun s => F_MH_verify_0_L6 r kk 256 0 (F_MH_turned_0 (318 + r) 369 s)) (e := fun i s => nI (bv (rb (s.1 pp)) (8 * (32 + 320 * r) + 10 * i) 10) <<< (nI 13 &&& 31)) (fun s => by
    show F_MH_verify_0_L5 pp r kk 0 256 s = _
    rw [F_MH_verify_0_L5]
    repeat rw [bnd_eq]) (fun n i s hi => by
    show F_MH_verify_0_L5 pp r kk (n + 1) i s = _
    rw [F_MH_verify_0_L5, Q_unpack (by decide), show 256 + 2560 * r + 10 * i = 8 * (32 + 320 * r) + 10 * i by omega]
    repeat rw [bnd_eq]) (fun i s s' o h => by simp only [o.1 pp (by omega)]) 256 0 t rfl
  have v1 : F_MH_verify_0_L5 pp r kk 256 0 t = F_MH_verify_0_L6 r kk 256 0 (F_MH_turned_0 (318 + r) 369 t0) := w1
  have row : ∀ k, k < 256 → t0.1 (318 + r) k = nI (t1N (t.1 pp) (32 + 320 * r) k) := fun k hk => (w3 k (Nat.zero_le _) hk).trans (t1_sh t1_bv)
  have hrd : rdc 8380417 (t0.1 (318 + r)) := fun k hk => ⟨_, t1N_lt, row k hk⟩
  have e8 : t0.1 368 = t.1 368 := w2.1 368 (by omega)
  obtain ⟨b1, b2, b3⟩ := Q_turned0 (pf := 318 + r) (pt := 369) (s := t0) (C := fun i => (t.1 368 i).toInt) (fun i hi => by rw [e8]; exact ⟨rfl, (tern_C ha hi).2⟩) hrd
  generalize F_MH_turned_0 (318 + r) 369 t0 = t2 at b1 b2 b3 v1
  have eW : t2.1 (351 + r) = t.1 (351 + r) := by rw [b1 _ (by omega), w2.1 _ (by omega)]
  obtain ⟨t3, x1, x2, x3, -⟩ := el_loopA (α := Int32 × Sto) (pf := 351 + r) (G := fun n i s => F_MH_verify_0_L6 r kk n i s) (K := fun s => kk (r + 1) s) (e := fun i s => if s.1 369 i ≤ s.1 (351 + r) i then s.1 (351 + r) i - s.1 369 i else s.1 (351 + r) i - s.1 369 i + nI 8380417) (fun i s => by
    show F_MH_verify_0_L6 r kk 0 i s = _
    rw [F_MH_verify_0_L6]) (fun n i s => by
    show F_MH_verify_0_L6 r kk (n + 1) i s = _
    rw [F_MH_verify_0_L6, Q_minus]
    repeat rw [bnd_eq]) (fun i s s' o h => by simp only [h, o.1 369 (by omega)]) 256 0 t2
  have y1 : F_MH_verify_0_L6 r kk 256 0 t2 = kk (r + 1) t3 := x1
  refine ⟨t3, v1.trans y1, fun k hk => by rw [x2.1 k (by omega), b1 k (by omega), w2.1 k (by omega)], t2.1 369, b2, fun k hk => ?_, fun k hk => ?_⟩
  · refine cg_tr (b3 k hk) (cg_of (sm_ext 256 fun i hi => ?_))
    show (t.1 368 i).toInt * shf (vl (t0.1 (318 + r))) i k = (t.1 368 i).toInt * shf (fun j => ((t1N (t.1 pp) (32 + 320 * r) j : Nat) : Int)) i k
    rw [shf_c (fun j hj => vl_n (row j hj) (by have := t1N_lt (B := t.1 pp) (at_ := 32 + 320 * r) (k := j); omega)) hi hk]
  · obtain ⟨w, hw1, hw2⟩ := hw k hk
    obtain ⟨p, hp1, hp2⟩ := b2 k hk
    rw [x3 k (Nat.zero_le _) (by omega)]
    show (if t2.1 369 k ≤ t2.1 (351 + r) k then t2.1 (351 + r) k - t2.1 369 k else t2.1 (351 + r) k - t2.1 369 k + nI 8380417) = _
    rw [eW, hw2, hp2, tk_R hw1 hp1, vn_n hw2 (by omega), vn_n hp2 (by omega)]
/-- the program's row of the verifier, set 0 -/
theorem reb0 {pp rw : Nat} {s : Sto} {c W P : Nat → Int32} (hp : ¬ (41 ≤ pp ∧ pp ≤ 147)) (hrw : rw < 4) (hB : BALL (s.1 140) c) (hM : ∀ j, j < 4 → rdc 8380417 (s.1 (41 + (4 * rw + j)))) (hV : ∀ j, j < 4 → rdc 8380417 (s.1 (124 + j))) (hW : sr 8380417 ((F_RG_restore_8 (132 + rw) (F_DA_multiplyRow_mask_0 rw s)).1 (132 + rw)) W) (hP : rdc 8380417 P) (hP2 : ∀ k, k < 256 → cg ((8380417 : Nat) : Int) (vl P k) (sm 256 fun i => (c i).toInt * shf (fun j => ((t1N (s.1 pp) (32 + 320 * rw) j : Nat) : Int)) i k)) : frm (fun k => k = 132 + rw ∨ k = 115 + rw ∨ k = 141) s (F_DA_rebuildRow_0 pp rw s) ∧ (F_DA_rebuildRow_0 pp rw s).2 = s.2 ∧ ∀ k, k < 256 → (F_DA_rebuildRow_0 pp rw s).1 (132 + rw) k = nI ((8380417 + vn W k - vn P k) % 8380417) := by
  have hU : F_DA_rebuildRow_0 pp rw s = F_DA_rebuildRow_0_L0 rw 256 0 (F_BT_unpack 141 10 pp 1312 (32 + 320 * rw) (F_DA_multiplyRow_mask_0 rw s)) := by
    rw [F_DA_rebuildRow_0]
    repeat rw [bnd_eq]
  obtain ⟨a1, a2, -⟩ := P_mrmask0 (rw := rw) (s := s) hrw hM hV
  generalize F_DA_multiplyRow_mask_0 rw s = s1 at a1 a2 hW hU
  obtain ⟨b1, b2⟩ := P_unpack (pf := 141) (b := 10) (pr_ := pp) (n := 1312) (at_ := 32 + 320 * rw) (s := s1) (by omega) (by decide) (by decide)
  rw [a1.1 pp (by omega)] at b2
  generalize F_BT_unpack 141 10 pp 1312 (32 + 320 * rw) s1 = s2 at b1 b2 hU
  obtain ⟨s3, c1, c2, c3, -⟩ := el_loopA (pf := 141) (G := F_DA_rebuildRow_0_L0 rw) (K := fun s => F_RG_restore_8 (132 + rw) (F_RG_subtract_8 (132 + rw) (115 + rw) (F_RG_addProduct_8 (115 + rw) 140 141 (F_AR_fillI (115 + rw) 256 (nI 0) (F_RG_transform_8 141 s))))) (e := fun i s => s.1 141 i <<< (nI 13 &&& 31)) (fun i s => by
    rw [F_DA_rebuildRow_0_L0]
    repeat rw [bnd_eq]) (fun n i s => by rw [F_DA_rebuildRow_0_L0, bnd_eq]) (fun i s s' o h => by simp only [h]) 256 0 s2
  have c1' : F_DA_rebuildRow_0_L0 rw 256 0 s2 = F_RG_restore_8 (132 + rw) (F_RG_subtract_8 (132 + rw) (115 + rw) (F_RG_addProduct_8 (115 + rw) 140 141 (F_AR_fillI (115 + rw) 256 (nI 0) (F_RG_transform_8 141 s3)))) := c1
  rw [c1'] at hU
  have row : ∀ k, k < 256 → s3.1 141 k = nI (t1N (s.1 pp) (32 + 320 * rw) k) := fun k hk => by
    rw [c3 k (Nat.zero_le _) (by omega), b2 k hk]
    exact t1_sh t1_bv
  have hrd : rdc 8380417 (s3.1 141) := fun k hk => ⟨_, t1N_lt, row k hk⟩
  obtain ⟨d1, d2, -⟩ := P_transform8 hrd
  have e4 : ∀ k, k < 256 → (F_RG_transform_8 141 s3).1 141 k = (F_RG_transform_8 141 s3).1 141 k := fun _ _ => rfl
  obtain ⟨sc, pc, q1, q2⟩ := hB
  obtain ⟨f1, f2⟩ := P_fill (pf := 115 + rw) (v := nI 0) (s := F_RG_transform_8 141 s3)
  have g140 : (F_AR_fillI (115 + rw) 256 (nI 0) (F_RG_transform_8 141 s3)).1 140 = s.1 140 := by rw [f1.1 140 (by omega), d1.1 140 (by decide), c2.1 140 (by decide), b1.1 140 (by decide), a1.1 140 (by omega)]
  have g141 : (F_AR_fillI (115 + rw) 256 (nI 0) (F_RG_transform_8 141 s3)).1 141 = (F_RG_transform_8 141 s3).1 141 := f1.1 141 (by omega)
  have g132 : (F_AR_fillI (115 + rw) 256 (nI 0) (F_RG_transform_8 141 s3)).1 (132 + rw) = s1.1 (132 + rw) := by rw [f1.1 _ (by omega), d1.1 _ (by omega), c2.1 _ (by omega), b1.1 _ (by omega)]
  have gF : ∀ k, k ≠ 132 + rw → k ≠ 115 + rw → k ≠ 141 → (F_AR_fillI (115 + rw) 256 (nI 0) (F_RG_transform_8 141 s3)).1 k = s.1 k := fun k u v w => by rw [f1.1 k v, d1.1 k w, c2.1 k w, b1.1 k w, a1.1 k u]
  have gL : (F_AR_fillI (115 + rw) 256 (nI 0) (F_RG_transform_8 141 s3)).2 = s.2 := by rw [f1.2, d1.2, c2.2, b1.2, a1.2]
  have r140 : rdc 8380417 (s.1 140) := rdc_c (P_transform8 (tern_r q2)).2.1 q1
  generalize F_AR_fillI (115 + rw) 256 (nI 0) (F_RG_transform_8 141 s3) = s5 at f2 g140 g141 g132 gF gL hU
  obtain ⟨h1, h2⟩ := P_addProduct8 (ps := 115 + rw) (pf := 140) (pg := 141) (s := s5) (by omega) (by omega) (fun k hk => ⟨0, by decide, f2 k hk⟩) (by rw [g140]; exact r140) (by rw [g141]; exact d2)
  rw [g140, g141] at h2
  generalize F_RG_addProduct_8 (115 + rw) 140 141 s5 = s6 at h1 h2 hU
  have r6 : rdc 8380417 (s6.1 (115 + rw)) := fun k hk => by
    obtain ⟨n, n1, n2, -⟩ := h2 k hk
    exact ⟨n, n1, n2⟩
  have k6 : s6.1 (132 + rw) = s1.1 (132 + rw) := by rw [h1.1 _ (by omega)]; exact g132
  have conv := conv8 (pc := pc) (pf := 141) (pp := 115 + rw) (pg := 115 + rw) (s := sc) (t := s3) (u := s6) (w := s6) (tern_r q2) hrd r6 (fun k hk => by
    obtain ⟨n, n1, n2, n3⟩ := h2 k hk
    rw [vl_n n2 (by omega)]
    refine cg_tr n3 (cg_of ?_)
    rw [vl_n (f2 k hk) (by decide), vl_c (q1 k hk)]
    show ((0 : Nat) : Int) + _ = _
    exact Int.zero_add _) (fun _ _ => rfl)
  obtain ⟨l1, l2⟩ := P_sub8 (pf := 132 + rw) (pg := 115 + rw) (s := s6) (by omega)
  have l3 : ∀ k, k < 256 → ∃ n : Nat, n < 8380417 ∧ (F_RG_subtract_8 (132 + rw) (115 + rw) s6).1 (132 + rw) k = nI n ∧ cg ((8380417 : Nat) : Int) (n : Int) (vl (s1.1 (132 + rw)) k - vl (s6.1 (115 + rw)) k) := fun k hk => by
    obtain ⟨x, x1, x2⟩ := a2 k hk
    obtain ⟨y, y1, y2⟩ := r6 k hk
    refine ⟨(8380417 + x - y) % 8380417, Nat.mod_lt _ (by decide), ?_, ?_⟩
    · rw [l2 k hk, k6, x2, y2]
      exact tk_C x1 y1
    · rw [vl_n x2 (by omega), vl_n y2 (by omega)]
      refine cg_tr (cg_mod _ _) ⟨1, by omega⟩
  generalize F_RG_subtract_8 (132 + rw) (115 + rw) s6 = s7 at l1 l3 hU
  have r7 : rdc 8380417 (s7.1 (132 + rw)) := fun k hk => by
    obtain ⟨n, n1, n2, -⟩ := l3 k hk
    exact ⟨n, n1, n2⟩
  have m1 := (P_restore8 r7).1
  have m2 := (P_restore8 r7).2.1
  have key := fun (k : Nat) (hk : k < 256) => rest_sub8 (pa := 132 + rw) (pb := 115 + rw) (pc := 132 + rw) (a := s1) (b := s6) (c := s7) a2 r6 r7 (fun k hk => by
    obtain ⟨n, n1, n2, n3⟩ := l3 k hk
    rw [vl_n n2 (by omega)]
    exact n3) hk
  rw [hU]
  refine ⟨fun k hk => by rw [m1.1 k (by omega), l1.1 k (by omega), h1.1 k (by omega), gF k (by omega) (by omega) (by omega)], by rw [m1.2, l1.2, h1.2, gL], fun k hk => ?_⟩
  obtain ⟨w, w1, w2, w3⟩ := hW k hk
  obtain ⟨p, p1, p2⟩ := hP k hk
  refine rd_same (r' := fun k => nI ((8380417 + vn W k - vn P k) % 8380417)) (by decide) m2 (fun k _ => ⟨_, Nat.mod_lt _ (by decide), rfl⟩) hk ?_
  refine cg_tr (key k hk) ?_
  have e1 : vl ((F_RG_restore_8 (132 + rw) s1).1 (132 + rw)) k = (w : Int) := vl_n w2 (by omega)
  have e2 : cg ((8380417 : Nat) : Int) (vl ((F_RG_restore_8 (115 + rw) s6).1 (115 + rw)) k) (p : Int) := by
    refine cg_tr (conv k hk) (cg_tr ?_ (cg_sy (cg_tr (cg_of (vl_n p2 (by omega)).symm) (hP2 k hk))))
    refine sm_cg 256 fun i hi => ?_
    rw [shf_c (fun j hj => vl_n (row j hj) (by have := t1N_lt (B := s.1 pp) (at_ := 32 + 320 * rw) (k := j); omega)) hi hk]
    obtain ⟨⟨n, n1, n2, n3⟩, -, -⟩ := tern_C q2 hi
    rw [vl_n n2 (by omega)]
    exact cg_mulr n3
  rw [e1]
  refine cg_tr (cg_sub cg_rf e2) ?_
  rw [vl_n (r := fun k => nI ((8380417 + vn W k - vn P k) % 8380417)) (k := k) (n := (8380417 + vn W k - vn P k) % 8380417) rfl (by have := Nat.mod_lt (8380417 + vn W k - vn P k) (show 0 < 8380417 by decide); omega), vn_n w3 (by omega), vn_n p2 (by omega)]
  exact cg_sy (cg_tr (cg_mod _ _) ⟨1, by omega⟩)
