set_option linter.all false
/-! the pure part begins: both sponges' functions are one pure sponge's -/
theorem bnd_eq {α β : Type} {x : α} {f : α → β} : bnd x f = f x := rfl
theorem sh7 {k : Nat} (h : k < 2 ^ 31) : (nI k &&& nI 7) <<< (nI 3 &&& 31) = nI (8 * (k % 8)) := by
  rw [nI_and7 h]
  exact (pk_shlN _ 3 (by decide) (by omega)).trans (congrArg nI (Nat.mul_comm _ 8))
theorem mxB_c {f g : Nat → Int64} (h : eq25 f g) {k : Nat} (hk : k < 200) {v : Int32} : eq25 (mxB f k v) (mxB g k v) := fun i hi => by
  unfold mxB
  by_cases q : i = k / 8
  · subst q
    simp only [vp_updL, if_true]
    rw [h _ (by omega)]
  · simp only [vp_updL, q, if_false]
    exact h i hi
theorem gtI_c {f g : Nat → Int64} (h : eq25 f g) {k : Nat} (hk : k < 200) : gtI f k = gtI g k := by
  unfold gtI
  rw [h _ (by omega)]
theorem sI_at {s : Sto} {k i : Nat} {x : Int32} : (sI s k i x).1 k i = x := fc_eq (s := s) rfl
theorem sI_off {s : Sto} {k i i' : Nat} {x : Int32} (h : i' ≠ i) : (sI s k i x).1 k i' = s.1 k i' := fc_ne (s := s) rfl rfl (Or.inr h)
/-- the sponge of the names pv, qv stands at st -/
def spA (pv qv : Nat) (st : Sp) (rt : Nat) (sf : Int32) (s : Sto) : Prop := eq25 (s.2 qv) st.1 ∧ s.1 pv 3 = nI st.2 ∧ s.1 pv 1 = nI rt ∧ s.1 pv 2 = sf
def same (pv qv : Nat) (s0 s : Sto) : Prop := (∀ k, k ≠ pv → s.1 k = s0.1 k) ∧ ∀ k, k ≠ qv → s.2 k = s0.2 k
theorem same.tr {pv qv : Nat} {s0 s1 s2 : Sto} (h : same pv qv s0 s1) (h1 : same pv qv s1 s2) : same pv qv s0 s2 := ⟨fun k hk => (h1.1 k hk).trans (h.1 k hk), fun k hk => (h1.2 k hk).trans (h.2 k hk)⟩
theorem same.rf {pv qv : Nat} {s : Sto} : same pv qv s s := ⟨fun _ _ => rfl, fun _ _ => rfl⟩
theorem same_I {pv qv i : Nat} {s : Sto} {x : Int32} : same pv qv s (sI s pv i x) := ⟨fun _ hk => uA_ne hk, fun _ _ => rfl⟩
theorem same_U {pv qv : Nat} {s : Sto} {f : Nat → Int64} : same pv qv s (s.1, uL s.2 qv f) := ⟨fun _ _ => rfl, fun _ hk => uL_ne hk⟩
theorem P_mixIn {pv qv k : Nat} {v : Int32} {s : Sto} (hk : k < 200) : F_SP_mixIn pv qv k v s = (s.1, uL s.2 qv (mxB (s.2 qv) k v)) := by
  show sL s qv (k / 8) ((s.2 qv (k / 8)) ^^^ ((v.toInt64 &&& 255) <<< (((nI k &&& nI 7) <<< (nI 3 &&& 31)).toInt64 &&& 63))) = _
  rw [sh7 (by omega)]
  rfl
theorem P_absorbByte {pv qv rt : Nat} {st : Sp} {sf v : Int32} {s : Sto} (h : spA pv qv st rt sf s) (hr : rt < 200) (hp : st.2 < rt) : spA pv qv (abF rt st v) rt sf (F_SP_absorbByte pv qv v s) ∧ same pv qv s (F_SP_absorbByte pv qv v s) := by
  obtain ⟨h1, h2, h3, h4⟩ := h
  have e1 : (s.1 pv 3).toNatClampNeg = st.2 := by rw [h2, nI_clamp (by omega)]
  have e3 : (s.1 pv 1).toNatClampNeg = rt := by rw [h3, nI_clamp (by omega)]
  have hU : F_SP_absorbByte pv qv v s = if st.2 + 1 = rt then sI (F_SP_permute pv qv (sI (s.1, uL s.2 qv (mxB (s.2 qv) st.2 v)) pv 3 (nI (st.2 + 1)))) pv 3 (nI 0) else sI (s.1, uL s.2 qv (mxB (s.2 qv) st.2 v)) pv 3 (nI (st.2 + 1)) := by
    unfold F_SP_absorbByte
    rw [e1, bnd_eq, P_mixIn (by omega), bnd_eq]
    show bnd ((s.1 pv 3).toNatClampNeg) _ = _
    rw [e1, bnd_eq, bnd_eq, sI_at, nI_clamp (n := st.2 + 1) (by omega), bnd_eq, sI_off (by decide)]
    show bnd ((s.1 pv 1).toNatClampNeg) _ = _
    rw [e3]
    repeat rw [bnd_eq]
  have hb : eq25 (mxB (s.2 qv) st.2 v) (mxB st.1 st.2 v) := mxB_c h1 (by omega)
  rw [hU]
  by_cases q : st.2 + 1 = rt
  · rw [if_pos q, show abF rt st v = (prm (mxB st.1 st.2 v), 0) from if_pos q]
    refine ⟨⟨?_, sI_at, ?_, ?_⟩, (same_U.tr same_I).tr (same.tr (s1 := F_SP_permute pv qv (sI (s.1, uL s.2 qv (mxB (s.2 qv) st.2 v)) pv 3 (nI (st.2 + 1)))) same_U same_I)⟩
    · show eq25 (uL (uL s.2 qv (mxB (s.2 qv) st.2 v)) qv (prm (uL s.2 qv (mxB (s.2 qv) st.2 v) qv)) qv) _
      rw [uL_eq, uL_eq]
      exact prm_c hb
    · rw [sI_off (by decide)]
      show (sI (s.1, uL s.2 qv (mxB (s.2 qv) st.2 v)) pv 3 (nI (st.2 + 1))).1 pv 1 = _
      rw [sI_off (by decide)]
      exact h3
    · rw [sI_off (by decide)]
      show (sI (s.1, uL s.2 qv (mxB (s.2 qv) st.2 v)) pv 3 (nI (st.2 + 1))).1 pv 2 = _
      rw [sI_off (by decide)]
      exact h4
  · rw [if_neg q, show abF rt st v = (mxB st.1 st.2 v, st.2 + 1) from if_neg q]
    refine ⟨⟨?_, sI_at, ?_, ?_⟩, same_U.tr same_I⟩
    · show eq25 (uL s.2 qv (mxB (s.2 qv) st.2 v) qv) _
      rw [uL_eq]
      exact hb
    · rw [sI_off (by decide)]
      exact h3
    · rw [sI_off (by decide)]
      exact h4
theorem abN_ext {rt : Nat} {st : Sp} {b c : Nat → Int32} {at_ : Nat} : ∀ n, (∀ j, j < n → b (at_ + j) = c (at_ + j)) → abN rt st b at_ n = abN rt st c at_ n
  | 0, _ => rfl
  | n + 1, h => by
    show abF rt (abN rt st b at_ n) (b (at_ + n)) = abF rt (abN rt st c at_ n) (c (at_ + n))
    rw [abN_ext n (fun j hj => h j (by omega)), h n (by omega)]
theorem P_absorbL {pv qv rt pb at_ : Nat} {st : Sp} {sf : Int32} {s0 : Sto} (hr : rt < 200) (hp : st.2 < rt) (hb : pb ≠ pv) : ∀ (n i : Nat) (s : Sto), spA pv qv (abN rt st (s0.1 pb) at_ i) rt sf s → same pv qv s0 s → spA pv qv (abN rt st (s0.1 pb) at_ (i + n)) rt sf (F_SP_absorb_L0 pv qv pb at_ n i s) ∧ same pv qv s0 (F_SP_absorb_L0 pv qv pb at_ n i s)
  | 0, i, s, h, hs => ⟨h, hs⟩
  | n + 1, i, s, h, hs => by
    have hv : s.1 pb (at_ + i) = s0.1 pb (at_ + i) := by rw [hs.1 pb hb]
    obtain ⟨a, b⟩ := P_absorbByte (v := s.1 pb (at_ + i)) h hr (abN_lt hp i)
    have c := P_absorbL hr hp hb n (i + 1) (F_SP_absorbByte pv qv (s.1 pb (at_ + i)) s) (by rw [hv] at a ⊢; exact a) (hs.tr b)
    rw [show i + 1 + n = i + (n + 1) by omega] at c
    exact c
theorem P_absorb {pv qv rt pb nb at_ len : Nat} {st : Sp} {sf : Int32} {s : Sto} (h : spA pv qv st rt sf s) (hr : rt < 200) (hp : st.2 < rt) (hb : pb ≠ pv) : spA pv qv (abN rt st (s.1 pb) at_ len) rt sf (F_SP_absorb pv qv pb nb at_ len s) ∧ same pv qv s (F_SP_absorb pv qv pb nb at_ len s) := by
  have c := P_absorbL (at_ := at_) hr hp hb len 0 s h same.rf
  rw [Nat.zero_add] at c
  exact c
theorem P_finish {pv qv rt : Nat} {st : Sp} {sf : Int32} {s : Sto} (h : spA pv qv st rt sf s) (h0 : 0 < rt) (hr : rt < 200) (hp : st.2 < rt) : spA pv qv (pdF rt st sf, rt) rt sf (F_SP_finish pv qv s) ∧ same pv qv s (F_SP_finish pv qv s) := by
  obtain ⟨h1, h2, h3, h4⟩ := h
  have e1 : (s.1 pv 3).toNatClampNeg = st.2 := by rw [h2, nI_clamp (by omega)]
  have e3 : (s.1 pv 1).toNatClampNeg = rt := by rw [h3, nI_clamp (by omega)]
  have hU : F_SP_finish pv qv s = sI (s.1, uL (uL s.2 qv (mxB (s.2 qv) st.2 (s.1 pv 2))) qv (mxB (uL s.2 qv (mxB (s.2 qv) st.2 (s.1 pv 2)) qv) (rt - 1) (nI 128))) pv 3 (nI rt) := by
    unfold F_SP_finish
    rw [e1, bnd_eq, P_mixIn (by omega), bnd_eq]
    show bnd ((s.1 pv 1).toNatClampNeg) _ = _
    rw [e3, bnd_eq, P_mixIn (k := rt - 1) (by omega), bnd_eq]
    show bnd ((s.1 pv 1).toNatClampNeg) _ = _
    rw [e3]
    repeat rw [bnd_eq]
    all_goals rfl
  rw [hU]
  refine ⟨⟨?_, sI_at, ?_, ?_⟩, (same_U.tr (same.tr (s1 := (s.1, uL (uL s.2 qv (mxB (s.2 qv) st.2 (s.1 pv 2))) qv (mxB (uL s.2 qv (mxB (s.2 qv) st.2 (s.1 pv 2)) qv) (rt - 1) (nI 128)))) same_U same_I))⟩
  · show eq25 (uL (uL s.2 qv (mxB (s.2 qv) st.2 (s.1 pv 2))) qv _ qv) (mxB (mxB st.1 st.2 sf) (rt - 1) (nI 128))
    rw [uL_eq, uL_eq, h4]
    exact mxB_c (mxB_c h1 (by omega)) (by omega)
  · rw [sI_off (by decide)]
    exact h3
  · rw [sI_off (by decide)]
    exact h4
theorem gtI_n (f : Nat → Int64) (k : Nat) : nI (gtI f k).toNatClampNeg = gtI f k := (and_cl _ 8 (by decide) (by decide)).1.symm
theorem P_nextByte {pv qv rt : Nat} {st : Sp} {sf : Int32} {s : Sto} (h : spA pv qv st rt sf s) (h0 : 0 < rt) (hr : rt < 200) (hp : st.2 ≤ rt) : (F_SP_nextByte pv qv s).1 = gtI (nxS rt st).1 ((nxS rt st).2 - 1) ∧ spA pv qv (nxS rt st) rt sf (F_SP_nextByte pv qv s).2 ∧ same pv qv s (F_SP_nextByte pv qv s).2 := by
  obtain ⟨h1, h2, h3, h4⟩ := h
  have e1 : (s.1 pv 3).toNatClampNeg = st.2 := by rw [h2, nI_clamp (by omega)]
  have e3 : (s.1 pv 1).toNatClampNeg = rt := by rw [h3, nI_clamp (by omega)]
  by_cases q : st.2 = rt
  · have hU : F_SP_nextByte pv qv s = (gtI (prm (s.2 qv)) 0, sI (sI (F_SP_permute pv qv s) pv 3 (nI 0)) pv 3 (nI 1)) := by
      unfold F_SP_nextByte
      rw [e1, bnd_eq, e3, bnd_eq, if_pos q, bnd_eq, bnd_eq, sI_at, nI_clamp (n := 0) (by decide), bnd_eq, bnd_eq, sh7 (k := 0) (by decide)]
      repeat rw [bnd_eq]
      have hw : (sI (F_SP_permute pv qv s) pv 3 (nI 0)).2 qv = prm (s.2 qv) := by
        show uL s.2 qv (prm (s.2 qv)) qv = _
        rw [uL_eq]
      rw [hw]
      exact congrArg (fun x => (x, sI (sI (F_SP_permute pv qv s) pv 3 (nI 0)) pv 3 (nI 1))) (gtI_n (prm (s.2 qv)) 0)
    rw [hU, show nxS rt st = (prm st.1, 1) from if_pos q]
    refine ⟨gtI_c (prm_c h1) (by decide), ⟨?_, sI_at, ?_, ?_⟩, same.tr (s1 := F_SP_permute pv qv s) same_U (same_I.tr same_I)⟩
    · show eq25 (uL s.2 qv (prm (s.2 qv)) qv) _
      rw [uL_eq]
      exact prm_c h1
    · show (sI (sI (F_SP_permute pv qv s) pv 3 (nI 0)) pv 3 (nI 1)).1 pv 1 = _
      rw [sI_off (by decide), sI_off (by decide)]
      exact h3
    · show (sI (sI (F_SP_permute pv qv s) pv 3 (nI 0)) pv 3 (nI 1)).1 pv 2 = _
      rw [sI_off (by decide), sI_off (by decide)]
      exact h4
  · have hU : F_SP_nextByte pv qv s = (gtI (s.2 qv) st.2, sI s pv 3 (nI (st.2 + 1))) := by
      unfold F_SP_nextByte
      rw [e1, bnd_eq, e3, bnd_eq, if_neg q, bnd_eq, bnd_eq, sh7 (k := st.2) (by omega)]
      repeat rw [bnd_eq]
      exact congrArg (fun x => (x, sI s pv 3 (nI (st.2 + 1)))) (gtI_n (s.2 qv) st.2)
    rw [hU, show nxS rt st = (st.1, st.2 + 1) from if_neg q]
    refine ⟨gtI_c h1 (by show st.2 < 200; omega), ⟨h1, sI_at, ?_, ?_⟩, same_I⟩
    · show (sI s pv 3 (nI (st.2 + 1))).1 pv 1 = _
      rw [sI_off (by decide)]
      exact h3
    · show (sI s pv 3 (nI (st.2 + 1))).1 pv 2 = _
      rw [sI_off (by decide)]
      exact h4
def same2 (pv qv pb : Nat) (s0 s : Sto) : Prop := (∀ k, k ≠ pv → k ≠ pb → s.1 k = s0.1 k) ∧ ∀ k, k ≠ qv → s.2 k = s0.2 k
theorem sB_at {s : Sto} {k i : Nat} {x : Int32} : (sB s k i x).1 k = upd (s.1 k) i (vp_nar .byte x) := uA_eq
theorem sB_off {s : Sto} {k k' i : Nat} {x : Int32} (h : k' ≠ k) : (sB s k i x).1 k' = s.1 k' := uA_ne h
theorem itN_z {rt : Nat} {st : Sp} (h0 : 0 < rt) (h : st.2 ≤ rt) (n : Nat) : (itN rt st n).2 ≤ rt := itN_le h0 h n
theorem P_squeezeL {pv qv rt pb at_ : Nat} {st : Sp} {sf : Int32} {s0 : Sto} (h0 : 0 < rt) (hr : rt < 200) (hp : st.2 ≤ rt) (hb : pb ≠ pv) : ∀ (n i : Nat) (s : Sto), spA pv qv (itN rt st i) rt sf s → s.1 pb = sqF rt st (s0.1 pb) at_ i → same2 pv qv pb s0 s → spA pv qv (itN rt st (i + n)) rt sf (F_SP_squeeze_L0 pv qv pb at_ n i s) ∧ (F_SP_squeeze_L0 pv qv pb at_ n i s).1 pb = sqF rt st (s0.1 pb) at_ (i + n) ∧ same2 pv qv pb s0 (F_SP_squeeze_L0 pv qv pb at_ n i s)
  | 0, i, s, h, h1, hs => ⟨h, h1, hs⟩
  | n + 1, i, s, h, h1, hs => by
    obtain ⟨a, b, c⟩ := P_nextByte h h0 hr (itN_z h0 hp i)
    have hz : nI (F_SP_nextByte pv qv s).1.toNatClampNeg = (F_SP_nextByte pv qv s).1 := by rw [a]; exact gtI_n _ _
    have hU : F_SP_squeeze_L0 pv qv pb at_ (n + 1) i s = F_SP_squeeze_L0 pv qv pb at_ n (i + 1) (sB (F_SP_nextByte pv qv s).2 pb (at_ + i) ((F_SP_nextByte pv qv s).1.toInt8.toInt32)) := by
      show F_SP_squeeze_L0 pv qv pb at_ n (i + 1) (sB (F_SP_nextByte pv qv s).2 pb (at_ + i) ((nI (F_SP_nextByte pv qv s).1.toNatClampNeg).toInt8.toInt32)) = _
      rw [hz]
    obtain ⟨b1, b2, b3, b4⟩ := b
    have key := P_squeezeL (at_ := at_) (sf := sf) h0 hr hp hb n (i + 1) (sB (F_SP_nextByte pv qv s).2 pb (at_ + i) ((F_SP_nextByte pv qv s).1.toInt8.toInt32)) ⟨b1, by rw [sB_off (Ne.symm hb)]; exact b2, by rw [sB_off (Ne.symm hb)]; exact b3, by rw [sB_off (Ne.symm hb)]; exact b4⟩ (by
        rw [sB_at, c.1 pb hb, h1, a]
        rfl) ⟨fun k hk hk2 => by rw [sB_off hk2, c.1 k hk]; exact hs.1 k hk hk2, fun k hk => (c.2 k hk).trans (hs.2 k hk)⟩
    rw [hU, show i + (n + 1) = i + 1 + n by omega]
    exact key
theorem P_squeeze {pv qv rt pb nb at_ len : Nat} {st : Sp} {sf : Int32} {s : Sto} (h : spA pv qv st rt sf s) (h0 : 0 < rt) (hr : rt < 200) (hp : st.2 ≤ rt) (hb : pb ≠ pv) : (F_SP_squeeze pv qv pb nb at_ len s).1 pb = sqF rt st (s.1 pb) at_ len ∧ same2 pv qv pb s (F_SP_squeeze pv qv pb nb at_ len s) := by
  have c := P_squeezeL (at_ := at_) (s0 := s) h0 hr hp hb len 0 s h rfl ⟨fun _ _ _ => rfl, fun _ _ => rfl⟩
  rw [Nat.zero_add] at c
  exact ⟨c.2.1, c.2.2⟩
theorem P_fillJ {pf : Nat} {v : Int64} : ∀ (n i : Nat) (s : Sto), (F_AR_fillJ_L0 pf v n i s).1 = s.1 ∧ (∀ j, (F_AR_fillJ_L0 pf v n i s).2 pf j = if i ≤ j ∧ j < i + n then v else s.2 pf j) ∧ ∀ k, k ≠ pf → (F_AR_fillJ_L0 pf v n i s).2 k = s.2 k
  | 0, i, s => ⟨rfl, fun j => by rw [if_neg (by omega)]; rfl, fun _ _ => rfl⟩
  | n + 1, i, s => by
    obtain ⟨a, b, c⟩ := P_fillJ (pf := pf) (v := v) n (i + 1) (sL s pf i v)
    refine ⟨a, fun j => ?_, fun k hk => (c k hk).trans (uL_ne hk)⟩
    show (F_AR_fillJ_L0 pf v n (i + 1) (sL s pf i v)).2 pf j = _
    rw [b j]
    show (if i + 1 ≤ j ∧ j < i + 1 + n then v else uL s.2 pf (vp_updL (s.2 pf) i v) pf j) = _
    rw [uL_eq]
    by_cases q : i + 1 ≤ j ∧ j < i + 1 + n
    · rw [if_pos q, if_pos (by omega)]
    · rw [if_neg q]
      by_cases e : j = i
      · subst e
        rw [if_pos (by omega)]
        simp [vp_updL]
      · rw [if_neg (by omega)]
        simp only [vp_updL, e, if_false]
theorem P_start {pv qv rt : Nat} {sf : Int32} {s : Sto} : spA pv qv (fun _ => 0, 0) rt sf (sI (sI (sI (F_AR_fillJ qv 25 0 s) pv 1 (nI rt)) pv 2 sf) pv 3 (nI 0)) ∧ same pv qv s (sI (sI (sI (F_AR_fillJ qv 25 0 s) pv 1 (nI rt)) pv 2 sf) pv 3 (nI 0)) := by
  obtain ⟨a, b, c⟩ := P_fillJ (pf := qv) (v := 0) 25 0 s
  have hs : same pv qv s (F_AR_fillJ qv 25 0 s) := ⟨fun k _ => by show (F_AR_fillJ_L0 qv 0 25 0 s).1 k = _; rw [a], c⟩
  refine ⟨⟨fun j hj => ?_, sI_at, ?_, ?_⟩, ((hs.tr same_I).tr same_I).tr same_I⟩
  · show (F_AR_fillJ_L0 qv 0 25 0 s).2 qv j = 0
    rw [b j, if_pos (by omega)]
  · rw [sI_off (by decide), sI_off (by decide), sI_at]
  · rw [sI_off (by decide), sI_at]
/-! the reference's -/
def spM (st : Sp) (rt : Nat) (sf : Int32) (s : Sto) : Prop := eq25 (s.2 173) st.1 ∧ s.1 172 6 = nI st.2 ∧ s.1 172 5 = nI rt ∧ s.1 172 7 = sf
theorem Q_add {k : Nat} {v : Int32} {s : Sto} : F_MS_add k v s = (s.1, uL s.2 173 (mxB (s.2 173) k v)) := rfl
theorem Q_put {rt : Nat} {st : Sp} {sf v : Int32} {s : Sto} (h : spM st rt sf s) (hr : rt < 200) (hp : st.2 < rt) : spM (abF rt st v) rt sf (F_MS_put v s) ∧ same 172 173 s (F_MS_put v s) := by
  obtain ⟨h1, h2, h3, h4⟩ := h
  have e1 : (s.1 172 6).toNatClampNeg = st.2 := by rw [h2, nI_clamp (by omega)]
  have e3 : (s.1 172 5).toNatClampNeg = rt := by rw [h3, nI_clamp (by omega)]
  have hU : F_MS_put v s = if rt ≤ st.2 + 1 then sI (F_MS_mix (sI (s.1, uL s.2 173 (mxB (s.2 173) st.2 v)) 172 6 (nI (st.2 + 1)))) 172 6 (nI 0) else sI (s.1, uL s.2 173 (mxB (s.2 173) st.2 v)) 172 6 (nI (st.2 + 1)) := by
    unfold F_MS_put
    rw [e1, bnd_eq, Q_add, bnd_eq]
    show bnd ((s.1 172 6).toNatClampNeg) _ = _
    rw [e1, bnd_eq, bnd_eq, sI_at, nI_clamp (n := st.2 + 1) (by omega), bnd_eq, sI_off (by decide)]
    show bnd ((s.1 172 5).toNatClampNeg) _ = _
    rw [e3]
    repeat rw [bnd_eq]
  have hb : eq25 (mxB (s.2 173) st.2 v) (mxB st.1 st.2 v) := mxB_c h1 (by omega)
  rw [hU]
  by_cases q : st.2 + 1 = rt
  · rw [if_pos (by omega), show abF rt st v = (prm (mxB st.1 st.2 v), 0) from if_pos q]
    refine ⟨⟨?_, sI_at, ?_, ?_⟩, (same_U.tr same_I).tr (same.tr (s1 := F_MS_mix (sI (s.1, uL s.2 173 (mxB (s.2 173) st.2 v)) 172 6 (nI (st.2 + 1)))) same_U same_I)⟩
    · show eq25 (uL (uL s.2 173 (mxB (s.2 173) st.2 v)) 173 (prm (uL s.2 173 (mxB (s.2 173) st.2 v) 173)) 173) _
      rw [uL_eq, uL_eq]
      exact prm_c hb
    · rw [sI_off (by decide)]
      show (sI (s.1, uL s.2 173 (mxB (s.2 173) st.2 v)) 172 6 (nI (st.2 + 1))).1 172 5 = _
      rw [sI_off (by decide)]
      exact h3
    · rw [sI_off (by decide)]
      show (sI (s.1, uL s.2 173 (mxB (s.2 173) st.2 v)) 172 6 (nI (st.2 + 1))).1 172 7 = _
      rw [sI_off (by decide)]
      exact h4
  · rw [if_neg (by omega), show abF rt st v = (mxB st.1 st.2 v, st.2 + 1) from if_neg q]
    refine ⟨⟨?_, sI_at, ?_, ?_⟩, same_U.tr same_I⟩
    · show eq25 (uL s.2 173 (mxB (s.2 173) st.2 v) 173) _
      rw [uL_eq]
      exact hb
    · rw [sI_off (by decide)]
      exact h3
    · rw [sI_off (by decide)]
      exact h4
theorem Q_putsL {rt pb at_ : Nat} {st : Sp} {sf : Int32} {s0 : Sto} (hr : rt < 200) (hp : st.2 < rt) (hb : pb ≠ 172) : ∀ (n i : Nat) (s : Sto), spM (abN rt st (s0.1 pb) at_ i) rt sf s → same 172 173 s0 s → spM (abN rt st (s0.1 pb) at_ (i + n)) rt sf (F_MS_puts_L0 pb at_ n i s) ∧ same 172 173 s0 (F_MS_puts_L0 pb at_ n i s)
  | 0, i, s, h, hs => ⟨h, hs⟩
  | n + 1, i, s, h, hs => by
    have hv : s.1 pb (at_ + i) = s0.1 pb (at_ + i) := by rw [hs.1 pb hb]
    obtain ⟨a, b⟩ := Q_put (v := s.1 pb (at_ + i)) h hr (abN_lt hp i)
    have c := Q_putsL hr hp hb n (i + 1) (F_MS_put (s.1 pb (at_ + i)) s) (by rw [hv] at a ⊢; exact a) (hs.tr b)
    rw [show i + 1 + n = i + (n + 1) by omega] at c
    exact c
theorem Q_puts {rt pb nb at_ len : Nat} {st : Sp} {sf : Int32} {s : Sto} (h : spM st rt sf s) (hr : rt < 200) (hp : st.2 < rt) (hb : pb ≠ 172) : spM (abN rt st (s.1 pb) at_ len) rt sf (F_MS_puts pb nb at_ len s) ∧ same 172 173 s (F_MS_puts pb nb at_ len s) := by
  have c := Q_putsL (at_ := at_) hr hp hb len 0 s h same.rf
  rw [Nat.zero_add] at c
  exact c
theorem Q_end {rt : Nat} {st : Sp} {sf : Int32} {s : Sto} (h : spM st rt sf s) (h0 : 0 < rt) (hr : rt < 200) (hp : st.2 < rt) : spM (prm (pdF rt st sf), 0) rt sf (F_MS_end s) ∧ same 172 173 s (F_MS_end s) := by
  obtain ⟨h1, h2, h3, h4⟩ := h
  have e1 : (s.1 172 6).toNatClampNeg = st.2 := by rw [h2, nI_clamp (by omega)]
  have e3 : (s.1 172 5).toNatClampNeg = rt := by rw [h3, nI_clamp (by omega)]
  have hU : F_MS_end s = sI (F_MS_mix (s.1, uL (uL s.2 173 (mxB (s.2 173) st.2 (s.1 172 7))) 173 (mxB (uL s.2 173 (mxB (s.2 173) st.2 (s.1 172 7)) 173) (rt - 1) (nI 128)))) 172 6 (nI 0) := by
    unfold F_MS_end
    rw [e1, bnd_eq, Q_add, bnd_eq]
    show bnd ((s.1 172 5).toNatClampNeg) _ = _
    rw [e3, bnd_eq, Q_add]
    repeat rw [bnd_eq]
    all_goals rfl
  rw [hU]
  refine ⟨⟨?_, sI_at, ?_, ?_⟩, (same_U.tr (same.tr (s1 := (s.1, uL (uL s.2 173 (mxB (s.2 173) st.2 (s.1 172 7))) 173 (mxB (uL s.2 173 (mxB (s.2 173) st.2 (s.1 172 7)) 173) (rt - 1) (nI 128)))) same_U (same.tr (s1 := F_MS_mix (s.1, uL (uL s.2 173 (mxB (s.2 173) st.2 (s.1 172 7))) 173 (mxB (uL s.2 173 (mxB (s.2 173) st.2 (s.1 172 7)) 173) (rt - 1) (nI 128)))) same_U same_I)))⟩
  · show eq25 (uL (uL (uL s.2 173 (mxB (s.2 173) st.2 (s.1 172 7))) 173 (mxB (uL s.2 173 (mxB (s.2 173) st.2 (s.1 172 7)) 173) (rt - 1) (nI 128))) 173 (prm (uL (uL s.2 173 (mxB (s.2 173) st.2 (s.1 172 7))) 173 (mxB (uL s.2 173 (mxB (s.2 173) st.2 (s.1 172 7)) 173) (rt - 1) (nI 128)) 173)) 173) (prm (mxB (mxB st.1 st.2 sf) (rt - 1) (nI 128)))
    rw [uL_eq, uL_eq, uL_eq, h4]
    exact prm_c (mxB_c (mxB_c h1 (by omega)) (by omega))
  · rw [sI_off (by decide)]
    exact h3
  · rw [sI_off (by decide)]
    exact h4
theorem Q_next {rt : Nat} {st : Sp} {sf : Int32} {s : Sto} (h : spM st rt sf s) (h0 : 0 < rt) (hr : rt < 200) (hp : st.2 ≤ rt) : (F_MS_next s).1 = gtI (nxS rt st).1 ((nxS rt st).2 - 1) ∧ spM (nxS rt st) rt sf (F_MS_next s).2 ∧ same 172 173 s (F_MS_next s).2 := by
  obtain ⟨h1, h2, h3, h4⟩ := h
  have e1 : (s.1 172 6).toNatClampNeg = st.2 := by rw [h2, nI_clamp (by omega)]
  have e3 : (s.1 172 5).toNatClampNeg = rt := by rw [h3, nI_clamp (by omega)]
  by_cases q : st.2 = rt
  · have hU : F_MS_next s = (gtI (prm (s.2 173)) 0, sI (sI (F_MS_mix s) 172 6 (nI 0)) 172 6 (nI 1)) := by
      unfold F_MS_next
      rw [e1, bnd_eq, e3, bnd_eq, if_pos q, bnd_eq, bnd_eq, sI_at, nI_clamp (n := 0) (by decide)]
      repeat rw [bnd_eq]
      have hw : (sI (F_MS_mix s) 172 6 (nI 0)).2 173 = prm (s.2 173) := by
        show uL s.2 173 (prm (s.2 173)) 173 = _
        rw [uL_eq]
      rw [hw]
      exact congrArg (fun x => (x, sI (sI (F_MS_mix s) 172 6 (nI 0)) 172 6 (nI 1))) (gtI_n (prm (s.2 173)) 0)
    rw [hU, show nxS rt st = (prm st.1, 1) from if_pos q]
    refine ⟨gtI_c (prm_c h1) (by decide), ⟨?_, sI_at, ?_, ?_⟩, same.tr (s1 := F_MS_mix s) same_U (same_I.tr same_I)⟩
    · show eq25 (uL s.2 173 (prm (s.2 173)) 173) _
      rw [uL_eq]
      exact prm_c h1
    · show (sI (sI (F_MS_mix s) 172 6 (nI 0)) 172 6 (nI 1)).1 172 5 = _
      rw [sI_off (by decide), sI_off (by decide)]
      exact h3
    · show (sI (sI (F_MS_mix s) 172 6 (nI 0)) 172 6 (nI 1)).1 172 7 = _
      rw [sI_off (by decide), sI_off (by decide)]
      exact h4
  · have hU : F_MS_next s = (gtI (s.2 173) st.2, sI s 172 6 (nI (st.2 + 1))) := by
      unfold F_MS_next
      rw [e1, bnd_eq, e3, bnd_eq, if_neg q]
      repeat rw [bnd_eq]
      exact congrArg (fun x => (x, sI s 172 6 (nI (st.2 + 1)))) (gtI_n (s.2 173) st.2)
    rw [hU, show nxS rt st = (st.1, st.2 + 1) from if_neg q]
    refine ⟨gtI_c h1 (by show st.2 < 200; omega), ⟨h1, sI_at, ?_, ?_⟩, same_I⟩
    · show (sI s 172 6 (nI (st.2 + 1))).1 172 5 = _
      rw [sI_off (by decide)]
      exact h3
    · show (sI s 172 6 (nI (st.2 + 1))).1 172 7 = _
      rw [sI_off (by decide)]
      exact h4
theorem Q_takeL {rt pb at_ : Nat} {st : Sp} {sf : Int32} {s0 : Sto} (h0 : 0 < rt) (hr : rt < 200) (hp : st.2 ≤ rt) (hb : pb ≠ 172) : ∀ (n i : Nat) (s : Sto), spM (itN rt st i) rt sf s → s.1 pb = sqF rt st (s0.1 pb) at_ i → same2 172 173 pb s0 s → spM (itN rt st (i + n)) rt sf (F_MS_take_L0 pb at_ n i s) ∧ (F_MS_take_L0 pb at_ n i s).1 pb = sqF rt st (s0.1 pb) at_ (i + n) ∧ same2 172 173 pb s0 (F_MS_take_L0 pb at_ n i s)
  | 0, i, s, h, h1, hs => ⟨h, h1, hs⟩
  | n + 1, i, s, h, h1, hs => by
    obtain ⟨a, b, c⟩ := Q_next h h0 hr (itN_z h0 hp i)
    have hz : nI (F_MS_next s).1.toNatClampNeg = (F_MS_next s).1 := by rw [a]; exact gtI_n _ _
    have hU : F_MS_take_L0 pb at_ (n + 1) i s = F_MS_take_L0 pb at_ n (i + 1) (sB (F_MS_next s).2 pb (at_ + i) ((F_MS_next s).1.toInt8.toInt32)) := by
      show F_MS_take_L0 pb at_ n (i + 1) (sB (F_MS_next s).2 pb (at_ + i) ((nI (F_MS_next s).1.toNatClampNeg).toInt8.toInt32)) = _
      rw [hz]
    obtain ⟨b1, b2, b3, b4⟩ := b
    have key := Q_takeL (at_ := at_) (sf := sf) h0 hr hp hb n (i + 1) (sB (F_MS_next s).2 pb (at_ + i) ((F_MS_next s).1.toInt8.toInt32)) ⟨b1, by rw [sB_off (Ne.symm hb)]; exact b2, by rw [sB_off (Ne.symm hb)]; exact b3, by rw [sB_off (Ne.symm hb)]; exact b4⟩ (by
        rw [sB_at, c.1 pb hb, h1, a]
        rfl) ⟨fun k hk hk2 => by rw [sB_off hk2, c.1 k hk]; exact hs.1 k hk hk2, fun k hk => (c.2 k hk).trans (hs.2 k hk)⟩
    rw [hU, show i + (n + 1) = i + 1 + n by omega]
    exact key
theorem Q_take {rt pb nb at_ len : Nat} {st : Sp} {sf : Int32} {s : Sto} (h : spM st rt sf s) (h0 : 0 < rt) (hr : rt < 200) (hp : st.2 ≤ rt) (hb : pb ≠ 172) : (F_MS_take pb nb at_ len s).1 pb = sqF rt st (s.1 pb) at_ len ∧ same2 172 173 pb s (F_MS_take pb nb at_ len s) := by
  have c := Q_takeL (at_ := at_) (s0 := s) h0 hr hp hb len 0 s h rfl ⟨fun _ _ _ => rfl, fun _ _ => rfl⟩
  rw [Nat.zero_add] at c
  exact ⟨c.2.1, c.2.2⟩
theorem Q_beginL : ∀ (n i : Nat) (s : Sto), (F_MS_begin_L0 n i s).1 = s.1 ∧ (∀ j, (F_MS_begin_L0 n i s).2 173 j = if i ≤ j ∧ j < i + n then 0 else s.2 173 j) ∧ ∀ k, k ≠ 173 → (F_MS_begin_L0 n i s).2 k = s.2 k
  | 0, i, s => ⟨rfl, fun j => by rw [if_neg (by omega)]; rfl, fun _ _ => rfl⟩
  | n + 1, i, s => by
    obtain ⟨a, b, c⟩ := Q_beginL n (i + 1) (sL s 173 i 0)
    refine ⟨a, fun j => ?_, fun k hk => (c k hk).trans (uL_ne hk)⟩
    show (F_MS_begin_L0 n (i + 1) (sL s 173 i 0)).2 173 j = _
    rw [b j]
    show (if i + 1 ≤ j ∧ j < i + 1 + n then 0 else uL s.2 173 (vp_updL (s.2 173) i 0) 173 j) = _
    rw [uL_eq]
    by_cases q : i + 1 ≤ j ∧ j < i + 1 + n
    · rw [if_pos q, if_pos (by omega)]
    · rw [if_neg q]
      by_cases e : j = i
      · subst e
        rw [if_pos (by omega)]
        simp [vp_updL]
      · rw [if_neg (by omega)]
        simp only [vp_updL, e, if_false]
theorem Q_begin {rt : Nat} {sf : Int32} {s : Sto} : spM (fun _ => 0, 0) rt sf (F_MS_begin rt sf s) ∧ same 172 173 s (F_MS_begin rt sf s) := by
  obtain ⟨a, b, c⟩ := Q_beginL 25 0 (sI (sI (sI s 172 5 (nI rt)) 172 7 sf) 172 6 (nI 0))
  have hU : F_MS_begin rt sf s = F_MS_begin_L0 25 0 (sI (sI (sI s 172 5 (nI rt)) 172 7 sf) 172 6 (nI 0)) := by
    unfold F_MS_begin
    repeat rw [bnd_eq]
  rw [hU]
  refine ⟨⟨fun j hj => ?_, ?_, ?_, ?_⟩, (same_I.tr (same_I.tr same_I)).tr ⟨fun k _ => by rw [a], c⟩⟩
  · rw [b j, if_pos (by omega)]
  · rw [a, sI_at]
  · rw [a, sI_off (by decide), sI_off (by decide), sI_at]
  · rw [a, sI_off (by decide), sI_at]
/-- the class's hash and the reference's: of two tapes that are the same the answers are the same, for every kind and length -/
theorem hash_same {pv qv ka kt mt mr rt n len nb1 nb2 nb3 nb4 : Nat} {sf : Int32} {s t : Sto} (h0 : 0 < rt) (hr : rt < 200) (h1 : kt ≠ pv) (h2 : ka ≠ pv) (h3 : mt ≠ 172) (h4 : mr ≠ 172) (ht : ∀ j, j < n → s.1 kt j = t.1 mt j) (ha : s.1 ka = t.1 mr) :
    (F_SP_squeeze pv qv ka nb2 0 len (F_SP_finish pv qv (F_SP_absorb pv qv kt nb1 0 n (sI (sI (sI (F_AR_fillJ qv 25 0 s) pv 1 (nI rt)) pv 2 sf) pv 3 (nI 0))))).1 ka = (F_MS_take mr nb4 0 len (F_MS_end (F_MS_puts mt nb3 0 n (F_MS_begin rt sf t)))).1 mr := by
  obtain ⟨a1, a2⟩ := P_start (pv := pv) (qv := qv) (rt := rt) (sf := sf) (s := s)
  obtain ⟨b1, b2⟩ := P_absorb (nb := nb1) (at_ := 0) (len := n) a1 hr h0 h1
  obtain ⟨c1, c2⟩ := P_finish b1 h0 hr (abN_lt h0 n)
  obtain ⟨d1, -⟩ := P_squeeze (nb := nb2) (at_ := 0) (len := len) c1 h0 hr (Nat.le_refl _) h2
  obtain ⟨a1', a2'⟩ := Q_begin (rt := rt) (sf := sf) (s := t)
  obtain ⟨b1', b2'⟩ := Q_puts (nb := nb3) (at_ := 0) (len := n) a1' hr h0 h3
  obtain ⟨c1', c2'⟩ := Q_end b1' h0 hr (abN_lt h0 n)
  obtain ⟨d1', -⟩ := Q_take (nb := nb4) (at_ := 0) (len := len) c1' h0 hr (Nat.zero_le _) h4
  rw [d1, d1', ((a2.tr b2).tr c2).1 ka h2, ((a2'.tr b2').tr c2').1 mr h4, a2.1 kt h1, a2'.1 mt h3, ha, abN_ext (c := t.1 mt) n (fun j hj => by rw [Nat.zero_add]; exact ht j hj)]
  exact sq_end h0 _ _ 0 len
