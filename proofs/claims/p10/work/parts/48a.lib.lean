set_option linter.all false
/-! rows that keep an array's contents; the stream of the reference's sponge -/
section RowsP
variable {p : Program} {l : Launch} {e : Env} {R : Room} {s : State} {m : MethodId} {args : Array Value} {below : List Frame} {meth : Method} {c : Code} {H : Heap} {locs : List Loc} {cells slots : Nat} {Q : State → Prop}
variable {cc : ByteArray} {pc : Nat} {ls : Array Slot} {rest : List Value} {D : va_G} {cl : List vw_C} {A : Nat → Prop} {a : Nat} {tys : List (ClassId × FieldType)} {ws : va_W} {H0 : Heap}
theorem mp_lald (hexec : p.tables.exec = Jvm.exec) (hb : c.code = cc) (hK : va_K D cl tys s) (hP : va_P D cl ws H) (q0 t0 : Nat) {cA : ClassId} {n : Nat} {f : Nat → Int64} (ha : ws[q0]? = some (a, .inl (cA, n, .inr (.inl f)))) (ht : tys[t0]? = some (cA, .long)) {i : Nat} (hi : i < n) (hn : n < 2 ^ 31) (hdg : decode cc pc = .ok (.laload, 1))
    (kk : W p l e R s m args below meth c H locs cells slots Q (F0 m (pc + 1) ls (.long (f i) :: rest))) : W p l e R s m args below meth c H locs cells slots Q (F0 m pc ls (.int (nI i) :: .ref a :: rest)) := by
  refine va_lald hexec hb hK hP q0 t0 ha ht (vp_in_nI hi hn) hdg ?_
  rw [nI_clamp (by omega)]
  exact kk
theorem mp_iald (hexec : p.tables.exec = Jvm.exec) (hb : c.code = cc) (hK : va_K D cl tys s) (hP : va_P D cl ws H) (q0 t0 : Nat) {cA : ClassId} {n : Nat} {f : Nat → Int32} (ha : ws[q0]? = some (a, .inl (cA, n, .inl f))) (ht : tys[t0]? = some (cA, .int)) {i : Nat} (hi : i < n) (hn : n < 2 ^ 31) (hdg : decode cc pc = .ok (.iaload, 1))
    (kk : W p l e R s m args below meth c H locs cells slots Q (F0 m (pc + 1) ls (.int (f i) :: rest))) : W p l e R s m args below meth c H locs cells slots Q (F0 m pc ls (.int (nI i) :: .ref a :: rest)) := by
  refine va_iald hexec hb hK hP q0 t0 ha ht (vp_in_nI hi hn) hdg ?_
  rw [nI_clamp (by omega)]
  exact kk
theorem mp_last (hexec : p.tables.exec = Jvm.exec) (hb : c.code = cc) (hK : va_K D cl tys s) (hP : va_P D cl ws H) (hD : va_D A ws) (hS : va_S A H0 H locs) (q0 t0 : Nat) {cA : ClassId} {n : Nat} {f : Nat → Int64} (ha : ws[q0]? = some (a, .inl (cA, n, .inr (.inl f)))) (ht : tys[t0]? = some (cA, .long)) {i : Nat} {x : Int64} (hi : i < n) (hn : n < 2 ^ 31) (hdg : decode cc pc = .ok (.lastore, 1))
    (kk : ∀ (H1 : Heap) (locs1 : List Loc), va_P D cl (ws.set q0 (a, .inl (cA, n, .inr (.inl (vp_updL f i x))))) H1 → va_D A (ws.set q0 (a, .inl (cA, n, .inr (.inl (vp_updL f i x))))) → va_S A H0 H1 locs1 → W p l e R s m args below meth c H1 locs1 cells slots Q (F0 m (pc + 1) ls rest)) : W p l e R s m args below meth c H locs cells slots Q (F0 m pc ls (.long x :: .int (nI i) :: .ref a :: rest)) := by
  refine va_last hexec hb hK hP hD hS q0 t0 ha ht (vp_in_nI hi hn) hdg (fun H1 locs1 h1 h2 h3 => ?_)
  rw [nI_clamp (by omega)] at h1 h2
  exact kk H1 locs1 h1 h2 h3
end RowsP
theorem up_step {f G : Nat → Int64} {x : Nat} {v : Int64} (h : ∀ j, j < x → f j = G j) (hv : v = G x) : ∀ j, j < x + 1 → vp_updL f x v j = G j := fun j hj => by
  by_cases q : j = x
  · subst q; simp [vp_updL, hv]
  · simp only [vp_updL, q, if_false]; exact h j (by omega)
theorem th_two {f f1 fc : Nat → Int64} {i : Nat} (hi : i < 25) (hc : ∀ x, x < 5 → fc x = colF f1 x) (hA : ∀ j, j < i → f j = thF f1 j) (hB : ∀ j, i ≤ j → j < 25 → f j = f1 j) :
    (∀ j, j < i + 1 → vp_updL f i (f i ^^^ (fc ((i + 4) % 5) ^^^ lf (fc ((i + 1) % 5)) (nI 1))) j = thF f1 j) ∧ ∀ j, i + 1 ≤ j → j < 25 → vp_updL f i (f i ^^^ (fc ((i + 4) % 5) ^^^ lf (fc ((i + 1) % 5)) (nI 1))) j = f1 j := by
  refine ⟨up_step hA ?_, fun j h1 h2 => ?_⟩
  · rw [hB i (Nat.le_refl _) hi, hc _ (Nat.mod_lt _ (by decide)), hc _ (Nat.mod_lt _ (by decide))]
    rfl
  · simp only [vp_updL, show ¬ j = i by omega, if_false]
    exact hB j (by omega) h2
/-- rho and pi, as far as x and y have come -/
def rpI (x y : Nat) (f t : Nat → Int64) (u : Nat → Int32) : Prop := ∀ a b, a < 5 → b < 5 → a < x ∨ (a = x ∧ b < y) → t (b + 5 * ((2 * a + 3 * b) % 5)) = lf (f (a + 5 * b)) (u (a + 5 * b))
theorem rp_step {x y : Nat} {f t : Nat → Int64} {u : Nat → Int32} (hx : x < 5) (hy : y < 5) (h : rpI x y f t u) : rpI x (y + 1) f (vp_updL t (y + 5 * ((2 * x + 3 * y) % 5)) (lf (f (x + 5 * y)) (u (x + 5 * y)))) u := by
  intro a b ha hb hab
  by_cases q : a = x ∧ b = y
  · obtain ⟨rfl, rfl⟩ := q
    simp [vp_updL]
  · have hne : ¬ b + 5 * ((2 * a + 3 * b) % 5) = y + 5 * ((2 * x + 3 * y) % 5) := by
      intro e
      have h1 : b = y := by omega
      subst h1
      exact q ⟨by omega, rfl⟩
    simp only [vp_updL, hne, if_false]
    exact h a b ha hb (by omega)
theorem rp_next {x : Nat} {f t : Nat → Int64} {u : Nat → Int32} (h : rpI x 5 f t u) : rpI (x + 1) 0 f t u := fun a b ha hb hab => h a b ha hb (by omega)
theorem rp_start {f t : Nat → Int64} {u : Nat → Int32} : rpI 0 0 f t u := fun a b _ _ hab => by omega
theorem rp_end {f t : Nat → Int64} {u : Nat → Int32} (h : rpI 5 0 f t u) : eq25 t (rpF u f) := fun k hk => by
  have e := h ((3 * (k / 5) + k % 5) % 5) (k % 5) (Nat.mod_lt _ (by decide)) (Nat.mod_lt _ (by decide)) (Or.inl (Nat.mod_lt _ (by decide)))
  rw [(by decide +kernel : ∀ k, k < 25 → k % 5 + 5 * ((2 * ((3 * (k / 5) + k % 5) % 5) + 3 * (k % 5)) % 5) = k) k hk] at e
  exact e
def chI (x y : Nat) (f t : Nat → Int64) : Prop := ∀ a b, a < 5 → b < 5 → a < x ∨ (a = x ∧ b < y) → f (a + 5 * b) = chF t (a + 5 * b)
theorem ch_step {x y : Nat} {f t : Nat → Int64} (hx : x < 5) (hy : y < 5) (h : chI x y f t) : chI x (y + 1) (vp_updL f (x + 5 * y) (t (x + 5 * y) ^^^ ((t ((x + 1) % 5 + 5 * y) ^^^ (-1)) &&& t ((x + 2) % 5 + 5 * y)))) t := by
  intro a b ha hb hab
  by_cases q : a = x ∧ b = y
  · obtain ⟨rfl, rfl⟩ := q
    simp only [vp_updL, if_true, chF, show (a + 5 * b) % 5 = a by omega, show (a + 5 * b) / 5 = b by omega]
  · simp only [vp_updL, show ¬ a + 5 * b = x + 5 * y by omega, if_false]
    exact h a b ha hb (by omega)
theorem ch_next {x : Nat} {f t : Nat → Int64} (h : chI x 5 f t) : chI (x + 1) 0 f t := fun a b ha hb hab => h a b ha hb (by omega)
theorem ch_start {f t : Nat → Int64} : chI 0 0 f t := fun a b _ _ hab => by omega
theorem ch_end {f t : Nat → Int64} (h : chI 5 0 f t) : eq25 f (chF t) := fun k hk => by
  have e := h (k % 5) (k / 5) (Nat.mod_lt _ (by decide)) (by omega) (Or.inl (Nat.mod_lt _ (by decide)))
  rw [show k % 5 + 5 * (k / 5) = k by omega] at e
  exact e
theorem rd_end {u : Nat → Int32} {r : Nat → Int64} {k : Nat} {f0 f1 t f2 : Nat → Int64} (hth : ∀ j, j < 25 → f1 j = thF f0 j) (ht : eq25 t (rpF u f1)) (hf : eq25 f2 (chF t)) {fs : Nat → Int64} (h0 : eq25 f0 (kfN u r k fs)) : eq25 (vp_updL f2 0 (f2 0 ^^^ r k)) (kfN u r (k + 1) fs) := by
  have e1 : eq25 f2 (chF (rpF u (thF (kfN u r k fs)))) := hf.trans (chF_c (ht.trans (rpF_c (eq25.trans hth (thF_c h0)))))
  intro i hi
  show _ = ioF (r k) (chF (rpF u (thF (kfN u r k fs)))) i
  by_cases q : i = 0
  · subst q
    simp only [vp_updL, ioF, if_true]
    rw [e1 0 (by decide)]
  · simp only [vp_updL, ioF, q, if_false]
    exact e1 i hi
theorem rp_nx {x y : Nat} {f t : Nat → Int64} {u : Nat → Int32} (hy : y = 5) (h : rpI x y f t u) : rpI (x + 1) 0 f t u := by subst hy; exact rp_next h
theorem rp_en {x : Nat} {f t : Nat → Int64} {u : Nat → Int32} (hx : x = 5) (h : rpI x 0 f t u) : eq25 t (rpF u f) := by subst hx; exact rp_end h
theorem ch_nx {x y : Nat} {f t : Nat → Int64} (hy : y = 5) (h : chI x y f t) : chI (x + 1) 0 f t := by subst hy; exact ch_next h
theorem ch_en {x : Nat} {f t : Nat → Int64} (hx : x = 5) (h : chI x 0 f t) : eq25 f (chF t) := by subst hx; exact ch_end h
theorem up_ne {f : Nat → Int64} {k : Nat} {v : Int64} : ∀ j, j ≠ k → vp_updL f k v j = f j := fun j h => by simp [vp_updL, h]
/-- the sponge at the time t of the stream of P: t bytes since block 0 began -/
def str (u : Nat → Int32) (r P : Nat → Int64) (rt t ps : Nat) (f : Nat → Int64) : Prop := ∃ n, t = n * rt + ps ∧ ps ≤ rt ∧ eq25 f (blk u r P n)
/-- what next does -/
def nxt (u : Nat → Int32) (r : Nat → Int64) (rt ps : Nat) (f : Nat → Int64) (ps1 : Nat) (f1 : Nat → Int64) : Prop := (ps < rt ∧ ps1 = ps + 1 ∧ f1 = f) ∨ (ps = rt ∧ ps1 = 1 ∧ eq25 f1 (kfN u r 24 f))
theorem str_le {u : Nat → Int32} {r P : Nat → Int64} {rt t ps : Nat} {f : Nat → Int64} (h : str u r P rt t ps f) : ps ≤ rt := by
  obtain ⟨_, _, h, _⟩ := h
  exact h
theorem str_next {u : Nat → Int32} {r P : Nat → Int64} {rt t ps ps1 : Nat} {f f1 : Nat → Int64} (hrt : 0 < rt) (h : str u r P rt t ps f) (hn : nxt u r rt ps f ps1 f1) : str u r P rt (t + 1) ps1 f1 := by
  obtain ⟨n, h1, h2, h3⟩ := h
  rcases hn with ⟨a, b, c⟩ | ⟨a, b, c⟩
  · subst b; subst c
    exact ⟨n, by omega, by omega, h3⟩
  · subst a; subst b
    refine ⟨n + 1, ?_, hrt, c.trans (kfN_c 24 h3)⟩
    rw [Nat.succ_mul]
    omega
/-- a byte that is read at a place whose lane is zero in P, in a block that is P again -/
theorem str_zero {u : Nat → Int32} {r P : Nat → Int64} {rt t ps ps1 q : Nat} {f f1 : Nat → Int64} {M z : Nat} (hM : eq25 (blk u r P M) P) (h : str u r P rt t ps f) (hn : nxt u r rt ps f ps1 f1) (ht : t = M * rt + q) (h1 : 0 < q) (h2 : q < rt) (hz : P (q / 8) = 0) (h25 : q / 8 < 25) (hb : f1 ((ps1 - 1) / 8) = 0 → z = 0) : z = 0 := by
  obtain ⟨n, a1, a2, a3⟩ := h
  have e : n = M ∧ ps = q := by
    rcases Nat.lt_trichotomy n M with hl | hl | hl
    · exfalso
      have hle : (n + 1) * rt ≤ M * rt := Nat.mul_le_mul_right _ hl
      rw [Nat.succ_mul] at hle
      omega
    · subst hl
      exact ⟨rfl, by omega⟩
    · exfalso
      have hle : (M + 1) * rt ≤ n * rt := Nat.mul_le_mul_right _ hl
      rw [Nat.succ_mul] at hle
      omega
  obtain ⟨rfl, rfl⟩ := e
  rcases hn with ⟨_, b, c⟩ | ⟨b, _, _⟩
  · subst b; subst c
    apply hb
    rw [Nat.add_sub_cancel, a3 _ h25, hM _ h25]
    exact hz
  · omega
section RowsQ
variable {p : Program} {l : Launch} {e : Env} {R : Room} {s : State} {m : MethodId} {args : Array Value} {below : List Frame} {meth : Method} {c : Code} {H : Heap} {locs : List Loc} {cells slots : Nat} {Q : State → Prop} {pc : Nat} {ls : Array Slot} {rest : List Value}
theorem ml_as2 {x : Int64} {y : Int32} (k : ∀ z : Int64, z = (x.toUInt64 >>> (y.toInt64.toUInt64 &&& Int64.toUInt64 63)).toInt64 → W p l e R s m args below meth c H locs cells slots Q (F0 m pc ls (.long z :: rest))) : W p l e R s m args below meth c H locs cells slots Q (F0 m pc ls (.long ((x.toUInt64 >>> (y.toInt64.toUInt64 &&& Int64.toUInt64 63)).toInt64) :: rest)) := k _ rfl
end RowsQ
theorem by_zero {x q : Int64} {y : Int32} {z : Nat} (hx : x = 0) (hq : q = (x.toUInt64 >>> (y.toInt64.toUInt64 &&& Int64.toUInt64 63)).toInt64) (hz : z < 256) (e : Int64.toInt32 q &&& nI 255 = nI z) : z = 0 := by
  have hq0 : q = 0 := by
    rw [hq, hx]
    apply Int64.toBitVec_inj.mp
    show ((0 : UInt64) >>> _).toBitVec = _
    rw [UInt64.toBitVec_shiftRight]
    show (0#64) >>> _ = 0#64
    exact BitVec.zero_ushiftRight ..
  rw [hq0] at e
  have e2 : nI 0 = nI z := e
  exact ((nI_eq (show 0 < 2 ^ 31 by decide) (show z < 2 ^ 31 by omega)).mp e2).symm
theorem and_zero {z z1 y k : Nat} (hz : z = 0) (hk : 2 ^ k ≤ 2 ^ 31) (h : z1 < 2 ^ k) (e : nI z &&& nI y = nI z1) : z1 = 0 := by
  subst hz
  have e2 : nI 0 = nI z1 := by
    rw [← e]
    show _ = (0 : Int32) &&& nI y
    simp
    rfl
  exact ((nI_eq (show 0 < 2 ^ 31 by decide) (Nat.lt_of_lt_of_le h hk)).mp e2).symm
theorem tgt_le {m t rt p : Nat} (hm : 0 < m) (hrt : 0 < rt) : t ≤ (t + 1) * m * rt + p := by
  have h1 : t + 1 ≤ (t + 1) * m := Nat.le_mul_of_pos_right _ hm
  have h2 : (t + 1) * m ≤ (t + 1) * m * rt := Nat.le_mul_of_pos_right _ hrt
  omega
theorem cm_succ {c m k : Nat} : (c + 1) * m * k = c * m * k + m * k := by rw [Nat.succ_mul, Nat.add_mul]
