set_option linter.all false
/-! contents: rows and pure facts; the class's sponge is tied to the same kfN as the reference's -/
theorem vpc_l {cA : ClassId} {n : Nat} {f g : Nat → Int64} (h : ∀ j, j < n → f j = g j) : vp_cell cA (n, .inr (.inl f)) = vp_cell cA (n, .inr (.inl g)) := by
  show ({ cls := cA, slots := Array.ofFn (n := n) fun j => Value.long (f j.val), vm := .none } : Cell) = { cls := cA, slots := Array.ofFn (n := n) fun j => Value.long (g j.val), vm := .none }
  rw [show (fun j : Fin n => Value.long (f j.val)) = (fun j : Fin n => Value.long (g j.val)) from funext fun j => by rw [h j.val j.isLt]]
theorem vpc_i {cA : ClassId} {n : Nat} {f g : Nat → Int32} (h : ∀ j, j < n → f j = g j) : vp_cell cA (n, .inl f) = vp_cell cA (n, .inl g) := by
  show ({ cls := cA, slots := Array.ofFn (n := n) fun j => Value.int (f j.val), vm := .none } : Cell) = { cls := cA, slots := Array.ofFn (n := n) fun j => Value.int (g j.val), vm := .none }
  rw [show (fun j : Fin n => Value.int (f j.val)) = (fun j : Fin n => Value.int (g j.val)) from funext fun j => by rw [h j.val j.isLt]]
/-- a cell's contents by another name -/
theorem pc_e {D : va_G} {cl : List vw_C} {ws : va_W} {H : Heap} (hP : va_P D cl ws H) (k : Nat) {a : Nat} {cA : ClassId} {x y : vp_A} (hk : ws[k]? = some (a, .inl (cA, x))) (h : vp_cell cA x = vp_cell cA y) : va_P D cl (ws.set k (a, .inl (cA, y))) H := by
  intro j q hj
  by_cases e : j = k
  · subst e
    have hlt : j < ws.length := (List.getElem?_eq_some_iff.mp hk).1
    rw [List.getElem?_set_self hlt] at hj
    obtain rfl := Option.some.inj hj
    have h0 : H[a]? = some (vp_cell cA x) := hP j _ hk
    show H[a]? = some (vp_cell cA y)
    rw [← h]
    exact h0
  · rw [List.getElem?_set_ne (Ne.symm e)] at hj
    exact hP j q hj
theorem dc_e {A : Nat → Prop} {ws : va_W} (hD : va_D A ws) (k : Nat) {a : Nat} {x : va_E} (y : va_E) (hk : ws[k]? = some (a, x)) : va_D A (ws.set k (a, y)) := by
  have hlt : k < ws.length := (List.getElem?_eq_some_iff.mp hk).1
  have key : ∀ (j : Nat) (q : Nat × va_E), (ws.set k (a, y))[j]? = some q → ∃ q0, ws[j]? = some q0 ∧ q0.1 = q.1 := by
    intro j q hj
    by_cases e : j = k
    · subst e
      rw [List.getElem?_set_self hlt] at hj
      obtain rfl := Option.some.inj hj
      exact ⟨_, hk, rfl⟩
    · rw [List.getElem?_set_ne (Ne.symm e)] at hj
      exact ⟨q, hj, rfl⟩
  refine ⟨fun i j p q hi hj hpq => ?_, fun j q hj => ?_⟩
  · obtain ⟨p0, h1, h2⟩ := key i p hi
    obtain ⟨q0, h3, h4⟩ := key j q hj
    exact hD.1 i j p0 q0 h1 h3 (by rw [h2, h4]; exact hpq)
  · obtain ⟨q0, h1, h2⟩ := key j q hj
    rw [← h2]
    exact hD.2 j q0 h1
theorem pc_l {D : va_G} {cl : List vw_C} {ws : va_W} {H : Heap} (hP : va_P D cl ws H) (k : Nat) {a : Nat} {cA : ClassId} {n : Nat} {f : Nat → Int64} (g : Nat → Int64) (hk : ws[k]? = some (a, .inl (cA, n, .inr (.inl f)))) (h : ∀ j, j < n → f j = g j) : va_P D cl (ws.set k (a, .inl (cA, n, .inr (.inl g)))) H := pc_e hP k hk (vpc_l h)
theorem pc_i {D : va_G} {cl : List vw_C} {ws : va_W} {H : Heap} (hP : va_P D cl ws H) (k : Nat) {a : Nat} {cA : ClassId} {n : Nat} {f : Nat → Int32} (g : Nat → Int32) (hk : ws[k]? = some (a, .inl (cA, n, .inl f))) (h : ∀ j, j < n → f j = g j) : va_P D cl (ws.set k (a, .inl (cA, n, .inl g))) H := pc_e hP k hk (vpc_i h)
section RowsC
variable {p : Program} {l : Launch} {e : Env} {R : Room} {s : State} {m : MethodId} {args : Array Value} {below : List Frame} {meth : Method} {c : Code} {H : Heap} {locs : List Loc} {cells slots : Nat} {Q : State → Prop} {pc : Nat} {ls : Array Slot} {rest : List Value}
theorem ml_eqv {x : Int64} (k : ∀ z : Int64, z = x → W p l e R s m args below meth c H locs cells slots Q (F0 m pc ls (.long z :: rest))) : W p l e R s m args below meth c H locs cells slots Q (F0 m pc ls (.long x :: rest)) := k _ rfl
theorem mi_eqv {x : Int32} (k : ∀ z : Int32, z = x → W p l e R s m args below meth c H locs cells slots Q (F0 m pc ls (.int z :: rest))) : W p l e R s m args below meth c H locs cells slots Q (F0 m pc ls (.int x :: rest)) := k _ rfl
theorem ml_as {x y : Int64} (h : x = y) (k : W p l e R s m args below meth c H locs cells slots Q (F0 m pc ls (.long y :: rest))) : W p l e R s m args below meth c H locs cells slots Q (F0 m pc ls (.long x :: rest)) := by rw [h]; exact k
end RowsC
/-! a turn as the class writes it -/
theorem lr_r (n : Int32) : ((n.toInt64.toUInt64 &&& Int64.toUInt64 63).toBitVec % 64).toNat = n.toBitVec.toNat % 64 := by
  have h0 : (n.toInt64.toUInt64 &&& Int64.toUInt64 63).toBitVec.toNat = n.toBitVec.toNat % 64 := by
    rw [UInt64.toBitVec_and, BitVec.toNat_and]
    show (n.toBitVec.signExtend 64).toNat &&& 63 = _
    rw [show (63 : Nat) = 2 ^ 6 - 1 from rfl, Nat.and_two_pow_sub_one_eq_mod]
    rw [BitVec.toNat_signExtend]
    split <;> simp <;> omega
  rw [BitVec.toNat_umod, h0]
  show n.toBitVec.toNat % 64 % 64 = _
  omega
theorem sl_bit (n : Int32) (v : Int64) {i : Nat} (hi : i < 64) : bl (v <<< (n.toInt64 &&& 63)) i = (decide (n.toBitVec.toNat % 64 ≤ i) && bl v (i - n.toBitVec.toNat % 64)) := by
  unfold bl
  rw [Int64.toBitVec_shiftLeft]
  show (v.toBitVec <<< ((n.toInt64 &&& 63).toBitVec.smod 64).toNat).getLsbD i = _
  rw [lf_l, BitVec.getLsbD_shiftLeft]
  rcases Nat.lt_or_ge i (n.toBitVec.toNat % 64) with h | h
  · simp [h, Nat.not_le.mpr h]
  · simp [hi, h, Nat.not_lt.mpr h]
theorem sr_bit (n : Int32) (v : Int64) (i : Nat) : bl (v.toUInt64 >>> (n.toInt64.toUInt64 &&& Int64.toUInt64 63)).toInt64 i = bl v (n.toBitVec.toNat % 64 + i) := by
  show (v.toUInt64 >>> (n.toInt64.toUInt64 &&& Int64.toUInt64 63)).toBitVec.getLsbD i = _
  rw [UInt64.toBitVec_shiftRight]
  show (v.toBitVec >>> (((n.toInt64.toUInt64 &&& Int64.toUInt64 63).toBitVec % 64).toNat)).getLsbD i = _
  rw [lr_r, BitVec.getLsbD_ushiftRight]
  rfl
theorem lr_lf {v : Int64} {a b : Int32} (h0 : 0 < a.toBitVec.toNat % 64) (h : b.toBitVec.toNat % 64 = 64 - a.toBitVec.toNat % 64) : v <<< (a.toInt64 &&& 63) ||| (v.toUInt64 >>> (b.toInt64.toUInt64 &&& Int64.toUInt64 63)).toInt64 = lf v a := by
  apply bl_ext
  intro i hi
  rw [lf_bit a v hi, bl_or, sl_bit a v hi, sr_bit b v i, h]
  clear h
  generalize a.toBitVec.toNat = N at h0 ⊢
  rcases Nat.lt_or_ge i (N % 64) with h | h
  · rw [decide_eq_false (by omega), Bool.false_and, Bool.false_or]
    congr 1
    omega
  · rw [bl_big (x := v) (i := 64 - N % 64 + i) (by omega), Bool.or_false, decide_eq_true (by omega), Bool.true_and]
    congr 1
    omega
theorem lf_0 (v : Int64) : lf v (nI 0) = v := by
  apply bl_ext
  intro i hi
  rw [lf_bit (nI 0) v hi, show (nI 0).toBitVec.toNat % 64 = 0 from by decide]
  congr 1
  omega
/-! the tables of the standard: how far a lane is turned, by its place; the constants; the way through pi -/
def turl : List Nat := [0, 1, 62, 28, 27, 36, 44, 6, 55, 20, 3, 10, 43, 25, 39, 41, 45, 15, 21, 8, 18, 2, 61, 56, 14]
def TUR (k : Nat) : Int32 := nI (turl.getD k 0)
def rcl : List Int64 := [1, 32898, -9223372036854742902, -9223372034707259392, 32907, 2147483649, -9223372034707259263, -9223372036854743031, 138, 136, 2147516425, 2147483658, 2147516555, -9223372036854775669, -9223372036854742903, -9223372036854743037, -9223372036854743038, -9223372036854775680, 32778, -9223372034707292150, -9223372034707259263, -9223372036854742912, 2147483649, -9223372034707259384]
def RCS (k : Nat) : Int64 := rcl.getD k 0
def pzl : List Nat := [1, 10, 7, 11, 17, 18, 3, 5, 16, 8, 21, 24, 4, 15, 23, 19, 13, 12, 2, 20, 14, 22, 9, 6, 1]
def pz (j : Nat) : Nat := pzl.getD j 0
def tzl : List Nat := [1, 3, 6, 10, 15, 21, 28, 36, 45, 55, 2, 14, 27, 41, 56, 8, 25, 43, 62, 18, 39, 61, 20, 44]
def tz (j : Nat) : Int32 := nI (tzl.getD j 0)
def jzl : List Nat := [0, 23, 17, 5, 11, 6, 22, 1, 8, 21, 0, 2, 16, 15, 19, 12, 7, 3, 4, 14, 18, 9, 20, 13, 10]
def jz (k : Nat) : Nat := jzl.getD k 0
theorem st2_x : ∀ j, j < 24 → st_2 j = .long (RCS j) := by decide +kernel
theorem st3_x : ∀ j, j < 24 → st_3 j = .int (nI (pz (j + 1))) := by decide +kernel
theorem st4_x : ∀ j, j < 24 → st_4 j = .int (tz j) := by decide +kernel
theorem pz_lt : ∀ j, j < 25 → pz j < 25 := by decide +kernel
theorem pz_ne : ∀ i, i < 24 → ∀ j, j < 24 → i ≠ j → pz (i + 1) ≠ pz (j + 1) := by decide +kernel
theorem pz_n0 : ∀ j, j < 24 → (0 : Nat) ≠ pz (j + 1) := by decide +kernel
theorem tz_ok : ∀ j, j < 24 → 0 < (tz j).toBitVec.toNat % 64 ∧ (nI 64 - tz j).toBitVec.toNat % 64 = 64 - (tz j).toBitVec.toNat % 64 := by decide +kernel
theorem rho_tab : ∀ k, k < 25 → k = 0 ∨ (jz k < 24 ∧ pz (jz k + 1) = k ∧ (3 * (k / 5) + k % 5) % 5 + 5 * (k % 5) = pz (jz k) ∧ TUR (pz (jz k)) = tz (jz k)) := by decide +kernel
/-- Keccak-f -/
def prm (f : Nat → Int64) : Nat → Int64 := kfN TUR RCS 24 f
theorem thD_m {c : Nat → Int64} {i : Nat} (x : Nat) (hi : i % 5 = 0) : thD c (i + x) = thD c x := by
  unfold thD
  rw [show (i + x + 4) % 5 = (x + 4) % 5 by omega, show (i + x + 1) % 5 = (x + 1) % 5 by omega]
/-- one place of a row done -/
def rowI (i : Nat) (f f1 : Nat → Int64) (G : Nat → Int64) : Prop := (∀ j, j < i → f j = G j) ∧ ∀ j, i ≤ j → j < 25 → f j = f1 j
theorem row_one {i : Nat} {f f1 G a : Nat → Int64} {v : Int64} (h : rowI i f f1 G) (hv : v = G i) (e : vp_updL f i v = a) : rowI (i + 1) a f1 G := by
  subst e
  refine ⟨up_step h.1 hv, fun j h1 h2 => ?_⟩
  simp only [vp_updL, show ¬ j = i by omega, if_false]
  exact h.2 j (by omega) h2
theorem row_start {f G : Nat → Int64} : rowI 0 f f G := ⟨fun j h => absurd h (Nat.not_lt_zero _), fun _ _ _ => rfl⟩
theorem row_en {i : Nat} {f f1 G : Nat → Int64} (h : rowI i f f1 G) (hi : i = 25) : eq25 f G := fun j hj => h.1 j (by omega)
theorem th_x {i : Nat} {f f1 : Nat → Int64} {d : Int64} (x : Nat) (h : rowI (i + x) f f1 (thF f1)) (hi : i % 5 = 0) (h25 : i + x < 25) (hd : d = thD (colF f1) x) : f (i + x) ^^^ d = thF f1 (i + x) := by
  rw [h.2 (i + x) (Nat.le_refl _) h25, hd]
  show _ = f1 (i + x) ^^^ thD (colF f1) (i + x)
  rw [thD_m x hi]
theorem th_five {f f1 a1 a2 a3 a4 a5 : Nat → Int64} {d0 d1 d2 d3 d4 : Int64} {i : Nat} (h : rowI i f f1 (thF f1)) (hi : i % 5 = 0) (h25 : i + 4 < 25) (e0 : d0 = thD (colF f1) 0) (e1 : d1 = thD (colF f1) 1) (e2 : d2 = thD (colF f1) 2) (e3 : d3 = thD (colF f1) 3) (e4 : d4 = thD (colF f1) 4)
    (g1 : vp_updL f i (f i ^^^ d0) = a1) (g2 : vp_updL a1 (i + 1) (a1 (i + 1) ^^^ d1) = a2) (g3 : vp_updL a2 (i + 2) (a2 (i + 2) ^^^ d2) = a3) (g4 : vp_updL a3 (i + 3) (a3 (i + 3) ^^^ d3) = a4) (g5 : vp_updL a4 (i + 4) (a4 (i + 4) ^^^ d4) = a5) : rowI (i + 5) a5 f1 (thF f1) := by
  have h1 := row_one h (th_x 0 h hi (by omega) e0) g1
  have h2 := row_one h1 (th_x 1 h1 hi (by omega) e1) g2
  have h3 := row_one h2 (th_x 2 h2 hi (by omega) e2) g3
  have h4 := row_one h3 (th_x 3 h3 hi (by omega) e3) g4
  exact row_one h4 (th_x 4 h4 hi (by omega) e4) g5
theorem ch_x {i : Nat} {f1 : Nat → Int64} (x : Nat) (hx : x < 5) (hi : i % 5 = 0) : chF f1 (i + x) = f1 (i + x) ^^^ ((f1 (i + (x + 1) % 5) ^^^ -1) &&& f1 (i + (x + 2) % 5)) := by
  unfold chF
  rw [show (i + x) % 5 = x by omega, show 5 * ((i + x) / 5) = i by omega, Nat.add_comm ((x + 1) % 5) i, Nat.add_comm ((x + 2) % 5) i]
theorem ch_five {f f1 a1 a2 a3 a4 a5 : Nat → Int64} {i : Nat} (h : rowI i f f1 (chF f1)) (hi : i % 5 = 0) (h25 : i + 4 < 25)
    (g1 : vp_updL f i (f i ^^^ ((f (i + 1) ^^^ -1) &&& f (i + 2))) = a1) (g2 : vp_updL a1 (i + 1) (f (i + 1) ^^^ ((f (i + 2) ^^^ -1) &&& f (i + 3))) = a2) (g3 : vp_updL a2 (i + 2) (f (i + 2) ^^^ ((f (i + 3) ^^^ -1) &&& f (i + 4))) = a3) (g4 : vp_updL a3 (i + 3) (f (i + 3) ^^^ ((f (i + 4) ^^^ -1) &&& f i)) = a4) (g5 : vp_updL a4 (i + 4) (f (i + 4) ^^^ ((f i ^^^ -1) &&& f (i + 1))) = a5) : rowI (i + 5) a5 f1 (chF f1) := by
  have b : ∀ x, x < 5 → f (i + x) = f1 (i + x) := fun x hx => h.2 (i + x) (by omega) (by omega)
  have b0 : f i = f1 (i + 0) := b 0 (by decide)
  have b1 := b 1 (by decide)
  have b2 := b 2 (by decide)
  have b3 := b 3 (by decide)
  have b4 := b 4 (by decide)
  have h1 := row_one h (by rw [b0, b1, b2]; exact (ch_x 0 (by decide) hi).symm) g1
  have h2 := row_one h1 (by rw [b1, b2, b3]; exact (ch_x 1 (by decide) hi).symm) g2
  have h3 := row_one h2 (by rw [b2, b3, b4]; exact (ch_x 2 (by decide) hi).symm) g3
  have h4 := row_one h3 (by rw [b3, b4, b0]; exact (ch_x 3 (by decide) hi).symm) g4
  exact row_one h4 (by rw [b4, b0, b1]; exact (ch_x 4 (by decide) hi).symm) g5
/-- rho and pi in place: as far as step i -/
def rhoI (i : Nat) (mv : Int64) (f f1 : Nat → Int64) : Prop := mv = f1 (pz i) ∧ (∀ j, j < i → f (pz (j + 1)) = lf (f1 (pz j)) (tz j)) ∧ ∀ k, k < 25 → (∀ j, j < i → k ≠ pz (j + 1)) → f k = f1 k
theorem rho_start {f : Nat → Int64} : rhoI 0 (f 1) f f := ⟨rfl, fun j h => absurd h (Nat.not_lt_zero _), fun _ _ _ => rfl⟩
theorem rho_step {i : Nat} {mv : Int64} {f f1 a : Nat → Int64} (hi : i < 24) (h : rhoI i mv f f1) (e : vp_updL f (pz (i + 1)) (lf mv (tz i)) = a) : rhoI (i + 1) (f (pz (i + 1))) a f1 := by
  subst e
  obtain ⟨h1, h2, h3⟩ := h
  refine ⟨h3 _ (pz_lt _ (by omega)) (fun j hj => pz_ne i hi j (by omega) (by omega)), fun j hj => ?_, fun k hk hne => ?_⟩
  · by_cases q : j = i
    · subst q
      simp only [vp_updL, if_true]
      rw [h1]
    · simp only [vp_updL, pz_ne j (by omega) i hi q, if_false]
      exact h2 j (by omega)
  · have hk2 : k ≠ pz (i + 1) := hne i (by omega)
    simp only [vp_updL, hk2, if_false]
    exact h3 k hk (fun j hj => hne j (by omega))
theorem rho_en {i : Nat} {mv : Int64} {f f1 : Nat → Int64} (h : rhoI i mv f f1) (hi : i = 24) : eq25 f (rpF TUR f1) := by
  subst hi
  obtain ⟨_, h2, h3⟩ := h
  intro k hk
  rcases rho_tab k hk with q | ⟨a, b, c, d⟩
  · subst q
    rw [h3 0 (by decide) (fun j hj => pz_n0 j hj)]
    show _ = lf (f1 0) (nI 0)
    rw [lf_0]
  · unfold rpF
    rw [c, d, ← h2 _ a, b]
