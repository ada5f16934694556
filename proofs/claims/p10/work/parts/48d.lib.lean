set_option linter.all false
/-! the pure sponge: both sides are tied to it -/
def byL (v : Int32) (k : Nat) : Int64 := (v.toInt64 &&& 255) <<< ((nI (8 * (k % 8))).toInt64 &&& 63)
def mxB (f : Nat → Int64) (k : Nat) (v : Int32) : Nat → Int64 := vp_updL f (k / 8) (f (k / 8) ^^^ byL v k)
def gtI (f : Nat → Int64) (k : Nat) : Int32 := ((f (k / 8)).toUInt64 >>> ((nI (8 * (k % 8))).toInt64.toUInt64 &&& Int64.toUInt64 63)).toInt64.toInt32 &&& nI 255
abbrev Sp : Type := (Nat → Int64) × Nat
def abF (rt : Nat) (st : Sp) (v : Int32) : Sp := if st.2 + 1 = rt then (prm (mxB st.1 st.2 v), 0) else (mxB st.1 st.2 v, st.2 + 1)
def abN (rt : Nat) (st : Sp) (b : Nat → Int32) (at_ : Nat) : Nat → Sp
  | 0 => st
  | n + 1 => abF rt (abN rt st b at_ n) (b (at_ + n))
/-- the padded block -/
def pdF (rt : Nat) (st : Sp) (sf : Int32) : Nat → Int64 := mxB (mxB st.1 st.2 sf) (rt - 1) (nI 128)
def nxS (rt : Nat) (st : Sp) : Sp := if st.2 = rt then (prm st.1, 1) else (st.1, st.2 + 1)
def itN (rt : Nat) (st : Sp) : Nat → Sp
  | 0 => st
  | n + 1 => nxS rt (itN rt st n)
/-- byte n of the stream -/
def oB (rt : Nat) (st : Sp) (n : Nat) : Int32 := gtI (itN rt st (n + 1)).1 ((itN rt st (n + 1)).2 - 1)
/-- an array behind n bytes of the stream -/
def sqF (rt : Nat) (st : Sp) (b : Nat → Int32) (at_ : Nat) : Nat → Nat → Int32
  | 0 => b
  | n + 1 => upd (sqF rt st b at_ n) (at_ + n) (vp_nar .byte ((oB rt st n).toInt8.toInt32))
theorem abF_lt {rt : Nat} {st : Sp} {v : Int32} (h : st.2 < rt) : (abF rt st v).2 < rt := by
  unfold abF
  split <;> simp only <;> omega
theorem abN_lt {rt : Nat} {st : Sp} {b : Nat → Int32} {at_ : Nat} (h : st.2 < rt) : ∀ n, (abN rt st b at_ n).2 < rt
  | 0 => h
  | n + 1 => abF_lt (abN_lt h n)
theorem nxS_le {rt : Nat} {st : Sp} (h0 : 0 < rt) (h : st.2 ≤ rt) : (nxS rt st).2 ≤ rt := by
  unfold nxS
  split <;> simp only <;> omega
theorem itN_le {rt : Nat} {st : Sp} (h0 : 0 < rt) (h : st.2 ≤ rt) : ∀ n, (itN rt st n).2 ≤ rt
  | 0 => h
  | n + 1 => nxS_le h0 (itN_le h0 h n)
/-- the class mixes a padded block when the first byte is asked for, the reference at once: the streams are the same -/
theorem it_end {rt : Nat} (h0 : 0 < rt) (P : Nat → Int64) : ∀ n, itN rt (P, rt) (n + 1) = itN rt (prm P, 0) (n + 1)
  | 0 => by
    show nxS rt (P, rt) = nxS rt (prm P, 0)
    unfold nxS
    rw [if_pos rfl, if_neg (by show ¬ 0 = rt; omega)]
  | n + 1 => by
    show nxS rt (itN rt (P, rt) (n + 1)) = nxS rt (itN rt (prm P, 0) (n + 1))
    rw [it_end h0 P n]
theorem oB_end {rt : Nat} (h0 : 0 < rt) (P : Nat → Int64) (n : Nat) : oB rt (P, rt) n = oB rt (prm P, 0) n := by
  unfold oB
  rw [it_end h0 P n]
theorem sq_end {rt : Nat} (h0 : 0 < rt) (P : Nat → Int64) (b : Nat → Int32) (at_ : Nat) : ∀ n, sqF rt (P, rt) b at_ n = sqF rt (prm P, 0) b at_ n
  | 0 => rfl
  | n + 1 => by
    show upd (sqF rt (P, rt) b at_ n) (at_ + n) _ = upd (sqF rt (prm P, 0) b at_ n) (at_ + n) _
    rw [sq_end h0 P b at_ n, oB_end h0 P n]
theorem sq_at {rt : Nat} {st : Sp} {b : Nat → Int32} {at_ : Nat} : ∀ (n j : Nat), sqF rt st b at_ n j = if at_ ≤ j ∧ j < at_ + n then vp_nar .byte ((oB rt st (j - at_)).toInt8.toInt32) else b j
  | 0, j => by
    rw [if_neg (by omega)]
    rfl
  | n + 1, j => by
    show upd (sqF rt st b at_ n) (at_ + n) _ j = _
    by_cases q : j = at_ + n
    · subst q
      rw [if_pos (by omega)]
      simp only [upd, if_true]
      rw [Nat.add_sub_cancel_left]
    · simp only [upd, q, if_false]
      rw [sq_at n j]
      by_cases h : at_ ≤ j ∧ j < at_ + n
      · rw [if_pos h, if_pos (by omega)]
      · rw [if_neg h, if_neg (by omega)]
theorem nI_and7 {k : Nat} (h : k < 2 ^ 31) : nI k &&& nI 7 = nI (k % 8) := by
  apply Int32.toBitVec_inj.mp
  apply BitVec.eq_of_toNat_eq
  rw [Int32.toBitVec_and, BitVec.toNat_and]
  show (BitVec.ofNat 32 k).toNat &&& (BitVec.ofNat 32 7).toNat = (BitVec.ofNat 32 (k % 8)).toNat
  rw [BitVec.toNat_ofNat, BitVec.toNat_ofNat, BitVec.toNat_ofNat, Nat.mod_eq_of_lt (show k < 2 ^ 32 by omega), show 7 % 2 ^ 32 = 2 ^ 3 - 1 from rfl, Nat.and_two_pow_sub_one_eq_mod]
  show k % 8 = k % 8 % 2 ^ 32
  omega
section RowsB
variable {p : Program} {l : Launch} {e : Env} {R : Room} {s : State} {m : MethodId} {args : Array Value} {below : List Frame} {meth : Method} {c : Code} {H : Heap} {locs : List Loc} {cells slots : Nat} {Q : State → Prop}
variable {cc : ByteArray} {pc : Nat} {ls : Array Slot} {rest : List Value} {D : va_G} {cl : List vw_C} {A : Nat → Prop} {a : Nat} {tys : List (ClassId × FieldType)} {ws : va_W} {H0 : Heap}
theorem mp_bald (hexec : p.tables.exec = Jvm.exec) (hb : c.code = cc) (hK : va_K D cl tys s) (hP : va_P D cl ws H) (q0 t0 : Nat) {cA : ClassId} {n : Nat} {f : Nat → Int32} (ha : ws[q0]? = some (a, .inl (cA, n, .inl f))) (ht : tys[t0]? = some (cA, .byte)) {i : Nat} (hi : i < n) (hn : n < 2 ^ 31) (hdg : decode cc pc = .ok (.baload, 1))
    (kk : W p l e R s m args below meth c H locs cells slots Q (F0 m (pc + 1) ls (.int (f i) :: rest))) : W p l e R s m args below meth c H locs cells slots Q (F0 m pc ls (.int (nI i) :: .ref a :: rest)) := by
  refine va_bald hexec hb hK hP q0 t0 ha ht (vp_in_nI hi hn) hdg ?_
  rw [nI_clamp (by omega)]
  exact kk
theorem mp_bast (hexec : p.tables.exec = Jvm.exec) (hb : c.code = cc) (hK : va_K D cl tys s) (hP : va_P D cl ws H) (hD : va_D A ws) (hS : va_S A H0 H locs) (q0 t0 : Nat) {cA : ClassId} {n : Nat} {f : Nat → Int32} (ha : ws[q0]? = some (a, .inl (cA, n, .inl f))) (ht : tys[t0]? = some (cA, .byte)) {i : Nat} {x : Int32} (hi : i < n) (hn : n < 2 ^ 31) (hdg : decode cc pc = .ok (.bastore, 1))
    (kk : ∀ (H1 : Heap) (locs1 : List Loc), va_P D cl (ws.set q0 (a, .inl (cA, n, .inl (upd f i (vp_nar .byte x))))) H1 → va_D A (ws.set q0 (a, .inl (cA, n, .inl (upd f i (vp_nar .byte x))))) → va_S A H0 H1 locs1 → W p l e R s m args below meth c H1 locs1 cells slots Q (F0 m (pc + 1) ls rest)) : W p l e R s m args below meth c H locs cells slots Q (F0 m pc ls (.int x :: .int (nI i) :: .ref a :: rest)) := by
  refine va_bast hexec hb hK hP hD hS q0 t0 ha ht (vp_in_nI hi hn) hdg (fun H1 locs1 h1 h2 h3 => ?_)
  rw [nI_clamp (by omega)] at h1 h2
  exact kk H1 locs1 h1 h2 h3
end RowsB
