set_option linter.all false
abbrev c_RG_mirrored : ByteArray := prog_9_method_2_code
abbrev y_RG_mirrored : MethodName := ⟨"LatticeKeys$Ring", "mirrored", "(II)I"⟩
abbrev w_RG_mirrored : List Cond := Cond.code y_RG_mirrored c_RG_mirrored 4 (some .int) :: WG
theorem dRG_mirrored_0 : decode c_RG_mirrored 0 = .ok (.iconst 0, 1) := by decide +kernel
theorem dRG_mirrored_1 : decode c_RG_mirrored 1 = .ok (.istore_n 2, 1) := by decide +kernel
theorem dRG_mirrored_2 : decode c_RG_mirrored 2 = .ok (.iconst 0, 1) := by decide +kernel
theorem dRG_mirrored_3 : decode c_RG_mirrored 3 = .ok (.istore_n 3, 1) := by decide +kernel
theorem dRG_mirrored_4 : decode c_RG_mirrored 4 = .ok (.iload_n 3, 1) := by decide +kernel
theorem dRG_mirrored_5 : decode c_RG_mirrored 5 = .ok (.iload_n 1, 1) := by decide +kernel
theorem dRG_mirrored_6 : decode c_RG_mirrored 6 = .ok (.if_icmp .ge 19, 3) := by decide +kernel
theorem dRG_mirrored_9 : decode c_RG_mirrored 9 = .ok (.iload_n 2, 1) := by decide +kernel
theorem dRG_mirrored_10 : decode c_RG_mirrored 10 = .ok (.iconst 1, 1) := by decide +kernel
theorem dRG_mirrored_11 : decode c_RG_mirrored 11 = .ok (.ishl, 1) := by decide +kernel
theorem dRG_mirrored_12 : decode c_RG_mirrored 12 = .ok (.iload_n 0, 1) := by decide +kernel
theorem dRG_mirrored_13 : decode c_RG_mirrored 13 = .ok (.iload_n 3, 1) := by decide +kernel
theorem dRG_mirrored_14 : decode c_RG_mirrored 14 = .ok (.ishr, 1) := by decide +kernel
theorem dRG_mirrored_15 : decode c_RG_mirrored 15 = .ok (.iconst 1, 1) := by decide +kernel
theorem dRG_mirrored_16 : decode c_RG_mirrored 16 = .ok (.iand, 1) := by decide +kernel
theorem dRG_mirrored_17 : decode c_RG_mirrored 17 = .ok (.ior, 1) := by decide +kernel
theorem dRG_mirrored_18 : decode c_RG_mirrored 18 = .ok (.istore_n 2, 1) := by decide +kernel
theorem dRG_mirrored_19 : decode c_RG_mirrored 19 = .ok (.iinc 3 1, 3) := by decide +kernel
theorem dRG_mirrored_22 : decode c_RG_mirrored 22 = .ok (.goto (-18), 3) := by decide +kernel
theorem dRG_mirrored_25 : decode c_RG_mirrored 25 = .ok (.iload_n 2, 1) := by decide +kernel
theorem dRG_mirrored_26 : decode c_RG_mirrored 26 = .ok (.ireturn, 1) := by decide +kernel
/-! the tables that the constructors compute -/
/-- the lowest k bits of i, the other way round -/
def mirL : Nat → Nat → Nat
  | 0, _ => 0
  | k + 1, i => 2 * mirL k i + i / 2 ^ k % 2
theorem mirL_lt : ∀ (k i : Nat), mirL k i < 2 ^ k
  | 0, _ => Nat.one_pos
  | k + 1, i => by
    have := mirL_lt k i
    rw [mirL, Nat.pow_succ]
    omega
theorem mr_shr : ∀ i, i < 256 → ∀ k, k < 8 → nI i >>> (nI k &&& 31) = nI (i / 2 ^ k) := by decide +kernel
theorem mr_and : ∀ x, x < 256 → nI x &&& nI 1 = nI (x % 2) := by decide +kernel
theorem mr_or : ∀ v, v < 128 → ∀ y, y < 2 → nI (v * 2 ^ 1) ||| nI y = nI (2 * v + y) := by decide +kernel
/-- the powers of a root -/
def rgP (Z Q : Int64) : Nat → Int64
  | 0 => 1
  | i + 1 => rgP Z Q i * Z - rgP Z Q i * Z / Q * Q
/-- the class's roots after i steps -/
def rgF (Z Q : Int64) (b : Nat) : Nat → Nat → Int32
  | 0 => fun _ => 0
  | i + 1 => upd (rgF Z Q b i) (mirL b i) (rgP Z Q i).toInt32
set_option maxHeartbeats 400000 in
set_option maxRecDepth 100000 in
theorem m_RG_mirX (l : Launch) (g : Gd) (sz : Nat) (i b : Nat) (hi : i < 256) (hbb : b ≤ 8) : Met l y_RG_mirrored w_RG_mirrored ({ frames := 0, cells := 0, slots := 0, locals := 0 } : Room) (va_Pc [.int (nI i), .int (nI b)] (pr (en g) g.1 vcl sz [])) (va_Qi (fun (r : Int32) (u : Unit) => r = nI (mirL b i)) (po g.1 vcl (va_A [] sz) (fun (u : Unit) => [])) (va_A [] sz)) 0 0 (va_A [] sz) := by
  refine mc_entry (cc := c_RG_mirrored) (maxL := 4) (ret := (some .int)) (by decide) rfl (Nat.le_of_ble_eq_true rfl) ?_
  intro p e s m args below meth c ls F hr hlk hnm hsz hP hD hE hA hl
  obtain ⟨hx, hb, hml, hown, hts⟩ := id F
  have hK := hE.1
  generalize va_A [] sz = A at hD hE hA ⊢
  have hS : va_S A s.heap s.heap [] := va_S.rf
  have hl : lv_has ls 4 [(0, .int (nI i)), (1, .int (nI b))] := hl
  have loop : ∀ (n k : Nat) (ls : Array Slot), n + k = b → lv_has ls 4 [(3, .int (nI k)), (2, .int (nI (mirL k i))), (0, .int (nI i)), (1, .int (nI b))] → W p l e ({ frames := 0, cells := 0, slots := 0, locals := 0 } : Room) s m args below meth c s.heap [] 0 0 (MQ below (va_Qi (fun (r : Int32) (u : Unit) => r = nI (mirL b i)) (po g.1 vcl A (fun (u : Unit) => [])) A) args s 0 0 A) (F0 m 4 ls []) := by
    intro n
    induction n with
    | zero =>
      intro k ls hk hl
      refine lv_iload_n hx hb dRG_mirrored_4 rfl (lv_at hl 0 rfl) ?_
      refine lv_iload_n hx hb dRG_mirrored_5 rfl (lv_at hl 3 rfl) ?_
      refine mi_ge (tgt := 25) hx hb dRG_mirrored_6 (by decide) (by omega) (by omega) (fun h1 => ?_) (fun h1 => absurd h1 (by omega))
      refine lv_iload_n hx hb dRG_mirrored_25 rfl (lv_at hl 1 rfl) ?_
      exact mc_iret hx hb hr hlk hP hD hS () (by rw [show b = k by omega]) [] rfl rfl (by omega) (by omega) dRG_mirrored_26
    | succ n ih =>
      intro k ls hk hl
      have hv8 : mirL k i < 2 ^ 7 := Nat.lt_of_lt_of_le (mirL_lt k i) (Nat.pow_le_pow_right (by decide) (by omega))
      have hq8 : i / 2 ^ k < 256 := Nat.lt_of_le_of_lt (Nat.div_le_self _ _) hi
      refine lv_iload_n hx hb dRG_mirrored_4 rfl (lv_at hl 0 rfl) ?_
      refine lv_iload_n hx hb dRG_mirrored_5 rfl (lv_at hl 3 rfl) ?_
      refine mi_ge (tgt := 25) hx hb dRG_mirrored_6 (by decide) (by omega) (by omega) (fun h1 => absurd h1 (by omega)) (fun h1 => ?_)
      refine lv_iload_n hx hb dRG_mirrored_9 rfl (lv_at hl 1 rfl) ?_
      refine lv_iconst (v := nI 1) hx hb dRG_mirrored_10 (by decide) ?_
      refine mi_ishl hx hb dRG_mirrored_11 (by omega) (by decide) ?_
      refine lv_iload_n hx hb dRG_mirrored_12 rfl (lv_at hl 2 rfl) ?_
      refine lv_iload_n hx hb dRG_mirrored_13 rfl (lv_at hl 0 rfl) ?_
      refine lv_ishr hx hb dRG_mirrored_14 ?_
      refine mi_as (mr_shr i hi k (by omega)) ?_
      refine lv_iconst (v := nI 1) hx hb dRG_mirrored_15 (by decide) ?_
      refine lv_iand hx hb dRG_mirrored_16 ?_
      refine mi_as (mr_and _ hq8) ?_
      refine lv_ior hx hb dRG_mirrored_17 ?_
      refine mi_as (mr_or _ hv8 _ (Nat.mod_lt _ (by decide))) ?_
      refine mi_as (show nI (2 * mirL k i + i / 2 ^ k % 2) = nI (mirL (k + 1) i) from rfl) ?_
      refine lv_istore_n (lv' := [(2, .int (nI (mirL (k + 1) i))), (3, .int (nI k)), (0, .int (nI i)), (1, .int (nI b))]) hx hb dRG_mirrored_18 rfl hl (by decide) rfl (fun ls hl => ?_)
      refine mi_iinc (k := 1) (x := k) (d := 1) (y := k + 1) (lv' := [(3, .int (nI (k + 1))), (2, .int (nI (mirL (k + 1) i))), (0, .int (nI i)), (1, .int (nI b))]) hx hb dRG_mirrored_19 hl rfl (by decide) rfl (by decide) rfl (fun ls hl => ?_)
      refine lv_goto (tgt := 4) hx hb dRG_mirrored_22 (by decide) ?_
      exact ih (k + 1) ls (by omega) (lv_sub hl [0, 1, 2, 3] rfl)
  refine lv_iconst (v := nI 0) hx hb dRG_mirrored_0 (by decide) ?_
  refine lv_istore_n (lv' := [(2, .int (nI 0)), (0, .int (nI i)), (1, .int (nI b))]) hx hb dRG_mirrored_1 rfl hl (by decide) rfl (fun ls hl => ?_)
  refine lv_iconst (v := nI 0) hx hb dRG_mirrored_2 (by decide) ?_
  refine lv_istore_n (lv' := [(3, .int (nI 0)), (2, .int (nI 0)), (0, .int (nI i)), (1, .int (nI b))]) hx hb dRG_mirrored_3 rfl hl (by decide) rfl (fun ls hl => ?_)
  exact loop b 0 ls (by omega) (lv_sub hl [0, 1, 2, 3] rfl)
section RowsRI
variable {p : Program} {l : Launch} {e : Env} {R : Room} {s : State} {m : MethodId} {args : Array Value} {below : List Frame} {meth : Method} {c : Code} {H : Heap} {locs : List Loc} {cells slots : Nat} {Q : State → Prop}
variable {cc : ByteArray} {pc : Nat} {ls : Array Slot} {rest : List Value} {D : va_G} {cl : List vw_C} {A : Nat → Prop} {a : Nat} {tys : List (ClassId × FieldType)} {ws : va_W} {H0 : Heap}
theorem mp_iast (hexec : p.tables.exec = Jvm.exec) (hb : c.code = cc) (hK : va_K D cl tys s) (hP : va_P D cl ws H) (hD : va_D A ws) (hS : va_S A H0 H locs) (q0 t0 : Nat) {cA : ClassId} {n : Nat} {f : Nat → Int32} (ha : ws[q0]? = some (a, .inl (cA, n, .inl f))) (ht : tys[t0]? = some (cA, .int)) {i : Nat} {x : Int32} (hi : i < n) (hn : n < 2 ^ 31) (hdg : decode cc pc = .ok (.iastore, 1))
    (kk : ∀ (H1 : Heap) (locs1 : List Loc), va_P D cl (ws.set q0 (a, .inl (cA, n, .inl (upd f i x)))) H1 → va_D A (ws.set q0 (a, .inl (cA, n, .inl (upd f i x)))) → va_S A H0 H1 locs1 → W p l e R s m args below meth c H1 locs1 cells slots Q (F0 m (pc + 1) ls rest)) : W p l e R s m args below meth c H locs cells slots Q (F0 m pc ls (.int x :: .int (nI i) :: .ref a :: rest)) := by
  refine va_iast hexec hb hK hP hD hS q0 t0 ha ht (vp_in_nI hi hn) hdg (fun H1 locs1 h1 h2 h3 => ?_)
  rw [nI_clamp (by omega)] at h1 h2
  exact kk H1 locs1 h1 h2 h3
end RowsRI
