set_option linter.all false
/-! ML-DSA: rows, number by number -/
theorem P_flip8 {pf pg : Nat} {tp : Int32} {s : Sto} : onl pg s (F_RG_flip_8 pf tp pg s) ∧ ∀ k, k < 256 → (F_RG_flip_8 pf tp pg s).1 pg k = if 0 ≤ tp - s.1 pf k then tp - s.1 pf k else tp - s.1 pf k + nI 8380417 := by
  obtain ⟨s1, e, o, h, -⟩ := el_loop (pf := pg) (G := F_RG_flip_8_L0 pf tp pg) (K := fun s => s) (e := fun i s => if 0 ≤ tp - s.1 pf i then tp - s.1 pf i else tp - s.1 pf i + nI 8380417) (fun i s => by rw [F_RG_flip_8_L0]) (fun n i s => by rw [F_RG_flip_8_L0, bnd_eq, e_if]) (fun i s s' o h => by
    have w : s'.1 pf i = s.1 pf i := by
      by_cases q : pf = pg
      · rw [q]
        exact h
      · rw [o.1 pf q]
    simp only [w]) 256 0 s
  rw [F_RG_flip_8, e]
  exact ⟨o, fun k hk => h k (Nat.zero_le _) (by omega)⟩
theorem P_add8 {pf pg : Nat} {s : Sto} (hne : pg ≠ pf) : onl pf s (F_RG_add_8 pf pg s) ∧ ∀ k, k < 256 → (F_RG_add_8 pf pg s).1 pf k = if s.1 pf k + s.1 pg k < nI 8380417 then s.1 pf k + s.1 pg k else s.1 pf k + s.1 pg k - nI 8380417 := by
  obtain ⟨s1, e, o, h, -⟩ := el_loop (pf := pf) (G := F_RG_add_8_L0 pf pg) (K := fun s => s) (e := fun i s => if s.1 pf i + s.1 pg i < nI 8380417 then s.1 pf i + s.1 pg i else s.1 pf i + s.1 pg i - nI 8380417) (fun i s => by rw [F_RG_add_8_L0]) (fun n i s => by rw [F_RG_add_8_L0, bnd_eq, e_if]) (fun i s s' o h => by simp only [h, o.1 pg hne]) 256 0 s
  rw [F_RG_add_8, e]
  exact ⟨o, fun k hk => h k (Nat.zero_le _) (by omega)⟩
theorem P_add8n {pf pg : Nat} {s : Sto} (hne : pg ≠ pf) {k a b : Nat} (hk : k < 256) (ha : a < 8380417) (hb : b < 8380417) (e1 : s.1 pf k = nI a) (e2 : s.1 pg k = nI b) : (F_RG_add_8 pf pg s).1 pf k = nI ((a + b) % 8380417) := by
  rw [(P_add8 hne).2 k hk, e1, e2, nI_add]
  by_cases q : a + b < 8380417
  · rw [if_pos ((nI_ltI (by omega) (by decide)).mpr q)]
    exact congrArg nI (by omega)
  · rw [if_neg (fun z => q ((nI_ltI (by omega) (by decide)).mp z)), pk_sub (by omega)]
    exact congrArg nI (by omega)
theorem forth8_sr {pf pg pt : Nat} {s t : Sto} (hne : pg ≠ pt) (h : sr 8380417 (s.1 pf) (t.1 pg)) : onl pf s (F_RG_transform_8 pf s) ∧ onl pt t (F_MR_forth_8_0 pg pt t) ∧ sr 8380417 ((F_RG_transform_8 pf s).1 pf) ((F_MR_forth_8_0 pg pt t).1 pt) := by
  obtain ⟨p1, p2, -⟩ := P_transform8 (sr_l h)
  obtain ⟨q1, -, -⟩ := Qf_out80 (pt := pt) hne 256 0 t rfl (sr_r h)
  rw [← F_MR_forth_8_0] at q1
  exact ⟨p1, q1, sr_of p2 fun k hk => forth_same8 hne (sr_l h) (sr_e h) hk⟩
/-- small rows -/
theorem ss_sr {e : Nat} {r r' : Nat → Int32} (h : ss e r r') : sr 8380417 r r' := fun k hk => by
  obtain ⟨w, -, h1, h2⟩ := h k hk
  exact ⟨_, Nat.mod_lt _ (by decide), h1, h2⟩
theorem fl_small {e w : Nat} (he : e ≤ 4) (hw : w ≤ 2 * e) : (if 0 ≤ nI e - nI ((8380417 + e - w) % 8380417) then nI e - nI ((8380417 + e - w) % 8380417) else nI e - nI ((8380417 + e - w) % 8380417) + nI 8380417) = nI w := by
  by_cases q : w ≤ e
  · rw [show (8380417 + e - w) % 8380417 = e - w by omega, if_pos ((sub_nn (by omega) (by omega)).mpr (by omega)), pk_sub (by omega)]
    exact congrArg nI (by omega)
  · rw [show (8380417 + e - w) % 8380417 = 8380417 + e - w by omega, if_neg (fun z => by have := (sub_nn (by omega) (by omega)).mp z; omega), nI_sa (by omega)]
    exact congrArg nI (by omega)
theorem rf_small {e w : Nat} (he : e ≤ 4) (hw : w ≤ 2 * e) : (nI ((8380417 + e - w) % 8380417) ≤ nI e ∧ nI e - nI ((8380417 + e - w) % 8380417) = nI w) ∨ (¬ nI ((8380417 + e - w) % 8380417) ≤ nI e ∧ nI e - nI ((8380417 + e - w) % 8380417) + nI 8380417 = nI w) := by
  by_cases q : w ≤ e
  · rw [show (8380417 + e - w) % 8380417 = e - w by omega]
    refine Or.inl ⟨(nI_leI (by omega) (by omega)).mpr (by omega), ?_⟩
    rw [pk_sub (by omega)]
    exact congrArg nI (by omega)
  · rw [show (8380417 + e - w) % 8380417 = 8380417 + e - w by omega]
    refine Or.inr ⟨fun z => by have := (nI_leI (by omega) (by omega)).mp z; omega, ?_⟩
    rw [nI_sa (by omega)]
    exact congrArg nI (by omega)
/-- Power2Round -/
def p2h (v : Nat) : Nat := if v % 8192 ≤ 4096 then v / 8192 else v / 8192 + 1
def p2w (v : Nat) : Nat := if v % 8192 ≤ 4096 then 4096 - v % 8192 else 12288 - v % 8192
theorem p2h_lt {v : Nat} (h : v < 8380417) : p2h v < 1024 := by
  unfold p2h
  split <;> omega
theorem p2w_lt {v : Nat} : p2w v < 8192 := by
  unfold p2w
  split <;> omega
theorem sub_sub_m {a b c : Nat} (h : b ≤ a + c) : nI a - (nI b - nI c) = nI (a + c - b) := by
  have h1 : nI (a + c - b) + (nI b - nI c) = nI a := by
    rw [Int32.sub_eq_add_neg, ← Int32.add_assoc, nI_add, Nat.sub_add_cancel h, ← nI_add, ← Int32.sub_eq_add_neg, Int32.add_sub_cancel]
  rw [← h1, Int32.add_sub_cancel]
theorem p2_C {v : Nat} (h : v < 8380417) : (v % 8192 ≤ 4096 → nI 4096 - nI (v % 8192) = nI (p2w v) ∧ (nI v - nI (v % 8192)) >>> (nI 13 &&& 31) = nI (p2h v)) ∧ (¬ v % 8192 ≤ 4096 → nI 4096 - (nI (v % 8192) - nI 8192) = nI (p2w v) ∧ (nI v - (nI (v % 8192) - nI 8192)) >>> (nI 13 &&& 31) = nI (p2h v)) := by
  constructor
  · intro q
    unfold p2w p2h
    rw [if_pos q, if_pos q, pk_sub q, pk_sub (Nat.mod_le _ _), pk_shrN (by omega) _ 13 (by decide)]
    exact ⟨rfl, congrArg nI (by omega)⟩
  · intro q
    unfold p2w p2h
    rw [if_neg q, if_neg q, sub_sub_m (by omega), sub_sub_m (by omega), pk_shrN (by omega) _ 13 (by decide)]
    exact ⟨congrArg nI (by omega), congrArg nI (by omega)⟩
theorem m8192 : Int32.ofInt (-8192) = -(nI 8192) := by decide
theorem p2_R {v : Nat} (h : v < 8380417) : (v % 8192 ≤ 4096 → nI 4096 - nI (v % 8192) = nI (p2w v) ∧ (nI v - nI (v % 8192)) / nI 8192 = nI (p2h v)) ∧ (¬ v % 8192 ≤ 4096 → nI 4096 - (nI (v % 8192) + Int32.ofInt (-8192)) = nI (p2w v) ∧ (nI v - (nI (v % 8192) + Int32.ofInt (-8192))) / nI 8192 = nI (p2h v)) := by
  constructor
  · intro q
    unfold p2w p2h
    rw [if_pos q, if_pos q, pk_sub q, pk_sub (Nat.mod_le _ _), pk_div (by omega) (by decide) (by decide)]
    exact ⟨rfl, congrArg nI (by omega)⟩
  · intro q
    unfold p2w p2h
    rw [if_neg q, if_neg q, m8192, ← Int32.sub_eq_add_neg, sub_sub_m (by omega), sub_sub_m (by omega), pk_div (by omega) (by decide) (by decide)]
    exact ⟨congrArg nI (by omega), congrArg nI (by omega)⟩
theorem P_splitL {pf : Nat} (hne : pf ≠ 141) : ∀ (n i : Nat) (s : Sto), i + n = 256 → rdc 8380417 (s.1 pf) ∨ i = 256 ∨ (∀ k, i ≤ k → k < 256 → ∃ v : Nat, v < 8380417 ∧ s.1 pf k = nI v) → (∀ y, y ≠ 141 → y ≠ pf → (F_DA_splitRow_L0 pf n i s).1 y = s.1 y) ∧ (∀ k v, i ≤ k → k < 256 → v < 8380417 → s.1 pf k = nI v → (F_DA_splitRow_L0 pf n i s).1 141 k = nI (p2w v) ∧ (F_DA_splitRow_L0 pf n i s).1 pf k = nI (p2h v)) ∧ ∀ k, k < i → (F_DA_splitRow_L0 pf n i s).1 141 k = s.1 141 k ∧ (F_DA_splitRow_L0 pf n i s).1 pf k = s.1 pf k
  | 0, i, s, hi, _ => by
    rw [F_DA_splitRow_L0]
    exact ⟨fun _ _ _ => rfl, fun k v h1 h2 => by omega, fun _ _ => ⟨rfl, rfl⟩⟩
  | n + 1, i, s, hi, hr => by
    have hv : ∃ v : Nat, v < 8380417 ∧ s.1 pf i = nI v := by
      rcases hr with h | h | h
      · exact h i (by omega)
      · omega
      · exact h i (Nat.le_refl _) (by omega)
    have hr' : ∀ k, i ≤ k → k < 256 → ∃ v : Nat, v < 8380417 ∧ s.1 pf k = nI v := by
      rcases hr with h | h | h
      · exact fun k _ hk => h k hk
      · omega
      · exact h
    obtain ⟨v, hv, ev⟩ := hv
    have hz : s.1 pf i &&& nI 8191 = nI (v % 8192) := by
      rw [ev]
      exact pk_andN (by omega) 13 (by decide)
    obtain ⟨c1, c2⟩ := p2_C hv
    have hU : ∃ s1, F_DA_splitRow_L0 pf (n + 1) i s = F_DA_splitRow_L0 pf n (i + 1) s1 ∧ (∀ y, y ≠ 141 → y ≠ pf → s1.1 y = s.1 y) ∧ s1.1 141 = upd (s.1 141) i (nI (p2w v)) ∧ s1.1 pf = upd (s.1 pf) i (nI (p2h v)) := by
      have key : ∀ x y : Int32, (∀ z, z ≠ 141 → z ≠ pf → (sI (sI s 141 i x) pf i y).1 z = s.1 z) ∧ (sI (sI s 141 i x) pf i y).1 141 = upd (s.1 141) i x ∧ (sI (sI s 141 i x) pf i y).1 pf = upd (s.1 pf) i y := fun x y => by
        refine ⟨fun z h1 h2 => ?_, ?_, ?_⟩
        · exact (uA_ne h2).trans (uA_ne h1)
        · exact (uA_ne (Ne.symm hne)).trans sI_row
        · rw [sI_row]
          exact congrArg (fun r => upd r i y) (uA_ne hne)
      have ew : ∀ x : Int32, (sI s 141 i x).1 pf i = nI v := fun x => (congrFun (uA_ne hne) i).trans ev
      by_cases q : v % 8192 ≤ 4096
      · refine ⟨sI (sI s 141 i (nI (p2w v))) pf i (nI (p2h v)), ?_, key _ _⟩
        rw [F_DA_splitRow_L0, hz, bnd_eq, if_pos ((nI_leI (by omega) (by decide)).mpr q), bnd_eq, bnd_eq, ew, (c1 q).1, (c1 q).2]
      · refine ⟨sI (sI s 141 i (nI (p2w v))) pf i (nI (p2h v)), ?_, key _ _⟩
        rw [F_DA_splitRow_L0, hz, bnd_eq, if_neg (fun z => q ((nI_leI (by omega) (by decide)).mp z)), bnd_eq, bnd_eq, bnd_eq, ew, (c2 q).1, (c2 q).2]
    obtain ⟨s1, e, f1, f2, f3⟩ := hU
    obtain ⟨g1, g2, g3⟩ := P_splitL hne n (i + 1) s1 (by omega) (Or.inr (Or.inr fun k h1 h2 => by rw [f3, upd_n (by omega)]; exact hr' k (by omega) h2))
    rw [e]
    refine ⟨fun y h1 h2 => (g1 y h1 h2).trans (f1 y h1 h2), fun k u h1 h2 h3 h4 => ?_, fun k hk => ?_⟩
    · by_cases w : k = i
      · subst w
        obtain rfl : u = v := (nI_eq (by omega) (by omega)).mp (h4.symm.trans ev)
        rw [(g3 k (by omega)).1, (g3 k (by omega)).2, f2, f3, upd_s, upd_s]
        exact ⟨rfl, rfl⟩
      · exact g2 k u (by omega) h2 h3 (by rw [f3, upd_n w]; exact h4)
    · rw [(g3 k (by omega)).1, (g3 k (by omega)).2, f2, f3, upd_n (by omega), upd_n (by omega)]
      exact ⟨rfl, rfl⟩
theorem P_split {pf : Nat} {s : Sto} (hne : pf ≠ 141) (hr : rdc 8380417 (s.1 pf)) : (∀ y, y ≠ 141 → y ≠ pf → (F_DA_splitRow pf s).1 y = s.1 y) ∧ ∀ k v, k < 256 → v < 8380417 → s.1 pf k = nI v → (F_DA_splitRow pf s).1 141 k = nI (p2w v) ∧ (F_DA_splitRow pf s).1 pf k = nI (p2h v) := by
  obtain ⟨a, b, -⟩ := P_splitL hne 256 0 s rfl (Or.inl hr)
  rw [F_DA_splitRow]
  exact ⟨a, fun k v h1 h2 h3 => b k v (Nat.zero_le _) h1 h2 h3⟩
/-- the reference's packing of a row, in general -/
theorem rpk_loop {α : Type} {pt N b at_ : Nat} {G : Nat → Nat → Sto → α} {K : Sto → α} {v : Nat → Sto → Int32} {W : Nat → Nat} {s0 : Sto} (hb : 1 ≤ b) (hb2 : b ≤ 20) (h0 : ∀ s, G 0 256 s = K s) (h1 : ∀ n i s, i < 256 → onl pt s0 s → G (n + 1) i s = G n (i + 1) (F_M_pack pt N (8 * at_ + b * i) b (v i s) s)) (hv : ∀ i s, i < 256 → onl pt s0 s → v i s = nI (W i)) (hW : ∀ i, i < 256 → W i < 2 ^ b) : ∀ (m i : Nat) (s : Sto), i + m = 256 → ptd pt (8 * at_) (8 * at_ + b * i) (fun k => nb b (fun j => nI (W j)) (k - 8 * at_)) s0 s → ∃ s1, G m i s = K s1 ∧ ptd pt (8 * at_) (8 * at_ + b * 256) (fun k => nb b (fun j => nI (W j)) (k - 8 * at_)) s0 s1
  | 0, i, s, hi, h => by
    obtain rfl : i = 256 := by omega
    exact ⟨s, h0 s, h⟩
  | m + 1, i, s, hi, h => by
    have h2b : 2 ^ b ≤ 2 ^ 20 := Nat.pow_le_pow_right (by decide) hb2
    have hw := hW i (by omega)
    have c := Q_pack_in (pt := pt) (n := N) (bt := 8 * at_ + b * i) (bs := b) (v := v i s) (w := W i) (hv i s (by omega) h.1) (by omega) (by omega) (by omega) h (fun j hj => by
      show nb b (fun j => nI (W j)) (8 * at_ + b * i + j - 8 * at_) = _
      rw [show 8 * at_ + b * i + j - 8 * at_ = b * i + j by omega, nb_at hj, vn_n (r := fun j => nI (W j)) (k := i) (n := W i) rfl (by omega)])
    rw [h1 m i s (by omega) h.1]
    exact rpk_loop hb hb2 h0 h1 hv hW m (i + 1) _ (by omega) (by rw [show 8 * at_ + b * (i + 1) = 8 * at_ + b * i + b by rw [Nat.mul_add_one]; omega]; exact c)
/-- the bytes of a row of b-bit numbers -/
def pkb (b : Nat) (W : Nat → Nat) (j : Nat) : Int32 := by8 (bv (nb b (fun k => nI (W k))) (8 * j) 8)
theorem rpk_row {α : Type} {pt N b at_ : Nat} {G : Nat → Nat → Sto → α} {K : Sto → α} {v : Nat → Sto → Int32} {W : Nat → Nat} {s0 : Sto} (hb : 1 ≤ b) (hb2 : b ≤ 20) (h0 : ∀ s, G 0 256 s = K s) (h1 : ∀ n i s, i < 256 → onl pt s0 s → G (n + 1) i s = G n (i + 1) (F_M_pack pt N (8 * at_ + b * i) b (v i s) s)) (hv : ∀ i s, i < 256 → onl pt s0 s → v i s = nI (W i)) (hW : ∀ i, i < 256 → W i < 2 ^ b) : ∃ s1, G 256 0 s0 = K s1 ∧ onl pt s0 s1 ∧ (∀ j, j < 32 * b → s1.1 pt (at_ + j) = pkb b W j) ∧ ∀ k, (k < at_ ∨ at_ + 32 * b ≤ k) → s1.1 pt k = s0.1 pt k := by
  obtain ⟨s1, e, b1, b2, b3, b4, b5⟩ := rpk_loop (at_ := at_) hb hb2 h0 h1 hv hW 256 0 s0 rfl (by rw [Nat.mul_zero, Nat.add_zero]; exact ptd_rf (by omega))
  refine ⟨s1, e, b1, fun j hj => ?_, fun k hk => b5 k (by omega)⟩
  rw [by8_of (b4 (at_ + j) (by omega) (by omega)), ← rb_byte]
  refine congrArg by8 (bv_c 8 fun i hi => ?_)
  rw [b2 (8 * (at_ + j) + i) (by omega) (by omega)]
  show nb b (fun j => nI (W j)) (8 * (at_ + j) + i - 8 * at_) = nb b (fun k => nI (W k)) (8 * j + i)
  rw [show 8 * (at_ + j) + i - 8 * at_ = 8 * j + i by omega]
/-- the program's packing of a row -/
theorem P_packW {pf b pt n at_ : Nat} {W : Nat → Nat} {s : Sto} (hne : pf ≠ pt) (hb : 1 ≤ b) (hb2 : b ≤ 20) (hf : ∀ k, k < 256 → W k < 2 ^ b ∧ s.1 pf k = nI (W k)) : onl pt s (F_BT_pack pf b pt n at_ s) ∧ (∀ m, m < 32 * b → (F_BT_pack pf b pt n at_ s).1 pt (at_ + m) = pkb b W m) ∧ ∀ k, (k < at_ ∨ at_ + 32 * b ≤ k) → (F_BT_pack pf b pt n at_ s).1 pt k = s.1 pt k := by
  obtain ⟨a1, a2, a3⟩ := P_pack (n := n) (at_ := at_) (s := s) hne hb hb2 (fun k hk => ⟨W k, (hf k hk).1, (hf k hk).2⟩)
  refine ⟨a1, fun m hm => ?_, a3⟩
  rw [a2 m hm]
  refine congrArg by8 (bv_c 8 fun i hi => ?_)
  exact nb_c (by omega) (fun k hk => (hf k hk).2) (by
    have : 8 * m + 8 ≤ 8 * (32 * b) := by omega
    omega)
theorem pkb_c {b : Nat} {W W' : Nat → Nat} (hb : 1 ≤ b) (h : ∀ k, k < 256 → W k = W' k) {j : Nat} (hj : j < 32 * b) : pkb b W j = pkb b W' j := by
  refine congrArg by8 (bv_c 8 fun i hi => ?_)
  exact nb_c (by omega) (fun k hk => congrArg nI (h k hk)) (by omega)
theorem pkb_nar {b : Nat} {W : Nat → Nat} {j : Nat} : vp_nar .byte (pkb b W j) = pkb b W j := by8_nar _
/-- SHAKE256 of a row of bytes and what follows it -/
theorem dig8_same {pv qv pb n at1 len qb m at2 pt nt w1 qt nq w2 tk : Nat} {s t : Sto} (hp : pb ≠ pv) (hq : qb ≠ 172) (hpt : pt ≠ pv) (hqt : qt ≠ 172) (hB : ∀ j, j < len → s.1 pb (at1 + j) = t.1 qb (at2 + j)) : same2 pv qv pt s (F_SP_squeeze pv qv pt nt w1 tk (F_SP_finish pv qv (F_SP_absorb pv qv pb n at1 len (F_SP_start_3 pv qv s)))) ∧ same2 172 173 qt t (F_MS_take qt nq w2 tk (F_MS_end (F_MS_puts qb m at2 len (F_MS_begin 136 (nI 31) t)))) ∧ (∀ j, j < tk → (F_SP_squeeze pv qv pt nt w1 tk (F_SP_finish pv qv (F_SP_absorb pv qv pb n at1 len (F_SP_start_3 pv qv s)))).1 pt (w1 + j) = (F_MS_take qt nq w2 tk (F_MS_end (F_MS_puts qb m at2 len (F_MS_begin 136 (nI 31) t)))).1 qt (w2 + j)) ∧ (∀ j, j < tk → vp_nar .byte ((F_MS_take qt nq w2 tk (F_MS_end (F_MS_puts qb m at2 len (F_MS_begin 136 (nI 31) t)))).1 qt (w2 + j)) = (F_MS_take qt nq w2 tk (F_MS_end (F_MS_puts qb m at2 len (F_MS_begin 136 (nI 31) t)))).1 qt (w2 + j)) ∧ (∀ k, (k < w1 ∨ w1 + tk ≤ k) → (F_SP_squeeze pv qv pt nt w1 tk (F_SP_finish pv qv (F_SP_absorb pv qv pb n at1 len (F_SP_start_3 pv qv s)))).1 pt k = s.1 pt k) ∧ ∀ k, (k < w2 ∨ w2 + tk ≤ k) → (F_MS_take qt nq w2 tk (F_MS_end (F_MS_puts qb m at2 len (F_MS_begin 136 (nI 31) t)))).1 qt k = t.1 qt k := by
  have h0 : 0 < 136 := by decide
  have hr : 136 < 200 := by decide
  obtain ⟨a1, a2⟩ := P_start (pv := pv) (qv := qv) (rt := 136) (sf := nI 31) (s := s)
  rw [← sh3_3] at a1 a2
  obtain ⟨b1, b2⟩ := P_absorb (nb := n) (at_ := at1) (len := len) a1 hr h0 hp
  obtain ⟨f1, f2⟩ := P_finish b1 h0 hr (abN_lt h0 len)
  obtain ⟨a1', a2'⟩ := Q_begin (rt := 136) (sf := nI 31) (s := t)
  obtain ⟨b1', b2'⟩ := Q_puts (nb := m) (at_ := at2) (len := len) a1' hr h0 hq
  obtain ⟨f1', f2'⟩ := Q_end b1' h0 hr (abN_lt h0 len)
  rw [a2.1 pb hp, abN_ab (b := s.1 pb) (c := t.1 qb) (at1 := at1) (at2 := at2) len hB] at f1
  rw [a2'.1 qb hq] at f1'
  have m1 := (a2.tr b2).tr f2
  have m2 := (a2'.tr b2').tr f2'
  obtain ⟨g1, g2, g3, g4, g5⟩ := sq_same (pb := pt) (qb := qt) (nb := nt) (at1 := w1) (len := tk) (mb := nq) (at2 := w2) f1 f1' h0 hr hpt hqt
  have g6 := (Q_take (pb := qt) (nb := nq) (at_ := w2) (len := tk) f1' h0 hr (Nat.zero_le _) hqt).1
  refine ⟨(s2w m1).tr g1, (s2w m2).tr g2, g3, fun j hj => ?_, fun k hk => ?_, fun k hk => ?_⟩
  · rw [g6, sq_at, if_pos (by omega), pk_vb, pk_vb]
  · rw [g4 k hk, m1.1 pt hpt]
  · rw [g5 k hk, m2.1 qt hqt]
/-- the seeds of key generation -/
theorem seed8_same {k l pch n psd m : Nat} {s t : Sto} (h1 : pch ≠ 16) (h2 : psd ≠ 172) (hM : ∀ j, j < 32 → s.1 pch j = t.1 psd j) : same2 16 17 142 s (F_SP_squeeze 16 17 142 128 0 128 (F_SP_finish 16 17 (F_SP_absorbByte 16 17 (nI l) (F_SP_absorbByte 16 17 (nI k) (F_SP_absorb 16 17 pch n 0 32 (F_SP_start_3 16 17 s)))))) ∧ same2 172 173 372 t (F_MS_take 372 128 0 128 (F_MS_end (F_MS_put (nI l) (F_MS_put (nI k) (F_MS_puts psd m 0 32 (F_MS_begin 136 (nI 31) t)))))) ∧ (∀ j, j < 128 → (F_SP_squeeze 16 17 142 128 0 128 (F_SP_finish 16 17 (F_SP_absorbByte 16 17 (nI l) (F_SP_absorbByte 16 17 (nI k) (F_SP_absorb 16 17 pch n 0 32 (F_SP_start_3 16 17 s)))))).1 142 j = (F_MS_take 372 128 0 128 (F_MS_end (F_MS_put (nI l) (F_MS_put (nI k) (F_MS_puts psd m 0 32 (F_MS_begin 136 (nI 31) t)))))).1 372 j) ∧ ∀ j, j < 128 → vp_nar .byte ((F_MS_take 372 128 0 128 (F_MS_end (F_MS_put (nI l) (F_MS_put (nI k) (F_MS_puts psd m 0 32 (F_MS_begin 136 (nI 31) t)))))).1 372 j) = (F_MS_take 372 128 0 128 (F_MS_end (F_MS_put (nI l) (F_MS_put (nI k) (F_MS_puts psd m 0 32 (F_MS_begin 136 (nI 31) t)))))).1 372 j := by
  have h0 : 0 < 136 := by decide
  have hr : 136 < 200 := by decide
  obtain ⟨a1, a2⟩ := P_start (pv := 16) (qv := 17) (rt := 136) (sf := nI 31) (s := s)
  rw [← sh3_3] at a1 a2
  obtain ⟨b1, b2⟩ := P_absorb (pb := pch) (nb := n) (at_ := 0) (len := 32) a1 hr h0 h1
  obtain ⟨c1, c2⟩ := P_absorbByte (v := nI k) b1 hr (abN_lt h0 32)
  obtain ⟨d1, d2⟩ := P_absorbByte (v := nI l) c1 hr (abF_lt (abN_lt h0 32))
  obtain ⟨f1, f2⟩ := P_finish d1 h0 hr (abF_lt (abF_lt (abN_lt h0 32)))
  obtain ⟨a1', a2'⟩ := Q_begin (rt := 136) (sf := nI 31) (s := t)
  obtain ⟨b1', b2'⟩ := Q_puts (pb := psd) (nb := m) (at_ := 0) (len := 32) a1' hr h0 h2
  obtain ⟨c1', c2'⟩ := Q_put (v := nI k) b1' hr (abN_lt h0 32)
  obtain ⟨d1', d2'⟩ := Q_put (v := nI l) c1' hr (abF_lt (abN_lt h0 32))
  obtain ⟨f1', f2'⟩ := Q_end d1' h0 hr (abF_lt (abF_lt (abN_lt h0 32)))
  rw [a2.1 pch h1, abN_ab (b := s.1 pch) (c := t.1 psd) (at1 := 0) (at2 := 0) 32 (fun j hj => by rw [Nat.zero_add]; exact hM j hj)] at f1
  rw [a2'.1 psd h2] at f1'
  have m1 := (((a2.tr b2).tr c2).tr d2).tr f2
  have m2 := (((a2'.tr b2').tr c2').tr d2').tr f2'
  obtain ⟨g1, g2, g3, -, -⟩ := sq_same (pb := 142) (qb := 372) (nb := 128) (at1 := 0) (len := 128) (mb := 128) (at2 := 0) f1 f1' h0 hr (by decide) (by decide)
  have g6 := (Q_take (pb := 372) (nb := 128) (at_ := 0) (len := 128) f1' h0 hr (Nat.zero_le _) (by decide)).1
  refine ⟨(s2w m1).tr g1, (s2w m2).tr g2, fun j hj => ?_, fun j hj => ?_⟩
  · have := g3 j hj
    rw [Nat.zero_add] at this
    exact this
  · rw [g6, sq_at, if_pos (by omega), pk_vb, pk_vb]
