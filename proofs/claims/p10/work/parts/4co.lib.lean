set_option linter.all false
/-! names that come later -/
def extN (T T1 : TyN) : Prop := ∀ a k : Nat, T a = some k → T1 a = some k
theorem extN_rf {T : TyN} : extN T T := fun _ _ h => h
theorem extN_tr {T T1 T2 : TyN} (h : extN T T1) (h1 : extN T1 T2) : extN T T2 := fun a k q => h1 a k (h a k q)
/-- all names lie below b -/
def lowT (T : TyN) (b : Nat) : Prop := ∀ a k : Nat, T a = some k → k < b
theorem lowT_up {T : TyN} {b b1 : Nat} (h : lowT T b) (hb : b ≤ b1) : lowT T b1 := fun a k q => Nat.lt_of_lt_of_le (h a k q) hb
def frT (T : TyN) (k : Nat) : Prop := ∀ a : Nat, T a ≠ some k
theorem frT_low {T : TyN} {b k : Nat} (h : lowT T b) (hb : b ≤ k) : frT T k := fun a e => absurd (h a k e) (by omega)
def tnU (T : TyN) (q k : Nat) : TyN := fun b => if b = q then some k else T b
theorem tnU_at {T : TyN} {q k : Nat} : tnU T q k q = some k := if_pos rfl
theorem tnU_ne {T : TyN} {q k b : Nat} (h : b ≠ q) : tnU T q k b = T b := if_neg h
theorem nfitS_ext {g : Gd} {T T1 : TyN} (h : extN T T1) {fi : Nat → Int32} {fl : Nat → Int64} {q : NS} {e : va_E} (hq : nfitS g T fi fl q e) : nfitS g T1 fi fl q e := by
  obtain ⟨a, n, l⟩ := q
  match a, hq with
  | 0, hq => exact hq
  | 1, hq => exact hq
  | 2, hq => exact hq
  | 3, ⟨f, e1, hf⟩ => exact ⟨f, e1, fun j hj => (hf j hj).elim (fun r hr => ⟨r, hr.1, h _ _ hr.2⟩)⟩
  | 4, ⟨f, e1, hf⟩ => exact ⟨f, e1, fun j hj => (hf j hj).elim (fun r hr => ⟨r, hr.1, h _ _ hr.2⟩)⟩
  | 5, ⟨fs, e1, hn, hf⟩ =>
    refine ⟨fs, e1, hn, fun j c hc => ?_⟩
    obtain ⟨v, hv, hd⟩ := hf j c hc
    refine ⟨v, hv, ?_⟩
    obtain ⟨c1, c2⟩ := c
    match c1, hd with
    | 0, hd => exact hd
    | 1, hd => exact hd
    | 2, hd => exact hd
    | 3, ⟨r, er, hr⟩ => exact ⟨r, er, h _ _ hr⟩
    | 4, hd => exact hd
    | 5, hd => exact hd
    | _ + 6, hd => exact hd
  | 6, ⟨f, e1, hf⟩ => exact ⟨f, e1, fun j hj => (hf j hj).elim (fun r hr => ⟨r, hr.1, h _ _ hr.2⟩)⟩
  | 7, ⟨f, e1, hf⟩ => exact ⟨f, e1, fun j hj => (hf j hj).elim (fun r hr => ⟨r, hr.1, h _ _ hr.2⟩)⟩
  | 8, ⟨f, e1, hf⟩ =>
    refine ⟨f, e1, fun j hj => ?_⟩
    rcases hf j hj with h9 | ⟨c, r, h1, h2, h3, h4⟩
    · exact Or.inl h9
    · exact Or.inr ⟨c, r, h1, h2, h3, h _ _ h4⟩
  | 9, hq => exact hq
  | 10, hq => exact hq
  | 11, hq => exact hq
  | 12, hq => exact hq
  | _ + 13, hq => exact hq
theorem nfit_ext {g : Gd} {T T1 : TyN} (h : extN T T1) {s : Sto} {k : Nat} {e : va_E} (hq : nfit g T s k e) : nfit g T1 s k e := nfitS_ext h hq
theorem okn_none {g : Gd} {T : TyN} {s : Sto} {pl X : va_W} {A : Nat → Prop} {q : Nat} {e : va_E} (hO : okn g T s pl) (hD : va_D A ((X ++ pl) ++ [(q, e)])) : T q = none := by
  match h : T q with
  | none => rfl
  | some k =>
    exfalso
    obtain ⟨i, e1, h1, -⟩ := hO q k h
    have hi : i < pl.length := (List.getElem?_eq_some_iff.mp h1).1
    have a1 : ((X ++ pl) ++ [(q, e)])[X.length + i]? = some (q, e1) := by
      rw [List.getElem?_append_left (by rw [List.length_append]; omega)]
      exact pl_at h1
    have a2 : ((X ++ pl) ++ [(q, e)])[(X ++ pl).length]? = some (q, e) := by
      rw [List.getElem?_append_right (Nat.le_refl _), Nat.sub_self]
      rfl
    have := hD.1 _ _ _ _ a1 a2 rfl
    rw [List.length_append] at this
    omega
/-- the newest cell goes into the pool, under a name that nothing had -/
theorem absorbN {g : Gd} {T : TyN} {s : Sto} {pl : va_W} {H : Heap} {A : Nat → Prop} {q : Nat} {e : va_E} (s1 : Sto) (k : Nat) (hP : va_P g.1 vcl (([] ++ pl) ++ [(q, e)]) H) (hD : va_D A (([] ++ pl) ++ [(q, e)])) (hO : okn g T s pl) (hU : inj T) (hf : frT T k) (hs1 : ∀ k', k' ≠ k → s1.1 k' = s.1 k') (hs2 : ∀ k', k' ≠ k → s1.2 k' = s.2 k') (he : ∀ T1, extN T T1 → T1 q = some k → nfit g T1 s1 k e) :
    ∃ (T1 : TyN) (pl1 : va_W), extN T T1 ∧ inj T1 ∧ T1 q = some k ∧ okn g T1 s1 pl1 ∧ va_P g.1 vcl ([] ++ pl1) H ∧ va_D A ([] ++ pl1) ∧ (∀ k', k' ≠ k → frT T k' → frT T1 k') ∧ (∀ b, k < b → lowT T b → lowT T1 b) := by
  have hq : T q = none := okn_none hO hD
  have hx : extN T (tnU T q k) := fun a k' ha => by
    rw [tnU_ne (fun e9 => by rw [e9, hq] at ha; cases ha)]
    exact ha
  refine ⟨tnU T q k, pl ++ [(q, e)], hx, ?_, tnU_at, ?_, ?_, ?_, ?_, ?_⟩
  · intro a b k' ha hb
    by_cases h1 : a = q
    · by_cases h2 : b = q
      · rw [h1, h2]
      · exfalso
        subst h1
        rw [tnU_at] at ha
        rw [tnU_ne h2] at hb
        cases ha
        exact hf b hb
    · by_cases h2 : b = q
      · exfalso
        subst h2
        rw [tnU_at] at hb
        rw [tnU_ne h1] at ha
        cases hb
        exact hf a ha
      · rw [tnU_ne h1] at ha
        rw [tnU_ne h2] at hb
        exact hU a b k' ha hb
  · intro a k' ha
    by_cases h1 : a = q
    · subst h1
      rw [tnU_at] at ha
      cases ha
      exact ⟨pl.length, e, by rw [List.getElem?_append_right (Nat.le_refl _), Nat.sub_self]; rfl, he _ hx tnU_at⟩
    · rw [tnU_ne h1] at ha
      obtain ⟨i, e1, h2, h3⟩ := hO a k' ha
      have hne : k' ≠ k := fun q9 => hf a (by rw [← q9]; exact ha)
      refine ⟨i, e1, by rw [List.getElem?_append_left (List.getElem?_eq_some_iff.mp h2).1]; exact h2, ?_⟩
      have h4 := nfit_ext hx h3
      unfold nfit at h4 ⊢
      rw [hs1 k' hne, hs2 k' hne]
      exact h4
  · rw [← List.append_assoc]; exact hP
  · rw [← List.append_assoc]; exact hD
  · intro k' hne hn a ha
    by_cases h1 : a = q
    · subst h1
      rw [tnU_at] at ha
      cases ha
      exact hne rfl
    · rw [tnU_ne h1] at ha
      exact hn a ha
  · intro b hb hl a k' ha
    by_cases h1 : a = q
    · subst h1
      rw [tnU_at] at ha
      cases ha
      exact hb
    · rw [tnU_ne h1] at ha
      exact hl a k' ha
/-- a new array, all zero -/
def sZ (s : Sto) (k : Nat) : Sto := (uA s.1 k (fun _ => 0), s.2)
theorem fitZ {g : Gd} {T : TyN} {s : Sto} {k n : Nat} (hk : nsp k = (1, n, [])) : nfit g T (sZ s k) k (.inl (g.2.1 1, n, .inl (fun _ => 0))) :=
  nfit_mk hk ⟨fun _ => 0, rfl, fun j _ => by show (0 : Int32) = uA s.1 k (fun _ => 0) k j; rw [uA_eq], byt_0⟩
theorem frm_sZ {M : Nat → Prop} {s s1 s2 : Sto} {k : Nat} (h : frm M s s1) (e : s2 = sZ s1 k) (hM : M k) : frm M s s2 := fun k' hk => by
  subst e
  have hne : k' ≠ k := fun q => hk (by rw [q]; exact hM)
  show uA s1.1 k _ k' = _
  rw [uA_ne hne]
  exact h k' hk
theorem fc_Z {s s2 : Sto} {k k' i' : Nat} {v : Int32} (h : s.1 k' i' = v) (e : s2 = sZ s k) (hne : k' ≠ k) : s2.1 k' i' = v := by
  subst e
  show uA s.1 k _ k' i' = v
  rw [uA_ne hne]
  exact h
theorem fitP {g : Gd} {T : TyN} {s : Sto} {k ci c n1 n2 q1 q2 : Nat} (hk : nsp k = (5, ci, [(1, c), (3, n1), (3, n2)])) (h1 : T q1 = some n1) (h2 : T q2 = some n2) : nfit g T s k (.inr (ci, [.int (nI c), .ref q1, .ref q2])) := by
  refine nfit_mk hk ⟨_, rfl, rfl, fun j cj hj => ?_⟩
  match j, hj with
  | 0, hj => have e : ((1, c) : Nat × Nat) = cj := Option.some.inj hj; subst e; exact ⟨_, rfl, rfl⟩
  | 1, hj => have e : ((3, n1) : Nat × Nat) = cj := Option.some.inj hj; subst e; exact ⟨_, rfl, q1, rfl, h1⟩
  | 2, hj => have e : ((3, n2) : Nat × Nat) = cj := Option.some.inj hj; subst e; exact ⟨_, rfl, q2, rfl, h2⟩
  | _ + 3, hj => exact absurd hj (by simp)
theorem fitP0 {g : Gd} {T : TyN} {s : Sto} {k ci c n1 q1 : Nat} (hk : nsp k = (5, ci, [(1, c), (3, n1), (5, 0)])) (h1 : T q1 = some n1) : nfit g T s k (.inr (ci, [.int (nI c), .ref q1, .null])) := by
  refine nfit_mk hk ⟨_, rfl, rfl, fun j cj hj => ?_⟩
  match j, hj with
  | 0, hj => have e : ((1, c) : Nat × Nat) = cj := Option.some.inj hj; subst e; exact ⟨_, rfl, rfl⟩
  | 1, hj => have e : ((3, n1) : Nat × Nat) = cj := Option.some.inj hj; subst e; exact ⟨_, rfl, q1, rfl, h1⟩
  | 2, hj => have e : ((5, 0) : Nat × Nat) = cj := Option.some.inj hj; subst e; exact ⟨_, rfl, rfl⟩
  | _ + 3, hj => exact absurd hj (by simp)
theorem pr_ob {z c : Nat} (hz : z < 8) (hc : c < 12) : ∃ fl, nsp (379 + 36 * z + 3 * c) = (5, 13, fl) := by
  have h9 : c = 0 ∨ c = 1 ∨ c = 2 ∨ c = 3 ∨ c = 4 ∨ c = 5 ∨ c = 6 ∨ c = 7 ∨ c = 8 ∨ c = 9 ∨ c = 10 ∨ c = 11 := by omega
  rcases h9 with rfl | rfl | rfl | rfl | rfl | rfl | rfl | rfl | rfl | rfl | rfl | rfl
  · exact ⟨_, pr_o0 hz⟩
  · exact ⟨_, pr_o1 hz⟩
  · exact ⟨_, pr_o2 hz⟩
  · exact ⟨_, pr_o3 hz⟩
  · exact ⟨_, pr_o4 hz⟩
  · exact ⟨_, pr_o5 hz⟩
  · exact ⟨_, pr_o6 hz⟩
  · exact ⟨_, pr_o7 hz⟩
  · exact ⟨_, pr_o8 hz⟩
  · exact ⟨_, pr_o9 hz⟩
  · exact ⟨_, pr_o10 hz⟩
  · exact ⟨_, pr_o11 hz⟩
section RowsG
variable {p : Program} {l : Launch} {e : Env} {R : Room} {s : State} {m : MethodId} {args : Array Value} {below : List Frame} {meth : Method} {c : Code} {H : Heap} {locs : List Loc} {cells slots : Nat} {Q : State → Prop}
variable {cc : ByteArray} {pc : Nat} {ls : Array Slot} {rest st0 : List Value} {g : Gd} {A : Nat → Prop} {a a0 : Nat} {X pl : va_W} {H0 : Heap} {T : TyN} {σ : Sto}
theorem nw_aast8 (hexec : p.tables.exec = Jvm.exec) (hb : c.code = cc) (hK : va_K g.1 vcl (tyA g.2.1) s) (hO : okn g T σ pl) (hU : inj T) {k n b : Nat} (ka : T a = some k) (hk : nsp k = (8, n, [(0, b)])) {i v kc : Nat} (kv : T v = some (b + 36 * i + 3 * kc)) (hc : kc < 12) (hv : ∃ fl, nsp (b + 36 * i + 3 * kc) = (5, 13, fl)) (hP : va_P g.1 vcl (X ++ pl) H) (hD : va_D A (X ++ pl)) (hS : va_S A H0 H locs) (hi : i < n) (hn : n < 2 ^ 31) (hdg : decode cc pc = .ok (.aastore, 1))
    (kk : ∀ (σ1 : Sto) (pl : va_W) (H1 : Heap) (locs1 : List Loc), σ1 = sI σ k i (nI (kc + 1)) → okn g T σ1 pl → va_P g.1 vcl (X ++ pl) H1 → va_D A (X ++ pl) → va_S A H0 H1 locs1 → W p l e R s m args below meth c H1 locs1 cells slots Q (F0 m (pc + 1) ls rest)) : W p l e R s m args below meth c H locs cells slots Q (F0 m pc ls (.ref v :: .int (nI i) :: .ref a :: rest)) := by
  obtain ⟨i0, e0, h1, h2⟩ := hO a k ka
  obtain ⟨f, rfl, hf⟩ := nfit_of h2 hk
  obtain ⟨fl, hfl⟩ := hv
  obtain ⟨j0, fs, h3, -, -⟩ := nw_obj hO kv hfl
  have hcl : (nI i).toNatClampNeg = i := nI_clamp (by omega)
  refine va_astq hexec hb hK hP hD hS (X.length + i0) 5 (X.length + j0) 13 (pl_at h1) rfl (pl_at h3) rfl (vp_in_nI hi hn) hdg (fun H1 locs1 h6 h7 h8 => ?_)
  rw [pl_set] at h6 h7
  refine kk _ _ H1 locs1 rfl (okn_set hO hU ka h1 (nfit_mk hk ⟨_, rfl, fun j hj => ?_⟩) (fun _ h => uA_ne h) (fun _ _ => rfl)) h6 h7 h8
  show npr T b j (uA σ.1 k (upd (σ.1 k) i (nI (kc + 1))) k j) (va_up f (nI i).toNatClampNeg (some v) j)
  rw [uA_eq, hcl]
  by_cases q : j = i
  · subst q
    exact Or.inr ⟨kc, v, hc, by simp [upd], by simp [va_up], kv⟩
  · have e1 : upd (σ.1 k) i (nI (kc + 1)) j = σ.1 k j := by simp [upd, q]
    have e2 : va_up f i (some v) j = f j := by simp [va_up, q]
    rw [e1, e2]
    exact hf j hj
end RowsG
