set_option linter.all false
/-! a contract over a few cells, taken into the pool -/
theorem pool_map {D : va_G} {cl : List vw_C} {pl : va_W} {H H1 : Heap} (ν : Nat → Option va_E) (hP : va_P D cl pl H) (h1 : ∀ (i a : Nat) (e e' : va_E), pl[i]? = some (a, e) → ν a = some e' → va_at D cl (a, e') H1) (h0 : ∀ (i a : Nat) (e : va_E), pl[i]? = some (a, e) → ν a = none → H1[a]? = H[a]?) : va_P D cl (pl.map (fun q => (q.1, (ν q.1).getD q.2))) H1 := by
  intro k q hk
  rw [List.getElem?_map] at hk
  cases hq : pl[k]? with
  | none => rw [hq] at hk; cases hk
  | some r =>
    rw [hq] at hk
    obtain ⟨a, e⟩ := r
    have e1 : q = (a, (ν a).getD e) := (Option.some.inj hk).symm
    subst e1
    cases hn : ν a with
    | none => exact (hP k _ hq).kept (h0 k a e hq hn)
    | some e' => exact h1 k a e e' hq hn
theorem poolD_map {A : Nat → Prop} {pl : va_W} (ν : Nat → Option va_E) (hD : va_D A pl) : va_D A (pl.map (fun q => (q.1, (ν q.1).getD q.2))) := by
  have key : ∀ (i : Nat) (q : Nat × va_E), (pl.map (fun q => (q.1, (ν q.1).getD q.2)))[i]? = some q → ∃ q0, pl[i]? = some q0 ∧ q0.1 = q.1 := by
    intro i q h
    rw [List.getElem?_map] at h
    cases hq : pl[i]? with
    | none => rw [hq] at h; cases h
    | some r =>
      rw [hq] at h
      exact ⟨r, rfl, by rw [← Option.some.inj h]⟩
  refine ⟨fun i j p q hi hj hpq => ?_, fun i q hi => ?_⟩
  · obtain ⟨p0, a1, a2⟩ := key i p hi
    obtain ⟨q0, b1, b2⟩ := key j q hj
    exact hD.1 i j p0 q0 a1 b1 (by rw [a2, b2]; exact hpq)
  · obtain ⟨q0, b1, b2⟩ := key i q hi
    rw [← b2]
    exact hD.2 i q0 b1
theorem poolO_map {g : Gd} {T : TyN} {s s' : Sto} {pl : va_W} (ν : Nat → Option va_E) (hO : okn g T s pl) (h1 : ∀ (a k : Nat) (e' : va_E), T a = some k → ν a = some e' → nfit g T s' k e') (h0 : ∀ (a k : Nat), T a = some k → ν a = none → s'.1 k = s.1 k ∧ s'.2 k = s.2 k) : okn g T s' (pl.map (fun q => (q.1, (ν q.1).getD q.2))) := by
  intro a k hk
  obtain ⟨i, e, h2, h3⟩ := hO a k hk
  refine ⟨i, (ν a).getD e, by rw [List.getElem?_map, h2]; rfl, ?_⟩
  cases hn : ν a with
  | none =>
    obtain ⟨e1, e2⟩ := h0 a k hk hn
    show nfit g T s' k e
    unfold nfit
    rw [e1, e2]
    exact h3
  | some e' => exact h1 a k e' hk hn
/-- Keccak-f on the lanes of that name -/
def sPm (s : Sto) (q : Nat) : Sto := (s.1, uL s.2 q (prm (s.2 q)))
theorem frm_sPm {M : Nat → Prop} {s : Sto} {q : Nat} : frm M s (sPm s q) := fun _ _ => rfl
theorem prm_c {f g : Nat → Int64} (h : eq25 f g) : eq25 (prm f) (prm g) := kfN_c 24 h
theorem nsp_ne {p q : Nat} {a b : NS} (h1 : nsp p = a) (h2 : nsp q = b) (h : a.1 ≠ b.1) : p ≠ q := fun e => h (by rw [← h1, ← h2, e])
theorem name_ne {T : TyN} {a b k k' : Nat} (h1 : T a = some k) (h2 : T b = some k') (h : k ≠ k') : a ≠ b := fun q => h (by rw [q] at h1; exact Option.some.inj (h1.symm.trans h2))
def M_SP_permute (k : Nat) : Prop := (0 : Nat) = 1
def F_SP_permute (p q : Nat) (s : Sto) : Sto := sPm s q
set_option maxHeartbeats 1000000 in
theorem N_SP_permute (l : Launch) (g : Gd) (sz : Nat) (T : TyN) (s : Sto) (pl : va_W) (hO : okn g T s pl) (hU : inj T) (h0 p q : Nat) (k_h0 : T h0 = some p) (n_h0 : nsp p = (5, 3, [(3, q), (0, 0), (0, 0), (0, 0)])) (n_q : nsp q = (2, 25, [])) :
    Met l y_SP_permute w_SP_permute ({ frames := 0, cells := 0, slots := 0, locals := 0 } : Room) (va_Pc [.ref h0] (pr (en g) g.1 vcl sz ([] ++ pl))) (va_Qv (fun (u : Sto × va_W) => (u.1 = F_SP_permute p q s ∧ frm (M_SP_permute) s u.1 ∧ True) ∧ okn g T u.1 u.2) (po g.1 vcl (va_A ([] ++ pl) sz) (fun (u : Sto × va_W) => [] ++ u.2)) (va_A ([] ++ pl) sz)) 0 0 (va_A ([] ++ pl) sz) := by
  obtain ⟨i0, fs, h1, hn, hf⟩ := nw_obj hO k_h0 n_h0
  obtain ⟨ln, kl, hfs⟩ : ∃ ln, T ln = some q ∧ fs = [.ref ln, .int (s.1 p 1), .int (s.1 p 2), .int (s.1 p 3)] := by
    obtain ⟨v0, a0, ln, rfl, kl⟩ := hf 0 (3, q) rfl
    obtain ⟨v1, a1, b1⟩ := hf 1 (0, 0) rfl
    obtain ⟨v2, a2, b2⟩ := hf 2 (0, 0) rfl
    obtain ⟨v3, a3, b3⟩ := hf 3 (0, 0) rfl
    have b1 : v1 = .int (s.1 p 1) := b1
    have b2 : v2 = .int (s.1 p 2) := b2
    have b3 : v3 = .int (s.1 p 3) := b3
    subst b1; subst b2; subst b3
    refine ⟨ln, kl, ?_⟩
    match fs, hn, a0, a1, a2, a3 with
    | [x0, x1, x2, x3], _, a0, a1, a2, a3 =>
      have c0 : x0 = .ref ln := Option.some.inj a0
      have c1 : x1 = .int (s.1 p 1) := Option.some.inj a1
      have c2 : x2 = .int (s.1 p 2) := Option.some.inj a2
      have c3 : x3 = .int (s.1 p 3) := Option.some.inj a3
      rw [c0, c1, c2, c3]
  subst hfs
  obtain ⟨i1, ex, h2, h2'⟩ := hO ln q kl
  obtain ⟨f, rfl, hff⟩ := nfit_of h2' n_q
  have hpq : p ≠ q := fun e => by rw [e] at n_h0; rw [n_h0] at n_q; cases n_q
  have hne : h0 ≠ ln := name_ne k_h0 kl hpq
  refine met_conseq (fun a st hp => ?_)
  obtain ⟨ha, hsz, hP, hD, hE⟩ := hp
  have hP : va_P g.1 vcl pl st.heap := hP
  have hD : va_D (fun _ => True) pl := hD
  have hsub : ∀ b, va_A ([(h0, .inr (3, [.ref ln, .int (s.1 p 1), .int (s.1 p 2), .int (s.1 p 3)])), (ln, .inl (g.2.1 2, 25, .inr (.inl f)))] ++ []) sz b → va_A ([] ++ pl) sz b := by
    intro b hb
    rcases hb with ⟨k, e, hk⟩ | hb
    · match k, hk with
      | 0, hk => cases Option.some.inj hk; exact Or.inl ⟨i0, _, h1⟩
      | 1, hk => cases Option.some.inj hk; exact Or.inl ⟨i1, _, h2⟩
      | n + 2, hk => simp at hk
    · exact Or.inr hb
  refine ⟨_, _, _, x_SP_permute l g sz (fun _ => none) [] [] (fun _ _ h => nomatch h) (fun _ _ _ _ h => nomatch h) h0 ln (s.1 p 1) (s.1 p 2) (s.1 p 3) f, ⟨ha, hsz, ?_, ?_, (en_ok g).2.2 _ _ _ _ hE hsub⟩, ?_, hsub⟩
  · intro k c hk
    match k, hk with
    | 0, hk => cases Option.some.inj hk; exact hP i0 _ h1
    | 1, hk => cases Option.some.inj hk; exact hP i1 _ h2
    | n + 2, hk => simp at hk
  · refine ⟨fun i j x y hi hj hxy => ?_, fun _ _ _ => trivial⟩
    match i, j, hi, hj with
    | 0, 0, _, _ => rfl
    | 0, 1, hi, hj => cases Option.some.inj hi; cases Option.some.inj hj; exact absurd hxy hne
    | 1, 0, hi, hj => cases Option.some.inj hi; cases Option.some.inj hj; exact absurd hxy.symm hne
    | 1, 1, _, _ => rfl
    | n + 2, _, hi, _ => simp at hi
    | 0, n + 2, _, hj => simp at hj
    | 1, n + 2, _, hj => simp at hj
  · intro o t hq
    obtain ⟨⟨u, ho, -, hPt, -⟩, hFt⟩ := hq
    have ht0 : va_at g.1 vcl (h0, .inr (3, [.ref ln, .int (s.1 p 1), .int (s.1 p 2), .int (s.1 p 3)])) t.heap := hPt 0 _ rfl
    have ht1 : va_at g.1 vcl (ln, .inl (g.2.1 2, 25, .inr (.inl (prm f)))) t.heap := hPt 1 _ rfl
    let ν : Nat → Option va_E := fun a => if a = ln then some (.inl (g.2.1 2, 25, .inr (.inl (prm f)))) else if a = h0 then some (.inr (3, [.ref ln, .int (s.1 p 1), .int (s.1 p 2), .int (s.1 p 3)])) else none
    have hν : ∀ a e', ν a = some e' → (a = ln ∧ e' = .inl (g.2.1 2, 25, .inr (.inl (prm f)))) ∨ (a ≠ ln ∧ a = h0 ∧ e' = .inr (3, [.ref ln, .int (s.1 p 1), .int (s.1 p 2), .int (s.1 p 3)])) := by
      intro a e' h
      by_cases c1 : a = ln
      · have h' : (if a = ln then some (Sum.inl (g.2.1 2, 25, .inr (.inl (prm f)))) else if a = h0 then some (Sum.inr (3, [.ref ln, .int (s.1 p 1), .int (s.1 p 2), .int (s.1 p 3)])) else none : Option va_E) = some e' := h
        rw [if_pos c1] at h'
        exact Or.inl ⟨c1, (Option.some.inj h').symm⟩
      · by_cases c2 : a = h0
        · have h' : (if a = ln then some (Sum.inl (g.2.1 2, 25, .inr (.inl (prm f)))) else if a = h0 then some (Sum.inr (3, [.ref ln, .int (s.1 p 1), .int (s.1 p 2), .int (s.1 p 3)])) else none : Option va_E) = some e' := h
          rw [if_neg c1, if_pos c2] at h'
          exact Or.inr ⟨c1, c2, (Option.some.inj h').symm⟩
        · have h' : (if a = ln then some (Sum.inl (g.2.1 2, 25, .inr (.inl (prm f)))) else if a = h0 then some (Sum.inr (3, [.ref ln, .int (s.1 p 1), .int (s.1 p 2), .int (s.1 p 3)])) else none : Option va_E) = some e' := h
          rw [if_neg c1, if_neg c2] at h'
          cases h'
    have hν0 : ∀ a, ν a = none → a ≠ ln ∧ a ≠ h0 := by
      intro a h
      refine ⟨fun c => ?_, fun c => ?_⟩
      · have h' : (if a = ln then some (Sum.inl (g.2.1 2, 25, .inr (.inl (prm f)))) else if a = h0 then some (Sum.inr (3, [.ref ln, .int (s.1 p 1), .int (s.1 p 2), .int (s.1 p 3)])) else none : Option va_E) = none := h
        rw [if_pos c] at h'
        cases h'
      · have h' : (if a = ln then some (Sum.inl (g.2.1 2, 25, .inr (.inl (prm f)))) else if a = h0 then some (Sum.inr (3, [.ref ln, .int (s.1 p 1), .int (s.1 p 2), .int (s.1 p 3)])) else none : Option va_E) = none := h
        rw [if_neg (by rw [c]; exact hne), if_pos c] at h'
        cases h'
    refine ⟨⟨(sPm s q, pl.map (fun q => (q.1, (ν q.1).getD q.2))), ho, ⟨⟨rfl, frm_sPm, trivial⟩, ?_⟩, ?_, ?_⟩, hFt.1, fun b hb hA => hFt.2 b hb (fun c => hA (hsub b c))⟩
    · refine poolO_map ν hO (fun a k e' hk hn => ?_) (fun a k hk hn => ⟨rfl, ?_⟩)
      · rcases hν a e' hn with ⟨ca, ce⟩ | ⟨c1, ca, ce⟩
        · subst ca; subst ce
          have hkq : k = q := Option.some.inj (hk.symm.trans kl)
          subst hkq
          refine nfit_mk n_q ⟨_, rfl, fun j hj => ?_⟩
          show prm f j = uL s.2 k (prm (s.2 k)) k j
          rw [uL_eq]
          exact prm_c (fun i hi => hff i hi) j hj
        · subst ca; subst ce
          have hkp : k = p := Option.some.inj (hk.symm.trans k_h0)
          subst hkp
          refine nfit_mk n_h0 ⟨_, rfl, rfl, fun j c hj => ?_⟩
          match j, hj with
          | 0, hj => cases Option.some.inj hj; exact ⟨_, rfl, ln, rfl, kl⟩
          | 1, hj => cases Option.some.inj hj; exact ⟨_, rfl, rfl⟩
          | 2, hj => cases Option.some.inj hj; exact ⟨_, rfl, rfl⟩
          | 3, hj => cases Option.some.inj hj; exact ⟨_, rfl, rfl⟩
          | n + 4, hj => simp at hj
      · refine uL_ne (fun e => (hν0 a hn).1 (hU a ln k hk (by rw [e]; exact kl)))
    · show va_P g.1 vcl ([] ++ pl.map (fun q => (q.1, (ν q.1).getD q.2))) t.heap
      refine pool_map ν hP (fun i a e e' hi hn => ?_) (fun i a e hi hn => ?_)
      · rcases hν a e' hn with ⟨ca, ce⟩ | ⟨c1, ca, ce⟩
        · subst ca; subst ce; exact ht1
        · subst ca; subst ce; exact ht0
      · obtain ⟨c1, c2⟩ := hν0 a hn
        have hlt : a < st.heap.size := (hP i _ hi).lt
        refine hFt.2 a hlt (fun hA => ?_)
        rcases hA with ⟨k, e2, hk⟩ | hA
        · match k, hk with
          | 0, hk => cases Option.some.inj hk; exact c2 rfl
          | 1, hk => cases Option.some.inj hk; exact c1 rfl
          | n + 2, hk => simp at hk
        · rw [hsz] at hlt; omega
    · show va_D (va_A ([] ++ pl) sz) ([] ++ pl.map (fun q => (q.1, (ν q.1).getD q.2)))
      exact poolD_map ν ⟨hD.1, fun i c hi => Or.inl ⟨i, c.2, hi⟩⟩
