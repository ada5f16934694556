set_option linter.all false
/-! kinds under another typing -/
theorem kob_pt (i p : Nat) : (kob i p).2.all (fun c => Nat.blt c.2.1 46) = true := by
  unfold kob
  split <;> rfl
theorem fsp_tr {T T1 : Ty} (hp : ∀ (r : Nat) (k : Knd), k.1 < 46 → T r = some k → T1 r = some k) {c : Nat × Nat × Nat} (hc : c.2.1 < 46) {v : Value} (h : fsp T c v) : fsp T1 c v := by
  obtain ⟨i, k⟩ := c
  match i, h with
  | 0, h => exact h
  | 1, h => exact h
  | 2, h => exact h
  | 3, h =>
    obtain ⟨r, e, h2⟩ := (show ∃ r : Nat, v = .ref r ∧ T r = some k from h)
    exact (show ∃ r : Nat, v = .ref r ∧ T1 r = some k from ⟨r, e, hp r k hc h2⟩)
  | 4, h =>
    obtain ⟨o, e, h2⟩ := (show ∃ o : Option Nat, v = va_rf o ∧ ∀ r, o = some r → T r = some k from h)
    exact (show ∃ o : Option Nat, v = va_rf o ∧ ∀ r, o = some r → T1 r = some k from ⟨o, e, fun r hr => hp r k hc (h2 r hr)⟩)
  | 5, h => exact h
  | 6, h => exact h
  | n + 7, h => exact h
theorem fall_tr {T T1 : Ty} (hp : ∀ (r : Nat) (k : Knd), k.1 < 46 → T r = some k → T1 r = some k) : ∀ {cs : List (Nat × Nat × Nat)} {fs : List Value}, cs.all (fun c => Nat.blt c.2.1 46) = true → fall T cs fs → fall T1 cs fs
  | [], [], _, h => h
  | [], _ :: _, _, h => h
  | _ :: _, [], _, h => h
  | c :: cs, v :: vs, ha, h => by
    rw [List.all_cons, Bool.and_eq_true] at ha
    exact ⟨fsp_tr hp (Nat.le_of_ble_eq_true ha.1) h.1, fall_tr hp ha.2 h.2⟩
theorem kfit_tr {g : Gd} {T T1 : Ty} (hp : ∀ (r : Nat) (k : Knd), k.1 < 46 → T r = some k → T1 r = some k) {k : Knd} {e : va_E} (h : kfit g T k e) : kfit g T1 k e := by
  obtain ⟨i, p⟩ := k
  have ho : (∃ fs : List Value, e = .inr ((kob i p).1, fs) ∧ fall T (kob i p).2 fs) → ∃ fs : List Value, e = .inr ((kob i p).1, fs) ∧ fall T1 (kob i p).2 fs := fun ⟨fs, e1, h1⟩ => ⟨fs, e1, fall_tr hp (kob_pt i p) h1⟩
  match i, h, ho with
  | 0, h, _ => exact h
  | 1, h, _ => exact h
  | 2, h, _ => exact h
  | 3, h, _ =>
    obtain ⟨f, e1, h2⟩ := h
    exact ⟨f, e1, fun j hj => by obtain ⟨r, a, b⟩ := h2 j hj; exact ⟨r, a, hp r _ (show 0 < 46 by decide) b⟩⟩
  | 4, h, _ =>
    obtain ⟨f, e1, h2⟩ := h
    exact ⟨f, e1, fun j hj => by obtain ⟨r, a, b⟩ := h2 j hj; exact ⟨r, a, hp r _ (show 1 < 46 by decide) b⟩⟩
  | 5, h, _ => exact h
  | 6, h, _ =>
    obtain ⟨f, e1, h2⟩ := h
    exact ⟨f, e1, fun j hj r hr => by obtain ⟨s, hs, b⟩ := h2 j hj r hr; exact ⟨s, hs, b.elim (fun b => Or.inl (hp r _ (show 17 < 46 by decide) b)) (fun b => Or.inr (hp r _ (show 16 < 46 by decide) b))⟩⟩
  | 7, h, ho => exact ho h
  | 8, h, _ => exact h
  | 9, h, _ => exact h
  | 10, h, _ =>
    obtain ⟨ln, rt, ps, x, e1, h2, h3⟩ := h
    exact ⟨ln, rt, ps, x, e1, hp ln _ (show 19 < 46 by decide) h2, h3⟩
  | 11, h, ho => exact ho h
  | 12, h, ho => exact ho h
  | 13, h, ho => exact ho h
  | 14, h, ho => exact ho h
  | 15, h, ho => exact ho h
  | 16, h, ho => exact ho h
  | 17, h, ho => exact ho h
  | 18, h, ho => exact ho h
  | 19, h, _ => exact h
  | 20, h, _ =>
    obtain ⟨a0, a1, a2, a3, a4, rt, ps, x, e1, h0, h1, h2, h3, h4, h5⟩ := h
    exact ⟨a0, a1, a2, a3, a4, rt, ps, x, e1, hp a0 _ (show 30 < 46 by decide) h0, hp a1 _ (show 31 < 46 by decide) h1, hp a2 _ (show 32 < 46 by decide) h2, hp a3 _ (show 33 < 46 by decide) h3, hp a4 _ (show 34 < 46 by decide) h4, h5⟩
  | 21, h, ho => exact ho h
  | 22, h, ho => exact ho h
  | 23, h, ho => exact ho h
  | 24, h, ho => exact ho h
  | 25, h, ho => exact ho h
  | 26, h, ho => exact ho h
  | 27, h, ho => exact ho h
  | 28, h, ho => exact ho h
  | 29, h, ho => exact ho h
  | 30, h, _ => exact h
  | 31, h, _ => exact h
  | 32, h, _ => exact h
  | 33, h, _ => exact h
  | 34, h, _ => exact h
  | 35, h, ho => exact ho h
  | 36, h, ho => exact ho h
  | 37, h, ho => exact ho h
  | 38, h, ho => exact ho h
  | 39, h, ho => exact ho h
  | 40, h, ho => exact ho h
  | 41, h, ho => exact ho h
  | 42, h, ho => exact ho h
  | 43, h, ho => exact ho h
  | 44, h, ho => exact ho h
  | 45, h, ho => exact ho h
  | 46, h, ho => exact ho h
  | 47, h, ho => exact ho h
  | 48, h, ho => exact ho h
  | 49, h, ho => exact ho h
  | 50, h, _ =>
    obtain ⟨f, e1, h2⟩ := h
    exact ⟨f, e1, fun j hj => by obtain ⟨r, a, b⟩ := h2 j hj; exact ⟨r, a, hp r _ (show 40 + j < 46 by omega) b⟩⟩
  | 51, h, _ =>
    obtain ⟨f, e1, h2⟩ := h
    exact ⟨f, e1, fun j hj => by obtain ⟨r, a, b⟩ := h2 j hj; exact ⟨r, a, hp r _ (show 43 + j < 46 by omega) b⟩⟩
  | n + 52, h, ho => exact ho h
/-- one cell gets another kind, which nobody points to -/
def tyU (T : Ty) (a : Nat) (k : Knd) : Ty := fun b => if b = a then some k else T b
theorem tyU_at {T : Ty} {a : Nat} {k : Knd} : tyU T a k a = some k := by simp [tyU]
theorem tyU_ne {T : Ty} {a b : Nat} {k : Knd} (h : b ≠ a) : tyU T a k b = T b := by simp [tyU, h]
theorem tyU_k {T : Ty} {a b : Nat} {k k0 k1 : Knd} (ha : T a = some k0) (hb : T b = some k1) (h : k1 ≠ k0) : tyU T a k b = some k1 := by
  rw [tyU_ne (fun q => h (by rw [q] at hb; exact Option.some.inj (hb.symm.trans ha)))]
  exact hb
/-- the reference's Hands between two of its calls, and while one is under way -/
theorem hands_in {g : Gd} {T : Ty} {pl : va_W} {a j : Nat} {e : va_E} (hO : okx g T [a] pl) (ha : T a = some (49, 0)) (he : kfit g T (46 + j, 0) e) : okx g (tyU T a (46 + j, 0)) [] ((a, e) :: pl) := by
  have hp : ∀ (r : Nat) (k : Knd), k.1 < 46 → T r = some k → tyU T a (46 + j, 0) r = some k := fun r k hk hr => tyU_k ha hr (fun q => by rw [q] at hk; exact absurd hk (by decide))
  intro b k hb _
  by_cases q : b = a
  · subst q
    rw [tyU_at] at hb
    cases hb
    exact ⟨0, e, rfl, kfit_tr hp he⟩
  · rw [tyU_ne q] at hb
    obtain ⟨i, e1, h1, h2⟩ := hO b k hb (fun h => q (List.mem_singleton.mp h))
    exact ⟨i + 1, e1, by simpa using h1, kfit_tr hp h2⟩
theorem hands_out {g : Gd} {T : Ty} {pl : va_W} {a j : Nat} (ha : T a = some (49, 0)) (hw : ∀ e, kfit g T (46 + j, 0) e → kfit g T (49, 0) e) (hO : okx g (tyU T a (46 + j, 0)) [] pl) : okx g T [] pl := by
  have hp : ∀ (r : Nat) (k : Knd), k.1 < 46 → tyU T a (46 + j, 0) r = some k → T r = some k := fun r k hk hr => by
    by_cases q : r = a
    · subst q
      rw [tyU_at] at hr
      cases hr
      exact absurd hk (by show ¬ (46 + j < 46); omega)
    · rw [tyU_ne q] at hr
      exact hr
  intro b k hb _
  by_cases q : b = a
  · subst q
    obtain ⟨i, e, h1, h2⟩ := hO b (46 + j, 0) tyU_at (fun h => nomatch h)
    have hk : k = (49, 0) := Option.some.inj (hb.symm.trans ha)
    subst hk
    exact ⟨i, e, h1, hw e (kfit_tr hp h2)⟩
  · obtain ⟨i, e, h1, h2⟩ := hO b k (by rw [tyU_ne q]; exact hb) (fun h => nomatch h)
    exact ⟨i, e, h1, kfit_tr hp h2⟩
theorem uni_U {T : Ty} {a : Nat} {k : Knd} (hU : uni T) (hk : grp k = 0) : uni (tyU T a k) := by
  intro b c k1 hg hb hc
  have f : ∀ z, tyU T a k z = some k1 → T z = some k1 := fun z hz => by
    by_cases q : z = a
    · subst q
      rw [tyU_at] at hz
      cases hz
      exact absurd hk hg
    · rw [tyU_ne q] at hz
      exact hz
  exact hU b c k1 hg (f b hb) (f c hc)
theorem fall_cons {T : Ty} {c : Nat × Nat × Nat} {cs : List (Nat × Nat × Nat)} {fs : List Value} (h : fall T (c :: cs) fs) : ∃ (v : Value) (vs : List Value), fs = v :: vs ∧ fsp T c v ∧ fall T cs vs := by
  match fs, h with
  | [], h => exact h.elim
  | v :: vs, h => exact ⟨v, vs, rfl, h.1, h.2⟩
theorem fall_nil {T : Ty} {fs : List Value} (h : fall T [] fs) : fs = [] := by
  match fs, h with
  | [], _ => rfl
  | _ :: _, h => exact h.elim
def wk (c : Nat × Nat × Nat) : Nat × Nat × Nat := if c.1 = 1 then (0, 0, 0) else c
theorem fall_wk {T : Ty} : ∀ {cs : List (Nat × Nat × Nat)} {fs : List Value}, fall T cs fs → fall T (cs.map wk) fs
  | [], [], h => h
  | [], _ :: _, h => h.elim
  | _ :: _, [], h => h.elim
  | c :: cs, v :: vs, h => by
    refine ⟨?_, fall_wk h.2⟩
    unfold wk
    by_cases q : c.1 = 1
    · rw [if_pos q]
      obtain ⟨i, k⟩ := c
      have q' : i = 1 := q
      subst q'
      exact ⟨_, (show v = .int (nI k.2) from h.1)⟩
    · rw [if_neg q]
      exact h.1
theorem hands_wk {g : Gd} {T : Ty} (j : Nat) (hj : j < 3) (e : va_E) (h : kfit g T (46 + j, 0) e) : kfit g T (49, 0) e := by
  match j, hj, h with
  | 0, _, h => obtain ⟨fs, e1, h1⟩ := h; exact ⟨fs, e1, fall_wk h1⟩
  | 1, _, h => obtain ⟨fs, e1, h1⟩ := h; exact ⟨fs, e1, fall_wk h1⟩
  | 2, _, h => obtain ⟨fs, e1, h1⟩ := h; exact ⟨fs, e1, fall_wk h1⟩
  | n + 3, hj, _ => omega
