set_option linter.all false
/-- a call of the law: its number and up to five arguments -/
abbrev callT : Type := Nat × Int32 × Int32 × Int32 × Int32 × Int32
/-- what the class makes of it -/
noncomputable def callCls (c : Nat) (v1 v2 v3 v4 v5 : Int32) (pn : Nat) (s : Sto) : Int32 × Int32 × Sto :=
  match c with
  | 0 => F_K_part v1 v2 v3 s
  | 1 => F_K_result v1 s
  | 2 => (nI 0, F_K_count v1 s)
  | 3 => F_K_end v1 s
  | 4 => F_K_alter v1 v2 s
  | 5 => F_K_told v1 v2 s
  | 6 => F_K_again s
  | 7 => F_K_show v1 v2 s
  | 8 => F_K_keys v1 pn s
  | 9 => F_K_feed v1 v2 v3 v4 v5 s
  | 10 => F_K_hash v1 v2 s
  | 11 => F_K_seal v1 s
  | 12 => F_K_verify v1 v2 s
  | 13 => F_K_load v1 v2 pn s
  | 14 => F_K_sign v1 v2 s
  | _ => F_K_open v1 s
/-- what the reference makes of it -/
noncomputable def callMod (c : Nat) (v1 v2 v3 v4 v5 : Int32) : Sto → Int32 × Sto :=
  match c with
  | 0 => F_M_part v1 v2 v3
  | 1 => F_M_result v1
  | 2 => F_M_count v1
  | 3 => F_M_end v1
  | 4 => F_M_alter v1 v2
  | 5 => F_M_told v1 v2
  | 6 => F_M_again
  | 7 => F_M_show v1 v2
  | 8 => F_M_keys v1
  | 9 => F_M_feed v1 v2 v3 v4 v5
  | 10 => F_M_hash v1 v2
  | 11 => F_M_seal v1
  | 12 => F_M_verify v1 v2
  | 13 => F_M_load v1 v2
  | 14 => F_M_sign v1 v2
  | _ => F_M_open v1
/-- what a call wants: rows of bytes, what it leaves alone, and that the draws of the reference end in time -/
def callOk (c : Nat) (v1 v2 v3 v4 v5 : Int32) (pn : Nat) (s : Sto) : Prop :=
  match c with
  | 0 => True
  | 1 => True
  | 2 => True
  | 3 => True
  | 4 => True
  | 5 => True
  | 6 => NB s
  | 7 => NB s
  | 8 => NB s ∧ NB (F_M_keys v1 (F_K_keys v1 pn s).2.2).2 ∧ frm M_K_keys s (F_K_keys v1 pn s).2.2 ∧ E_M_keys v1 (F_K_keys v1 pn s).2.2
  | 9 => True
  | 10 => True
  | 11 => frm M_K_seal s (F_K_seal v1 s).2.2 ∧ E_M_seal v1 (F_K_seal v1 s).2.2
  | 12 => NB s ∧ frm M_K_verify s (F_K_verify v1 v2 s).2.2 ∧ E_M_verify v1 v2 (F_K_verify v1 v2 s).2.2
  | 13 => NB s
  | 14 => frm M_K_sign s (F_K_sign v1 v2 s).2.2 ∧ ((F_K_sign v1 v2 s).1 = nI 3 → (F_K_sign v1 v2 s).2.2.1 2 = s.1 2) ∧ (∀ x, x < 8192 → isb ((F_K_sign v1 v2 s).2.2.1 2 x)) ∧ E_M_sign v1 v2 (F_K_sign v1 v2 s).2.2
  | _ => NB s ∧ frm M_K_open s (F_K_open v1 s).2.2 ∧ E_M_open v1 (F_K_open v1 s).2.2
set_option maxRecDepth 100000 in
theorem call_alike {tl al pn : Nat} {v1 v2 v3 v4 v5 : Int32} {s : Sto} (h : SAME tl al pn s) : ∀ (c : Nat), callOk c v1 v2 v3 v4 v5 pn s → ALIKE (callCls c v1 v2 v3 v4 v5 pn s) (callMod c v1 v2 v3 v4 v5)
  | 0, _ => part_alike h
  | 1, _ => result_alike h
  | 2, _ => count_alike h
  | 3, _ => end_alike h
  | 4, _ => alter_alike h
  | 5, _ => told_alike h
  | 6, ho => again_alike h ho
  | 7, ho => show_alike h ho
  | 8, ho => keys_alike h ho.1 ho.2.1 ho.2.2.1 ho.2.2.2
  | 9, _ => feed_alike h
  | 10, _ => hash_alike h
  | 11, ho => seal_alike h ho.1 ho.2
  | 12, ho => verify_alike h ho.1 ho.2.1 ho.2.2
  | 13, ho => load_alike h ho
  | 14, ho => sign_alike h ho.1 ho.2.1 ho.2.2.1 ho.2.2.2
  | _ + 15, ho => open_alike h ho.1 ho.2.1 ho.2.2
/-- the store after a call of the class and the same call of the reference -/
noncomputable def callNxt (c : Nat) (v1 v2 v3 v4 v5 : Int32) (pn : Nat) (s : Sto) : Sto := (callMod c v1 v2 v3 v4 v5 (callCls c v1 v2 v3 v4 v5 pn s).2.2).2
/-- every call of a run has what it wants -/
def runO : List callT → Sto → Prop
  | [], _ => True
  | (c, v1, v2, v3, v4, v5) :: l, s => ∀ pn, pn ≤ 8 → s.1 0 5 = nI pn → callOk c v1 v2 v3 v4 v5 pn s ∧ runO l (callNxt c v1 v2 v3 v4 v5 pn s)
/-- at every call of a run both sides throw the same exception, or answer the same -/
def runA : List callT → Sto → Prop
  | [], _ => True
  | (c, v1, v2, v3, v4, v5) :: l, s => ∀ pn, pn ≤ 8 → s.1 0 5 = nI pn → (callNxt c v1 v2 v3 v4 v5 pn s).1 148 0 = (callCls c v1 v2 v3 v4 v5 pn s).1 ∧ ((callCls c v1 v2 v3 v4 v5 pn s).1 = nI 0 → (callMod c v1 v2 v3 v4 v5 (callCls c v1 v2 v3 v4 v5 pn s).2.2).1 = (callCls c v1 v2 v3 v4 v5 pn s).2.1) ∧ runA l (callNxt c v1 v2 v3 v4 v5 pn s)
theorem SAME_0 {s : Sto} (h1 : s.1 0 1 = nI 0) (h2 : s.1 148 1 = nI 0) (h3 : s.1 0 3 = nI 0) (h4 : s.1 148 2 = nI 0) (h5 : s.1 0 5 = nI 0) (h6 : s.1 148 3 = nI 0) : SAME 0 0 0 s :=
  ⟨⟨h1, h2, Nat.zero_le _⟩, ⟨h3, h4, Nat.zero_le _⟩, ⟨h5, h6, Nat.zero_le _⟩, fun j h => absurd h (Nat.not_lt_zero j), fun j h => absurd h (Nat.not_lt_zero j), fun j h => absurd h (Nat.not_lt_zero j)⟩
theorem ALIKE_out {A : Int32 × Int32 × Sto} {f : Sto → Int32 × Sto} (h : ALIKE A f) : (∃ tl al pn, SAME tl al pn (f A.2.2).2) ∧ (f A.2.2).2.1 148 0 = A.1 ∧ (A.1 = nI 0 → (f A.2.2).1 = A.2.1) := h
/-- a run of calls of any length: where every call has what it wants, both sides say the same at every call -/
theorem run_same : ∀ (l : List callT) (s : Sto) (tl al pn : Nat), SAME tl al pn s → runO l s → runA l s
  | [], _, _, _, _, _, _ => trivial
  | (c, v1, v2, v3, v4, v5) :: l, s, tl, al, pn, h, ho => by
    rw [runO] at ho
    rw [runA]
    intro p hp e
    have e1 : p = pn := (nI_eq (by omega) (by have := h.2.2.1.2.2; omega)).mp (e.symm.trans h.2.2.1.1)
    subst e1
    obtain ⟨h1, h2⟩ := ho p hp e
    obtain ⟨⟨a, b, d, q⟩, q2, q3⟩ := ALIKE_out (call_alike h c h1)
    exact ⟨q2, q3, run_same l _ a b d q h2⟩
