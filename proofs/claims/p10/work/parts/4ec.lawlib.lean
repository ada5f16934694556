set_option linter.all false
/-- 0 or 1 -/
def bz (v : Int32) : Int32 := if v = 0 then nI 0 else nI 1
/-- where the reference draws, its draws end in time -/
def callE (c : Nat) (v1 v2 v3 v4 v5 : Int32) (pn : Nat) (s : Sto) : Prop :=
  match c with
  | 0 => True
  | 1 => True
  | 2 => True
  | 3 => True
  | 4 => True
  | 5 => True
  | 6 => True
  | 7 => True
  | 8 => E_M_keys v1 (F_K_keys v1 pn s).2.2
  | 9 => True
  | 10 => True
  | 11 => E_M_seal v1 (F_K_seal v1 s).2.2
  | 12 => E_M_verify v1 v2 (F_K_verify v1 v2 s).2.2
  | 13 => True
  | 14 => E_M_sign v1 v2 (F_K_sign v1 v2 s).2.2
  | _ => E_M_open v1 (F_K_open v1 s).2.2
set_option maxRecDepth 100000 in
theorem cc_feed {v1 v2 v3 v4 v5 : Int32} {pn : Nat} {s : Sto} : callCls 9 v1 v2 v3 v4 v5 pn s = F_K_feed v1 v2 v3 v4 v5 s := rfl
set_option maxRecDepth 100000 in
theorem cm_feed {v1 v2 v3 v4 v5 : Int32} : callMod 9 v1 v2 v3 v4 v5 = F_M_feed v1 v2 v3 v4 v5 := rfl
set_option maxRecDepth 100000 in
theorem cc_end {v1 v2 v3 v4 v5 : Int32} {pn : Nat} {s : Sto} : callCls 3 v1 v2 v3 v4 v5 pn s = F_K_end v1 s := rfl
set_option maxRecDepth 100000 in
theorem cm_end {v1 v2 v3 v4 v5 : Int32} : callMod 3 v1 v2 v3 v4 v5 = F_M_end v1 := rfl
set_option maxRecDepth 100000 in
theorem cc_again {v1 v2 v3 v4 v5 : Int32} {pn : Nat} {s : Sto} : callCls 6 v1 v2 v3 v4 v5 pn s = F_K_again s := rfl
set_option maxRecDepth 100000 in
theorem cm_again {v1 v2 v3 v4 v5 : Int32} : callMod 6 v1 v2 v3 v4 v5 = F_M_again := rfl
set_option maxRecDepth 100000 in
theorem cc_alter {v1 v2 v3 v4 v5 : Int32} {pn : Nat} {s : Sto} : callCls 4 v1 v2 v3 v4 v5 pn s = F_K_alter v1 v2 s := rfl
set_option maxRecDepth 100000 in
theorem cm_alter {v1 v2 v3 v4 v5 : Int32} : callMod 4 v1 v2 v3 v4 v5 = F_M_alter v1 v2 := rfl
set_option maxRecDepth 100000 in
theorem cc_keys {v1 v2 v3 v4 v5 : Int32} {pn : Nat} {s : Sto} : callCls 8 v1 v2 v3 v4 v5 pn s = F_K_keys v1 pn s := rfl
set_option maxRecDepth 100000 in
theorem cm_keys {v1 v2 v3 v4 v5 : Int32} : callMod 8 v1 v2 v3 v4 v5 = F_M_keys v1 := rfl
set_option maxRecDepth 100000 in
theorem ce_keys {v1 v2 v3 v4 v5 : Int32} {pn : Nat} {s : Sto} {q : Int32 × Int32 × Sto} (h : callE 8 v1 v2 v3 v4 v5 pn s) (e : q = F_K_keys v1 pn s) : E_M_keys v1 q.2.2 := by
  subst e
  exact h
set_option maxRecDepth 100000 in
theorem cc_load {v1 v2 v3 v4 v5 : Int32} {pn : Nat} {s : Sto} : callCls 13 v1 v2 v3 v4 v5 pn s = F_K_load v1 v2 pn s := rfl
set_option maxRecDepth 100000 in
theorem cm_load {v1 v2 v3 v4 v5 : Int32} : callMod 13 v1 v2 v3 v4 v5 = F_M_load v1 v2 := rfl
set_option maxRecDepth 100000 in
theorem cc_part {v1 v2 v3 v4 v5 : Int32} {pn : Nat} {s : Sto} : callCls 0 v1 v2 v3 v4 v5 pn s = F_K_part v1 v2 v3 s := rfl
set_option maxRecDepth 100000 in
theorem cm_part {v1 v2 v3 v4 v5 : Int32} : callMod 0 v1 v2 v3 v4 v5 = F_M_part v1 v2 v3 := rfl
set_option maxRecDepth 100000 in
theorem cc_show {v1 v2 v3 v4 v5 : Int32} {pn : Nat} {s : Sto} : callCls 7 v1 v2 v3 v4 v5 pn s = F_K_show v1 v2 s := rfl
set_option maxRecDepth 100000 in
theorem cm_show {v1 v2 v3 v4 v5 : Int32} : callMod 7 v1 v2 v3 v4 v5 = F_M_show v1 v2 := rfl
set_option maxRecDepth 100000 in
theorem cc_told {v1 v2 v3 v4 v5 : Int32} {pn : Nat} {s : Sto} : callCls 5 v1 v2 v3 v4 v5 pn s = F_K_told v1 v2 s := rfl
set_option maxRecDepth 100000 in
theorem cm_told {v1 v2 v3 v4 v5 : Int32} : callMod 5 v1 v2 v3 v4 v5 = F_M_told v1 v2 := rfl
set_option maxRecDepth 100000 in
theorem cc_seal {v1 v2 v3 v4 v5 : Int32} {pn : Nat} {s : Sto} : callCls 11 v1 v2 v3 v4 v5 pn s = F_K_seal v1 s := rfl
set_option maxRecDepth 100000 in
theorem cm_seal {v1 v2 v3 v4 v5 : Int32} : callMod 11 v1 v2 v3 v4 v5 = F_M_seal v1 := rfl
set_option maxRecDepth 100000 in
theorem ce_seal {v1 v2 v3 v4 v5 : Int32} {pn : Nat} {s : Sto} {q : Int32 × Int32 × Sto} (h : callE 11 v1 v2 v3 v4 v5 pn s) (e : q = F_K_seal v1 s) : E_M_seal v1 q.2.2 := by
  subst e
  exact h
set_option maxRecDepth 100000 in
theorem cc_open {v1 v2 v3 v4 v5 : Int32} {pn : Nat} {s : Sto} : callCls 15 v1 v2 v3 v4 v5 pn s = F_K_open v1 s := rfl
set_option maxRecDepth 100000 in
theorem cm_open {v1 v2 v3 v4 v5 : Int32} : callMod 15 v1 v2 v3 v4 v5 = F_M_open v1 := rfl
set_option maxRecDepth 100000 in
theorem ce_open {v1 v2 v3 v4 v5 : Int32} {pn : Nat} {s : Sto} {q : Int32 × Int32 × Sto} (h : callE 15 v1 v2 v3 v4 v5 pn s) (e : q = F_K_open v1 s) : E_M_open v1 q.2.2 := by
  subst e
  exact h
set_option maxRecDepth 100000 in
theorem cc_sign {v1 v2 v3 v4 v5 : Int32} {pn : Nat} {s : Sto} : callCls 14 v1 v2 v3 v4 v5 pn s = F_K_sign v1 v2 s := rfl
set_option maxRecDepth 100000 in
theorem cm_sign {v1 v2 v3 v4 v5 : Int32} : callMod 14 v1 v2 v3 v4 v5 = F_M_sign v1 v2 := rfl
set_option maxRecDepth 100000 in
theorem ce_sign {v1 v2 v3 v4 v5 : Int32} {pn : Nat} {s : Sto} {q : Int32 × Int32 × Sto} (h : callE 14 v1 v2 v3 v4 v5 pn s) (e : q = F_K_signA v1 v2 s) : E_M_sign v1 v2 q.2.2 := by
  rw [signA_eq] at e
  subst e
  exact h
set_option maxRecDepth 100000 in
theorem cc_verify {v1 v2 v3 v4 v5 : Int32} {pn : Nat} {s : Sto} : callCls 12 v1 v2 v3 v4 v5 pn s = F_K_verify v1 v2 s := rfl
set_option maxRecDepth 100000 in
theorem cm_verify {v1 v2 v3 v4 v5 : Int32} : callMod 12 v1 v2 v3 v4 v5 = F_M_verify v1 v2 := rfl
set_option maxRecDepth 100000 in
theorem ce_verify {v1 v2 v3 v4 v5 : Int32} {pn : Nat} {s : Sto} {q : Int32 × Int32 × Sto} (h : callE 12 v1 v2 v3 v4 v5 pn s) (e : q = F_K_verify v1 v2 s) : E_M_verify v1 v2 q.2.2 := by
  subst e
  exact h
set_option maxRecDepth 100000 in
theorem cc_hash {v1 v2 v3 v4 v5 : Int32} {pn : Nat} {s : Sto} : callCls 10 v1 v2 v3 v4 v5 pn s = F_K_hash v1 v2 s := rfl
set_option maxRecDepth 100000 in
theorem cm_hash {v1 v2 v3 v4 v5 : Int32} : callMod 10 v1 v2 v3 v4 v5 = F_M_hash v1 v2 := rfl
set_option maxRecDepth 100000 in
theorem cc_result {v1 v2 v3 v4 v5 : Int32} {pn : Nat} {s : Sto} : callCls 1 v1 v2 v3 v4 v5 pn s = F_K_result v1 s := rfl
set_option maxRecDepth 100000 in
theorem cm_result {v1 v2 v3 v4 v5 : Int32} : callMod 1 v1 v2 v3 v4 v5 = F_M_result v1 := rfl
set_option maxRecDepth 100000 in
theorem cc_count {v1 v2 v3 v4 v5 : Int32} {pn : Nat} {s : Sto} : callCls 2 v1 v2 v3 v4 v5 pn s = (nI 0, F_K_count v1 s) := rfl
set_option maxRecDepth 100000 in
theorem cm_count {v1 v2 v3 v4 v5 : Int32} : callMod 2 v1 v2 v3 v4 v5 = F_M_count v1 := rfl
theorem pn_same {tl al pn pn1 : Nat} {s1 s2 : Sto} (h : s1.1 0 5 = nI pn) (hp : pn ≤ 8) (e : s2.1 0 = s1.1 0) (h2 : SAME tl al pn1 s2) : pn1 = pn :=
  (nI_eq (by have := h2.2.2.1.2.2; omega) (by omega)).mp (h2.2.2.1.1.symm.trans (by rw [e]; exact h))
theorem sm_out {c tl al pn : Nat} {v1 v2 v3 v4 v5 : Int32} {s : Sto} (h : SAME tl al pn s) (ho : callOk c v1 v2 v3 v4 v5 pn s) : (∃ tl al pn1, SAME tl al pn1 (callNxt c v1 v2 v3 v4 v5 pn s)) ∧ (callNxt c v1 v2 v3 v4 v5 pn s).1 148 0 = (callCls c v1 v2 v3 v4 v5 pn s).1 ∧ ((callCls c v1 v2 v3 v4 v5 pn s).1 = nI 0 → (callMod c v1 v2 v3 v4 v5 (callCls c v1 v2 v3 v4 v5 pn s).2.2).1 = (callCls c v1 v2 v3 v4 v5 pn s).2.1) := ALIKE_out (call_alike h c ho)
theorem nx_of {c pn : Nat} {v1 v2 v3 v4 v5 : Int32} {s : Sto} {q : Int32 × Int32 × Sto} {q1 : Int32 × Sto} {f : Sto → Int32 × Sto} (e1 : callCls c v1 v2 v3 v4 v5 pn s = q) (e2 : callMod c v1 v2 v3 v4 v5 = f) (e3 : q1 = f q.2.2) : q1.2 = callNxt c v1 v2 v3 v4 v5 pn s := by
  unfold callNxt
  rw [e1, e2, e3]
/-- which call a number of the script is -/
def lnum (z : Nat) : Nat :=
  match z with
  | 0 => 9
  | 1 => 3
  | 2 => 6
  | 3 => 4
  | 4 => 8
  | 5 => 13
  | 6 => 0
  | 7 => 7
  | 8 => 5
  | 9 => 11
  | 10 => 15
  | 11 => 14
  | 12 => 12
  | 13 => 10
  | 14 => 1
  | _ => 2
/-- its second number, where that stands for a truth value -/
def lb (z : Nat) (v : Int32) : Int32 :=
  match z with
  | 5 => bz v
  | 6 => bz v
  | 7 => bz v
  | _ => v
/-- from the place i of the script on, n calls: at each the draws of the reference end in time -/
def runE (xs : Nat → Int32) : Nat → Nat → Sto → Prop
  | 0, _, _ => True
  | n + 1, i, s => ∀ z pn : Nat, z < 16 → xs (nI i).toNatClampNeg &&& nI 15 = nI z → pn ≤ 8 → s.1 0 5 = nI pn → callE (lnum z) (xs (nI (i + 1)).toNatClampNeg) (lb z (xs (nI (i + 2)).toNatClampNeg)) (xs (nI (i + 3)).toNatClampNeg) (xs (nI (i + 4)).toNatClampNeg) (xs (nI (i + 5)).toNatClampNeg) pn s ∧ runE xs n (i + 6) (callNxt (lnum z) (xs (nI (i + 1)).toNatClampNeg) (lb z (xs (nI (i + 2)).toNatClampNeg)) (xs (nI (i + 3)).toNatClampNeg) (xs (nI (i + 4)).toNatClampNeg) (xs (nI (i + 5)).toNatClampNeg) pn s)
/-- the law's state: both objects in the pool, both sides alike -/
def LWS (g : Gd) (s : State) (b i : Nat) (σ : Sto) (H : Heap) (locs : List Loc) (ls : Array Slot) : Prop := ∃ (T : TyN) (pl : va_W) (h0 h1 a : Nat) (f : Nat → Int64) (tl al pn : Nat), okn g T σ pl ∧ inj T ∧ FULL T ∧ lowT T (379 + 36 * pn) ∧ SAME tl al pn σ ∧ T h0 = some 0 ∧ T h1 = some 148 ∧ va_P g.1 vcl ([(a, .inl (g.2.1 2, 1, .inr (.inl f)))] ++ pl) H ∧ va_D (Alaw s) ([(a, .inl (g.2.1 2, 1, .inr (.inl f)))] ++ pl) ∧ va_S (Alaw s) s.heap H locs ∧ lv_has ls 7 [(4, .int (nI i)), (3, .ref a), (2, .ref h1), (1, .ref h0), (0, .ref b)]
