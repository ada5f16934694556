set_option linter.all false
/-- the class leaves alone what the reference reads of itself -/
def mside (s s1 : Sto) : Prop := s1.1 148 = s.1 148 ∧ s1.1 170 = s.1 170 ∧ s1.1 171 = s.1 171
theorem ms_K_part {s s1 : Sto} (h : frm M_K_part s s1) : mside s s1 := ⟨h 148 (by unfold M_K_part; omega), h 170 (by unfold M_K_part; omega), h 171 (by unfold M_K_part; omega)⟩
theorem ms_K_result {s s1 : Sto} (h : frm M_K_result s s1) : mside s s1 := ⟨h 148 (by unfold M_K_result; omega), h 170 (by unfold M_K_result; omega), h 171 (by unfold M_K_result; omega)⟩
theorem ms_K_count {s s1 : Sto} (h : frm M_K_count s s1) : mside s s1 := ⟨h 148 (by unfold M_K_count; omega), h 170 (by unfold M_K_count; omega), h 171 (by unfold M_K_count; omega)⟩
theorem ms_K_end {s s1 : Sto} (h : frm M_K_end s s1) : mside s s1 := ⟨h 148 (by unfold M_K_end; omega), h 170 (by unfold M_K_end; omega), h 171 (by unfold M_K_end; omega)⟩
theorem ms_K_alter {s s1 : Sto} (h : frm M_K_alter s s1) : mside s s1 := ⟨h 148 (by unfold M_K_alter; omega), h 170 (by unfold M_K_alter; omega), h 171 (by unfold M_K_alter; omega)⟩
theorem ms_K_told {s s1 : Sto} (h : frm M_K_told s s1) : mside s s1 := ⟨h 148 (by unfold M_K_told; omega), h 170 (by unfold M_K_told; omega), h 171 (by unfold M_K_told; omega)⟩
theorem ms_K_again {s s1 : Sto} (h : frm M_K_again s s1) : mside s s1 := ⟨h 148 (by unfold M_K_again; omega), h 170 (by unfold M_K_again; omega), h 171 (by unfold M_K_again; omega)⟩
theorem ms_K_show {s s1 : Sto} (h : frm M_K_show s s1) : mside s s1 := ⟨h 148 (by unfold M_K_show; omega), h 170 (by unfold M_K_show; omega), h 171 (by unfold M_K_show; omega)⟩
theorem ms_K_keys {s s1 : Sto} (h : frm M_K_keys s s1) : mside s s1 := ⟨h 148 (by unfold M_K_keys; omega), h 170 (by unfold M_K_keys; omega), h 171 (by unfold M_K_keys; omega)⟩
theorem ms_K_feed {s s1 : Sto} (h : frm M_K_feed s s1) : mside s s1 := ⟨h 148 (by unfold M_K_feed; omega), h 170 (by unfold M_K_feed; omega), h 171 (by unfold M_K_feed; omega)⟩
theorem ms_K_hash {s s1 : Sto} (h : frm M_K_hash s s1) : mside s s1 := ⟨h 148 (by unfold M_K_hash; omega), h 170 (by unfold M_K_hash; omega), h 171 (by unfold M_K_hash; omega)⟩
theorem ms_K_seal {s s1 : Sto} (h : frm M_K_seal s s1) : mside s s1 := ⟨h 148 (by unfold M_K_seal; omega), h 170 (by unfold M_K_seal; omega), h 171 (by unfold M_K_seal; omega)⟩
theorem ms_K_verify {s s1 : Sto} (h : frm M_K_verify s s1) : mside s s1 := ⟨h 148 (by unfold M_K_verify; omega), h 170 (by unfold M_K_verify; omega), h 171 (by unfold M_K_verify; omega)⟩
theorem ms_K_load {s s1 : Sto} (h : frm M_K_load s s1) : mside s s1 := ⟨h 148 (by unfold M_K_load; omega), h 170 (by unfold M_K_load; omega), h 171 (by unfold M_K_load; omega)⟩
theorem ms_K_sign {s s1 : Sto} (h : frm M_K_sign s s1) : mside s s1 := ⟨h 148 (by unfold M_K_sign; omega), h 170 (by unfold M_K_sign; omega), h 171 (by unfold M_K_sign; omega)⟩
theorem ms_K_open {s s1 : Sto} (h : frm M_K_open s s1) : mside s s1 := ⟨h 148 (by unfold M_K_open; omega), h 170 (by unfold M_K_open; omega), h 171 (by unfold M_K_open; omega)⟩
theorem ksec_le48 : ∀ c : Nat, c < 6 → ksec c ≤ 4896 := by decide
/-- what stands in sets and hiddenSizes, where both sides hold the same -/
theorem SAME_SETS {tl al pn : Nat} {s : Sto} (h : SAME tl al pn s) : SETS pn (s.1 170) ∧ HIDS pn (s.1 171) :=
  ⟨fun i hi => by
    obtain ⟨c, h1, -, h3, -⟩ := h.2.2.2.2.2 i hi
    exact ⟨c % 6, h3, by omega⟩,
   fun i hi => by
    obtain ⟨c, h1, -, -, h4, -⟩ := h.2.2.2.2.2 i hi
    by_cases q : c < 6
    · rw [if_pos q] at h4; exact ⟨ksec c, h4, ksec_le48 c q⟩
    · rw [if_neg q] at h4; exact ⟨0, h4, by omega⟩⟩
/-- what the contracts of the reference ask, behind a call of the class -/
theorem SAME_mod {tl al pn : Nat} {s s1 : Sto} (h : SAME tl al pn s) (o : mside s s1) : s1.1 148 1 = nI tl ∧ s1.1 148 2 = nI al ∧ s1.1 148 3 = nI pn ∧ SETS pn (s1.1 170) ∧ HIDS pn (s1.1 171) := by
  obtain ⟨o1, o2, o3⟩ := o
  rw [o1, o2, o3]
  exact ⟨h.1.2.1, h.2.1.2.1, h.2.2.1.2.1, SAME_SETS h⟩
theorem ans_isb {g : Gd} {T : TyN} {s : Sto} {pl : va_W} (hO : okn g T s pl) (hT : FULL T) : ∀ x, x < 8192 → isb (s.1 2 x) := by
  obtain ⟨a, ha⟩ := hT 2 (by decide)
  exact okn_isb hO ha rfl
theorem frm_signA {s s1 : Sto} (h : frm M_K_signA s s1) : frm M_K_sign s s1 := fun k hk => h k (by unfold M_K_signA; unfold M_K_sign at hk; exact hk)
set_option maxRecDepth 100000 in
/-- what sign wants, out of its contract -/
theorem sign_ok {g : Gd} {T : TyN} {pl : va_W} {pn : Nat} {v v2 v3 v4 v5 : Int32} {s : Sto} {u : Int32 × Int32 × Sto} (h : u = F_K_signA v v2 s) (hF : frm M_K_signA s u.2.2) (hA : u.1 = nI 3 → u.2.2.1 2 = s.1 2) (hO : okn g T u.2.2 pl) (hT : FULL T) (hE : E_M_sign v v2 u.2.2) : callOk 14 v v2 v3 v4 v5 pn s := by
  rw [signA_eq] at h
  subst h
  exact ⟨frm_signA hF, hA, ans_isb hO hT, hE⟩
set_option maxRecDepth 100000 in
theorem seal_ok {g : Gd} {T : TyN} {pl : va_W} {pn : Nat} {v1 v2 v3 v4 v5 : Int32} {s : Sto} {u : Int32 × Int32 × Sto} (h : u = F_K_seal v1 s) (hO : okn g T s pl) (hT : FULL T) (hF : frm M_K_seal s u.2.2) (hE : E_M_seal v1 u.2.2) : callOk 11 v1 v2 v3 v4 v5 pn s := by
  subst h
  exact ⟨hF, hE⟩
set_option maxRecDepth 100000 in
theorem verify_ok {g : Gd} {T : TyN} {pl : va_W} {pn : Nat} {v1 v2 v3 v4 v5 : Int32} {s : Sto} {u : Int32 × Int32 × Sto} (h : u = F_K_verify v1 v2 s) (hO : okn g T s pl) (hT : FULL T) (hF : frm M_K_verify s u.2.2) (hE : E_M_verify v1 v2 u.2.2) : callOk 12 v1 v2 v3 v4 v5 pn s := by
  subst h
  exact ⟨NB_okn hO hT, hF, hE⟩
set_option maxRecDepth 100000 in
theorem open_ok {g : Gd} {T : TyN} {pl : va_W} {pn : Nat} {v1 v2 v3 v4 v5 : Int32} {s : Sto} {u : Int32 × Int32 × Sto} (h : u = F_K_open v1 s) (hO : okn g T s pl) (hT : FULL T) (hF : frm M_K_open s u.2.2) (hE : E_M_open v1 u.2.2) : callOk 15 v1 v2 v3 v4 v5 pn s := by
  subst h
  exact ⟨NB_okn hO hT, hF, hE⟩
theorem again_ok {g : Gd} {T : TyN} {pl : va_W} {pn : Nat} {v1 v2 v3 v4 v5 : Int32} {s : Sto} (hO : okn g T s pl) (hT : FULL T) : callOk 6 v1 v2 v3 v4 v5 pn s := NB_okn hO hT
theorem show_ok {g : Gd} {T : TyN} {pl : va_W} {pn : Nat} {v1 v2 v3 v4 v5 : Int32} {s : Sto} (hO : okn g T s pl) (hT : FULL T) : callOk 7 v1 v2 v3 v4 v5 pn s := NB_okn hO hT
theorem load_ok {g : Gd} {T : TyN} {pl : va_W} {pn : Nat} {v1 v2 v3 v4 v5 : Int32} {s : Sto} (hO : okn g T s pl) (hT : FULL T) : callOk 13 v1 v2 v3 v4 v5 pn s := NB_okn hO hT
set_option maxRecDepth 100000 in
theorem keys_ok {g : Gd} {T T1 : TyN} {pl pl1 : va_W} {pn : Nat} {v1 v2 v3 v4 v5 : Int32} {s : Sto} {u : Int32 × Int32 × Sto} {w : Int32 × Sto} (h : u = F_K_keys v1 pn s) (hw : w = F_M_keys v1 u.2.2) (hO : okn g T s pl) (hT : FULL T) (hx : extN T T1) (hO1 : okn g T1 w.2 pl1) (hF : frm M_K_keys s u.2.2) (hE : E_M_keys v1 u.2.2) : callOk 8 v1 v2 v3 v4 v5 pn s := by
  subst hw
  subst h
  exact ⟨NB_okn hO hT, NB_okn hO1 (FULL_ext hT hx), hF, hE⟩
