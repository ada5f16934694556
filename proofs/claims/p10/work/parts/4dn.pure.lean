set_option linter.all false
/-! bytes: what the machine's arrays give -/
theorem isb_fit {x : Int32} (h : fits .byte (.int x) = true) : isb x := by
  unfold isb
  rw [vp_nar_byte]
  have h1 : (-128 : Int32).toInt = -128 := by decide
  have h2 : (127 : Int32).toInt = 127 := by decide
  simp only [fits, Bool.and_eq_true, decide_eq_true_eq, Int32.le_iff_toInt_le, h1, h2] at h
  apply Int32.toInt_inj.mp
  rw [Int8.toInt_toInt32, Int32.toInt_toInt8]
  generalize x.toInt = X at h
  unfold Int.bmod
  simp only [Nat.reducePow]
  split <;> omega
theorem okn_isb {g : Gd} {T : TyN} {s : Sto} {pl : va_W} (hO : okn g T s pl) {a k n : Nat} (ka : T a = some k) (hk : nsp k = (1, n, [])) : ∀ j, j < n → isb (s.1 k j) := by
  obtain ⟨i, e, h1, h2⟩ := hO a k ka
  obtain ⟨f, rfl, hf, hb⟩ := nfit_of h2 hk
  intro j hj
  rw [← hf j hj]
  exact isb_fit (hb j)
/-- every cell that the constructors made has its name -/
def FULL (T : TyN) : Prop := ∀ k, k < 379 → ∃ a, T a = some k
theorem NB_okn {g : Gd} {T : TyN} {s : Sto} {pl : va_W} (hO : okn g T s pl) (hT : FULL T) : NB s := by
  have key : ∀ k n, k < 379 → nsp k = (1, n, []) → ∀ j, j < n → isb (s.1 k j) := fun k n hk hn => by
    obtain ⟨a, ha⟩ := hT k hk
    exact okn_isb hO ha hn
  exact ⟨key 149 16384 (by decide) rfl, key 150 8192 (by decide) rfl, fun i hi => ⟨key (153 + i) 2592 (by omega) (rows_okb 153 8 2592 (by decide) i hi), key (162 + i) 4896 (by omega) (rows_okb 162 8 4896 (by decide) i hi)⟩⟩
theorem FULL_ext {T T1 : TyN} (h : FULL T) (hx : extN T T1) : FULL T1 := fun k hk => (h k hk).elim (fun a ha => ⟨a, hx a k ha⟩)
