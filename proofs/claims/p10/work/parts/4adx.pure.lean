set_option linter.all false
/-! ML-DSA: the steps of a number (HighBits, LowBits, UseHint) -/
theorem sub_sub_n {a b c : Nat} (h : b ≤ a) : nI a - (nI b - nI c) = nI (a - b + c) := by
  have h1 : nI a = nI (a - b + c) + (nI b - nI c) := by
    rw [← nI_add, Int32.add_assoc, Int32.add_comm (nI c), Int32.sub_add_cancel, nI_add, Nat.sub_add_cancel h]
  rw [h1, Int32.add_sub_cancel]
theorem hi0 {v : Nat} (hv : v < 8380417) {s t : Sto} : ∃ h : Nat, h < 44 ∧ F_DS_high_0 (nI v) s = (nI h, s) ∧ F_MH_high_0 (nI v) t = (nI h, t) := by
  have e1 : (nI v + nI 95232 - nI 1) / nI 190464 = nI ((v + 95232 - 1) / 190464) := by rw [nI_add, pk_sub (by omega), pk_div (by omega) (by decide) (by decide)]
  have e2 : nI v - nI v / nI 190464 * nI 190464 = nI (v % 190464) := pk_rem (by omega) (by decide) (by decide)
  have hr : v % 190464 < 190464 := Nat.mod_lt _ (by decide)
  by_cases q : (v + 95232 - 1) / 190464 = 44
  · refine ⟨0, by decide, ?_, ?_⟩
    · rw [F_DS_high_0, e1, bnd_eq, if_pos (congrArg nI q)]
    · rw [F_MH_high_0, bnd_eq, e2, bnd_eq, bnd_eq]
      by_cases w : v % 190464 ≤ 95232
      · rw [if_pos ((nI_leI (by omega) (by decide)).mpr w), pk_sub (by omega), if_pos (congrArg nI (by omega))]
      · rw [if_neg (fun c => w ((nI_leI (by omega) (by decide)).mp c)), bnd_eq, bnd_eq, sub_sub_n (by omega), if_pos (congrArg nI (by omega))]
  · refine ⟨(v + 95232 - 1) / 190464, by omega, ?_, ?_⟩
    · rw [F_DS_high_0, e1, bnd_eq, if_neg (fun c => q ((nI_eq (by omega) (by decide)).mp c))]
    · rw [F_MH_high_0, bnd_eq, e2, bnd_eq, bnd_eq]
      by_cases w : v % 190464 ≤ 95232
      · rw [if_pos ((nI_leI (by omega) (by decide)).mpr w), pk_sub (by omega), if_neg (fun c => by have := (nI_eq (by omega) (by decide)).mp c; omega), bnd_eq, pk_div (by omega) (by decide) (by decide), show (v - v % 190464) / 190464 = (v + 95232 - 1) / 190464 by omega]
      · rw [if_neg (fun c => w ((nI_leI (by omega) (by decide)).mp c)), bnd_eq, bnd_eq, sub_sub_n (by omega), if_neg (fun c => by have := (nI_eq (by omega) (by decide)).mp c; omega), bnd_eq, pk_div (by omega) (by decide) (by decide), show (v - v % 190464 + 190464) / 190464 = (v + 95232 - 1) / 190464 by omega]
theorem lo0 {v : Nat} (hv : v < 8380417) {s t : Sto} : ∃ x : Int32, F_DS_low_0 (nI v) s = (x, s) ∧ F_MH_low_0 (nI v) t = (x, t) := by
  have e1 : (nI v + nI 95232 - nI 1) / nI 190464 = nI ((v + 95232 - 1) / 190464) := by rw [nI_add, pk_sub (by omega), pk_div (by omega) (by decide) (by decide)]
  have e2 : nI v - nI v / nI 190464 * nI 190464 = nI (v % 190464) := pk_rem (by omega) (by decide) (by decide)
  have hr : v % 190464 < 190464 := Nat.mod_lt _ (by decide)
  have e3 : nI v - nI ((v + 95232 - 1) / 190464) * nI 2 * nI 95232 = nI v - nI ((v + 95232 - 1) / 190464 * 2 * 95232) := by rw [pk_mul, pk_mul]
  have e4 : nI v - nI ((v + 95232 - 1) / 190464 * 2 * 95232) = if v % 190464 ≤ 95232 then nI (v % 190464) else nI (v % 190464) - nI 190464 := by
    by_cases w : v % 190464 ≤ 95232
    · rw [if_pos w, pk_sub (by omega)]
      exact congrArg nI (by omega)
    · rw [if_neg w]
      apply Int32.toInt_inj.mp
      rw [pk_sub_toInt (by omega) (by omega), pk_sub_toInt (by omega) (by omega)]
      omega
  by_cases q : (v + 95232 - 1) / 190464 = 44
  · refine ⟨nI v - nI ((v + 95232 - 1) / 190464 * 2 * 95232) - nI 1, ?_, ?_⟩
    · rw [F_DS_low_0, e1, bnd_eq, e3, bnd_eq, if_pos (congrArg nI q)]
    · rw [e4, F_MH_low_0, bnd_eq, e2, bnd_eq, bnd_eq]
      by_cases w : v % 190464 ≤ 95232
      · rw [if_pos ((nI_leI (by omega) (by decide)).mpr w), pk_sub (by omega), if_pos (congrArg nI (by omega)), if_pos w]
      · rw [if_neg (fun c => w ((nI_leI (by omega) (by decide)).mp c)), bnd_eq, bnd_eq, sub_sub_n (by omega), if_pos (congrArg nI (by omega)), if_neg w]
  · refine ⟨nI v - nI ((v + 95232 - 1) / 190464 * 2 * 95232), ?_, ?_⟩
    · rw [F_DS_low_0, e1, bnd_eq, e3, bnd_eq, if_neg (fun c => q ((nI_eq (by omega) (by decide)).mp c))]
    · rw [e4, F_MH_low_0, bnd_eq, e2, bnd_eq, bnd_eq]
      by_cases w : v % 190464 ≤ 95232
      · rw [if_pos ((nI_leI (by omega) (by decide)).mpr w), pk_sub (by omega), if_neg (fun c => by have := (nI_eq (by omega) (by decide)).mp c; omega), if_pos w]
      · rw [if_neg (fun c => w ((nI_leI (by omega) (by decide)).mp c)), bnd_eq, bnd_eq, sub_sub_n (by omega), if_neg (fun c => by have := (nI_eq (by omega) (by decide)).mp c; omega), if_neg w]
/-- UseHint, set 0 -/
theorem used0_same {v : Nat} {hh : Int32} (hv : v < 8380417) (h1 : hh ≠ 0) {s t : Sto} : ∃ h : Nat, h < 44 ∧ F_DS_hintedHigh_0 (nI v) s = (nI h, s) ∧ F_MH_used_0 hh (nI v) t = (nI h, t) := by
  obtain ⟨h, a1, a2, a3⟩ := hi0 hv (s := s) (t := t)
  obtain ⟨x, b1, b2⟩ := lo0 hv (s := s) (t := t)
  have z0 : nI 0 = (0 : Int32) := by decide
  by_cases q : x ≤ 0
  · refine ⟨(h + 44 - 1) % 44, Nat.mod_lt _ (by decide), ?_, ?_⟩
    · rw [F_DS_hintedHigh_0, a2, bnd_eq, bnd_eq, b1, bnd_eq, if_pos q]
      by_cases w : h = 0
      · rw [if_pos (show nI h = 0 by rw [w]; exact z0), w]
      · rw [if_neg (fun c : nI h = 0 => w ((nI_eq (by omega) (by decide)).mp (c.trans z0.symm)))]
        show (nI h - nI 1, s) = _
        rw [pk_sub (by omega)]
        exact congrArg (fun y => (nI y, s)) (by omega)
    · rw [F_MH_used_0, bnd_eq, if_neg h1, b2, bnd_eq, if_pos q, a3, bnd_eq]
      show ((nI h + nI 44 - nI 1) - (nI h + nI 44 - nI 1) / nI 44 * nI 44, t) = _
      rw [nI_add, pk_sub (by omega), pk_rem (by omega) (by decide) (by decide)]
  · refine ⟨(h + 1) % 44, Nat.mod_lt _ (by decide), ?_, ?_⟩
    · rw [F_DS_hintedHigh_0, a2, bnd_eq, bnd_eq, b1, bnd_eq, if_neg q]
      by_cases w : h = 43
      · rw [if_pos (congrArg nI w), w]
      · rw [if_neg (fun c => w ((nI_eq (by omega) (by decide)).mp c))]
        show (nI h + nI 1, s) = _
        rw [nI_add, Nat.mod_eq_of_lt (by omega)]
    · rw [F_MH_used_0, bnd_eq, if_neg h1, b2, bnd_eq, if_neg q, a3, bnd_eq]
      show ((nI h + nI 1) - (nI h + nI 1) / nI 44 * nI 44, t) = _
      rw [nI_add, pk_rem (by omega) (by decide) (by decide)]
theorem hi1 {v : Nat} (hv : v < 8380417) {s t : Sto} : ∃ h : Nat, h < 16 ∧ F_DS_high_1 (nI v) s = (nI h, s) ∧ F_MH_high_1 (nI v) t = (nI h, t) := by
  have e1 : (nI v + nI 261888 - nI 1) / nI 523776 = nI ((v + 261888 - 1) / 523776) := by rw [nI_add, pk_sub (by omega), pk_div (by omega) (by decide) (by decide)]
  have e2 : nI v - nI v / nI 523776 * nI 523776 = nI (v % 523776) := pk_rem (by omega) (by decide) (by decide)
  have hr : v % 523776 < 523776 := Nat.mod_lt _ (by decide)
  by_cases q : (v + 261888 - 1) / 523776 = 16
  · refine ⟨0, by decide, ?_, ?_⟩
    · rw [F_DS_high_1, e1, bnd_eq, if_pos (congrArg nI q)]
    · rw [F_MH_high_1, bnd_eq, e2, bnd_eq, bnd_eq]
      by_cases w : v % 523776 ≤ 261888
      · rw [if_pos ((nI_leI (by omega) (by decide)).mpr w), pk_sub (by omega), if_pos (congrArg nI (by omega))]
      · rw [if_neg (fun c => w ((nI_leI (by omega) (by decide)).mp c)), bnd_eq, bnd_eq, sub_sub_n (by omega), if_pos (congrArg nI (by omega))]
  · refine ⟨(v + 261888 - 1) / 523776, by omega, ?_, ?_⟩
    · rw [F_DS_high_1, e1, bnd_eq, if_neg (fun c => q ((nI_eq (by omega) (by decide)).mp c))]
    · rw [F_MH_high_1, bnd_eq, e2, bnd_eq, bnd_eq]
      by_cases w : v % 523776 ≤ 261888
      · rw [if_pos ((nI_leI (by omega) (by decide)).mpr w), pk_sub (by omega), if_neg (fun c => by have := (nI_eq (by omega) (by decide)).mp c; omega), bnd_eq, pk_div (by omega) (by decide) (by decide), show (v - v % 523776) / 523776 = (v + 261888 - 1) / 523776 by omega]
      · rw [if_neg (fun c => w ((nI_leI (by omega) (by decide)).mp c)), bnd_eq, bnd_eq, sub_sub_n (by omega), if_neg (fun c => by have := (nI_eq (by omega) (by decide)).mp c; omega), bnd_eq, pk_div (by omega) (by decide) (by decide), show (v - v % 523776 + 523776) / 523776 = (v + 261888 - 1) / 523776 by omega]
theorem lo1 {v : Nat} (hv : v < 8380417) {s t : Sto} : ∃ x : Int32, F_DS_low_1 (nI v) s = (x, s) ∧ F_MH_low_1 (nI v) t = (x, t) := by
  have e1 : (nI v + nI 261888 - nI 1) / nI 523776 = nI ((v + 261888 - 1) / 523776) := by rw [nI_add, pk_sub (by omega), pk_div (by omega) (by decide) (by decide)]
  have e2 : nI v - nI v / nI 523776 * nI 523776 = nI (v % 523776) := pk_rem (by omega) (by decide) (by decide)
  have hr : v % 523776 < 523776 := Nat.mod_lt _ (by decide)
  have e3 : nI v - nI ((v + 261888 - 1) / 523776) * nI 2 * nI 261888 = nI v - nI ((v + 261888 - 1) / 523776 * 2 * 261888) := by rw [pk_mul, pk_mul]
  have e4 : nI v - nI ((v + 261888 - 1) / 523776 * 2 * 261888) = if v % 523776 ≤ 261888 then nI (v % 523776) else nI (v % 523776) - nI 523776 := by
    by_cases w : v % 523776 ≤ 261888
    · rw [if_pos w, pk_sub (by omega)]
      exact congrArg nI (by omega)
    · rw [if_neg w]
      apply Int32.toInt_inj.mp
      rw [pk_sub_toInt (by omega) (by omega), pk_sub_toInt (by omega) (by omega)]
      omega
  by_cases q : (v + 261888 - 1) / 523776 = 16
  · refine ⟨nI v - nI ((v + 261888 - 1) / 523776 * 2 * 261888) - nI 1, ?_, ?_⟩
    · rw [F_DS_low_1, e1, bnd_eq, e3, bnd_eq, if_pos (congrArg nI q)]
    · rw [e4, F_MH_low_1, bnd_eq, e2, bnd_eq, bnd_eq]
      by_cases w : v % 523776 ≤ 261888
      · rw [if_pos ((nI_leI (by omega) (by decide)).mpr w), pk_sub (by omega), if_pos (congrArg nI (by omega)), if_pos w]
      · rw [if_neg (fun c => w ((nI_leI (by omega) (by decide)).mp c)), bnd_eq, bnd_eq, sub_sub_n (by omega), if_pos (congrArg nI (by omega)), if_neg w]
  · refine ⟨nI v - nI ((v + 261888 - 1) / 523776 * 2 * 261888), ?_, ?_⟩
    · rw [F_DS_low_1, e1, bnd_eq, e3, bnd_eq, if_neg (fun c => q ((nI_eq (by omega) (by decide)).mp c))]
    · rw [e4, F_MH_low_1, bnd_eq, e2, bnd_eq, bnd_eq]
      by_cases w : v % 523776 ≤ 261888
      · rw [if_pos ((nI_leI (by omega) (by decide)).mpr w), pk_sub (by omega), if_neg (fun c => by have := (nI_eq (by omega) (by decide)).mp c; omega), if_pos w]
      · rw [if_neg (fun c => w ((nI_leI (by omega) (by decide)).mp c)), bnd_eq, bnd_eq, sub_sub_n (by omega), if_neg (fun c => by have := (nI_eq (by omega) (by decide)).mp c; omega), if_neg w]
/-- UseHint, set 1 -/
theorem used1_same {v : Nat} {hh : Int32} (hv : v < 8380417) (h1 : hh ≠ 0) {s t : Sto} : ∃ h : Nat, h < 16 ∧ F_DS_hintedHigh_1 (nI v) s = (nI h, s) ∧ F_MH_used_1 hh (nI v) t = (nI h, t) := by
  obtain ⟨h, a1, a2, a3⟩ := hi1 hv (s := s) (t := t)
  obtain ⟨x, b1, b2⟩ := lo1 hv (s := s) (t := t)
  have z0 : nI 0 = (0 : Int32) := by decide
  by_cases q : x ≤ 0
  · refine ⟨(h + 16 - 1) % 16, Nat.mod_lt _ (by decide), ?_, ?_⟩
    · rw [F_DS_hintedHigh_1, a2, bnd_eq, bnd_eq, b1, bnd_eq, if_pos q]
      by_cases w : h = 0
      · rw [if_pos (show nI h = 0 by rw [w]; exact z0), w]
      · rw [if_neg (fun c : nI h = 0 => w ((nI_eq (by omega) (by decide)).mp (c.trans z0.symm)))]
        show (nI h - nI 1, s) = _
        rw [pk_sub (by omega)]
        exact congrArg (fun y => (nI y, s)) (by omega)
    · rw [F_MH_used_1, bnd_eq, if_neg h1, b2, bnd_eq, if_pos q, a3, bnd_eq]
      show ((nI h + nI 16 - nI 1) - (nI h + nI 16 - nI 1) / nI 16 * nI 16, t) = _
      rw [nI_add, pk_sub (by omega), pk_rem (by omega) (by decide) (by decide)]
  · refine ⟨(h + 1) % 16, Nat.mod_lt _ (by decide), ?_, ?_⟩
    · rw [F_DS_hintedHigh_1, a2, bnd_eq, bnd_eq, b1, bnd_eq, if_neg q]
      by_cases w : h = 15
      · rw [if_pos (congrArg nI w), w]
      · rw [if_neg (fun c => w ((nI_eq (by omega) (by decide)).mp c))]
        show (nI h + nI 1, s) = _
        rw [nI_add, Nat.mod_eq_of_lt (by omega)]
    · rw [F_MH_used_1, bnd_eq, if_neg h1, b2, bnd_eq, if_neg q, a3, bnd_eq]
      show ((nI h + nI 1) - (nI h + nI 1) / nI 16 * nI 16, t) = _
      rw [nI_add, pk_rem (by omega) (by decide) (by decide)]
theorem hi2 {v : Nat} (hv : v < 8380417) {s t : Sto} : ∃ h : Nat, h < 16 ∧ F_DS_high_2 (nI v) s = (nI h, s) ∧ F_MH_high_2 (nI v) t = (nI h, t) := by
  have e1 : (nI v + nI 261888 - nI 1) / nI 523776 = nI ((v + 261888 - 1) / 523776) := by rw [nI_add, pk_sub (by omega), pk_div (by omega) (by decide) (by decide)]
  have e2 : nI v - nI v / nI 523776 * nI 523776 = nI (v % 523776) := pk_rem (by omega) (by decide) (by decide)
  have hr : v % 523776 < 523776 := Nat.mod_lt _ (by decide)
  by_cases q : (v + 261888 - 1) / 523776 = 16
  · refine ⟨0, by decide, ?_, ?_⟩
    · rw [F_DS_high_2, e1, bnd_eq, if_pos (congrArg nI q)]
    · rw [F_MH_high_2, bnd_eq, e2, bnd_eq, bnd_eq]
      by_cases w : v % 523776 ≤ 261888
      · rw [if_pos ((nI_leI (by omega) (by decide)).mpr w), pk_sub (by omega), if_pos (congrArg nI (by omega))]
      · rw [if_neg (fun c => w ((nI_leI (by omega) (by decide)).mp c)), bnd_eq, bnd_eq, sub_sub_n (by omega), if_pos (congrArg nI (by omega))]
  · refine ⟨(v + 261888 - 1) / 523776, by omega, ?_, ?_⟩
    · rw [F_DS_high_2, e1, bnd_eq, if_neg (fun c => q ((nI_eq (by omega) (by decide)).mp c))]
    · rw [F_MH_high_2, bnd_eq, e2, bnd_eq, bnd_eq]
      by_cases w : v % 523776 ≤ 261888
      · rw [if_pos ((nI_leI (by omega) (by decide)).mpr w), pk_sub (by omega), if_neg (fun c => by have := (nI_eq (by omega) (by decide)).mp c; omega), bnd_eq, pk_div (by omega) (by decide) (by decide), show (v - v % 523776) / 523776 = (v + 261888 - 1) / 523776 by omega]
      · rw [if_neg (fun c => w ((nI_leI (by omega) (by decide)).mp c)), bnd_eq, bnd_eq, sub_sub_n (by omega), if_neg (fun c => by have := (nI_eq (by omega) (by decide)).mp c; omega), bnd_eq, pk_div (by omega) (by decide) (by decide), show (v - v % 523776 + 523776) / 523776 = (v + 261888 - 1) / 523776 by omega]
theorem lo2 {v : Nat} (hv : v < 8380417) {s t : Sto} : ∃ x : Int32, F_DS_low_2 (nI v) s = (x, s) ∧ F_MH_low_2 (nI v) t = (x, t) := by
  have e1 : (nI v + nI 261888 - nI 1) / nI 523776 = nI ((v + 261888 - 1) / 523776) := by rw [nI_add, pk_sub (by omega), pk_div (by omega) (by decide) (by decide)]
  have e2 : nI v - nI v / nI 523776 * nI 523776 = nI (v % 523776) := pk_rem (by omega) (by decide) (by decide)
  have hr : v % 523776 < 523776 := Nat.mod_lt _ (by decide)
  have e3 : nI v - nI ((v + 261888 - 1) / 523776) * nI 2 * nI 261888 = nI v - nI ((v + 261888 - 1) / 523776 * 2 * 261888) := by rw [pk_mul, pk_mul]
  have e4 : nI v - nI ((v + 261888 - 1) / 523776 * 2 * 261888) = if v % 523776 ≤ 261888 then nI (v % 523776) else nI (v % 523776) - nI 523776 := by
    by_cases w : v % 523776 ≤ 261888
    · rw [if_pos w, pk_sub (by omega)]
      exact congrArg nI (by omega)
    · rw [if_neg w]
      apply Int32.toInt_inj.mp
      rw [pk_sub_toInt (by omega) (by omega), pk_sub_toInt (by omega) (by omega)]
      omega
  by_cases q : (v + 261888 - 1) / 523776 = 16
  · refine ⟨nI v - nI ((v + 261888 - 1) / 523776 * 2 * 261888) - nI 1, ?_, ?_⟩
    · rw [F_DS_low_2, e1, bnd_eq, e3, bnd_eq, if_pos (congrArg nI q)]
    · rw [e4, F_MH_low_2, bnd_eq, e2, bnd_eq, bnd_eq]
      by_cases w : v % 523776 ≤ 261888
      · rw [if_pos ((nI_leI (by omega) (by decide)).mpr w), pk_sub (by omega), if_pos (congrArg nI (by omega)), if_pos w]
      · rw [if_neg (fun c => w ((nI_leI (by omega) (by decide)).mp c)), bnd_eq, bnd_eq, sub_sub_n (by omega), if_pos (congrArg nI (by omega)), if_neg w]
  · refine ⟨nI v - nI ((v + 261888 - 1) / 523776 * 2 * 261888), ?_, ?_⟩
    · rw [F_DS_low_2, e1, bnd_eq, e3, bnd_eq, if_neg (fun c => q ((nI_eq (by omega) (by decide)).mp c))]
    · rw [e4, F_MH_low_2, bnd_eq, e2, bnd_eq, bnd_eq]
      by_cases w : v % 523776 ≤ 261888
      · rw [if_pos ((nI_leI (by omega) (by decide)).mpr w), pk_sub (by omega), if_neg (fun c => by have := (nI_eq (by omega) (by decide)).mp c; omega), if_pos w]
      · rw [if_neg (fun c => w ((nI_leI (by omega) (by decide)).mp c)), bnd_eq, bnd_eq, sub_sub_n (by omega), if_neg (fun c => by have := (nI_eq (by omega) (by decide)).mp c; omega), if_neg w]
/-- UseHint, set 2 -/
theorem used2_same {v : Nat} {hh : Int32} (hv : v < 8380417) (h1 : hh ≠ 0) {s t : Sto} : ∃ h : Nat, h < 16 ∧ F_DS_hintedHigh_2 (nI v) s = (nI h, s) ∧ F_MH_used_2 hh (nI v) t = (nI h, t) := by
  obtain ⟨h, a1, a2, a3⟩ := hi2 hv (s := s) (t := t)
  obtain ⟨x, b1, b2⟩ := lo2 hv (s := s) (t := t)
  have z0 : nI 0 = (0 : Int32) := by decide
  by_cases q : x ≤ 0
  · refine ⟨(h + 16 - 1) % 16, Nat.mod_lt _ (by decide), ?_, ?_⟩
    · rw [F_DS_hintedHigh_2, a2, bnd_eq, bnd_eq, b1, bnd_eq, if_pos q]
      by_cases w : h = 0
      · rw [if_pos (show nI h = 0 by rw [w]; exact z0), w]
      · rw [if_neg (fun c : nI h = 0 => w ((nI_eq (by omega) (by decide)).mp (c.trans z0.symm)))]
        show (nI h - nI 1, s) = _
        rw [pk_sub (by omega)]
        exact congrArg (fun y => (nI y, s)) (by omega)
    · rw [F_MH_used_2, bnd_eq, if_neg h1, b2, bnd_eq, if_pos q, a3, bnd_eq]
      show ((nI h + nI 16 - nI 1) - (nI h + nI 16 - nI 1) / nI 16 * nI 16, t) = _
      rw [nI_add, pk_sub (by omega), pk_rem (by omega) (by decide) (by decide)]
  · refine ⟨(h + 1) % 16, Nat.mod_lt _ (by decide), ?_, ?_⟩
    · rw [F_DS_hintedHigh_2, a2, bnd_eq, bnd_eq, b1, bnd_eq, if_neg q]
      by_cases w : h = 15
      · rw [if_pos (congrArg nI w), w]
      · rw [if_neg (fun c => w ((nI_eq (by omega) (by decide)).mp c))]
        show (nI h + nI 1, s) = _
        rw [nI_add, Nat.mod_eq_of_lt (by omega)]
    · rw [F_MH_used_2, bnd_eq, if_neg h1, b2, bnd_eq, if_neg q, a3, bnd_eq]
      show ((nI h + nI 1) - (nI h + nI 1) / nI 16 * nI 16, t) = _
      rw [nI_add, pk_rem (by omega) (by decide) (by decide)]
