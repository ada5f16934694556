set_option linter.all false
theorem msAL0 : ∀ (n i : Nat) (s : Sto), F_DA_makeSignatureA_0_L0 n i s = F_DA_makeSignature_0_L0 2 n i s
  | 0, i, s => by rw [F_DA_makeSignatureA_0_L0, F_DA_makeSignature_0_L0]
  | n + 1, i, s => by
    rw [F_DA_makeSignatureA_0_L0, F_DA_makeSignature_0_L0]
    simp only [msAL0 n]
theorem msA0 {psk len : Nat} {cl_ : Int32} {s : Sto} : F_DA_makeSignatureA_0 psk len cl_ s = F_DA_makeSignature_0 psk 1 16384 len cl_ 2 s := by
  rw [F_DA_makeSignatureA_0, F_DA_makeSignature_0]
  simp only [msAL0]
theorem msAL1 : ∀ (n i : Nat) (s : Sto), F_DA_makeSignatureA_1_L0 n i s = F_DA_makeSignature_1_L0 2 n i s
  | 0, i, s => by rw [F_DA_makeSignatureA_1_L0, F_DA_makeSignature_1_L0]
  | n + 1, i, s => by
    rw [F_DA_makeSignatureA_1_L0, F_DA_makeSignature_1_L0]
    simp only [msAL1 n]
theorem msA1 {psk len : Nat} {cl_ : Int32} {s : Sto} : F_DA_makeSignatureA_1 psk len cl_ s = F_DA_makeSignature_1 psk 1 16384 len cl_ 2 s := by
  rw [F_DA_makeSignatureA_1, F_DA_makeSignature_1]
  simp only [msAL1]
theorem msAL2 : ∀ (n i : Nat) (s : Sto), F_DA_makeSignatureA_2_L0 n i s = F_DA_makeSignature_2_L0 2 n i s
  | 0, i, s => by rw [F_DA_makeSignatureA_2_L0, F_DA_makeSignature_2_L0]
  | n + 1, i, s => by
    rw [F_DA_makeSignatureA_2_L0, F_DA_makeSignature_2_L0]
    simp only [msAL2 n]
theorem msA2 {psk len : Nat} {cl_ : Int32} {s : Sto} : F_DA_makeSignatureA_2 psk len cl_ s = F_DA_makeSignature_2 psk 1 16384 len cl_ 2 s := by
  rw [F_DA_makeSignatureA_2, F_DA_makeSignature_2]
  simp only [msAL2]
theorem signA_eq {v v2 : Int32} {s : Sto} : F_K_signA v v2 s = F_K_sign v v2 s := by
  rw [F_K_signA, F_K_sign]
  simp only [msA0, msA1, msA2]
