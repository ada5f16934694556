set_option linter.all false
/-- what is 0 or 1 -/
def zo (v : Int32) : Prop := v = nI 0 ∨ v = nI 1
theorem nar_zo {v : Int32} (h : zo v) : narrow .boolean (.int v) = .int v := by
  rcases h with rfl | rfl
  · exact nar_2 (by decide)
  · exact nar_2 (by decide)
theorem bl_01 {P : Prop} {v : Int32} (h1 : P → v = nI 1) (h2 : ¬ P → v = nI 0) : zo v := by
  by_cases h : P
  · exact Or.inr (h1 h)
  · exact Or.inl (h2 h)
theorem bl_cl {v : Int32} (h : zo v) : zo (nI v.toNatClampNeg) := by
  rcases h with rfl | rfl
  · rw [nI_clamp (by decide)]; exact Or.inl rfl
  · rw [nI_clamp (by decide)]; exact Or.inr rfl
theorem nf0_bl {pp n : Nat} {s : Sto} (hp : pp ≠ 31) : zo (F_KM_numbersFit_0 pp n s).1 := by
  obtain ⟨-, a2, a3⟩ := nfA0 (n := n) (s := s) hp 2 0 (by decide)
  rw [F_KM_numbersFit_0]
  exact bl_01 a2 a3
theorem hf0_bl {psk n : Nat} {s : Sto} : zo (F_KM_hashFits_0 psk n s).1 := by
  rw [F_KM_hashFits_0, bnd_eq]
  generalize F_KM_digestOf _ _ _ _ _ = s1
  obtain ⟨-, b2, b3⟩ := cmpL (G := F_KM_hashFits_0_L0 psk) (c := fun i s => s.1 33 i = s.1 psk (1568 + i)) (fun i s => by rw [F_KM_hashFits_0_L0]) (fun n i s => by rw [F_KM_hashFits_0_L0]) 32 0 s1
  exact bl_01 b2 b3
theorem ca0_bl {s : Sto} : zo (F_DA_challengesAgree_0 s).1 := by
  rw [F_DA_challengesAgree_0]
  obtain ⟨-, b2, b3⟩ := cmpL (G := F_DA_challengesAgree_0_L0) (c := fun i s => s.1 144 i = s.1 145 i) (fun i s => by rw [F_DA_challengesAgree_0_L0]) (fun n i s => by rw [F_DA_challengesAgree_0_L0]) 32 0 s
  exact bl_01 b2 b3
theorem aL10_bl {pp : Nat} : ∀ (m i f : Nat) (s : Sto), zo (F_DA_accepts_0_L1 pp m i f s).1
  | 0, i, f, s => by
    rw [F_DA_accepts_0_L1]
    repeat rw [bnd_eq]
    exact bl_cl ca0_bl
  | m + 1, i, f, s => by
    rw [F_DA_accepts_0_L1]
    repeat rw [bnd_eq]
    exact aL10_bl m _ _ _
theorem aL00_bl {pp : Nat} : ∀ (m i : Nat) (s : Sto), zo (F_DA_accepts_0_L0 pp m i s).1
  | 0, i, s => by
    rw [F_DA_accepts_0_L0, bnd_eq]
    exact aL10_bl _ _ _ _
  | m + 1, i, s => by
    rw [F_DA_accepts_0_L0, bnd_eq]
    exact aL00_bl m _ _
theorem ac0_bl {pp ptp n len : Nat} {cl_ : Int32} {s : Sto} : zo (F_DA_accepts_0 pp ptp n len cl_ s).1 := by
  rw [F_DA_accepts_0, bnd_eq]
  by_cases h : (F_DA_readSignature_0 ptp n s).1 = 0
  · rw [if_pos h]
    exact Or.inl rfl
  · rw [if_neg h]
    repeat rw [bnd_eq]
    exact aL00_bl _ _ _
theorem nf1_bl {pp n : Nat} {s : Sto} (hp : pp ≠ 31) : zo (F_KM_numbersFit_1 pp n s).1 := by
  obtain ⟨-, a2, a3⟩ := nfA1 (n := n) (s := s) hp 3 0 (by decide)
  rw [F_KM_numbersFit_1]
  exact bl_01 a2 a3
theorem hf1_bl {psk n : Nat} {s : Sto} : zo (F_KM_hashFits_1 psk n s).1 := by
  rw [F_KM_hashFits_1, bnd_eq]
  generalize F_KM_digestOf _ _ _ _ _ = s1
  obtain ⟨-, b2, b3⟩ := cmpL (G := F_KM_hashFits_1_L0 psk) (c := fun i s => s.1 33 i = s.1 psk (2336 + i)) (fun i s => by rw [F_KM_hashFits_1_L0]) (fun n i s => by rw [F_KM_hashFits_1_L0]) 32 0 s1
  exact bl_01 b2 b3
theorem ca1_bl {s : Sto} : zo (F_DA_challengesAgree_1 s).1 := by
  rw [F_DA_challengesAgree_1]
  obtain ⟨-, b2, b3⟩ := cmpL (G := F_DA_challengesAgree_1_L0) (c := fun i s => s.1 144 i = s.1 145 i) (fun i s => by rw [F_DA_challengesAgree_1_L0]) (fun n i s => by rw [F_DA_challengesAgree_1_L0]) 48 0 s
  exact bl_01 b2 b3
theorem aL11_bl {pp : Nat} : ∀ (m i f : Nat) (s : Sto), zo (F_DA_accepts_1_L1 pp m i f s).1
  | 0, i, f, s => by
    rw [F_DA_accepts_1_L1]
    repeat rw [bnd_eq]
    exact bl_cl ca1_bl
  | m + 1, i, f, s => by
    rw [F_DA_accepts_1_L1]
    repeat rw [bnd_eq]
    exact aL11_bl m _ _ _
theorem aL01_bl {pp : Nat} : ∀ (m i : Nat) (s : Sto), zo (F_DA_accepts_1_L0 pp m i s).1
  | 0, i, s => by
    rw [F_DA_accepts_1_L0, bnd_eq]
    exact aL11_bl _ _ _ _
  | m + 1, i, s => by
    rw [F_DA_accepts_1_L0, bnd_eq]
    exact aL01_bl m _ _
theorem ac1_bl {pp ptp n len : Nat} {cl_ : Int32} {s : Sto} : zo (F_DA_accepts_1 pp ptp n len cl_ s).1 := by
  rw [F_DA_accepts_1, bnd_eq]
  by_cases h : (F_DA_readSignature_1 ptp n s).1 = 0
  · rw [if_pos h]
    exact Or.inl rfl
  · rw [if_neg h]
    repeat rw [bnd_eq]
    exact aL01_bl _ _ _
theorem nf2_bl {pp n : Nat} {s : Sto} (hp : pp ≠ 31) : zo (F_KM_numbersFit_2 pp n s).1 := by
  obtain ⟨-, a2, a3⟩ := nfA2 (n := n) (s := s) hp 4 0 (by decide)
  rw [F_KM_numbersFit_2]
  exact bl_01 a2 a3
theorem hf2_bl {psk n : Nat} {s : Sto} : zo (F_KM_hashFits_2 psk n s).1 := by
  rw [F_KM_hashFits_2, bnd_eq]
  generalize F_KM_digestOf _ _ _ _ _ = s1
  obtain ⟨-, b2, b3⟩ := cmpL (G := F_KM_hashFits_2_L0 psk) (c := fun i s => s.1 33 i = s.1 psk (3104 + i)) (fun i s => by rw [F_KM_hashFits_2_L0]) (fun n i s => by rw [F_KM_hashFits_2_L0]) 32 0 s1
  exact bl_01 b2 b3
theorem ca2_bl {s : Sto} : zo (F_DA_challengesAgree_2 s).1 := by
  rw [F_DA_challengesAgree_2]
  obtain ⟨-, b2, b3⟩ := cmpL (G := F_DA_challengesAgree_2_L0) (c := fun i s => s.1 144 i = s.1 145 i) (fun i s => by rw [F_DA_challengesAgree_2_L0]) (fun n i s => by rw [F_DA_challengesAgree_2_L0]) 64 0 s
  exact bl_01 b2 b3
theorem aL12_bl {pp : Nat} : ∀ (m i f : Nat) (s : Sto), zo (F_DA_accepts_2_L1 pp m i f s).1
  | 0, i, f, s => by
    rw [F_DA_accepts_2_L1]
    repeat rw [bnd_eq]
    exact bl_cl ca2_bl
  | m + 1, i, f, s => by
    rw [F_DA_accepts_2_L1]
    repeat rw [bnd_eq]
    exact aL12_bl m _ _ _
theorem aL02_bl {pp : Nat} : ∀ (m i : Nat) (s : Sto), zo (F_DA_accepts_2_L0 pp m i s).1
  | 0, i, s => by
    rw [F_DA_accepts_2_L0, bnd_eq]
    exact aL12_bl _ _ _ _
  | m + 1, i, s => by
    rw [F_DA_accepts_2_L0, bnd_eq]
    exact aL02_bl m _ _
theorem ac2_bl {pp ptp n len : Nat} {cl_ : Int32} {s : Sto} : zo (F_DA_accepts_2 pp ptp n len cl_ s).1 := by
  rw [F_DA_accepts_2, bnd_eq]
  by_cases h : (F_DA_readSignature_2 ptp n s).1 = 0
  · rw [if_pos h]
    exact Or.inl rfl
  · rw [if_neg h]
    repeat rw [bnd_eq]
    exact aL02_bl _ _ _

