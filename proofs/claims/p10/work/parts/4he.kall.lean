set_option linter.all false
set_option maxRecDepth 100000 in
theorem EA_M_keys (hK : KALL) {v : Int32} {s : Sto} : E_M_keys v s := by
  unfold E_M_keys
  with_reducible exact bnd_i (fun s21 => ite_i (bnd_i (fun q21 => trivial)) (ite_i (bnd_i (fun q22 => trivial)) (bnd_i (fun z21 => ite_i (bnd_i (fun z22 => ite_i (bnd_i (fun z23 => ite_i (bnd_i (fun q25 => trivial)) (bnd_i (fun z24 => bnd_i (fun z25 => ⟨EA_ME_keys_0 hK, bnd_i (fun s22 => bnd_i (fun q23 => bnd_i (fun z26 => bnd_i (fun q24 => trivial))))⟩))))) (bnd_i (fun q26 => trivial)))) (ite_i (bnd_i (fun z27 => ite_i (bnd_i (fun z28 => ite_i (bnd_i (fun q29 => trivial)) (bnd_i (fun z29 => bnd_i (fun z30 => ⟨EA_ME_keys_1 hK, bnd_i (fun s23 => bnd_i (fun q27 => bnd_i (fun z31 => bnd_i (fun q28 => trivial))))⟩))))) (bnd_i (fun q30 => trivial)))) (ite_i (bnd_i (fun z32 => ite_i (bnd_i (fun z33 => ite_i (bnd_i (fun q33 => trivial)) (bnd_i (fun z34 => bnd_i (fun z35 => ⟨EA_ME_keys_2 hK, bnd_i (fun s24 => bnd_i (fun q31 => bnd_i (fun z36 => bnd_i (fun q32 => trivial))))⟩))))) (bnd_i (fun q34 => trivial)))) (ite_i (bnd_i (fun z37 => ite_i (bnd_i (fun z38 => ite_i (bnd_i (fun q37 => trivial)) (bnd_i (fun z39 => bnd_i (fun z40 => ⟨EA_MH_keys_0 hK, bnd_i (fun s25 => bnd_i (fun q35 => bnd_i (fun z41 => bnd_i (fun q36 => trivial))))⟩))))) (bnd_i (fun q38 => trivial)))) (ite_i (bnd_i (fun z42 => ite_i (bnd_i (fun z43 => ite_i (bnd_i (fun q41 => trivial)) (bnd_i (fun z44 => bnd_i (fun z45 => ⟨EA_MH_keys_1 hK, bnd_i (fun s26 => bnd_i (fun q39 => bnd_i (fun z46 => bnd_i (fun q40 => trivial))))⟩))))) (bnd_i (fun q42 => trivial)))) (bnd_i (fun z47 => ite_i (bnd_i (fun z48 => ite_i (bnd_i (fun q45 => trivial)) (bnd_i (fun z49 => bnd_i (fun z50 => ⟨EA_MH_keys_2 hK, bnd_i (fun s27 => bnd_i (fun q43 => bnd_i (fun z51 => bnd_i (fun q44 => trivial))))⟩))))) (bnd_i (fun q46 => trivial))))))))))))
set_option maxRecDepth 100000 in
theorem EA_M_open (hK : KALL) {v : Int32} {s : Sto} : E_M_open v s := by
  unfold E_M_open
  with_reducible exact bnd_i (fun s21 => bnd_i (fun q21 => ite_i (bnd_i (fun z21 => ite_i (bnd_i (fun z22 => ite_i (bnd_i (fun q25 => trivial)) (bnd_i (fun z23 => bnd_i (fun q23 => bnd_i (fun z24 => ite_i (bnd_i (fun s22 => bnd_i (fun s23 => ⟨EA_ME_open_0 hK, bnd_i (fun s24 => bnd_i (fun z25 => trivial))⟩))) (bnd_i (fun q24 => trivial)))))))) (ite_i (bnd_i (fun z26 => ite_i (bnd_i (fun q28 => trivial)) (bnd_i (fun z27 => bnd_i (fun q26 => bnd_i (fun z28 => ite_i (bnd_i (fun s25 => bnd_i (fun s26 => ⟨EA_ME_open_1 hK, bnd_i (fun s27 => bnd_i (fun z29 => trivial))⟩))) (bnd_i (fun q27 => trivial)))))))) (ite_i (bnd_i (fun z30 => ite_i (bnd_i (fun q31 => trivial)) (bnd_i (fun z31 => bnd_i (fun q29 => bnd_i (fun z32 => ite_i (bnd_i (fun s28 => bnd_i (fun s29 => ⟨EA_ME_open_2 hK, bnd_i (fun s30 => bnd_i (fun z33 => trivial))⟩))) (bnd_i (fun q30 => trivial)))))))) (ite_i (bnd_i (fun q32 => trivial)) (ite_i (bnd_i (fun q33 => trivial)) (bnd_i (fun q34 => trivial)))))))) (bnd_i (fun q22 => trivial))))
set_option maxRecDepth 100000 in
theorem EA_M_seal (hK : KALL) {v : Int32} {s : Sto} : E_M_seal v s := by
  unfold E_M_seal
  with_reducible exact bnd_i (fun s21 => bnd_i (fun q21 => ite_i (bnd_i (fun z21 => ite_i (bnd_i (fun z22 => ite_i (bnd_i (fun s22 => ⟨EA_ME_seal_0 hK, bnd_i (fun q23 => bnd_i (fun z23 => bnd_i (fun s23 => bnd_i (fun z24 => trivial))))⟩)) (bnd_i (fun q24 => trivial)))) (ite_i (bnd_i (fun z25 => ite_i (bnd_i (fun s24 => ⟨EA_ME_seal_1 hK, bnd_i (fun q25 => bnd_i (fun z26 => bnd_i (fun s25 => bnd_i (fun z27 => trivial))))⟩)) (bnd_i (fun q26 => trivial)))) (ite_i (bnd_i (fun z28 => ite_i (bnd_i (fun s26 => ⟨EA_ME_seal_2 hK, bnd_i (fun q27 => bnd_i (fun z29 => bnd_i (fun s27 => bnd_i (fun z30 => trivial))))⟩)) (bnd_i (fun q28 => trivial)))) (ite_i (bnd_i (fun q29 => trivial)) (ite_i (bnd_i (fun q30 => trivial)) (bnd_i (fun q31 => trivial)))))))) (bnd_i (fun q22 => trivial))))
set_option maxRecDepth 100000 in
theorem EA_M_sign (hK : KALL) {v : Int32} {v2 : Int32} {s : Sto} : E_M_sign v v2 s := by
  unfold E_M_sign
  with_reducible exact bnd_i (fun s21 => bnd_i (fun q21 => ite_i (bnd_i (fun z21 => ite_i (bnd_i (fun q23 => trivial)) (ite_i (bnd_i (fun q24 => trivial)) (ite_i (bnd_i (fun q25 => trivial)) (ite_i (bnd_i (fun z22 => ite_i (bnd_i (fun q32 => trivial)) (ite_i (bnd_i (fun q26 => trivial)) (ite_i (bnd_i (fun q27 => trivial)) (bnd_i (fun z23 => bnd_i (fun z24 => ite_i (bnd_i (fun z25 => ⟨EA_MH_sign_0 hK, bnd_i (fun q28 => bnd_i (fun z26 => ite_i (bnd_i (fun q30 => trivial)) (bnd_i (fun q29 => bnd_i (fun z27 => bnd_i (fun s22 => trivial))))))⟩)) (bnd_i (fun q31 => trivial))))))))) (ite_i (bnd_i (fun z30 => ite_i (bnd_i (fun q39 => trivial)) (ite_i (bnd_i (fun q33 => trivial)) (ite_i (bnd_i (fun q34 => trivial)) (bnd_i (fun z31 => bnd_i (fun z32 => ite_i (bnd_i (fun z33 => ⟨EA_MH_sign_1 hK, bnd_i (fun q35 => bnd_i (fun z34 => ite_i (bnd_i (fun q37 => trivial)) (bnd_i (fun q36 => bnd_i (fun z35 => bnd_i (fun s26 => trivial))))))⟩)) (bnd_i (fun q38 => trivial))))))))) (bnd_i (fun z38 => ite_i (bnd_i (fun q46 => trivial)) (ite_i (bnd_i (fun q40 => trivial)) (ite_i (bnd_i (fun q41 => trivial)) (bnd_i (fun z39 => bnd_i (fun z40 => ite_i (bnd_i (fun z41 => ⟨EA_MH_sign_2 hK, bnd_i (fun q42 => bnd_i (fun z42 => ite_i (bnd_i (fun q44 => trivial)) (bnd_i (fun q43 => bnd_i (fun z43 => bnd_i (fun s30 => trivial))))))⟩)) (bnd_i (fun q45 => trivial))))))))))))))) (bnd_i (fun q22 => trivial))))
set_option maxRecDepth 100000 in
theorem EA_M_verify (hK : KALL) {v : Int32} {v2 : Int32} {s : Sto} : E_M_verify v v2 s := by
  unfold E_M_verify
  with_reducible exact bnd_i (fun q21 => ite_i (bnd_i (fun z22 => ite_i (bnd_i (fun s22 => bnd_i (fun z23 => trivial))) (ite_i (bnd_i (fun s23 => bnd_i (fun z24 => trivial))) (ite_i (bnd_i (fun s24 => bnd_i (fun z25 => trivial))) (ite_i (ite_i (bnd_i (fun s25 => bnd_i (fun z26 => trivial))) (ite_i (bnd_i (fun s26 => bnd_i (fun z27 => trivial))) (bnd_i (fun z28 => bnd_i (fun z29 => bnd_i (fun q22 => bnd_i (fun z30 => ite_i (bnd_i (fun s27 => bnd_i (fun z31 => bnd_i (fun z32 => ⟨EA_MH_verify_0 hK, bnd_i (fun q23 => bnd_i (fun z33 => bnd_i (fun s28 => trivial)))⟩)))) (bnd_i (fun s29 => bnd_i (fun z34 => trivial)))))))))) (ite_i (ite_i (bnd_i (fun s30 => bnd_i (fun z35 => trivial))) (ite_i (bnd_i (fun s31 => bnd_i (fun z36 => trivial))) (bnd_i (fun z37 => bnd_i (fun z38 => bnd_i (fun q24 => bnd_i (fun z39 => ite_i (bnd_i (fun s32 => bnd_i (fun z40 => bnd_i (fun z41 => ⟨EA_MH_verify_1 hK, bnd_i (fun q25 => bnd_i (fun z42 => bnd_i (fun s33 => trivial)))⟩)))) (bnd_i (fun s34 => bnd_i (fun z43 => trivial)))))))))) (ite_i (bnd_i (fun s35 => bnd_i (fun z44 => trivial))) (ite_i (bnd_i (fun s36 => bnd_i (fun z45 => trivial))) (bnd_i (fun z46 => bnd_i (fun z47 => bnd_i (fun q26 => bnd_i (fun z48 => ite_i (bnd_i (fun s37 => bnd_i (fun z49 => bnd_i (fun z50 => ⟨EA_MH_verify_2 hK, bnd_i (fun q27 => bnd_i (fun z51 => bnd_i (fun s38 => trivial)))⟩)))) (bnd_i (fun s39 => bnd_i (fun z52 => trivial)))))))))))))))) (bnd_i (fun s21 => bnd_i (fun z21 => trivial))))
set_option maxRecDepth 100000 in
theorem callE_of (hK : KALL) (c : Nat) (v1 v2 v3 v4 v5 : Int32) (pn : Nat) (s : Sto) : callE c v1 v2 v3 v4 v5 pn s := by
  unfold callE
  split
  · exact True.intro
  · exact True.intro
  · exact True.intro
  · exact True.intro
  · exact True.intro
  · exact True.intro
  · exact True.intro
  · exact True.intro
  · exact EA_M_keys hK
  · exact True.intro
  · exact True.intro
  · exact EA_M_seal hK
  · exact EA_M_verify hK
  · exact True.intro
  · exact EA_M_sign hK
  · exact EA_M_open hK
theorem runE_of (hK : KALL) (xs : Nat → Int32) : ∀ (n i : Nat) (s : Sto), runE xs n i s
  | 0, _, _ => True.intro
  | n + 1, i, s => by
    rw [runE]
    intro z pn _ _ _ _
    exact ⟨callE_of hK _ _ _ _ _ _ _ _, runE_of hK xs n _ _⟩
theorem EALL_of (hK : KALL) : EALL := fun xs => runE_of hK xs 512 0 Z0
/-- NOT the row itself: the row under the four sentences about SHAKE (KALL), of which no proof is known -/
theorem p10_kall (hK : KALL) : Claimed_1_1 ∧ Claimed_1_2 := p10_if (EALL_of hK)
