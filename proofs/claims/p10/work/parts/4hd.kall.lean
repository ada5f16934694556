set_option linter.all false
set_option maxRecDepth 100000 in
theorem EA_MH_expand_0_L0 (hK : KALL) {pb : Nat} {n : Nat} : ∀ (c0 : Nat) (c1 : Nat) (c2 : Sto), E_MH_expand_0_L0 pb n c0 c1 c2
  | 0, i21, s21 => by
    rw [E_MH_expand_0_L0]
    with_reducible exact bnd_i (fun z21 => trivial)
  | n21 + 1, i21, s21 => by
    rw [E_MH_expand_0_L0]
    with_reducible exact bnd_i (fun z22 => EA_MH_expand_0_L1 hK (fun a0 a1 => EA_MH_expand_0_L0 hK n21 a0 a1) _ _ _)
set_option maxRecDepth 100000 in
theorem EA_MH_expand_0 (hK : KALL) {pb : Nat} {n : Nat} {s : Sto} : E_MH_expand_0 pb n s := by
  unfold E_MH_expand_0
  with_reducible exact EA_MH_expand_0_L0 hK _ _ _
set_option maxRecDepth 100000 in
theorem EA_MH_expand_1_L0 (hK : KALL) {pb : Nat} {n : Nat} : ∀ (c0 : Nat) (c1 : Nat) (c2 : Sto), E_MH_expand_1_L0 pb n c0 c1 c2
  | 0, i21, s21 => by
    rw [E_MH_expand_1_L0]
    with_reducible exact bnd_i (fun z21 => trivial)
  | n21 + 1, i21, s21 => by
    rw [E_MH_expand_1_L0]
    with_reducible exact bnd_i (fun z22 => EA_MH_expand_1_L1 hK (fun a0 a1 => EA_MH_expand_1_L0 hK n21 a0 a1) _ _ _)
set_option maxRecDepth 100000 in
theorem EA_MH_expand_1 (hK : KALL) {pb : Nat} {n : Nat} {s : Sto} : E_MH_expand_1 pb n s := by
  unfold E_MH_expand_1
  with_reducible exact EA_MH_expand_1_L0 hK _ _ _
set_option maxRecDepth 100000 in
theorem EA_MH_expand_2_L0 (hK : KALL) {pb : Nat} {n : Nat} : ∀ (c0 : Nat) (c1 : Nat) (c2 : Sto), E_MH_expand_2_L0 pb n c0 c1 c2
  | 0, i21, s21 => by
    rw [E_MH_expand_2_L0]
    with_reducible exact bnd_i (fun z21 => trivial)
  | n21 + 1, i21, s21 => by
    rw [E_MH_expand_2_L0]
    with_reducible exact bnd_i (fun z22 => EA_MH_expand_2_L1 hK (fun a0 a1 => EA_MH_expand_2_L0 hK n21 a0 a1) _ _ _)
set_option maxRecDepth 100000 in
theorem EA_MH_expand_2 (hK : KALL) {pb : Nat} {n : Nat} {s : Sto} : E_MH_expand_2 pb n s := by
  unfold E_MH_expand_2
  with_reducible exact EA_MH_expand_2_L0 hK _ _ _
set_option maxRecDepth 100000 in
theorem EA_MH_keys_0_L6 (hK : KALL) {psk : Nat} {i26 : Nat} {ke : Nat → Nat → Sto → Prop} (hke : ∀ (b0 : Nat) (b1 : Nat) (b2 : Sto), ke b0 b1 b2) : ∀ (c0 : Nat) (c1 : Nat) (c2 : Nat) (c3 : Sto), E_MH_keys_0_L6 psk i26 ke c0 c1 c2 c3
  | 0, i27, az23, s39 => by
    rw [E_MH_keys_0_L6]
    with_reducible exact hke _ _ _
  | n27 + 1, i27, az23, s39 => by
    rw [E_MH_keys_0_L6]
    with_reducible exact bnd_i (fun s40 => EA_MH_keys_0_L6 hK hke _ _ _ _)
set_option maxRecDepth 100000 in
theorem EA_MH_keys_0_L5 (hK : KALL) {psk : Nat} : ∀ (c0 : Nat) (c1 : Nat) (c2 : Nat) (c3 : Sto), E_MH_keys_0_L5 psk c0 c1 c2 c3
  | 0, i26, az22, s38 => by
    rw [E_MH_keys_0_L5]
    with_reducible exact bnd_i (fun z31 => trivial)
  | n26 + 1, i26, az22, s38 => by
    rw [E_MH_keys_0_L5]
    with_reducible exact bnd_i (fun z32 => EA_MH_keys_0_L6 hK (fun a0 a1 a2 => EA_MH_keys_0_L5 hK n26 a0 a1 a2) _ _ _ _)
set_option maxRecDepth 100000 in
theorem EA_MH_keys_0_L7 (hK : KALL) {psk : Nat} {i25 : Nat} {ke : Nat → Nat → Sto → Prop} (hke : ∀ (b0 : Nat) (b1 : Nat) (b2 : Sto), ke b0 b1 b2) : ∀ (c0 : Nat) (c1 : Nat) (c2 : Nat) (c3 : Sto), E_MH_keys_0_L7 psk i25 ke c0 c1 c2 c3
  | 0, i28, az24, s41 => by
    rw [E_MH_keys_0_L7]
    with_reducible exact hke _ _ _
  | n28 + 1, i28, az24, s41 => by
    rw [E_MH_keys_0_L7]
    with_reducible exact bnd_i (fun z35 => ite_i (bnd_i (fun z36 => bnd_i (fun z37 => bnd_i (fun z38 => ite_i (bnd_i (fun z39 => bnd_i (fun s42 => EA_MH_keys_0_L7 hK hke _ _ _ _))) (bnd_i (fun z40 => bnd_i (fun s43 => EA_MH_keys_0_L7 hK hke _ _ _ _))))))) (bnd_i (fun z41 => bnd_i (fun z42 => ite_i (bnd_i (fun z43 => bnd_i (fun s44 => EA_MH_keys_0_L7 hK hke _ _ _ _))) (bnd_i (fun z44 => bnd_i (fun s45 => EA_MH_keys_0_L7 hK hke _ _ _ _)))))))
set_option maxRecDepth 100000 in
theorem EA_MH_keys_0_L4 (hK : KALL) {psk : Nat} : ∀ (c0 : Nat) (c1 : Nat) (c2 : Nat) (c3 : Sto), E_MH_keys_0_L4 psk c0 c1 c2 c3
  | 0, i25, az21, s37 => by
    rw [E_MH_keys_0_L4]
    with_reducible exact bnd_i (fun z29 => bnd_i (fun z30 => EA_MH_keys_0_L5 hK _ _ _ _))
  | n25 + 1, i25, az21, s37 => by
    rw [E_MH_keys_0_L4]
    with_reducible exact bnd_i (fun z33 => bnd_i (fun z34 => EA_MH_keys_0_L7 hK (fun a0 a1 a2 => EA_MH_keys_0_L4 hK n25 a0 a1 a2) _ _ _ _))
set_option maxRecDepth 100000 in
theorem EA_MH_keys_0_L8 (hK : KALL) {pp : Nat} {i24 : Nat} {ke : Nat → Sto → Prop} (hke : ∀ (b0 : Nat) (b1 : Sto), ke b0 b1) : ∀ (c0 : Nat) (c1 : Nat) (c2 : Sto), E_MH_keys_0_L8 pp i24 ke c0 c1 c2
  | 0, i29, s46 => by
    rw [E_MH_keys_0_L8]
    with_reducible exact hke _ _
  | n29 + 1, i29, s46 => by
    rw [E_MH_keys_0_L8]
    with_reducible exact bnd_i (fun s47 => EA_MH_keys_0_L8 hK hke _ _ _)
set_option maxRecDepth 100000 in
theorem EA_MH_keys_0_L3 (hK : KALL) {pp : Nat} {psk : Nat} : ∀ (c0 : Nat) (c1 : Nat) (c2 : Sto), E_MH_keys_0_L3 pp psk c0 c1 c2
  | 0, i24, s32 => by
    rw [E_MH_keys_0_L3]
    with_reducible exact bnd_i (fun z25 => bnd_i (fun s33 => bnd_i (fun z26 => bnd_i (fun q21 => bnd_i (fun z27 => bnd_i (fun s34 => bnd_i (fun s35 => bnd_i (fun s36 => bnd_i (fun z28 => EA_MH_keys_0_L4 hK _ _ _ _)))))))))
  | n24 + 1, i24, s32 => by
    rw [E_MH_keys_0_L3]
    with_reducible exact bnd_i (fun z45 => EA_MH_keys_0_L8 hK (fun a0 a1 => EA_MH_keys_0_L3 hK n24 a0 a1) _ _ _)
set_option maxRecDepth 100000 in
theorem EA_MH_keys_0_L2 (hK : KALL) {pp : Nat} {psk : Nat} : ∀ (c0 : Nat) (c1 : Nat) (c2 : Sto), E_MH_keys_0_L2 pp psk c0 c1 c2
  | 0, i23, s31 => by
    rw [E_MH_keys_0_L2]
    with_reducible exact EA_MH_keys_0_L3 hK _ _ _
  | n23 + 1, i23, s31 => by
    rw [E_MH_keys_0_L2]
    with_reducible exact bnd_i (fun s48 => bnd_i (fun s49 => bnd_i (fun s50 => EA_MH_keys_0_L2 hK _ _ _)))
set_option maxRecDepth 100000 in
theorem EA_MH_keys_0_L9 (hK : KALL) {i22 : Nat} {ke : Nat → Sto → Prop} (hke : ∀ (b0 : Nat) (b1 : Sto), ke b0 b1) : ∀ (c0 : Nat) (c1 : Nat) (c2 : Sto), E_MH_keys_0_L9 i22 ke c0 c1 c2
  | 0, i30, s53 => by
    rw [E_MH_keys_0_L9]
    with_reducible exact hke _ _
  | n30 + 1, i30, s53 => by
    rw [E_MH_keys_0_L9]
    with_reducible exact bnd_i (fun z48 => bnd_i (fun z49 => ite_i (bnd_i (fun s54 => bnd_i (fun s55 => EA_MH_keys_0_L9 hK hke _ _ _))) (bnd_i (fun z50 => bnd_i (fun s56 => bnd_i (fun s57 => EA_MH_keys_0_L9 hK hke _ _ _))))))
set_option maxRecDepth 100000 in
theorem EA_MH_keys_0_L1 (hK : KALL) {pp : Nat} {psk : Nat} : ∀ (c0 : Nat) (c1 : Nat) (c2 : Sto), E_MH_keys_0_L1 pp psk c0 c1 c2
  | 0, i22, s30 => by
    rw [E_MH_keys_0_L1]
    with_reducible exact bnd_i (fun z24 => EA_MH_keys_0_L2 hK _ _ _)
  | n22 + 1, i22, s30 => by
    rw [E_MH_keys_0_L1]
    have hq0 : (300 + i22) ≠ 172 := by omega
    with_reducible exact bnd_i (fun z46 => bnd_i (fun z47 => ⟨EA_MH_small_0 hK hq0, bnd_i (fun s51 => bnd_i (fun s52 => EA_MH_keys_0_L9 hK (fun a0 a1 => EA_MH_keys_0_L1 hK n22 a0 a1) _ _ _))⟩))
set_option maxRecDepth 100000 in
theorem EA_MH_keys_0_L0 (hK : KALL) {pp : Nat} {psk : Nat} : ∀ (c0 : Nat) (c1 : Nat) (c2 : Sto), E_MH_keys_0_L0 pp psk c0 c1 c2
  | 0, i21, s29 => by
    rw [E_MH_keys_0_L0]
    with_reducible exact bnd_i (fun z23 => EA_MH_keys_0_L1 hK _ _ _)
  | n21 + 1, i21, s29 => by
    rw [E_MH_keys_0_L0]
    have hq0 : (292 + i21) ≠ 172 := by omega
    with_reducible exact bnd_i (fun z51 => ⟨EA_MH_small_0 hK hq0, bnd_i (fun s58 => bnd_i (fun s59 => EA_MH_keys_0_L0 hK _ _ _))⟩)
set_option maxRecDepth 100000 in
theorem EA_MH_keys_0 (hK : KALL) {pb : Nat} {n : Nat} {pp : Nat} {psk : Nat} {s : Sto} : E_MH_keys_0 pb n pp psk s := by
  unfold E_MH_keys_0
  with_reducible exact bnd_i (fun s21 => bnd_i (fun s22 => bnd_i (fun s23 => bnd_i (fun z21 => bnd_i (fun s24 => bnd_i (fun z22 => bnd_i (fun s25 => bnd_i (fun s26 => bnd_i (fun s27 => ⟨EA_MH_expand_0 hK, bnd_i (fun s28 => EA_MH_keys_0_L0 hK _ _ _)⟩)))))))))
set_option maxRecDepth 100000 in
theorem EA_MH_keys_1_L6 (hK : KALL) {psk : Nat} {i26 : Nat} {ke : Nat → Nat → Sto → Prop} (hke : ∀ (b0 : Nat) (b1 : Nat) (b2 : Sto), ke b0 b1 b2) : ∀ (c0 : Nat) (c1 : Nat) (c2 : Nat) (c3 : Sto), E_MH_keys_1_L6 psk i26 ke c0 c1 c2 c3
  | 0, i27, az23, s39 => by
    rw [E_MH_keys_1_L6]
    with_reducible exact hke _ _ _
  | n27 + 1, i27, az23, s39 => by
    rw [E_MH_keys_1_L6]
    with_reducible exact bnd_i (fun s40 => EA_MH_keys_1_L6 hK hke _ _ _ _)
set_option maxRecDepth 100000 in
theorem EA_MH_keys_1_L5 (hK : KALL) {psk : Nat} : ∀ (c0 : Nat) (c1 : Nat) (c2 : Nat) (c3 : Sto), E_MH_keys_1_L5 psk c0 c1 c2 c3
  | 0, i26, az22, s38 => by
    rw [E_MH_keys_1_L5]
    with_reducible exact bnd_i (fun z31 => trivial)
  | n26 + 1, i26, az22, s38 => by
    rw [E_MH_keys_1_L5]
    with_reducible exact bnd_i (fun z32 => EA_MH_keys_1_L6 hK (fun a0 a1 a2 => EA_MH_keys_1_L5 hK n26 a0 a1 a2) _ _ _ _)
set_option maxRecDepth 100000 in
theorem EA_MH_keys_1_L7 (hK : KALL) {psk : Nat} {i25 : Nat} {ke : Nat → Nat → Sto → Prop} (hke : ∀ (b0 : Nat) (b1 : Nat) (b2 : Sto), ke b0 b1 b2) : ∀ (c0 : Nat) (c1 : Nat) (c2 : Nat) (c3 : Sto), E_MH_keys_1_L7 psk i25 ke c0 c1 c2 c3
  | 0, i28, az24, s41 => by
    rw [E_MH_keys_1_L7]
    with_reducible exact hke _ _ _
  | n28 + 1, i28, az24, s41 => by
    rw [E_MH_keys_1_L7]
    with_reducible exact bnd_i (fun z35 => ite_i (bnd_i (fun z36 => bnd_i (fun z37 => bnd_i (fun z38 => ite_i (bnd_i (fun z39 => bnd_i (fun s42 => EA_MH_keys_1_L7 hK hke _ _ _ _))) (bnd_i (fun z40 => bnd_i (fun s43 => EA_MH_keys_1_L7 hK hke _ _ _ _))))))) (bnd_i (fun z41 => bnd_i (fun z42 => ite_i (bnd_i (fun z43 => bnd_i (fun s44 => EA_MH_keys_1_L7 hK hke _ _ _ _))) (bnd_i (fun z44 => bnd_i (fun s45 => EA_MH_keys_1_L7 hK hke _ _ _ _)))))))
set_option maxRecDepth 100000 in
theorem EA_MH_keys_1_L4 (hK : KALL) {psk : Nat} : ∀ (c0 : Nat) (c1 : Nat) (c2 : Nat) (c3 : Sto), E_MH_keys_1_L4 psk c0 c1 c2 c3
  | 0, i25, az21, s37 => by
    rw [E_MH_keys_1_L4]
    with_reducible exact bnd_i (fun z29 => bnd_i (fun z30 => EA_MH_keys_1_L5 hK _ _ _ _))
  | n25 + 1, i25, az21, s37 => by
    rw [E_MH_keys_1_L4]
    with_reducible exact bnd_i (fun z33 => bnd_i (fun z34 => EA_MH_keys_1_L7 hK (fun a0 a1 a2 => EA_MH_keys_1_L4 hK n25 a0 a1 a2) _ _ _ _))
set_option maxRecDepth 100000 in
theorem EA_MH_keys_1_L8 (hK : KALL) {pp : Nat} {i24 : Nat} {ke : Nat → Sto → Prop} (hke : ∀ (b0 : Nat) (b1 : Sto), ke b0 b1) : ∀ (c0 : Nat) (c1 : Nat) (c2 : Sto), E_MH_keys_1_L8 pp i24 ke c0 c1 c2
  | 0, i29, s46 => by
    rw [E_MH_keys_1_L8]
    with_reducible exact hke _ _
  | n29 + 1, i29, s46 => by
    rw [E_MH_keys_1_L8]
    with_reducible exact bnd_i (fun s47 => EA_MH_keys_1_L8 hK hke _ _ _)
set_option maxRecDepth 100000 in
theorem EA_MH_keys_1_L3 (hK : KALL) {pp : Nat} {psk : Nat} : ∀ (c0 : Nat) (c1 : Nat) (c2 : Sto), E_MH_keys_1_L3 pp psk c0 c1 c2
  | 0, i24, s32 => by
    rw [E_MH_keys_1_L3]
    with_reducible exact bnd_i (fun z25 => bnd_i (fun s33 => bnd_i (fun z26 => bnd_i (fun q21 => bnd_i (fun z27 => bnd_i (fun s34 => bnd_i (fun s35 => bnd_i (fun s36 => bnd_i (fun z28 => EA_MH_keys_1_L4 hK _ _ _ _)))))))))
  | n24 + 1, i24, s32 => by
    rw [E_MH_keys_1_L3]
    with_reducible exact bnd_i (fun z45 => EA_MH_keys_1_L8 hK (fun a0 a1 => EA_MH_keys_1_L3 hK n24 a0 a1) _ _ _)
set_option maxRecDepth 100000 in
theorem EA_MH_keys_1_L2 (hK : KALL) {pp : Nat} {psk : Nat} : ∀ (c0 : Nat) (c1 : Nat) (c2 : Sto), E_MH_keys_1_L2 pp psk c0 c1 c2
  | 0, i23, s31 => by
    rw [E_MH_keys_1_L2]
    with_reducible exact EA_MH_keys_1_L3 hK _ _ _
  | n23 + 1, i23, s31 => by
    rw [E_MH_keys_1_L2]
    with_reducible exact bnd_i (fun s48 => bnd_i (fun s49 => bnd_i (fun s50 => EA_MH_keys_1_L2 hK _ _ _)))
set_option maxRecDepth 100000 in
theorem EA_MH_keys_1_L9 (hK : KALL) {i22 : Nat} {ke : Nat → Sto → Prop} (hke : ∀ (b0 : Nat) (b1 : Sto), ke b0 b1) : ∀ (c0 : Nat) (c1 : Nat) (c2 : Sto), E_MH_keys_1_L9 i22 ke c0 c1 c2
  | 0, i30, s53 => by
    rw [E_MH_keys_1_L9]
    with_reducible exact hke _ _
  | n30 + 1, i30, s53 => by
    rw [E_MH_keys_1_L9]
    with_reducible exact bnd_i (fun z48 => bnd_i (fun z49 => ite_i (bnd_i (fun s54 => bnd_i (fun s55 => EA_MH_keys_1_L9 hK hke _ _ _))) (bnd_i (fun z50 => bnd_i (fun s56 => bnd_i (fun s57 => EA_MH_keys_1_L9 hK hke _ _ _))))))
set_option maxRecDepth 100000 in
theorem EA_MH_keys_1_L1 (hK : KALL) {pp : Nat} {psk : Nat} : ∀ (c0 : Nat) (c1 : Nat) (c2 : Sto), E_MH_keys_1_L1 pp psk c0 c1 c2
  | 0, i22, s30 => by
    rw [E_MH_keys_1_L1]
    with_reducible exact bnd_i (fun z24 => EA_MH_keys_1_L2 hK _ _ _)
  | n22 + 1, i22, s30 => by
    rw [E_MH_keys_1_L1]
    have hq0 : (300 + i22) ≠ 172 := by omega
    with_reducible exact bnd_i (fun z46 => bnd_i (fun z47 => ⟨EA_MH_small_1 hK hq0, bnd_i (fun s51 => bnd_i (fun s52 => EA_MH_keys_1_L9 hK (fun a0 a1 => EA_MH_keys_1_L1 hK n22 a0 a1) _ _ _))⟩))
set_option maxRecDepth 100000 in
theorem EA_MH_keys_1_L0 (hK : KALL) {pp : Nat} {psk : Nat} : ∀ (c0 : Nat) (c1 : Nat) (c2 : Sto), E_MH_keys_1_L0 pp psk c0 c1 c2
  | 0, i21, s29 => by
    rw [E_MH_keys_1_L0]
    with_reducible exact bnd_i (fun z23 => EA_MH_keys_1_L1 hK _ _ _)
  | n21 + 1, i21, s29 => by
    rw [E_MH_keys_1_L0]
    have hq0 : (292 + i21) ≠ 172 := by omega
    with_reducible exact bnd_i (fun z51 => ⟨EA_MH_small_1 hK hq0, bnd_i (fun s58 => bnd_i (fun s59 => EA_MH_keys_1_L0 hK _ _ _))⟩)
set_option maxRecDepth 100000 in
theorem EA_MH_keys_1 (hK : KALL) {pb : Nat} {n : Nat} {pp : Nat} {psk : Nat} {s : Sto} : E_MH_keys_1 pb n pp psk s := by
  unfold E_MH_keys_1
  with_reducible exact bnd_i (fun s21 => bnd_i (fun s22 => bnd_i (fun s23 => bnd_i (fun z21 => bnd_i (fun s24 => bnd_i (fun z22 => bnd_i (fun s25 => bnd_i (fun s26 => bnd_i (fun s27 => ⟨EA_MH_expand_1 hK, bnd_i (fun s28 => EA_MH_keys_1_L0 hK _ _ _)⟩)))))))))
set_option maxRecDepth 100000 in
theorem EA_MH_keys_2_L6 (hK : KALL) {psk : Nat} {i26 : Nat} {ke : Nat → Nat → Sto → Prop} (hke : ∀ (b0 : Nat) (b1 : Nat) (b2 : Sto), ke b0 b1 b2) : ∀ (c0 : Nat) (c1 : Nat) (c2 : Nat) (c3 : Sto), E_MH_keys_2_L6 psk i26 ke c0 c1 c2 c3
  | 0, i27, az23, s39 => by
    rw [E_MH_keys_2_L6]
    with_reducible exact hke _ _ _
  | n27 + 1, i27, az23, s39 => by
    rw [E_MH_keys_2_L6]
    with_reducible exact bnd_i (fun s40 => EA_MH_keys_2_L6 hK hke _ _ _ _)
set_option maxRecDepth 100000 in
theorem EA_MH_keys_2_L5 (hK : KALL) {psk : Nat} : ∀ (c0 : Nat) (c1 : Nat) (c2 : Nat) (c3 : Sto), E_MH_keys_2_L5 psk c0 c1 c2 c3
  | 0, i26, az22, s38 => by
    rw [E_MH_keys_2_L5]
    with_reducible exact bnd_i (fun z31 => trivial)
  | n26 + 1, i26, az22, s38 => by
    rw [E_MH_keys_2_L5]
    with_reducible exact bnd_i (fun z32 => EA_MH_keys_2_L6 hK (fun a0 a1 a2 => EA_MH_keys_2_L5 hK n26 a0 a1 a2) _ _ _ _)
set_option maxRecDepth 100000 in
theorem EA_MH_keys_2_L7 (hK : KALL) {psk : Nat} {i25 : Nat} {ke : Nat → Nat → Sto → Prop} (hke : ∀ (b0 : Nat) (b1 : Nat) (b2 : Sto), ke b0 b1 b2) : ∀ (c0 : Nat) (c1 : Nat) (c2 : Nat) (c3 : Sto), E_MH_keys_2_L7 psk i25 ke c0 c1 c2 c3
  | 0, i28, az24, s41 => by
    rw [E_MH_keys_2_L7]
    with_reducible exact hke _ _ _
  | n28 + 1, i28, az24, s41 => by
    rw [E_MH_keys_2_L7]
    with_reducible exact bnd_i (fun z35 => ite_i (bnd_i (fun z36 => bnd_i (fun z37 => bnd_i (fun z38 => ite_i (bnd_i (fun z39 => bnd_i (fun s42 => EA_MH_keys_2_L7 hK hke _ _ _ _))) (bnd_i (fun z40 => bnd_i (fun s43 => EA_MH_keys_2_L7 hK hke _ _ _ _))))))) (bnd_i (fun z41 => bnd_i (fun z42 => ite_i (bnd_i (fun z43 => bnd_i (fun s44 => EA_MH_keys_2_L7 hK hke _ _ _ _))) (bnd_i (fun z44 => bnd_i (fun s45 => EA_MH_keys_2_L7 hK hke _ _ _ _)))))))
set_option maxRecDepth 100000 in
theorem EA_MH_keys_2_L4 (hK : KALL) {psk : Nat} : ∀ (c0 : Nat) (c1 : Nat) (c2 : Nat) (c3 : Sto), E_MH_keys_2_L4 psk c0 c1 c2 c3
  | 0, i25, az21, s37 => by
    rw [E_MH_keys_2_L4]
    with_reducible exact bnd_i (fun z29 => bnd_i (fun z30 => EA_MH_keys_2_L5 hK _ _ _ _))
  | n25 + 1, i25, az21, s37 => by
    rw [E_MH_keys_2_L4]
    with_reducible exact bnd_i (fun z33 => bnd_i (fun z34 => EA_MH_keys_2_L7 hK (fun a0 a1 a2 => EA_MH_keys_2_L4 hK n25 a0 a1 a2) _ _ _ _))
set_option maxRecDepth 100000 in
theorem EA_MH_keys_2_L8 (hK : KALL) {pp : Nat} {i24 : Nat} {ke : Nat → Sto → Prop} (hke : ∀ (b0 : Nat) (b1 : Sto), ke b0 b1) : ∀ (c0 : Nat) (c1 : Nat) (c2 : Sto), E_MH_keys_2_L8 pp i24 ke c0 c1 c2
  | 0, i29, s46 => by
    rw [E_MH_keys_2_L8]
    with_reducible exact hke _ _
  | n29 + 1, i29, s46 => by
    rw [E_MH_keys_2_L8]
    with_reducible exact bnd_i (fun s47 => EA_MH_keys_2_L8 hK hke _ _ _)
set_option maxRecDepth 100000 in
theorem EA_MH_keys_2_L3 (hK : KALL) {pp : Nat} {psk : Nat} : ∀ (c0 : Nat) (c1 : Nat) (c2 : Sto), E_MH_keys_2_L3 pp psk c0 c1 c2
  | 0, i24, s32 => by
    rw [E_MH_keys_2_L3]
    with_reducible exact bnd_i (fun z25 => bnd_i (fun s33 => bnd_i (fun z26 => bnd_i (fun q21 => bnd_i (fun z27 => bnd_i (fun s34 => bnd_i (fun s35 => bnd_i (fun s36 => bnd_i (fun z28 => EA_MH_keys_2_L4 hK _ _ _ _)))))))))
  | n24 + 1, i24, s32 => by
    rw [E_MH_keys_2_L3]
    with_reducible exact bnd_i (fun z45 => EA_MH_keys_2_L8 hK (fun a0 a1 => EA_MH_keys_2_L3 hK n24 a0 a1) _ _ _)
set_option maxRecDepth 100000 in
theorem EA_MH_keys_2_L2 (hK : KALL) {pp : Nat} {psk : Nat} : ∀ (c0 : Nat) (c1 : Nat) (c2 : Sto), E_MH_keys_2_L2 pp psk c0 c1 c2
  | 0, i23, s31 => by
    rw [E_MH_keys_2_L2]
    with_reducible exact EA_MH_keys_2_L3 hK _ _ _
  | n23 + 1, i23, s31 => by
    rw [E_MH_keys_2_L2]
    with_reducible exact bnd_i (fun s48 => bnd_i (fun s49 => bnd_i (fun s50 => EA_MH_keys_2_L2 hK _ _ _)))
set_option maxRecDepth 100000 in
theorem EA_MH_keys_2_L9 (hK : KALL) {i22 : Nat} {ke : Nat → Sto → Prop} (hke : ∀ (b0 : Nat) (b1 : Sto), ke b0 b1) : ∀ (c0 : Nat) (c1 : Nat) (c2 : Sto), E_MH_keys_2_L9 i22 ke c0 c1 c2
  | 0, i30, s53 => by
    rw [E_MH_keys_2_L9]
    with_reducible exact hke _ _
  | n30 + 1, i30, s53 => by
    rw [E_MH_keys_2_L9]
    with_reducible exact bnd_i (fun z48 => bnd_i (fun z49 => ite_i (bnd_i (fun s54 => bnd_i (fun s55 => EA_MH_keys_2_L9 hK hke _ _ _))) (bnd_i (fun z50 => bnd_i (fun s56 => bnd_i (fun s57 => EA_MH_keys_2_L9 hK hke _ _ _))))))
set_option maxRecDepth 100000 in
theorem EA_MH_keys_2_L1 (hK : KALL) {pp : Nat} {psk : Nat} : ∀ (c0 : Nat) (c1 : Nat) (c2 : Sto), E_MH_keys_2_L1 pp psk c0 c1 c2
  | 0, i22, s30 => by
    rw [E_MH_keys_2_L1]
    with_reducible exact bnd_i (fun z24 => EA_MH_keys_2_L2 hK _ _ _)
  | n22 + 1, i22, s30 => by
    rw [E_MH_keys_2_L1]
    have hq0 : (300 + i22) ≠ 172 := by omega
    with_reducible exact bnd_i (fun z46 => bnd_i (fun z47 => ⟨EA_MH_small_2 hK hq0, bnd_i (fun s51 => bnd_i (fun s52 => EA_MH_keys_2_L9 hK (fun a0 a1 => EA_MH_keys_2_L1 hK n22 a0 a1) _ _ _))⟩))
set_option maxRecDepth 100000 in
theorem EA_MH_keys_2_L0 (hK : KALL) {pp : Nat} {psk : Nat} : ∀ (c0 : Nat) (c1 : Nat) (c2 : Sto), E_MH_keys_2_L0 pp psk c0 c1 c2
  | 0, i21, s29 => by
    rw [E_MH_keys_2_L0]
    with_reducible exact bnd_i (fun z23 => EA_MH_keys_2_L1 hK _ _ _)
  | n21 + 1, i21, s29 => by
    rw [E_MH_keys_2_L0]
    have hq0 : (292 + i21) ≠ 172 := by omega
    with_reducible exact bnd_i (fun z51 => ⟨EA_MH_small_2 hK hq0, bnd_i (fun s58 => bnd_i (fun s59 => EA_MH_keys_2_L0 hK _ _ _))⟩)
set_option maxRecDepth 100000 in
theorem EA_MH_keys_2 (hK : KALL) {pb : Nat} {n : Nat} {pp : Nat} {psk : Nat} {s : Sto} : E_MH_keys_2 pb n pp psk s := by
  unfold E_MH_keys_2
  with_reducible exact bnd_i (fun s21 => bnd_i (fun s22 => bnd_i (fun s23 => bnd_i (fun z21 => bnd_i (fun s24 => bnd_i (fun z22 => bnd_i (fun s25 => bnd_i (fun s26 => bnd_i (fun s27 => ⟨EA_MH_expand_2 hK, bnd_i (fun s28 => EA_MH_keys_2_L0 hK _ _ _)⟩)))))))))
set_option maxRecDepth 100000 in
theorem EA_MH_sign_0_L2 (hK : KALL) {pt : Nat} {i21 : Nat} {ke : Nat → Sto → Prop} (hke : ∀ (b0 : Nat) (b1 : Sto), ke b0 b1) : ∀ (c0 : Nat) (c1 : Nat) (c2 : Sto), E_MH_sign_0_L2 pt i21 ke c0 c1 c2
  | 0, i23, s34 => by
    rw [E_MH_sign_0_L2]
    with_reducible exact bnd_i (fun z23 => bnd_i (fun s35 => ⟨EA_MH_ball_0 hK, bnd_i (fun s36 => bnd_i (fun q21 => ite_i (hke _ _) (bnd_i (fun s37 => trivial))))⟩))
  | n23 + 1, i23, s34 => by
    rw [E_MH_sign_0_L2]
    with_reducible exact bnd_i (fun z24 => bnd_i (fun s38 => EA_MH_sign_0_L2 hK hke _ _ _))
set_option maxRecDepth 100000 in
theorem EA_MH_sign_0_L1 (hK : KALL) {pt : Nat} {i21 : Nat} {ke : Nat → Sto → Prop} (hke : ∀ (b0 : Nat) (b1 : Sto), ke b0 b1) : ∀ (c0 : Nat) (c1 : Nat) (c2 : Sto), E_MH_sign_0_L1 pt i21 ke c0 c1 c2
  | 0, i22, s33 => by
    rw [E_MH_sign_0_L1]
    with_reducible exact bnd_i (fun z22 => EA_MH_sign_0_L2 hK hke _ _ _)
  | n22 + 1, i22, s33 => by
    rw [E_MH_sign_0_L1]
    with_reducible exact bnd_i (fun z25 => bnd_i (fun s39 => EA_MH_sign_0_L1 hK hke _ _ _))
set_option maxRecDepth 100000 in
theorem EA_MH_sign_0_L0 (hK : KALL) {pt : Nat} : ∀ (c0 : Nat) (c1 : Nat) (c2 : Sto), E_MH_sign_0_L0 pt c0 c1 c2
  | 0, i21, s31 => by
    rw [E_MH_sign_0_L0]
    with_reducible exact trivial
  | n21 + 1, i21, s31 => by
    rw [E_MH_sign_0_L0]
    with_reducible exact bnd_i (fun z21 => bnd_i (fun s32 => EA_MH_sign_0_L1 hK (fun a0 a1 => EA_MH_sign_0_L0 hK n21 a0 a1) _ _ _))
set_option maxRecDepth 100000 in
theorem EA_MH_sign_0 (hK : KALL) {psk : Nat} {pb : Nat} {n : Nat} {cl_ : Int32} {ed : Nat} {pt : Nat} {s : Sto} : E_MH_sign_0 psk pb n cl_ ed pt s := by
  unfold E_MH_sign_0
  with_reducible exact bnd_i (fun s21 => bnd_i (fun s22 => ⟨EA_MH_expand_0 hK, bnd_i (fun s23 => bnd_i (fun s24 => bnd_i (fun s25 => bnd_i (fun s26 => bnd_i (fun s27 => bnd_i (fun s28 => bnd_i (fun s29 => bnd_i (fun s30 => EA_MH_sign_0_L0 hK _ _ _))))))))⟩))
set_option maxRecDepth 100000 in
theorem EA_MH_sign_1_L2 (hK : KALL) {pt : Nat} {i21 : Nat} {ke : Nat → Sto → Prop} (hke : ∀ (b0 : Nat) (b1 : Sto), ke b0 b1) : ∀ (c0 : Nat) (c1 : Nat) (c2 : Sto), E_MH_sign_1_L2 pt i21 ke c0 c1 c2
  | 0, i23, s34 => by
    rw [E_MH_sign_1_L2]
    with_reducible exact bnd_i (fun z23 => bnd_i (fun s35 => ⟨EA_MH_ball_1 hK, bnd_i (fun s36 => bnd_i (fun q21 => ite_i (hke _ _) (bnd_i (fun s37 => trivial))))⟩))
  | n23 + 1, i23, s34 => by
    rw [E_MH_sign_1_L2]
    with_reducible exact bnd_i (fun z24 => bnd_i (fun s38 => EA_MH_sign_1_L2 hK hke _ _ _))
set_option maxRecDepth 100000 in
theorem EA_MH_sign_1_L1 (hK : KALL) {pt : Nat} {i21 : Nat} {ke : Nat → Sto → Prop} (hke : ∀ (b0 : Nat) (b1 : Sto), ke b0 b1) : ∀ (c0 : Nat) (c1 : Nat) (c2 : Sto), E_MH_sign_1_L1 pt i21 ke c0 c1 c2
  | 0, i22, s33 => by
    rw [E_MH_sign_1_L1]
    with_reducible exact bnd_i (fun z22 => EA_MH_sign_1_L2 hK hke _ _ _)
  | n22 + 1, i22, s33 => by
    rw [E_MH_sign_1_L1]
    with_reducible exact bnd_i (fun z25 => bnd_i (fun s39 => EA_MH_sign_1_L1 hK hke _ _ _))
set_option maxRecDepth 100000 in
theorem EA_MH_sign_1_L0 (hK : KALL) {pt : Nat} : ∀ (c0 : Nat) (c1 : Nat) (c2 : Sto), E_MH_sign_1_L0 pt c0 c1 c2
  | 0, i21, s31 => by
    rw [E_MH_sign_1_L0]
    with_reducible exact trivial
  | n21 + 1, i21, s31 => by
    rw [E_MH_sign_1_L0]
    with_reducible exact bnd_i (fun z21 => bnd_i (fun s32 => EA_MH_sign_1_L1 hK (fun a0 a1 => EA_MH_sign_1_L0 hK n21 a0 a1) _ _ _))
set_option maxRecDepth 100000 in
theorem EA_MH_sign_1 (hK : KALL) {psk : Nat} {pb : Nat} {n : Nat} {cl_ : Int32} {ed : Nat} {pt : Nat} {s : Sto} : E_MH_sign_1 psk pb n cl_ ed pt s := by
  unfold E_MH_sign_1
  with_reducible exact bnd_i (fun s21 => bnd_i (fun s22 => ⟨EA_MH_expand_1 hK, bnd_i (fun s23 => bnd_i (fun s24 => bnd_i (fun s25 => bnd_i (fun s26 => bnd_i (fun s27 => bnd_i (fun s28 => bnd_i (fun s29 => bnd_i (fun s30 => EA_MH_sign_1_L0 hK _ _ _))))))))⟩))
set_option maxRecDepth 100000 in
theorem EA_MH_sign_2_L2 (hK : KALL) {pt : Nat} {i21 : Nat} {ke : Nat → Sto → Prop} (hke : ∀ (b0 : Nat) (b1 : Sto), ke b0 b1) : ∀ (c0 : Nat) (c1 : Nat) (c2 : Sto), E_MH_sign_2_L2 pt i21 ke c0 c1 c2
  | 0, i23, s34 => by
    rw [E_MH_sign_2_L2]
    with_reducible exact bnd_i (fun z23 => bnd_i (fun s35 => ⟨EA_MH_ball_2 hK, bnd_i (fun s36 => bnd_i (fun q21 => ite_i (hke _ _) (bnd_i (fun s37 => trivial))))⟩))
  | n23 + 1, i23, s34 => by
    rw [E_MH_sign_2_L2]
    with_reducible exact bnd_i (fun z24 => bnd_i (fun s38 => EA_MH_sign_2_L2 hK hke _ _ _))
set_option maxRecDepth 100000 in
theorem EA_MH_sign_2_L1 (hK : KALL) {pt : Nat} {i21 : Nat} {ke : Nat → Sto → Prop} (hke : ∀ (b0 : Nat) (b1 : Sto), ke b0 b1) : ∀ (c0 : Nat) (c1 : Nat) (c2 : Sto), E_MH_sign_2_L1 pt i21 ke c0 c1 c2
  | 0, i22, s33 => by
    rw [E_MH_sign_2_L1]
    with_reducible exact bnd_i (fun z22 => EA_MH_sign_2_L2 hK hke _ _ _)
  | n22 + 1, i22, s33 => by
    rw [E_MH_sign_2_L1]
    with_reducible exact bnd_i (fun z25 => bnd_i (fun s39 => EA_MH_sign_2_L1 hK hke _ _ _))
set_option maxRecDepth 100000 in
theorem EA_MH_sign_2_L0 (hK : KALL) {pt : Nat} : ∀ (c0 : Nat) (c1 : Nat) (c2 : Sto), E_MH_sign_2_L0 pt c0 c1 c2
  | 0, i21, s31 => by
    rw [E_MH_sign_2_L0]
    with_reducible exact trivial
  | n21 + 1, i21, s31 => by
    rw [E_MH_sign_2_L0]
    with_reducible exact bnd_i (fun z21 => bnd_i (fun s32 => EA_MH_sign_2_L1 hK (fun a0 a1 => EA_MH_sign_2_L0 hK n21 a0 a1) _ _ _))
set_option maxRecDepth 100000 in
theorem EA_MH_sign_2 (hK : KALL) {psk : Nat} {pb : Nat} {n : Nat} {cl_ : Int32} {ed : Nat} {pt : Nat} {s : Sto} : E_MH_sign_2 psk pb n cl_ ed pt s := by
  unfold E_MH_sign_2
  with_reducible exact bnd_i (fun s21 => bnd_i (fun s22 => ⟨EA_MH_expand_2 hK, bnd_i (fun s23 => bnd_i (fun s24 => bnd_i (fun s25 => bnd_i (fun s26 => bnd_i (fun s27 => bnd_i (fun s28 => bnd_i (fun s29 => bnd_i (fun s30 => EA_MH_sign_2_L0 hK _ _ _))))))))⟩))
set_option maxRecDepth 100000 in
theorem EA_MH_verify_0_L7 (hK : KALL) {pb : Nat} {i22 : Nat} {ke : Nat → Int32 → Nat → Sto → Prop} (hke : ∀ (b0 : Nat) (b1 : Int32) (b2 : Nat) (b3 : Sto), ke b0 b1 b2 b3) : ∀ (c0 : Nat) (c1 : Nat) (c2 : Int32) (c3 : Nat) (c4 : Sto), E_MH_verify_0_L7 pb i22 ke c0 c1 c2 c3 c4
  | 0, i28, z37, az22, s42 => by
    rw [E_MH_verify_0_L7]
    with_reducible exact hke _ _ _ _
  | n28 + 1, i28, z37, az22, s42 => by
    rw [E_MH_verify_0_L7]
    with_reducible exact bnd_i (fun z38 => bnd_i (fun q26 => bnd_i (fun q27 => bnd_i (fun s43 => bnd_i (fun q28 => bnd_i (fun z39 => bnd_i (fun z40 => ite_i (bnd_i (fun z41 => EA_MH_verify_0_L7 hK hke _ _ _ _ _)) (bnd_i (fun z42 => EA_MH_verify_0_L7 hK hke _ _ _ _ _)))))))))
set_option maxRecDepth 100000 in
theorem EA_MH_verify_0_L1 (hK : KALL) {pp : Nat} {pb : Nat} {cl_ : Int32} {ed : Nat} : ∀ (c0 : Nat) (c1 : Nat) (c2 : Int32) (c3 : Nat) (c4 : Sto), E_MH_verify_0_L1 pp pb cl_ ed c0 c1 c2 c3 c4
  | 0, i22, z24, az21, s23 => by
    rw [E_MH_verify_0_L1]
    with_reducible exact bnd_i (fun z25 => ite_i (trivial) (bnd_i (fun q21 => ite_i (trivial) (bnd_i (fun s24 => bnd_i (fun z26 => bnd_i (fun q22 => bnd_i (fun z27 => bnd_i (fun s25 => bnd_i (fun s26 => bnd_i (fun s27 => bnd_i (fun z28 => bnd_i (fun q23 => bnd_i (fun z29 => bnd_i (fun s28 => ⟨EA_MH_expand_0 hK, bnd_i (fun s29 => ⟨EA_MH_ball_0 hK, bnd_i (fun s30 => trivial)⟩)⟩)))))))))))))))
  | n22 + 1, i22, z24, az21, s23 => by
    rw [E_MH_verify_0_L1]
    with_reducible exact bnd_i (fun z36 => EA_MH_verify_0_L7 hK (fun a0 a1 a2 a3 => EA_MH_verify_0_L1 hK n22 a0 a1 a2 a3) _ _ _ _ _)
set_option maxRecDepth 100000 in
theorem EA_MH_verify_0_L0 (hK : KALL) {pp : Nat} {pb : Nat} {cl_ : Int32} {ed : Nat} : ∀ (c0 : Nat) (c1 : Nat) (c2 : Sto), E_MH_verify_0_L0 pp pb cl_ ed c0 c1 c2
  | 0, i21, s22 => by
    rw [E_MH_verify_0_L0]
    with_reducible exact bnd_i (fun z23 => EA_MH_verify_0_L1 hK _ _ _ _ _)
  | n21 + 1, i21, s22 => by
    rw [E_MH_verify_0_L0]
    with_reducible exact bnd_i (fun z43 => bnd_i (fun s44 => EA_MH_verify_0_L0 hK _ _ _))
set_option maxRecDepth 100000 in
theorem EA_MH_verify_0 (hK : KALL) {pp : Nat} {pb : Nat} {cl_ : Int32} {ed : Nat} {s : Sto} : E_MH_verify_0 pp pb cl_ ed s := by
  unfold E_MH_verify_0
  with_reducible exact bnd_i (fun s21 => bnd_i (fun z21 => bnd_i (fun z22 => EA_MH_verify_0_L0 hK _ _ _)))
set_option maxRecDepth 100000 in
theorem EA_MH_verify_1_L7 (hK : KALL) {pb : Nat} {i22 : Nat} {ke : Nat → Int32 → Nat → Sto → Prop} (hke : ∀ (b0 : Nat) (b1 : Int32) (b2 : Nat) (b3 : Sto), ke b0 b1 b2 b3) : ∀ (c0 : Nat) (c1 : Nat) (c2 : Int32) (c3 : Nat) (c4 : Sto), E_MH_verify_1_L7 pb i22 ke c0 c1 c2 c3 c4
  | 0, i28, z37, az22, s42 => by
    rw [E_MH_verify_1_L7]
    with_reducible exact hke _ _ _ _
  | n28 + 1, i28, z37, az22, s42 => by
    rw [E_MH_verify_1_L7]
    with_reducible exact bnd_i (fun z38 => bnd_i (fun q26 => bnd_i (fun q27 => bnd_i (fun s43 => bnd_i (fun q28 => bnd_i (fun z39 => bnd_i (fun z40 => ite_i (bnd_i (fun z41 => EA_MH_verify_1_L7 hK hke _ _ _ _ _)) (bnd_i (fun z42 => EA_MH_verify_1_L7 hK hke _ _ _ _ _)))))))))
set_option maxRecDepth 100000 in
theorem EA_MH_verify_1_L1 (hK : KALL) {pp : Nat} {pb : Nat} {cl_ : Int32} {ed : Nat} : ∀ (c0 : Nat) (c1 : Nat) (c2 : Int32) (c3 : Nat) (c4 : Sto), E_MH_verify_1_L1 pp pb cl_ ed c0 c1 c2 c3 c4
  | 0, i22, z24, az21, s23 => by
    rw [E_MH_verify_1_L1]
    with_reducible exact bnd_i (fun z25 => ite_i (trivial) (bnd_i (fun q21 => ite_i (trivial) (bnd_i (fun s24 => bnd_i (fun z26 => bnd_i (fun q22 => bnd_i (fun z27 => bnd_i (fun s25 => bnd_i (fun s26 => bnd_i (fun s27 => bnd_i (fun z28 => bnd_i (fun q23 => bnd_i (fun z29 => bnd_i (fun s28 => ⟨EA_MH_expand_1 hK, bnd_i (fun s29 => ⟨EA_MH_ball_1 hK, bnd_i (fun s30 => trivial)⟩)⟩)))))))))))))))
  | n22 + 1, i22, z24, az21, s23 => by
    rw [E_MH_verify_1_L1]
    with_reducible exact bnd_i (fun z36 => EA_MH_verify_1_L7 hK (fun a0 a1 a2 a3 => EA_MH_verify_1_L1 hK n22 a0 a1 a2 a3) _ _ _ _ _)
set_option maxRecDepth 100000 in
theorem EA_MH_verify_1_L0 (hK : KALL) {pp : Nat} {pb : Nat} {cl_ : Int32} {ed : Nat} : ∀ (c0 : Nat) (c1 : Nat) (c2 : Sto), E_MH_verify_1_L0 pp pb cl_ ed c0 c1 c2
  | 0, i21, s22 => by
    rw [E_MH_verify_1_L0]
    with_reducible exact bnd_i (fun z23 => EA_MH_verify_1_L1 hK _ _ _ _ _)
  | n21 + 1, i21, s22 => by
    rw [E_MH_verify_1_L0]
    with_reducible exact bnd_i (fun z43 => bnd_i (fun s44 => EA_MH_verify_1_L0 hK _ _ _))
set_option maxRecDepth 100000 in
theorem EA_MH_verify_1 (hK : KALL) {pp : Nat} {pb : Nat} {cl_ : Int32} {ed : Nat} {s : Sto} : E_MH_verify_1 pp pb cl_ ed s := by
  unfold E_MH_verify_1
  with_reducible exact bnd_i (fun s21 => bnd_i (fun z21 => bnd_i (fun z22 => EA_MH_verify_1_L0 hK _ _ _)))
set_option maxRecDepth 100000 in
theorem EA_MH_verify_2_L7 (hK : KALL) {pb : Nat} {i22 : Nat} {ke : Nat → Int32 → Nat → Sto → Prop} (hke : ∀ (b0 : Nat) (b1 : Int32) (b2 : Nat) (b3 : Sto), ke b0 b1 b2 b3) : ∀ (c0 : Nat) (c1 : Nat) (c2 : Int32) (c3 : Nat) (c4 : Sto), E_MH_verify_2_L7 pb i22 ke c0 c1 c2 c3 c4
  | 0, i28, z37, az22, s42 => by
    rw [E_MH_verify_2_L7]
    with_reducible exact hke _ _ _ _
  | n28 + 1, i28, z37, az22, s42 => by
    rw [E_MH_verify_2_L7]
    with_reducible exact bnd_i (fun z38 => bnd_i (fun q26 => bnd_i (fun q27 => bnd_i (fun s43 => bnd_i (fun q28 => bnd_i (fun z39 => bnd_i (fun z40 => ite_i (bnd_i (fun z41 => EA_MH_verify_2_L7 hK hke _ _ _ _ _)) (bnd_i (fun z42 => EA_MH_verify_2_L7 hK hke _ _ _ _ _)))))))))
set_option maxRecDepth 100000 in
theorem EA_MH_verify_2_L1 (hK : KALL) {pp : Nat} {pb : Nat} {cl_ : Int32} {ed : Nat} : ∀ (c0 : Nat) (c1 : Nat) (c2 : Int32) (c3 : Nat) (c4 : Sto), E_MH_verify_2_L1 pp pb cl_ ed c0 c1 c2 c3 c4
  | 0, i22, z24, az21, s23 => by
    rw [E_MH_verify_2_L1]
    with_reducible exact bnd_i (fun z25 => ite_i (trivial) (bnd_i (fun q21 => ite_i (trivial) (bnd_i (fun s24 => bnd_i (fun z26 => bnd_i (fun q22 => bnd_i (fun z27 => bnd_i (fun s25 => bnd_i (fun s26 => bnd_i (fun s27 => bnd_i (fun z28 => bnd_i (fun q23 => bnd_i (fun z29 => bnd_i (fun s28 => ⟨EA_MH_expand_2 hK, bnd_i (fun s29 => ⟨EA_MH_ball_2 hK, bnd_i (fun s30 => trivial)⟩)⟩)))))))))))))))
  | n22 + 1, i22, z24, az21, s23 => by
    rw [E_MH_verify_2_L1]
    with_reducible exact bnd_i (fun z36 => EA_MH_verify_2_L7 hK (fun a0 a1 a2 a3 => EA_MH_verify_2_L1 hK n22 a0 a1 a2 a3) _ _ _ _ _)
set_option maxRecDepth 100000 in
theorem EA_MH_verify_2_L0 (hK : KALL) {pp : Nat} {pb : Nat} {cl_ : Int32} {ed : Nat} : ∀ (c0 : Nat) (c1 : Nat) (c2 : Sto), E_MH_verify_2_L0 pp pb cl_ ed c0 c1 c2
  | 0, i21, s22 => by
    rw [E_MH_verify_2_L0]
    with_reducible exact bnd_i (fun z23 => EA_MH_verify_2_L1 hK _ _ _ _ _)
  | n21 + 1, i21, s22 => by
    rw [E_MH_verify_2_L0]
    with_reducible exact bnd_i (fun z43 => bnd_i (fun s44 => EA_MH_verify_2_L0 hK _ _ _))
set_option maxRecDepth 100000 in
theorem EA_MH_verify_2 (hK : KALL) {pp : Nat} {pb : Nat} {cl_ : Int32} {ed : Nat} {s : Sto} : E_MH_verify_2 pp pb cl_ ed s := by
  unfold E_MH_verify_2
  with_reducible exact bnd_i (fun s21 => bnd_i (fun z21 => bnd_i (fun z22 => EA_MH_verify_2_L0 hK _ _ _)))
