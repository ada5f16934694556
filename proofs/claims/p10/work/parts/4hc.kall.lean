set_option linter.all false
set_option maxRecDepth 100000 in
theorem EA_ME_expand_2_L0 (hK : KALL) {pb : Nat} {n : Nat} {at_ : Nat} : ∀ (c0 : Nat) (c1 : Nat) (c2 : Sto), E_ME_expand_2_L0 pb n at_ c0 c1 c2
  | 0, i21, s21 => by
    rw [E_ME_expand_2_L0]
    with_reducible exact trivial
  | n21 + 1, i21, s21 => by
    rw [E_ME_expand_2_L0]
    with_reducible exact EA_ME_expand_2_L1 hK (fun a0 a1 => EA_ME_expand_2_L0 hK n21 a0 a1) _ _ _
set_option maxRecDepth 100000 in
theorem EA_ME_expand_2 (hK : KALL) {pb : Nat} {n : Nat} {at_ : Nat} {s : Sto} : E_ME_expand_2 pb n at_ s := by
  unfold E_ME_expand_2
  with_reducible exact EA_ME_expand_2_L0 hK _ _ _
set_option maxRecDepth 100000 in
theorem EA_ME_encrypt_0_L2 (hK : KALL) {pms : Nat} {nm : Nat} {pct : Nat} {nc : Nat} : ∀ (c0 : Nat) (c1 : Nat) (c2 : Sto), E_ME_encrypt_0_L2 pms nm pct nc c0 c1 c2
  | 0, i23, s25 => by
    rw [E_ME_encrypt_0_L2]
    with_reducible exact bnd_i (fun s26 => bnd_i (fun s27 => bnd_i (fun s28 => bnd_i (fun s29 => bnd_i (fun s30 => bnd_i (fun s31 => bnd_i (fun s32 => bnd_i (fun s33 => trivial))))))))
  | n23 + 1, i23, s25 => by
    rw [E_ME_encrypt_0_L2]
    with_reducible exact bnd_i (fun s34 => EA_ME_encrypt_0_L2 hK _ _ _)
set_option maxRecDepth 100000 in
theorem EA_ME_encrypt_0_L3 (hK : KALL) {pct : Nat} {nc : Nat} {i22 : Nat} {ke : Nat → Sto → Prop} (hke : ∀ (b0 : Nat) (b1 : Sto), ke b0 b1) : ∀ (c0 : Nat) (c1 : Nat) (c2 : Sto), E_ME_encrypt_0_L3 pct nc i22 ke c0 c1 c2
  | 0, i24, s36 => by
    rw [E_ME_encrypt_0_L3]
    with_reducible exact bnd_i (fun s37 => bnd_i (fun s38 => bnd_i (fun s39 => bnd_i (fun s40 => hke _ _))))
  | n24 + 1, i24, s36 => by
    rw [E_ME_encrypt_0_L3]
    with_reducible exact bnd_i (fun s41 => EA_ME_encrypt_0_L3 hK hke _ _ _)
set_option maxRecDepth 100000 in
theorem EA_ME_encrypt_0_L1 (hK : KALL) {pms : Nat} {nm : Nat} {pct : Nat} {nc : Nat} : ∀ (c0 : Nat) (c1 : Nat) (c2 : Sto), E_ME_encrypt_0_L1 pms nm pct nc c0 c1 c2
  | 0, i22, s23 => by
    rw [E_ME_encrypt_0_L1]
    with_reducible exact bnd_i (fun s24 => EA_ME_encrypt_0_L2 hK _ _ _)
  | n22 + 1, i22, s23 => by
    rw [E_ME_encrypt_0_L1]
    with_reducible exact bnd_i (fun s35 => EA_ME_encrypt_0_L3 hK (fun a0 a1 => EA_ME_encrypt_0_L1 hK n22 a0 a1) _ _ _)
set_option maxRecDepth 100000 in
theorem EA_ME_encrypt_0_L0 (hK : KALL) {pek : Nat} {n : Nat} {at_ : Nat} {pms : Nat} {nm : Nat} {pct : Nat} {nc : Nat} : ∀ (c0 : Nat) (c1 : Nat) (c2 : Sto), E_ME_encrypt_0_L0 pek n at_ pms nm pct nc c0 c1 c2
  | 0, i21, s22 => by
    rw [E_ME_encrypt_0_L0]
    with_reducible exact EA_ME_encrypt_0_L1 hK _ _ _
  | n21 + 1, i21, s22 => by
    rw [E_ME_encrypt_0_L0]
    with_reducible exact bnd_i (fun s42 => bnd_i (fun s43 => bnd_i (fun s44 => bnd_i (fun s45 => bnd_i (fun s46 => EA_ME_encrypt_0_L0 hK _ _ _)))))
set_option maxRecDepth 100000 in
theorem EA_ME_encrypt_0 (hK : KALL) {pek : Nat} {n : Nat} {at_ : Nat} {pms : Nat} {nm : Nat} {pct : Nat} {nc : Nat} {s : Sto} : E_ME_encrypt_0 pek n at_ pms nm pct nc s := by
  unfold E_ME_encrypt_0
  with_reducible exact ⟨EA_ME_expand_2 hK, bnd_i (fun s21 => EA_ME_encrypt_0_L0 hK _ _ _)⟩
set_option maxRecDepth 100000 in
theorem EA_ME_expand_3_L0 (hK : KALL) {pb : Nat} {n : Nat} {at_ : Nat} : ∀ (c0 : Nat) (c1 : Nat) (c2 : Sto), E_ME_expand_3_L0 pb n at_ c0 c1 c2
  | 0, i21, s21 => by
    rw [E_ME_expand_3_L0]
    with_reducible exact trivial
  | n21 + 1, i21, s21 => by
    rw [E_ME_expand_3_L0]
    with_reducible exact EA_ME_expand_3_L1 hK (fun a0 a1 => EA_ME_expand_3_L0 hK n21 a0 a1) _ _ _
set_option maxRecDepth 100000 in
theorem EA_ME_expand_3 (hK : KALL) {pb : Nat} {n : Nat} {at_ : Nat} {s : Sto} : E_ME_expand_3 pb n at_ s := by
  unfold E_ME_expand_3
  with_reducible exact EA_ME_expand_3_L0 hK _ _ _
set_option maxRecDepth 100000 in
theorem EA_ME_encrypt_1_L2 (hK : KALL) {pms : Nat} {nm : Nat} {pct : Nat} {nc : Nat} : ∀ (c0 : Nat) (c1 : Nat) (c2 : Sto), E_ME_encrypt_1_L2 pms nm pct nc c0 c1 c2
  | 0, i23, s25 => by
    rw [E_ME_encrypt_1_L2]
    with_reducible exact bnd_i (fun s26 => bnd_i (fun s27 => bnd_i (fun s28 => bnd_i (fun s29 => bnd_i (fun s30 => bnd_i (fun s31 => bnd_i (fun s32 => bnd_i (fun s33 => trivial))))))))
  | n23 + 1, i23, s25 => by
    rw [E_ME_encrypt_1_L2]
    with_reducible exact bnd_i (fun s34 => EA_ME_encrypt_1_L2 hK _ _ _)
set_option maxRecDepth 100000 in
theorem EA_ME_encrypt_1_L3 (hK : KALL) {pct : Nat} {nc : Nat} {i22 : Nat} {ke : Nat → Sto → Prop} (hke : ∀ (b0 : Nat) (b1 : Sto), ke b0 b1) : ∀ (c0 : Nat) (c1 : Nat) (c2 : Sto), E_ME_encrypt_1_L3 pct nc i22 ke c0 c1 c2
  | 0, i24, s36 => by
    rw [E_ME_encrypt_1_L3]
    with_reducible exact bnd_i (fun s37 => bnd_i (fun s38 => bnd_i (fun s39 => bnd_i (fun s40 => hke _ _))))
  | n24 + 1, i24, s36 => by
    rw [E_ME_encrypt_1_L3]
    with_reducible exact bnd_i (fun s41 => EA_ME_encrypt_1_L3 hK hke _ _ _)
set_option maxRecDepth 100000 in
theorem EA_ME_encrypt_1_L1 (hK : KALL) {pms : Nat} {nm : Nat} {pct : Nat} {nc : Nat} : ∀ (c0 : Nat) (c1 : Nat) (c2 : Sto), E_ME_encrypt_1_L1 pms nm pct nc c0 c1 c2
  | 0, i22, s23 => by
    rw [E_ME_encrypt_1_L1]
    with_reducible exact bnd_i (fun s24 => EA_ME_encrypt_1_L2 hK _ _ _)
  | n22 + 1, i22, s23 => by
    rw [E_ME_encrypt_1_L1]
    with_reducible exact bnd_i (fun s35 => EA_ME_encrypt_1_L3 hK (fun a0 a1 => EA_ME_encrypt_1_L1 hK n22 a0 a1) _ _ _)
set_option maxRecDepth 100000 in
theorem EA_ME_encrypt_1_L0 (hK : KALL) {pek : Nat} {n : Nat} {at_ : Nat} {pms : Nat} {nm : Nat} {pct : Nat} {nc : Nat} : ∀ (c0 : Nat) (c1 : Nat) (c2 : Sto), E_ME_encrypt_1_L0 pek n at_ pms nm pct nc c0 c1 c2
  | 0, i21, s22 => by
    rw [E_ME_encrypt_1_L0]
    with_reducible exact EA_ME_encrypt_1_L1 hK _ _ _
  | n21 + 1, i21, s22 => by
    rw [E_ME_encrypt_1_L0]
    with_reducible exact bnd_i (fun s42 => bnd_i (fun s43 => bnd_i (fun s44 => bnd_i (fun s45 => bnd_i (fun s46 => EA_ME_encrypt_1_L0 hK _ _ _)))))
set_option maxRecDepth 100000 in
theorem EA_ME_encrypt_1 (hK : KALL) {pek : Nat} {n : Nat} {at_ : Nat} {pms : Nat} {nm : Nat} {pct : Nat} {nc : Nat} {s : Sto} : E_ME_encrypt_1 pek n at_ pms nm pct nc s := by
  unfold E_ME_encrypt_1
  with_reducible exact ⟨EA_ME_expand_3 hK, bnd_i (fun s21 => EA_ME_encrypt_1_L0 hK _ _ _)⟩
set_option maxRecDepth 100000 in
theorem EA_ME_expand_4_L0 (hK : KALL) {pb : Nat} {n : Nat} {at_ : Nat} : ∀ (c0 : Nat) (c1 : Nat) (c2 : Sto), E_ME_expand_4_L0 pb n at_ c0 c1 c2
  | 0, i21, s21 => by
    rw [E_ME_expand_4_L0]
    with_reducible exact trivial
  | n21 + 1, i21, s21 => by
    rw [E_ME_expand_4_L0]
    with_reducible exact EA_ME_expand_4_L1 hK (fun a0 a1 => EA_ME_expand_4_L0 hK n21 a0 a1) _ _ _
set_option maxRecDepth 100000 in
theorem EA_ME_expand_4 (hK : KALL) {pb : Nat} {n : Nat} {at_ : Nat} {s : Sto} : E_ME_expand_4 pb n at_ s := by
  unfold E_ME_expand_4
  with_reducible exact EA_ME_expand_4_L0 hK _ _ _
set_option maxRecDepth 100000 in
theorem EA_ME_encrypt_2_L2 (hK : KALL) {pms : Nat} {nm : Nat} {pct : Nat} {nc : Nat} : ∀ (c0 : Nat) (c1 : Nat) (c2 : Sto), E_ME_encrypt_2_L2 pms nm pct nc c0 c1 c2
  | 0, i23, s25 => by
    rw [E_ME_encrypt_2_L2]
    with_reducible exact bnd_i (fun s26 => bnd_i (fun s27 => bnd_i (fun s28 => bnd_i (fun s29 => bnd_i (fun s30 => bnd_i (fun s31 => bnd_i (fun s32 => bnd_i (fun s33 => trivial))))))))
  | n23 + 1, i23, s25 => by
    rw [E_ME_encrypt_2_L2]
    with_reducible exact bnd_i (fun s34 => EA_ME_encrypt_2_L2 hK _ _ _)
set_option maxRecDepth 100000 in
theorem EA_ME_encrypt_2_L3 (hK : KALL) {pct : Nat} {nc : Nat} {i22 : Nat} {ke : Nat → Sto → Prop} (hke : ∀ (b0 : Nat) (b1 : Sto), ke b0 b1) : ∀ (c0 : Nat) (c1 : Nat) (c2 : Sto), E_ME_encrypt_2_L3 pct nc i22 ke c0 c1 c2
  | 0, i24, s36 => by
    rw [E_ME_encrypt_2_L3]
    with_reducible exact bnd_i (fun s37 => bnd_i (fun s38 => bnd_i (fun s39 => bnd_i (fun s40 => hke _ _))))
  | n24 + 1, i24, s36 => by
    rw [E_ME_encrypt_2_L3]
    with_reducible exact bnd_i (fun s41 => EA_ME_encrypt_2_L3 hK hke _ _ _)
set_option maxRecDepth 100000 in
theorem EA_ME_encrypt_2_L1 (hK : KALL) {pms : Nat} {nm : Nat} {pct : Nat} {nc : Nat} : ∀ (c0 : Nat) (c1 : Nat) (c2 : Sto), E_ME_encrypt_2_L1 pms nm pct nc c0 c1 c2
  | 0, i22, s23 => by
    rw [E_ME_encrypt_2_L1]
    with_reducible exact bnd_i (fun s24 => EA_ME_encrypt_2_L2 hK _ _ _)
  | n22 + 1, i22, s23 => by
    rw [E_ME_encrypt_2_L1]
    with_reducible exact bnd_i (fun s35 => EA_ME_encrypt_2_L3 hK (fun a0 a1 => EA_ME_encrypt_2_L1 hK n22 a0 a1) _ _ _)
set_option maxRecDepth 100000 in
theorem EA_ME_encrypt_2_L0 (hK : KALL) {pek : Nat} {n : Nat} {at_ : Nat} {pms : Nat} {nm : Nat} {pct : Nat} {nc : Nat} : ∀ (c0 : Nat) (c1 : Nat) (c2 : Sto), E_ME_encrypt_2_L0 pek n at_ pms nm pct nc c0 c1 c2
  | 0, i21, s22 => by
    rw [E_ME_encrypt_2_L0]
    with_reducible exact EA_ME_encrypt_2_L1 hK _ _ _
  | n21 + 1, i21, s22 => by
    rw [E_ME_encrypt_2_L0]
    with_reducible exact bnd_i (fun s42 => bnd_i (fun s43 => bnd_i (fun s44 => bnd_i (fun s45 => bnd_i (fun s46 => EA_ME_encrypt_2_L0 hK _ _ _)))))
set_option maxRecDepth 100000 in
theorem EA_ME_encrypt_2 (hK : KALL) {pek : Nat} {n : Nat} {at_ : Nat} {pms : Nat} {nm : Nat} {pct : Nat} {nc : Nat} {s : Sto} : E_ME_encrypt_2 pek n at_ pms nm pct nc s := by
  unfold E_ME_encrypt_2
  with_reducible exact ⟨EA_ME_expand_4 hK, bnd_i (fun s21 => EA_ME_encrypt_2_L0 hK _ _ _)⟩
set_option maxRecDepth 100000 in
theorem EA_ME_keys_0_L4 (hK : KALL) {psd : Nat} {pdk : Nat} : ∀ (c0 : Nat) (c1 : Nat) (c2 : Sto), E_ME_keys_0_L4 psd pdk c0 c1 c2
  | 0, i25, s32 => by
    rw [E_ME_keys_0_L4]
    with_reducible exact trivial
  | n25 + 1, i25, s32 => by
    rw [E_ME_keys_0_L4]
    with_reducible exact bnd_i (fun s33 => EA_ME_keys_0_L4 hK _ _ _)
set_option maxRecDepth 100000 in
theorem EA_ME_keys_0_L3 (hK : KALL) {psd : Nat} {pek : Nat} {pdk : Nat} : ∀ (c0 : Nat) (c1 : Nat) (c2 : Sto), E_ME_keys_0_L3 psd pek pdk c0 c1 c2
  | 0, i24, s30 => by
    rw [E_ME_keys_0_L3]
    with_reducible exact bnd_i (fun q21 => bnd_i (fun z21 => bnd_i (fun q22 => bnd_i (fun z22 => bnd_i (fun s31 => EA_ME_keys_0_L4 hK _ _ _)))))
  | n24 + 1, i24, s30 => by
    rw [E_ME_keys_0_L3]
    with_reducible exact bnd_i (fun q23 => bnd_i (fun z23 => bnd_i (fun s34 => EA_ME_keys_0_L3 hK _ _ _)))
set_option maxRecDepth 100000 in
theorem EA_ME_keys_0_L2 (hK : KALL) {psd : Nat} {pek : Nat} {pdk : Nat} : ∀ (c0 : Nat) (c1 : Nat) (c2 : Sto), E_ME_keys_0_L2 psd pek pdk c0 c1 c2
  | 0, i23, s29 => by
    rw [E_ME_keys_0_L2]
    with_reducible exact EA_ME_keys_0_L3 hK _ _ _
  | n23 + 1, i23, s29 => by
    rw [E_ME_keys_0_L2]
    with_reducible exact bnd_i (fun s35 => EA_ME_keys_0_L2 hK _ _ _)
set_option maxRecDepth 100000 in
theorem EA_ME_keys_0_L5 (hK : KALL) {pek : Nat} {pdk : Nat} {i22 : Nat} {ke : Nat → Sto → Prop} (hke : ∀ (b0 : Nat) (b1 : Sto), ke b0 b1) : ∀ (c0 : Nat) (c1 : Nat) (c2 : Sto), E_ME_keys_0_L5 pek pdk i22 ke c0 c1 c2
  | 0, i26, s36 => by
    rw [E_ME_keys_0_L5]
    with_reducible exact bnd_i (fun s37 => bnd_i (fun s38 => hke _ _))
  | n26 + 1, i26, s36 => by
    rw [E_ME_keys_0_L5]
    with_reducible exact bnd_i (fun s39 => EA_ME_keys_0_L5 hK hke _ _ _)
set_option maxRecDepth 100000 in
theorem EA_ME_keys_0_L1 (hK : KALL) {psd : Nat} {pek : Nat} {pdk : Nat} : ∀ (c0 : Nat) (c1 : Nat) (c2 : Sto), E_ME_keys_0_L1 psd pek pdk c0 c1 c2
  | 0, i22, s28 => by
    rw [E_ME_keys_0_L1]
    with_reducible exact EA_ME_keys_0_L2 hK _ _ _
  | n22 + 1, i22, s28 => by
    rw [E_ME_keys_0_L1]
    with_reducible exact EA_ME_keys_0_L5 hK (fun a0 a1 => EA_ME_keys_0_L1 hK n22 a0 a1) _ _ _
set_option maxRecDepth 100000 in
theorem EA_ME_keys_0_L0 (hK : KALL) {psd : Nat} {pek : Nat} {pdk : Nat} : ∀ (c0 : Nat) (c1 : Nat) (c2 : Sto), E_ME_keys_0_L0 psd pek pdk c0 c1 c2
  | 0, i21, s27 => by
    rw [E_ME_keys_0_L0]
    with_reducible exact EA_ME_keys_0_L1 hK _ _ _
  | n21 + 1, i21, s27 => by
    rw [E_ME_keys_0_L0]
    with_reducible exact bnd_i (fun s40 => bnd_i (fun s41 => bnd_i (fun s42 => bnd_i (fun s43 => EA_ME_keys_0_L0 hK _ _ _))))
set_option maxRecDepth 100000 in
theorem EA_ME_keys_0 (hK : KALL) {psd : Nat} {n : Nat} {pek : Nat} {pdk : Nat} {s : Sto} : E_ME_keys_0 psd n pek pdk s := by
  unfold E_ME_keys_0
  with_reducible exact bnd_i (fun s21 => bnd_i (fun s22 => bnd_i (fun s23 => bnd_i (fun s24 => bnd_i (fun s25 => ⟨EA_ME_expand_2 hK, bnd_i (fun s26 => EA_ME_keys_0_L0 hK _ _ _)⟩)))))
set_option maxRecDepth 100000 in
theorem EA_ME_keys_1_L4 (hK : KALL) {psd : Nat} {pdk : Nat} : ∀ (c0 : Nat) (c1 : Nat) (c2 : Sto), E_ME_keys_1_L4 psd pdk c0 c1 c2
  | 0, i25, s32 => by
    rw [E_ME_keys_1_L4]
    with_reducible exact trivial
  | n25 + 1, i25, s32 => by
    rw [E_ME_keys_1_L4]
    with_reducible exact bnd_i (fun s33 => EA_ME_keys_1_L4 hK _ _ _)
set_option maxRecDepth 100000 in
theorem EA_ME_keys_1_L3 (hK : KALL) {psd : Nat} {pek : Nat} {pdk : Nat} : ∀ (c0 : Nat) (c1 : Nat) (c2 : Sto), E_ME_keys_1_L3 psd pek pdk c0 c1 c2
  | 0, i24, s30 => by
    rw [E_ME_keys_1_L3]
    with_reducible exact bnd_i (fun q21 => bnd_i (fun z21 => bnd_i (fun q22 => bnd_i (fun z22 => bnd_i (fun s31 => EA_ME_keys_1_L4 hK _ _ _)))))
  | n24 + 1, i24, s30 => by
    rw [E_ME_keys_1_L3]
    with_reducible exact bnd_i (fun q23 => bnd_i (fun z23 => bnd_i (fun s34 => EA_ME_keys_1_L3 hK _ _ _)))
set_option maxRecDepth 100000 in
theorem EA_ME_keys_1_L2 (hK : KALL) {psd : Nat} {pek : Nat} {pdk : Nat} : ∀ (c0 : Nat) (c1 : Nat) (c2 : Sto), E_ME_keys_1_L2 psd pek pdk c0 c1 c2
  | 0, i23, s29 => by
    rw [E_ME_keys_1_L2]
    with_reducible exact EA_ME_keys_1_L3 hK _ _ _
  | n23 + 1, i23, s29 => by
    rw [E_ME_keys_1_L2]
    with_reducible exact bnd_i (fun s35 => EA_ME_keys_1_L2 hK _ _ _)
set_option maxRecDepth 100000 in
theorem EA_ME_keys_1_L5 (hK : KALL) {pek : Nat} {pdk : Nat} {i22 : Nat} {ke : Nat → Sto → Prop} (hke : ∀ (b0 : Nat) (b1 : Sto), ke b0 b1) : ∀ (c0 : Nat) (c1 : Nat) (c2 : Sto), E_ME_keys_1_L5 pek pdk i22 ke c0 c1 c2
  | 0, i26, s36 => by
    rw [E_ME_keys_1_L5]
    with_reducible exact bnd_i (fun s37 => bnd_i (fun s38 => hke _ _))
  | n26 + 1, i26, s36 => by
    rw [E_ME_keys_1_L5]
    with_reducible exact bnd_i (fun s39 => EA_ME_keys_1_L5 hK hke _ _ _)
set_option maxRecDepth 100000 in
theorem EA_ME_keys_1_L1 (hK : KALL) {psd : Nat} {pek : Nat} {pdk : Nat} : ∀ (c0 : Nat) (c1 : Nat) (c2 : Sto), E_ME_keys_1_L1 psd pek pdk c0 c1 c2
  | 0, i22, s28 => by
    rw [E_ME_keys_1_L1]
    with_reducible exact EA_ME_keys_1_L2 hK _ _ _
  | n22 + 1, i22, s28 => by
    rw [E_ME_keys_1_L1]
    with_reducible exact EA_ME_keys_1_L5 hK (fun a0 a1 => EA_ME_keys_1_L1 hK n22 a0 a1) _ _ _
set_option maxRecDepth 100000 in
theorem EA_ME_keys_1_L0 (hK : KALL) {psd : Nat} {pek : Nat} {pdk : Nat} : ∀ (c0 : Nat) (c1 : Nat) (c2 : Sto), E_ME_keys_1_L0 psd pek pdk c0 c1 c2
  | 0, i21, s27 => by
    rw [E_ME_keys_1_L0]
    with_reducible exact EA_ME_keys_1_L1 hK _ _ _
  | n21 + 1, i21, s27 => by
    rw [E_ME_keys_1_L0]
    with_reducible exact bnd_i (fun s40 => bnd_i (fun s41 => bnd_i (fun s42 => bnd_i (fun s43 => EA_ME_keys_1_L0 hK _ _ _))))
set_option maxRecDepth 100000 in
theorem EA_ME_keys_1 (hK : KALL) {psd : Nat} {n : Nat} {pek : Nat} {pdk : Nat} {s : Sto} : E_ME_keys_1 psd n pek pdk s := by
  unfold E_ME_keys_1
  with_reducible exact bnd_i (fun s21 => bnd_i (fun s22 => bnd_i (fun s23 => bnd_i (fun s24 => bnd_i (fun s25 => ⟨EA_ME_expand_3 hK, bnd_i (fun s26 => EA_ME_keys_1_L0 hK _ _ _)⟩)))))
set_option maxRecDepth 100000 in
theorem EA_ME_keys_2_L4 (hK : KALL) {psd : Nat} {pdk : Nat} : ∀ (c0 : Nat) (c1 : Nat) (c2 : Sto), E_ME_keys_2_L4 psd pdk c0 c1 c2
  | 0, i25, s32 => by
    rw [E_ME_keys_2_L4]
    with_reducible exact trivial
  | n25 + 1, i25, s32 => by
    rw [E_ME_keys_2_L4]
    with_reducible exact bnd_i (fun s33 => EA_ME_keys_2_L4 hK _ _ _)
set_option maxRecDepth 100000 in
theorem EA_ME_keys_2_L3 (hK : KALL) {psd : Nat} {pek : Nat} {pdk : Nat} : ∀ (c0 : Nat) (c1 : Nat) (c2 : Sto), E_ME_keys_2_L3 psd pek pdk c0 c1 c2
  | 0, i24, s30 => by
    rw [E_ME_keys_2_L3]
    with_reducible exact bnd_i (fun q21 => bnd_i (fun z21 => bnd_i (fun q22 => bnd_i (fun z22 => bnd_i (fun s31 => EA_ME_keys_2_L4 hK _ _ _)))))
  | n24 + 1, i24, s30 => by
    rw [E_ME_keys_2_L3]
    with_reducible exact bnd_i (fun q23 => bnd_i (fun z23 => bnd_i (fun s34 => EA_ME_keys_2_L3 hK _ _ _)))
set_option maxRecDepth 100000 in
theorem EA_ME_keys_2_L2 (hK : KALL) {psd : Nat} {pek : Nat} {pdk : Nat} : ∀ (c0 : Nat) (c1 : Nat) (c2 : Sto), E_ME_keys_2_L2 psd pek pdk c0 c1 c2
  | 0, i23, s29 => by
    rw [E_ME_keys_2_L2]
    with_reducible exact EA_ME_keys_2_L3 hK _ _ _
  | n23 + 1, i23, s29 => by
    rw [E_ME_keys_2_L2]
    with_reducible exact bnd_i (fun s35 => EA_ME_keys_2_L2 hK _ _ _)
set_option maxRecDepth 100000 in
theorem EA_ME_keys_2_L5 (hK : KALL) {pek : Nat} {pdk : Nat} {i22 : Nat} {ke : Nat → Sto → Prop} (hke : ∀ (b0 : Nat) (b1 : Sto), ke b0 b1) : ∀ (c0 : Nat) (c1 : Nat) (c2 : Sto), E_ME_keys_2_L5 pek pdk i22 ke c0 c1 c2
  | 0, i26, s36 => by
    rw [E_ME_keys_2_L5]
    with_reducible exact bnd_i (fun s37 => bnd_i (fun s38 => hke _ _))
  | n26 + 1, i26, s36 => by
    rw [E_ME_keys_2_L5]
    with_reducible exact bnd_i (fun s39 => EA_ME_keys_2_L5 hK hke _ _ _)
set_option maxRecDepth 100000 in
theorem EA_ME_keys_2_L1 (hK : KALL) {psd : Nat} {pek : Nat} {pdk : Nat} : ∀ (c0 : Nat) (c1 : Nat) (c2 : Sto), E_ME_keys_2_L1 psd pek pdk c0 c1 c2
  | 0, i22, s28 => by
    rw [E_ME_keys_2_L1]
    with_reducible exact EA_ME_keys_2_L2 hK _ _ _
  | n22 + 1, i22, s28 => by
    rw [E_ME_keys_2_L1]
    with_reducible exact EA_ME_keys_2_L5 hK (fun a0 a1 => EA_ME_keys_2_L1 hK n22 a0 a1) _ _ _
set_option maxRecDepth 100000 in
theorem EA_ME_keys_2_L0 (hK : KALL) {psd : Nat} {pek : Nat} {pdk : Nat} : ∀ (c0 : Nat) (c1 : Nat) (c2 : Sto), E_ME_keys_2_L0 psd pek pdk c0 c1 c2
  | 0, i21, s27 => by
    rw [E_ME_keys_2_L0]
    with_reducible exact EA_ME_keys_2_L1 hK _ _ _
  | n21 + 1, i21, s27 => by
    rw [E_ME_keys_2_L0]
    with_reducible exact bnd_i (fun s40 => bnd_i (fun s41 => bnd_i (fun s42 => bnd_i (fun s43 => EA_ME_keys_2_L0 hK _ _ _))))
set_option maxRecDepth 100000 in
theorem EA_ME_keys_2 (hK : KALL) {psd : Nat} {n : Nat} {pek : Nat} {pdk : Nat} {s : Sto} : E_ME_keys_2 psd n pek pdk s := by
  unfold E_ME_keys_2
  with_reducible exact bnd_i (fun s21 => bnd_i (fun s22 => bnd_i (fun s23 => bnd_i (fun s24 => bnd_i (fun s25 => ⟨EA_ME_expand_4 hK, bnd_i (fun s26 => EA_ME_keys_2_L0 hK _ _ _)⟩)))))
set_option maxRecDepth 100000 in
theorem EA_ME_open_0_L4 (hK : KALL) {pdk : Nat} {pct : Nat} {pt : Nat} {z22 : Int32} : ∀ (c0 : Nat) (c1 : Nat) (c2 : Sto), E_ME_open_0_L4 pdk pct pt z22 c0 c1 c2
  | 0, i25, s33 => by
    rw [E_ME_open_0_L4]
    with_reducible exact ite_i (bnd_i (fun s34 => bnd_i (fun s35 => bnd_i (fun s36 => bnd_i (fun s37 => bnd_i (fun s38 => trivial)))))) (trivial)
  | n25 + 1, i25, s33 => by
    rw [E_ME_open_0_L4]
    with_reducible exact bnd_i (fun s39 => EA_ME_open_0_L4 hK _ _ _)
set_option maxRecDepth 100000 in
theorem EA_ME_open_0_L3 (hK : KALL) {pdk : Nat} {pct : Nat} {pt : Nat} : ∀ (c0 : Nat) (c1 : Nat) (c2 : Int32) (c3 : Sto), E_ME_open_0_L3 pdk pct pt c0 c1 c2 c3
  | 0, i24, z22, s32 => by
    rw [E_ME_open_0_L3]
    with_reducible exact EA_ME_open_0_L4 hK _ _ _
  | n24 + 1, i24, z22, s32 => by
    rw [E_ME_open_0_L3]
    with_reducible exact ite_i (bnd_i (fun z24 => EA_ME_open_0_L3 hK _ _ _ _)) (bnd_i (fun z23 => EA_ME_open_0_L3 hK _ _ _ _))
set_option maxRecDepth 100000 in
theorem EA_ME_open_0_L2 (hK : KALL) {pdk : Nat} {pct : Nat} {pt : Nat} : ∀ (c0 : Nat) (c1 : Nat) (c2 : Sto), E_ME_open_0_L2 pdk pct pt c0 c1 c2
  | 0, i23, s29 => by
    rw [E_ME_open_0_L2]
    with_reducible exact bnd_i (fun s30 => ⟨EA_ME_encrypt_0 hK, bnd_i (fun s31 => EA_ME_open_0_L3 hK _ _ _ _)⟩)
  | n23 + 1, i23, s29 => by
    rw [E_ME_open_0_L2]
    with_reducible exact bnd_i (fun s40 => EA_ME_open_0_L2 hK _ _ _)
set_option maxRecDepth 100000 in
theorem EA_ME_open_0_L1 (hK : KALL) {pdk : Nat} {pct : Nat} {pt : Nat} : ∀ (c0 : Nat) (c1 : Nat) (c2 : Sto), E_ME_open_0_L1 pdk pct pt c0 c1 c2
  | 0, i22, s26 => by
    rw [E_ME_open_0_L1]
    with_reducible exact bnd_i (fun s27 => bnd_i (fun s28 => EA_ME_open_0_L2 hK _ _ _))
  | n22 + 1, i22, s26 => by
    rw [E_ME_open_0_L1]
    with_reducible exact bnd_i (fun s41 => EA_ME_open_0_L1 hK _ _ _)
set_option maxRecDepth 100000 in
theorem EA_ME_open_0_L0 (hK : KALL) {pdk : Nat} {pct : Nat} {pt : Nat} : ∀ (c0 : Nat) (c1 : Nat) (c2 : Sto), E_ME_open_0_L0 pdk pct pt c0 c1 c2
  | 0, i21, s22 => by
    rw [E_ME_open_0_L0]
    with_reducible exact bnd_i (fun s23 => bnd_i (fun s24 => bnd_i (fun s25 => EA_ME_open_0_L1 hK _ _ _)))
  | n21 + 1, i21, s22 => by
    rw [E_ME_open_0_L0]
    with_reducible exact bnd_i (fun s42 => bnd_i (fun s43 => bnd_i (fun s44 => bnd_i (fun s45 => bnd_i (fun s46 => bnd_i (fun s47 => EA_ME_open_0_L0 hK _ _ _))))))
set_option maxRecDepth 100000 in
theorem EA_ME_open_0 (hK : KALL) {pdk : Nat} {pct : Nat} {pt : Nat} {s : Sto} : E_ME_open_0 pdk pct pt s := by
  unfold E_ME_open_0
  with_reducible exact bnd_i (fun q21 => bnd_i (fun z21 => bnd_i (fun s21 => EA_ME_open_0_L0 hK _ _ _)))
set_option maxRecDepth 100000 in
theorem EA_ME_open_1_L4 (hK : KALL) {pdk : Nat} {pct : Nat} {pt : Nat} {z22 : Int32} : ∀ (c0 : Nat) (c1 : Nat) (c2 : Sto), E_ME_open_1_L4 pdk pct pt z22 c0 c1 c2
  | 0, i25, s33 => by
    rw [E_ME_open_1_L4]
    with_reducible exact ite_i (bnd_i (fun s34 => bnd_i (fun s35 => bnd_i (fun s36 => bnd_i (fun s37 => bnd_i (fun s38 => trivial)))))) (trivial)
  | n25 + 1, i25, s33 => by
    rw [E_ME_open_1_L4]
    with_reducible exact bnd_i (fun s39 => EA_ME_open_1_L4 hK _ _ _)
set_option maxRecDepth 100000 in
theorem EA_ME_open_1_L3 (hK : KALL) {pdk : Nat} {pct : Nat} {pt : Nat} : ∀ (c0 : Nat) (c1 : Nat) (c2 : Int32) (c3 : Sto), E_ME_open_1_L3 pdk pct pt c0 c1 c2 c3
  | 0, i24, z22, s32 => by
    rw [E_ME_open_1_L3]
    with_reducible exact EA_ME_open_1_L4 hK _ _ _
  | n24 + 1, i24, z22, s32 => by
    rw [E_ME_open_1_L3]
    with_reducible exact ite_i (bnd_i (fun z24 => EA_ME_open_1_L3 hK _ _ _ _)) (bnd_i (fun z23 => EA_ME_open_1_L3 hK _ _ _ _))
set_option maxRecDepth 100000 in
theorem EA_ME_open_1_L2 (hK : KALL) {pdk : Nat} {pct : Nat} {pt : Nat} : ∀ (c0 : Nat) (c1 : Nat) (c2 : Sto), E_ME_open_1_L2 pdk pct pt c0 c1 c2
  | 0, i23, s29 => by
    rw [E_ME_open_1_L2]
    with_reducible exact bnd_i (fun s30 => ⟨EA_ME_encrypt_1 hK, bnd_i (fun s31 => EA_ME_open_1_L3 hK _ _ _ _)⟩)
  | n23 + 1, i23, s29 => by
    rw [E_ME_open_1_L2]
    with_reducible exact bnd_i (fun s40 => EA_ME_open_1_L2 hK _ _ _)
set_option maxRecDepth 100000 in
theorem EA_ME_open_1_L1 (hK : KALL) {pdk : Nat} {pct : Nat} {pt : Nat} : ∀ (c0 : Nat) (c1 : Nat) (c2 : Sto), E_ME_open_1_L1 pdk pct pt c0 c1 c2
  | 0, i22, s26 => by
    rw [E_ME_open_1_L1]
    with_reducible exact bnd_i (fun s27 => bnd_i (fun s28 => EA_ME_open_1_L2 hK _ _ _))
  | n22 + 1, i22, s26 => by
    rw [E_ME_open_1_L1]
    with_reducible exact bnd_i (fun s41 => EA_ME_open_1_L1 hK _ _ _)
set_option maxRecDepth 100000 in
theorem EA_ME_open_1_L0 (hK : KALL) {pdk : Nat} {pct : Nat} {pt : Nat} : ∀ (c0 : Nat) (c1 : Nat) (c2 : Sto), E_ME_open_1_L0 pdk pct pt c0 c1 c2
  | 0, i21, s22 => by
    rw [E_ME_open_1_L0]
    with_reducible exact bnd_i (fun s23 => bnd_i (fun s24 => bnd_i (fun s25 => EA_ME_open_1_L1 hK _ _ _)))
  | n21 + 1, i21, s22 => by
    rw [E_ME_open_1_L0]
    with_reducible exact bnd_i (fun s42 => bnd_i (fun s43 => bnd_i (fun s44 => bnd_i (fun s45 => bnd_i (fun s46 => bnd_i (fun s47 => EA_ME_open_1_L0 hK _ _ _))))))
set_option maxRecDepth 100000 in
theorem EA_ME_open_1 (hK : KALL) {pdk : Nat} {pct : Nat} {pt : Nat} {s : Sto} : E_ME_open_1 pdk pct pt s := by
  unfold E_ME_open_1
  with_reducible exact bnd_i (fun q21 => bnd_i (fun z21 => bnd_i (fun s21 => EA_ME_open_1_L0 hK _ _ _)))
set_option maxRecDepth 100000 in
theorem EA_ME_open_2_L4 (hK : KALL) {pdk : Nat} {pct : Nat} {pt : Nat} {z22 : Int32} : ∀ (c0 : Nat) (c1 : Nat) (c2 : Sto), E_ME_open_2_L4 pdk pct pt z22 c0 c1 c2
  | 0, i25, s33 => by
    rw [E_ME_open_2_L4]
    with_reducible exact ite_i (bnd_i (fun s34 => bnd_i (fun s35 => bnd_i (fun s36 => bnd_i (fun s37 => bnd_i (fun s38 => trivial)))))) (trivial)
  | n25 + 1, i25, s33 => by
    rw [E_ME_open_2_L4]
    with_reducible exact bnd_i (fun s39 => EA_ME_open_2_L4 hK _ _ _)
set_option maxRecDepth 100000 in
theorem EA_ME_open_2_L3 (hK : KALL) {pdk : Nat} {pct : Nat} {pt : Nat} : ∀ (c0 : Nat) (c1 : Nat) (c2 : Int32) (c3 : Sto), E_ME_open_2_L3 pdk pct pt c0 c1 c2 c3
  | 0, i24, z22, s32 => by
    rw [E_ME_open_2_L3]
    with_reducible exact EA_ME_open_2_L4 hK _ _ _
  | n24 + 1, i24, z22, s32 => by
    rw [E_ME_open_2_L3]
    with_reducible exact ite_i (bnd_i (fun z24 => EA_ME_open_2_L3 hK _ _ _ _)) (bnd_i (fun z23 => EA_ME_open_2_L3 hK _ _ _ _))
set_option maxRecDepth 100000 in
theorem EA_ME_open_2_L2 (hK : KALL) {pdk : Nat} {pct : Nat} {pt : Nat} : ∀ (c0 : Nat) (c1 : Nat) (c2 : Sto), E_ME_open_2_L2 pdk pct pt c0 c1 c2
  | 0, i23, s29 => by
    rw [E_ME_open_2_L2]
    with_reducible exact bnd_i (fun s30 => ⟨EA_ME_encrypt_2 hK, bnd_i (fun s31 => EA_ME_open_2_L3 hK _ _ _ _)⟩)
  | n23 + 1, i23, s29 => by
    rw [E_ME_open_2_L2]
    with_reducible exact bnd_i (fun s40 => EA_ME_open_2_L2 hK _ _ _)
set_option maxRecDepth 100000 in
theorem EA_ME_open_2_L1 (hK : KALL) {pdk : Nat} {pct : Nat} {pt : Nat} : ∀ (c0 : Nat) (c1 : Nat) (c2 : Sto), E_ME_open_2_L1 pdk pct pt c0 c1 c2
  | 0, i22, s26 => by
    rw [E_ME_open_2_L1]
    with_reducible exact bnd_i (fun s27 => bnd_i (fun s28 => EA_ME_open_2_L2 hK _ _ _))
  | n22 + 1, i22, s26 => by
    rw [E_ME_open_2_L1]
    with_reducible exact bnd_i (fun s41 => EA_ME_open_2_L1 hK _ _ _)
set_option maxRecDepth 100000 in
theorem EA_ME_open_2_L0 (hK : KALL) {pdk : Nat} {pct : Nat} {pt : Nat} : ∀ (c0 : Nat) (c1 : Nat) (c2 : Sto), E_ME_open_2_L0 pdk pct pt c0 c1 c2
  | 0, i21, s22 => by
    rw [E_ME_open_2_L0]
    with_reducible exact bnd_i (fun s23 => bnd_i (fun s24 => bnd_i (fun s25 => EA_ME_open_2_L1 hK _ _ _)))
  | n21 + 1, i21, s22 => by
    rw [E_ME_open_2_L0]
    with_reducible exact bnd_i (fun s42 => bnd_i (fun s43 => bnd_i (fun s44 => bnd_i (fun s45 => bnd_i (fun s46 => bnd_i (fun s47 => EA_ME_open_2_L0 hK _ _ _))))))
set_option maxRecDepth 100000 in
theorem EA_ME_open_2 (hK : KALL) {pdk : Nat} {pct : Nat} {pt : Nat} {s : Sto} : E_ME_open_2 pdk pct pt s := by
  unfold E_ME_open_2
  with_reducible exact bnd_i (fun q21 => bnd_i (fun z21 => bnd_i (fun s21 => EA_ME_open_2_L0 hK _ _ _)))
set_option maxRecDepth 100000 in
theorem EA_ME_seal_0_L0 (hK : KALL) {pt : Nat} : ∀ (c0 : Nat) (c1 : Nat) (c2 : Sto), E_ME_seal_0_L0 pt c0 c1 c2
  | 0, i21, s24 => by
    rw [E_ME_seal_0_L0]
    with_reducible exact trivial
  | n21 + 1, i21, s24 => by
    rw [E_ME_seal_0_L0]
    with_reducible exact bnd_i (fun s25 => EA_ME_seal_0_L0 hK _ _ _)
set_option maxRecDepth 100000 in
theorem EA_ME_seal_0 (hK : KALL) {pek : Nat} {pms : Nat} {pt : Nat} {s : Sto} : E_ME_seal_0 pek pms pt s := by
  unfold E_ME_seal_0
  with_reducible exact bnd_i (fun q21 => bnd_i (fun z21 => bnd_i (fun s21 => bnd_i (fun s22 => ⟨EA_ME_encrypt_0 hK, bnd_i (fun s23 => bnd_i (fun q22 => bnd_i (fun z22 => EA_ME_seal_0_L0 hK _ _ _)))⟩))))
set_option maxRecDepth 100000 in
theorem EA_ME_seal_1_L0 (hK : KALL) {pt : Nat} : ∀ (c0 : Nat) (c1 : Nat) (c2 : Sto), E_ME_seal_1_L0 pt c0 c1 c2
  | 0, i21, s24 => by
    rw [E_ME_seal_1_L0]
    with_reducible exact trivial
  | n21 + 1, i21, s24 => by
    rw [E_ME_seal_1_L0]
    with_reducible exact bnd_i (fun s25 => EA_ME_seal_1_L0 hK _ _ _)
set_option maxRecDepth 100000 in
theorem EA_ME_seal_1 (hK : KALL) {pek : Nat} {pms : Nat} {pt : Nat} {s : Sto} : E_ME_seal_1 pek pms pt s := by
  unfold E_ME_seal_1
  with_reducible exact bnd_i (fun q21 => bnd_i (fun z21 => bnd_i (fun s21 => bnd_i (fun s22 => ⟨EA_ME_encrypt_1 hK, bnd_i (fun s23 => bnd_i (fun q22 => bnd_i (fun z22 => EA_ME_seal_1_L0 hK _ _ _)))⟩))))
set_option maxRecDepth 100000 in
theorem EA_ME_seal_2_L0 (hK : KALL) {pt : Nat} : ∀ (c0 : Nat) (c1 : Nat) (c2 : Sto), E_ME_seal_2_L0 pt c0 c1 c2
  | 0, i21, s24 => by
    rw [E_ME_seal_2_L0]
    with_reducible exact trivial
  | n21 + 1, i21, s24 => by
    rw [E_ME_seal_2_L0]
    with_reducible exact bnd_i (fun s25 => EA_ME_seal_2_L0 hK _ _ _)
set_option maxRecDepth 100000 in
theorem EA_ME_seal_2 (hK : KALL) {pek : Nat} {pms : Nat} {pt : Nat} {s : Sto} : E_ME_seal_2 pek pms pt s := by
  unfold E_ME_seal_2
  with_reducible exact bnd_i (fun q21 => bnd_i (fun z21 => bnd_i (fun s21 => bnd_i (fun s22 => ⟨EA_ME_encrypt_2 hK, bnd_i (fun s23 => bnd_i (fun q22 => bnd_i (fun z22 => EA_ME_seal_2_L0 hK _ _ _)))⟩))))
