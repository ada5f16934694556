set_option linter.all false
def M_MH_verify_2 (k : Nat) : Prop := (227 ≤ k ∧ k < 291) ∨ (318 ≤ k ∧ k < 326) ∨ (335 ≤ k ∧ k < 342) ∨ (343 ≤ k ∧ k < 350) ∨ (351 ≤ k ∧ k < 359) ∨ (360 ≤ k ∧ k < 368) ∨ k = 172 ∨ k = 225 ∨ k = 368 ∨ k = 369 ∨ k = 370 ∨ k = 373 ∨ k = 375 ∨ k = 376 ∨ k = 377 ∨ k = 378 ∨ (0 : Nat) = 1
noncomputable def F_MH_verify_2_L7 (pb : Nat) (i22 : Nat) (kk : Nat → Int32 → Nat → Sto → Int32 × Sto) : Nat → Nat → Int32 → Nat → Sto → Int32 × Sto
  | 0, i28, z37, az22, s42 => kk (i22 + 1) z37 az22 s42
  | n28 + 1, i28, z37, az22, s42 => bnd ((s42.1 225 27).toNatClampNeg) fun z38 => bnd (F_M_unpack pb 16384 az22 20 s42) fun q26 => bnd (F_MH_minus (nI 524288) (q26.1) q26.2) fun q27 => bnd (sI q27.2 ((335 + i22)) i28 (q27.1)) fun s43 => bnd (F_MH_norm (s43.1 ((335 + i22)) i28) s43) fun q28 => bnd ((q28.2.1 225 27).toNatClampNeg) fun z39 => bnd ((q28.2.1 225 29).toNatClampNeg) fun z40 => if (nI 524168) ≤ (q28.1) then bnd ((z37 &&& (nI 0))) fun z41 => F_MH_verify_2_L7 pb i22 kk n28 (i28 + 1) z41 (az22 + 20) q28.2 else bnd ((z37 &&& (nI 1))) fun z42 => F_MH_verify_2_L7 pb i22 kk n28 (i28 + 1) z42 (az22 + 20) q28.2
noncomputable def E_MH_verify_2_L7 (pb : Nat) (i22 : Nat) (ke : Nat → Int32 → Nat → Sto → Prop) : Nat → Nat → Int32 → Nat → Sto → Prop
  | 0, i28, z37, az22, s42 => ke (i22 + 1) z37 az22 s42
  | n28 + 1, i28, z37, az22, s42 => bnd ((s42.1 225 27).toNatClampNeg) fun z38 => bnd (F_M_unpack pb 16384 az22 20 s42) fun q26 => bnd (F_MH_minus (nI 524288) (q26.1) q26.2) fun q27 => bnd (sI q27.2 ((335 + i22)) i28 (q27.1)) fun s43 => bnd (F_MH_norm (s43.1 ((335 + i22)) i28) s43) fun q28 => bnd ((q28.2.1 225 27).toNatClampNeg) fun z39 => bnd ((q28.2.1 225 29).toNatClampNeg) fun z40 => if (nI 524168) ≤ (q28.1) then bnd ((z37 &&& (nI 0))) fun z41 => E_MH_verify_2_L7 pb i22 ke n28 (i28 + 1) z41 (az22 + 20) q28.2 else bnd ((z37 &&& (nI 1))) fun z42 => E_MH_verify_2_L7 pb i22 ke n28 (i28 + 1) z42 (az22 + 20) q28.2
noncomputable def F_MH_verify_2_L6 (i24 : Nat) (kk : Nat → Sto → Int32 × Sto) : Nat → Nat → Sto → Int32 × Sto
  | 0, i27, s38 => kk (i24 + 1) s38
  | n27 + 1, i27, s38 => bnd (F_MH_minus (s38.1 ((351 + i24)) i27) (s38.1 369 i27) s38) fun q24 => bnd (sI q24.2 ((351 + i24)) i27 (q24.1)) fun s39 => F_MH_verify_2_L6 i24 kk n27 (i27 + 1) s39
noncomputable def F_MH_verify_2_L5 (pp : Nat) (i24 : Nat) (kk : Nat → Sto → Int32 × Sto) : Nat → Nat → Sto → Int32 × Sto
  | 0, i26, s36 => bnd (F_MH_turned_2 (318 + i24) 369 s36) fun s37 => F_MH_verify_2_L6 i24 (kk) 256 0 s37
  | n26 + 1, i26, s36 => bnd (F_M_unpack pp 2592 ((256 + (2560 * i24)) + (10 * i26)) 10 s36) fun q25 => bnd (sI q25.2 ((318 + i24)) i26 ((q25.1) <<< ((nI 13) &&& 31))) fun s40 => F_MH_verify_2_L5 pp i24 kk n26 (i26 + 1) s40
noncomputable def F_MH_verify_2_L4 : Nat → Nat → Sto → Int32 × Sto
  | 0, i25, s34 => bnd ((s34.1 225 30).toNatClampNeg) fun z32 => (nI 1, s34)
  | n25 + 1, i25, s34 => bnd ((s34.1 225 30).toNatClampNeg) fun z33 => if (s34.1 377 i25) = (s34.1 376 i25) then F_MH_verify_2_L4  n25 (i25 + 1) s34 else (nI 0, s34)
noncomputable def F_MH_verify_2_L3 (pp : Nat) : Nat → Nat → Sto → Int32 × Sto
  | 0, i24, s32 => bnd ((s32.1 225 24).toNatClampNeg) fun z31 => bnd (F_MH_marked_2 (nI 1) 377 s32) fun s33 => F_MH_verify_2_L4 64 0 s33
  | n24 + 1, i24, s32 => bnd ((s32.1 225 24).toNatClampNeg) fun z34 => bnd (F_MH_rowBy_2 i24 (351 + i24) s32) fun s35 => F_MH_verify_2_L5 pp i24 (F_MH_verify_2_L3 pp n24) 256 0 s35
noncomputable def F_MH_verify_2_L2 (pp : Nat) : Nat → Nat → Sto → Int32 × Sto
  | 0, i23, s31 => bnd ((s31.1 225 25).toNatClampNeg) fun z30 => F_MH_verify_2_L3 pp 8 0 s31
  | n23 + 1, i23, s31 => bnd ((s31.1 225 25).toNatClampNeg) fun z35 => bnd (F_MR_forth_8_0 (335 + i23) (343 + i23) s31) fun s41 => F_MH_verify_2_L2 pp n23 (i23 + 1) s41
noncomputable def F_MH_verify_2_L1 (pp : Nat) (pb : Nat) (cl_ : Int32) (ed : Nat) : Nat → Nat → Int32 → Nat → Sto → Int32 × Sto
  | 0, i22, z24, az21, s23 => bnd ((s23.1 225 25).toNatClampNeg) fun z25 => if z24 = 0 then (nI 0, s23) else bnd (F_MH_readHints_2 pb (az21 / 8) s23) fun q21 => if (q21.1) = 0 then (nI 0, q21.2) else bnd (F_MS_shake  q21.2) fun s24 => bnd ((s24.1 225 23).toNatClampNeg) fun z26 => bnd (F_MH_openSize_2  s24) fun q22 => bnd (q22.1.toNatClampNeg) fun z27 => bnd (F_MS_puts pp 2592 0 2592 q22.2) fun s25 => bnd (F_MS_end  s25) fun s26 => bnd (F_MS_take 378 64 0 64 s26) fun s27 => bnd ((s27.1 225 23).toNatClampNeg) fun z28 => bnd (F_MH_markSize_2  s27) fun q23 => bnd (q23.1.toNatClampNeg) fun z29 => bnd (F_MH_message_2 378 64 0 pb 16384 4627 cl_ ed q23.2) fun s28 => bnd (F_MH_expand_2 pp 2592 s28) fun s29 => bnd (F_MH_ball_2 376 s29) fun s30 => F_MH_verify_2_L2 pp 7 0 s30
  | n22 + 1, i22, z24, az21, s23 => bnd ((s23.1 225 25).toNatClampNeg) fun z36 => F_MH_verify_2_L7 pb i22 (F_MH_verify_2_L1 pp pb cl_ ed n22) 256 0 z24 az21 s23
noncomputable def E_MH_verify_2_L1 (pp : Nat) (pb : Nat) (cl_ : Int32) (ed : Nat) : Nat → Nat → Int32 → Nat → Sto → Prop
  | 0, i22, z24, az21, s23 => bnd ((s23.1 225 25).toNatClampNeg) fun z25 => if z24 = 0 then True else bnd (F_MH_readHints_2 pb (az21 / 8) s23) fun q21 => if (q21.1) = 0 then True else bnd (F_MS_shake  q21.2) fun s24 => bnd ((s24.1 225 23).toNatClampNeg) fun z26 => bnd (F_MH_openSize_2  s24) fun q22 => bnd (q22.1.toNatClampNeg) fun z27 => bnd (F_MS_puts pp 2592 0 2592 q22.2) fun s25 => bnd (F_MS_end  s25) fun s26 => bnd (F_MS_take 378 64 0 64 s26) fun s27 => bnd ((s27.1 225 23).toNatClampNeg) fun z28 => bnd (F_MH_markSize_2  s27) fun q23 => bnd (q23.1.toNatClampNeg) fun z29 => bnd (F_MH_message_2 378 64 0 pb 16384 4627 cl_ ed q23.2) fun s28 => (E_MH_expand_2 pp 2592 s28) ∧ (bnd (F_MH_expand_2 pp 2592 s28) fun s29 => (E_MH_ball_2 376 s29) ∧ (bnd (F_MH_ball_2 376 s29) fun s30 => True))
  | n22 + 1, i22, z24, az21, s23 => bnd ((s23.1 225 25).toNatClampNeg) fun z36 => E_MH_verify_2_L7 pb i22 (E_MH_verify_2_L1 pp pb cl_ ed n22) 256 0 z24 az21 s23
noncomputable def F_MH_verify_2_L0 (pp : Nat) (pb : Nat) (cl_ : Int32) (ed : Nat) : Nat → Nat → Sto → Int32 × Sto
  | 0, i21, s22 => bnd ((s22.1 225 30).toNatClampNeg) fun z23 => F_MH_verify_2_L1 pp pb cl_ ed 7 0 (nI 1) 512 s22
  | n21 + 1, i21, s22 => bnd ((s22.1 225 30).toNatClampNeg) fun z43 => bnd (sB s22 376 i21 (s22.1 pb i21)) fun s44 => F_MH_verify_2_L0 pp pb cl_ ed n21 (i21 + 1) s44
noncomputable def E_MH_verify_2_L0 (pp : Nat) (pb : Nat) (cl_ : Int32) (ed : Nat) : Nat → Nat → Sto → Prop
  | 0, i21, s22 => bnd ((s22.1 225 30).toNatClampNeg) fun z23 => E_MH_verify_2_L1 pp pb cl_ ed 7 0 (nI 1) 512 s22
  | n21 + 1, i21, s22 => bnd ((s22.1 225 30).toNatClampNeg) fun z43 => bnd (sB s22 376 i21 (s22.1 pb i21)) fun s44 => E_MH_verify_2_L0 pp pb cl_ ed n21 (i21 + 1) s44
noncomputable def F_MH_verify_2 (pp : Nat) (pb : Nat) (cl_ : Int32) (ed : Nat) (s : Sto) : Int32 × Sto := bnd (F_MH_as_2  s) fun s21 => bnd ((s21.1 225 23).toNatClampNeg) fun z21 => bnd ((s21.1 225 30).toNatClampNeg) fun z22 => F_MH_verify_2_L0 pp pb cl_ ed 64 0 s21
noncomputable def E_MH_verify_2 (pp : Nat) (pb : Nat) (cl_ : Int32) (ed : Nat) (s : Sto) : Prop := bnd (F_MH_as_2  s) fun s21 => bnd ((s21.1 225 23).toNatClampNeg) fun z21 => bnd ((s21.1 225 30).toNatClampNeg) fun z22 => E_MH_verify_2_L0 pp pb cl_ ed 64 0 s21
