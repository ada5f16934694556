set_option linter.all false
def M_MH_keys_2 (pp : Nat) (psk : Nat) (k : Nat) : Prop := (227 ≤ k ∧ k < 291) ∨ (292 ≤ k ∧ k < 299) ∨ (300 ≤ k ∧ k < 308) ∨ (309 ≤ k ∧ k < 317) ∨ (318 ≤ k ∧ k < 326) ∨ (343 ≤ k ∧ k < 350) ∨ k = 172 ∨ k = 225 ∨ k = 369 ∨ k = 370 ∨ k = 372 ∨ k = pp ∨ k = psk ∨ (0 : Nat) = 1
noncomputable def F_MH_keys_2_L9 (i22 : Nat) (kk : Nat → Sto → Sto) : Nat → Nat → Sto → Sto
  | 0, i30, s53 => kk (i22 + 1) s53
  | n30 + 1, i30, s53 => bnd ((((s53.1 369 i30) + (s53.1 ((300 + i22)) i30)) - ((s53.1 369 i30) + (s53.1 ((300 + i22)) i30)) / (nI 8380417) * (nI 8380417))) fun z48 => bnd ((z48 - z48 / (nI 8192) * (nI 8192))) fun z49 => if z49 ≤ (nI 4096) then bnd (sI s53 ((309 + i22)) i30 z49) fun s54 => bnd (sI s54 ((318 + i22)) i30 ((z48 - z49) / (nI 8192))) fun s55 => F_MH_keys_2_L9 i22 kk n30 (i30 + 1) s55 else bnd (z49 + Int32.ofInt (-8192)) fun z50 => bnd (sI s53 ((309 + i22)) i30 z50) fun s56 => bnd (sI s56 ((318 + i22)) i30 ((z48 - z50) / (nI 8192))) fun s57 => F_MH_keys_2_L9 i22 kk n30 (i30 + 1) s57
noncomputable def E_MH_keys_2_L9 (i22 : Nat) (ke : Nat → Sto → Prop) : Nat → Nat → Sto → Prop
  | 0, i30, s53 => ke (i22 + 1) s53
  | n30 + 1, i30, s53 => bnd ((((s53.1 369 i30) + (s53.1 ((300 + i22)) i30)) - ((s53.1 369 i30) + (s53.1 ((300 + i22)) i30)) / (nI 8380417) * (nI 8380417))) fun z48 => bnd ((z48 - z48 / (nI 8192) * (nI 8192))) fun z49 => if z49 ≤ (nI 4096) then bnd (sI s53 ((309 + i22)) i30 z49) fun s54 => bnd (sI s54 ((318 + i22)) i30 ((z48 - z49) / (nI 8192))) fun s55 => E_MH_keys_2_L9 i22 ke n30 (i30 + 1) s55 else bnd (z49 + Int32.ofInt (-8192)) fun z50 => bnd (sI s53 ((309 + i22)) i30 z50) fun s56 => bnd (sI s56 ((318 + i22)) i30 ((z48 - z50) / (nI 8192))) fun s57 => E_MH_keys_2_L9 i22 ke n30 (i30 + 1) s57
noncomputable def F_MH_keys_2_L8 (pp : Nat) (i24 : Nat) (kk : Nat → Sto → Sto) : Nat → Nat → Sto → Sto
  | 0, i29, s46 => kk (i24 + 1) s46
  | n29 + 1, i29, s46 => bnd (F_M_pack pp 2592 ((256 + (2560 * i24)) + (10 * i29)) 10 (s46.1 ((318 + i24)) i29) s46) fun s47 => F_MH_keys_2_L8 pp i24 kk n29 (i29 + 1) s47
noncomputable def E_MH_keys_2_L8 (pp : Nat) (i24 : Nat) (ke : Nat → Sto → Prop) : Nat → Nat → Sto → Prop
  | 0, i29, s46 => ke (i24 + 1) s46
  | n29 + 1, i29, s46 => bnd (F_M_pack pp 2592 ((256 + (2560 * i24)) + (10 * i29)) 10 (s46.1 ((318 + i24)) i29) s46) fun s47 => E_MH_keys_2_L8 pp i24 ke n29 (i29 + 1) s47
noncomputable def F_MH_keys_2_L7 (psk : Nat) (i25 : Nat) (kk : Nat → Nat → Sto → Sto) : Nat → Nat → Nat → Sto → Sto
  | 0, i28, az24, s41 => kk (i25 + 1) az24 s41
  | n28 + 1, i28, az24, s41 => bnd ((s41.1 225 25).toNatClampNeg) fun z35 => if 7 ≤ i25 then bnd ((s41.1 225 25).toNatClampNeg) fun z36 => bnd ((s41.1 ((300 + (i25 - 7))) i28)) fun z37 => bnd ((s41.1 225 26).toNatClampNeg) fun z38 => if z37 ≤ (nI 2) then bnd ((s41.1 225 26).toNatClampNeg) fun z39 => bnd (F_M_pack psk 4896 az24 3 ((nI 2) - z37) s41) fun s42 => F_MH_keys_2_L7 psk i25 kk n28 (i28 + 1) (az24 + 3) s42 else bnd ((s41.1 225 26).toNatClampNeg) fun z40 => bnd (F_M_pack psk 4896 az24 3 (((nI 2) - z37) + (nI 8380417)) s41) fun s43 => F_MH_keys_2_L7 psk i25 kk n28 (i28 + 1) (az24 + 3) s43 else bnd ((s41.1 ((292 + i25)) i28)) fun z41 => bnd ((s41.1 225 26).toNatClampNeg) fun z42 => if z41 ≤ (nI 2) then bnd ((s41.1 225 26).toNatClampNeg) fun z43 => bnd (F_M_pack psk 4896 az24 3 ((nI 2) - z41) s41) fun s44 => F_MH_keys_2_L7 psk i25 kk n28 (i28 + 1) (az24 + 3) s44 else bnd ((s41.1 225 26).toNatClampNeg) fun z44 => bnd (F_M_pack psk 4896 az24 3 (((nI 2) - z41) + (nI 8380417)) s41) fun s45 => F_MH_keys_2_L7 psk i25 kk n28 (i28 + 1) (az24 + 3) s45
noncomputable def E_MH_keys_2_L7 (psk : Nat) (i25 : Nat) (ke : Nat → Nat → Sto → Prop) : Nat → Nat → Nat → Sto → Prop
  | 0, i28, az24, s41 => ke (i25 + 1) az24 s41
  | n28 + 1, i28, az24, s41 => bnd ((s41.1 225 25).toNatClampNeg) fun z35 => if 7 ≤ i25 then bnd ((s41.1 225 25).toNatClampNeg) fun z36 => bnd ((s41.1 ((300 + (i25 - 7))) i28)) fun z37 => bnd ((s41.1 225 26).toNatClampNeg) fun z38 => if z37 ≤ (nI 2) then bnd ((s41.1 225 26).toNatClampNeg) fun z39 => bnd (F_M_pack psk 4896 az24 3 ((nI 2) - z37) s41) fun s42 => E_MH_keys_2_L7 psk i25 ke n28 (i28 + 1) (az24 + 3) s42 else bnd ((s41.1 225 26).toNatClampNeg) fun z40 => bnd (F_M_pack psk 4896 az24 3 (((nI 2) - z37) + (nI 8380417)) s41) fun s43 => E_MH_keys_2_L7 psk i25 ke n28 (i28 + 1) (az24 + 3) s43 else bnd ((s41.1 ((292 + i25)) i28)) fun z41 => bnd ((s41.1 225 26).toNatClampNeg) fun z42 => if z41 ≤ (nI 2) then bnd ((s41.1 225 26).toNatClampNeg) fun z43 => bnd (F_M_pack psk 4896 az24 3 ((nI 2) - z41) s41) fun s44 => E_MH_keys_2_L7 psk i25 ke n28 (i28 + 1) (az24 + 3) s44 else bnd ((s41.1 225 26).toNatClampNeg) fun z44 => bnd (F_M_pack psk 4896 az24 3 (((nI 2) - z41) + (nI 8380417)) s41) fun s45 => E_MH_keys_2_L7 psk i25 ke n28 (i28 + 1) (az24 + 3) s45
noncomputable def F_MH_keys_2_L6 (psk : Nat) (i26 : Nat) (kk : Nat → Nat → Sto → Sto) : Nat → Nat → Nat → Sto → Sto
  | 0, i27, az23, s39 => kk (i26 + 1) az23 s39
  | n27 + 1, i27, az23, s39 => bnd (F_M_pack psk 4896 az23 13 ((nI 4096) - (s39.1 ((309 + i26)) i27)) s39) fun s40 => F_MH_keys_2_L6 psk i26 kk n27 (i27 + 1) (az23 + 13) s40
noncomputable def E_MH_keys_2_L6 (psk : Nat) (i26 : Nat) (ke : Nat → Nat → Sto → Prop) : Nat → Nat → Nat → Sto → Prop
  | 0, i27, az23, s39 => ke (i26 + 1) az23 s39
  | n27 + 1, i27, az23, s39 => bnd (F_M_pack psk 4896 az23 13 ((nI 4096) - (s39.1 ((309 + i26)) i27)) s39) fun s40 => E_MH_keys_2_L6 psk i26 ke n27 (i27 + 1) (az23 + 13) s40
noncomputable def F_MH_keys_2_L5 (psk : Nat) : Nat → Nat → Nat → Sto → Sto
  | 0, i26, az22, s38 => bnd ((s38.1 225 24).toNatClampNeg) fun z31 => s38
  | n26 + 1, i26, az22, s38 => bnd ((s38.1 225 24).toNatClampNeg) fun z32 => F_MH_keys_2_L6 psk i26 (F_MH_keys_2_L5 psk n26) 256 0 az22 s38
noncomputable def E_MH_keys_2_L5 (psk : Nat) : Nat → Nat → Nat → Sto → Prop
  | 0, i26, az22, s38 => bnd ((s38.1 225 24).toNatClampNeg) fun z31 => True
  | n26 + 1, i26, az22, s38 => bnd ((s38.1 225 24).toNatClampNeg) fun z32 => E_MH_keys_2_L6 psk i26 (E_MH_keys_2_L5 psk n26) 256 0 az22 s38
noncomputable def F_MH_keys_2_L4 (psk : Nat) : Nat → Nat → Nat → Sto → Sto
  | 0, i25, az21, s37 => bnd ((s37.1 225 24).toNatClampNeg) fun z29 => bnd ((s37.1 225 25).toNatClampNeg) fun z30 => F_MH_keys_2_L5 psk 8 0 az21 s37
  | n25 + 1, i25, az21, s37 => bnd ((s37.1 225 24).toNatClampNeg) fun z33 => bnd ((s37.1 225 25).toNatClampNeg) fun z34 => F_MH_keys_2_L7 psk i25 (F_MH_keys_2_L4 psk n25) 256 0 az21 s37
noncomputable def E_MH_keys_2_L4 (psk : Nat) : Nat → Nat → Nat → Sto → Prop
  | 0, i25, az21, s37 => bnd ((s37.1 225 24).toNatClampNeg) fun z29 => bnd ((s37.1 225 25).toNatClampNeg) fun z30 => E_MH_keys_2_L5 psk 8 0 az21 s37
  | n25 + 1, i25, az21, s37 => bnd ((s37.1 225 24).toNatClampNeg) fun z33 => bnd ((s37.1 225 25).toNatClampNeg) fun z34 => E_MH_keys_2_L7 psk i25 (E_MH_keys_2_L4 psk n25) 256 0 az21 s37
noncomputable def F_MH_keys_2_L3 (pp : Nat) (psk : Nat) : Nat → Nat → Sto → Sto
  | 0, i24, s32 => bnd ((s32.1 225 24).toNatClampNeg) fun z25 => bnd (F_MS_shake  s32) fun s33 => bnd ((s33.1 225 23).toNatClampNeg) fun z26 => bnd (F_MH_openSize_2  s33) fun q21 => bnd (q21.1.toNatClampNeg) fun z27 => bnd (F_MS_puts pp 2592 0 2592 q21.2) fun s34 => bnd (F_MS_end  s34) fun s35 => bnd (F_MS_take psk 4896 64 64 s35) fun s36 => bnd ((s36.1 225 26).toNatClampNeg) fun z28 => F_MH_keys_2_L4 psk 15 0 1024 s36
  | n24 + 1, i24, s32 => bnd ((s32.1 225 24).toNatClampNeg) fun z45 => F_MH_keys_2_L8 pp i24 (F_MH_keys_2_L3 pp psk n24) 256 0 s32
noncomputable def E_MH_keys_2_L3 (pp : Nat) (psk : Nat) : Nat → Nat → Sto → Prop
  | 0, i24, s32 => bnd ((s32.1 225 24).toNatClampNeg) fun z25 => bnd (F_MS_shake  s32) fun s33 => bnd ((s33.1 225 23).toNatClampNeg) fun z26 => bnd (F_MH_openSize_2  s33) fun q21 => bnd (q21.1.toNatClampNeg) fun z27 => bnd (F_MS_puts pp 2592 0 2592 q21.2) fun s34 => bnd (F_MS_end  s34) fun s35 => bnd (F_MS_take psk 4896 64 64 s35) fun s36 => bnd ((s36.1 225 26).toNatClampNeg) fun z28 => E_MH_keys_2_L4 psk 15 0 1024 s36
  | n24 + 1, i24, s32 => bnd ((s32.1 225 24).toNatClampNeg) fun z45 => E_MH_keys_2_L8 pp i24 (E_MH_keys_2_L3 pp psk n24) 256 0 s32
noncomputable def F_MH_keys_2_L2 (pp : Nat) (psk : Nat) : Nat → Nat → Sto → Sto
  | 0, i23, s31 => F_MH_keys_2_L3 pp psk 8 0 s31
  | n23 + 1, i23, s31 => bnd (sB s31 pp i23 (s31.1 372 i23)) fun s48 => bnd (sB s48 psk i23 (s48.1 372 i23)) fun s49 => bnd (sB s49 psk (32 + i23) (s49.1 372 (96 + i23))) fun s50 => F_MH_keys_2_L2 pp psk n23 (i23 + 1) s50
noncomputable def E_MH_keys_2_L2 (pp : Nat) (psk : Nat) : Nat → Nat → Sto → Prop
  | 0, i23, s31 => E_MH_keys_2_L3 pp psk 8 0 s31
  | n23 + 1, i23, s31 => bnd (sB s31 pp i23 (s31.1 372 i23)) fun s48 => bnd (sB s48 psk i23 (s48.1 372 i23)) fun s49 => bnd (sB s49 psk (32 + i23) (s49.1 372 (96 + i23))) fun s50 => E_MH_keys_2_L2 pp psk n23 (i23 + 1) s50
noncomputable def F_MH_keys_2_L1 (pp : Nat) (psk : Nat) : Nat → Nat → Sto → Sto
  | 0, i22, s30 => bnd ((s30.1 225 24).toNatClampNeg) fun z24 => F_MH_keys_2_L2 pp psk 32 0 s30
  | n22 + 1, i22, s30 => bnd ((s30.1 225 24).toNatClampNeg) fun z46 => bnd ((s30.1 225 25).toNatClampNeg) fun z47 => bnd (F_MH_small_2 (300 + i22) 372 128 32 (nI (i22 + 7)) s30) fun s51 => bnd (F_MH_rowBy_2 i22 369 s51) fun s52 => F_MH_keys_2_L9 i22 (F_MH_keys_2_L1 pp psk n22) 256 0 s52
noncomputable def E_MH_keys_2_L1 (pp : Nat) (psk : Nat) : Nat → Nat → Sto → Prop
  | 0, i22, s30 => bnd ((s30.1 225 24).toNatClampNeg) fun z24 => E_MH_keys_2_L2 pp psk 32 0 s30
  | n22 + 1, i22, s30 => bnd ((s30.1 225 24).toNatClampNeg) fun z46 => bnd ((s30.1 225 25).toNatClampNeg) fun z47 => (E_MH_small_2 (300 + i22) 372 128 32 (nI (i22 + 7)) s30) ∧ (bnd (F_MH_small_2 (300 + i22) 372 128 32 (nI (i22 + 7)) s30) fun s51 => bnd (F_MH_rowBy_2 i22 369 s51) fun s52 => E_MH_keys_2_L9 i22 (E_MH_keys_2_L1 pp psk n22) 256 0 s52)
noncomputable def F_MH_keys_2_L0 (pp : Nat) (psk : Nat) : Nat → Nat → Sto → Sto
  | 0, i21, s29 => bnd ((s29.1 225 25).toNatClampNeg) fun z23 => F_MH_keys_2_L1 pp psk 8 0 s29
  | n21 + 1, i21, s29 => bnd ((s29.1 225 25).toNatClampNeg) fun z51 => bnd (F_MH_small_2 (292 + i21) 372 128 32 (nI i21) s29) fun s58 => bnd (F_MR_forth_8_0 (292 + i21) (343 + i21) s58) fun s59 => F_MH_keys_2_L0 pp psk n21 (i21 + 1) s59
noncomputable def E_MH_keys_2_L0 (pp : Nat) (psk : Nat) : Nat → Nat → Sto → Prop
  | 0, i21, s29 => bnd ((s29.1 225 25).toNatClampNeg) fun z23 => E_MH_keys_2_L1 pp psk 8 0 s29
  | n21 + 1, i21, s29 => bnd ((s29.1 225 25).toNatClampNeg) fun z51 => (E_MH_small_2 (292 + i21) 372 128 32 (nI i21) s29) ∧ (bnd (F_MH_small_2 (292 + i21) 372 128 32 (nI i21) s29) fun s58 => bnd (F_MR_forth_8_0 (292 + i21) (343 + i21) s58) fun s59 => E_MH_keys_2_L0 pp psk n21 (i21 + 1) s59)
noncomputable def F_MH_keys_2 (pb : Nat) (n : Nat) (pp : Nat) (psk : Nat) (s : Sto) : Sto := bnd (F_MH_as_2  s) fun s21 => bnd (F_MS_shake  s21) fun s22 => bnd (F_MS_puts pb n 0 32 s22) fun s23 => bnd ((s23.1 225 24).toNatClampNeg) fun z21 => bnd (F_MS_put (nI 8) s23) fun s24 => bnd ((s24.1 225 25).toNatClampNeg) fun z22 => bnd (F_MS_put (nI 7) s24) fun s25 => bnd (F_MS_end  s25) fun s26 => bnd (F_MS_take 372 128 0 128 s26) fun s27 => bnd (F_MH_expand_2 372 128 s27) fun s28 => F_MH_keys_2_L0 pp psk 7 0 s28
noncomputable def E_MH_keys_2 (pb : Nat) (n : Nat) (pp : Nat) (psk : Nat) (s : Sto) : Prop := bnd (F_MH_as_2  s) fun s21 => bnd (F_MS_shake  s21) fun s22 => bnd (F_MS_puts pb n 0 32 s22) fun s23 => bnd ((s23.1 225 24).toNatClampNeg) fun z21 => bnd (F_MS_put (nI 8) s23) fun s24 => bnd ((s24.1 225 25).toNatClampNeg) fun z22 => bnd (F_MS_put (nI 7) s24) fun s25 => bnd (F_MS_end  s25) fun s26 => bnd (F_MS_take 372 128 0 128 s26) fun s27 => (E_MH_expand_2 372 128 s27) ∧ (bnd (F_MH_expand_2 372 128 s27) fun s28 => E_MH_keys_2_L0 pp psk 7 0 s28)
set_option maxHeartbeats 8000000 in
set_option maxRecDepth 100000 in
theorem N_MH_keys_2 (l : Launch) (g : Gd) (sz : Nat) (T : TyN) (s : Sto) (pl : va_W) (hO : okn g T s pl) (hU : inj T) (h0 b pk sk : Nat) (pb : Nat) (n : Nat) (pp : Nat) (psk : Nat) (k_h0 : T h0 = some 225) (k_b : T b = some pb) (n_b : nsp pb = (1, n, [])) (k_pk : T pk = some pp) (n_pk : nsp pp = (1, 2592, [])) (k_sk : T sk = some psk) (n_sk : nsp psk = (1, 4896, [])) (h1 : 32 ≤ n) (h2 : n < 65536) (hE : E_MH_keys_2 pb n pp psk s)  : Met l y_MH_keys w_MH_keys ({ frames := 5, cells := 0, slots := 0, locals := 118 } : Room) (va_Pc [.ref h0, .int (nI 2), .ref b, .ref pk, .ref sk] (pr (en g) g.1 vcl sz ([] ++ pl))) (va_Qv (fun (u : (Sto) × va_W) => (u.1 = F_MH_keys_2 pb n pp psk s ∧ frm (M_MH_keys_2 pp psk) s u.1 ∧ True) ∧ okn g T u.1 u.2) (po g.1 vcl (va_A ([] ++ pl) sz) (fun (u : (Sto) × va_W) => [] ++ u.2)) (va_A ([] ++ pl) sz)) 0 0 (va_A ([] ++ pl) sz) := by
  refine mc_entry (cc := c_MH_keys) (maxL := 10) (ret := none) (by decide) rfl (Nat.le_of_ble_eq_true rfl) ?_
  intro p e s0 m args below meth c ls F hr hlk hnm hsz hP hD hEn hA hl
  obtain ⟨hx, hb, hml, hown, hts⟩ := id F
  have hK := hEn.1
  generalize va_A ([] ++ pl) sz = A at hD hEn hA ⊢
  have hS : va_S A s0.heap s0.heap [] := va_S.rf
  have hl : lv_has ls 10 [(0, .ref h0), (1, .int (nI 2)), (2, .ref b), (3, .ref pk), (4, .ref sk)] := hl
  have hR : F_MH_keys_2 pb n pp psk s = F_MH_keys_2 pb n pp psk s := rfl
  have hF : frm (M_MH_keys_2 pp psk) s s := frm_rf
  have ne_172_pb : 172 ≠ pb := nsp_ne (p := 172) rfl n_b (show (5 : Nat) ≠ 1 by decide)
  have ne_172_pp : 172 ≠ pp := nsp_ne (p := 172) rfl n_pk (show (5 : Nat) ≠ 1 by decide)
  have ne_172_psk : 172 ≠ psk := nsp_ne (p := 172) rfl n_sk (show (5 : Nat) ≠ 1 by decide)
  have ne_225_pb : 225 ≠ pb := nsp_ne (p := 225) rfl n_b (show (5 : Nat) ≠ 1 by decide)
  have ne_225_pp : 225 ≠ pp := nsp_ne (p := 225) rfl n_pk (show (5 : Nat) ≠ 1 by decide)
  have ne_225_psk : 225 ≠ psk := nsp_ne (p := 225) rfl n_sk (show (5 : Nat) ≠ 1 by decide)
  refine lv_aload_n hx hb dMH_keys_0 rfl (lv_at hl 0 rfl) ?_
  refine lv_iload_n hx hb dMH_keys_1 rfl (lv_at hl 1 rfl) ?_
  refine mp_v (cx := []) (wr := []) hP hD hS hA [] [] rfl rfl rfl (by decide) (va_runV (As := [.int (nI 2)]) (rest := []) F (N_MH_as_2 l g _ T s pl hO hU h0 k_h0) (cwV 1 hts (wg_app (wg_c kw_1702 (wg_c kw_1704 (wg_c ks_60 (wg_c kw_13 wg_n)))) kw_1705) rfl rfl rfl (by decide +kernel) ⟨by decide, by decide⟩) (pn_W "LatticeKeysModel$Hands" (en_ok g) (ci := 12) (kn := 225) (fl := [(3, 172), (3, 181), (3, 226), (3, 291), (3, 299), (3, 308), (3, 317), (3, 326), (3, 334), (3, 342), (3, 350), (3, 359), (3, 368), (3, 369), (3, 370), (3, 371), (3, 372), (3, 373), (3, 374), (3, 375), (3, 376), (3, 377), (3, 378), (0, 0), (0, 0), (0, 0), (0, 0), (0, 0), (0, 0), (0, 0), (0, 0)]) hK hO k_h0 rfl hP hD hS hA hEn [] rfl rfl rfl) rfl rfl hl.1 rfl (lv_room (Nat.le_of_ble_eq_true rfl)) dMH_keys_2 ⟨by omega, by omega⟩) (fun  u21 H locs hu21 hP hD hS => ?_)
  obtain ⟨s21, pl⟩ := u21
  obtain ⟨⟨eq21, hFc21, ⟨x21, hx_21, hb_21⟩, ⟨x22, hx_22, hb_22⟩, ⟨x23, hx_23, hb_23⟩, ⟨x24, hx_24, hb_24⟩, ⟨x25, hx_25, hb_25⟩, ⟨x26, hx_26, hb_26⟩, ⟨x27, hx_27, hb_27⟩, ⟨x28, hx_28, hb_28⟩, -⟩, hO⟩ := hu21
  have hO : okn g T s21 pl := hO
  have hP : va_P g.1 vcl ([] ++ pl) _ := hP
  have hD : va_D _ ([] ++ pl) := hD
  have hFc21 : frm (M_MH_as_2) s s21 := hFc21
  have hb_21 : x21 = 2 := hb_21
  have hb_22 : x22 = 8 := hb_22
  have hb_23 : x23 = 7 := hb_23
  have hb_24 : x24 = 2 := hb_24
  have hb_25 : x25 = 524288 := hb_25
  have hb_26 : x26 = 261888 := hb_26
  have hb_27 : x27 = 120 := hb_27
  have hb_28 : x28 = 64 := hb_28
  replace hR := bnd_step hR eq21
  first | rw [bnd_step rfl eq21] at hE | replace hE := bndP_step hE eq21
  have hF := frm_tr hF hFc21 (fun k hk => by unfold M_MH_as_2 at hk; unfold M_MH_keys_2; omega)
  subst hb_21
  subst hb_22
  subst hb_23
  subst hb_24
  subst hb_25
  subst hb_26
  subst hb_27
  subst hb_28
  refine W.widen (k := 0) (n := 0) (by omega) (by omega) ?_
  refine lv_aload_n hx hb dMH_keys_5 rfl (lv_at hl 0 rfl) ?_
  refine nw_get (C := "LatticeKeysModel$Hands") (TT := T_MH) (N := 31) hx hb hts (wg_ft i_MH) hown hK hO k_h0 (kn := 225) (ci := 12) (fl := [(3, 172), (3, 181), (3, 226), (3, 291), (3, 299), (3, 308), (3, 317), (3, 326), (3, 334), (3, 342), (3, 350), (3, 359), (3, 368), (3, 369), (3, 370), (3, 371), (3, 372), (3, 373), (3, 374), (3, 375), (3, 376), (3, 377), (3, 378), (0, 0), (0, 0), (0, 0), (0, 0), (0, 0), (0, 0), (0, 0), (0, 0)]) rfl hP rfl 0 (by decide) (hts _ (wg_t kw_1432)) (fun _ h9 => h9) (cd := (3, 172)) rfl dMH_keys_6 (fun v21 hv21 => ?_)
  obtain ⟨r21, rfl, kr21⟩ := (show ∃ r : Nat, v21 = .ref r ∧ T r = some 172 from hv21)
  refine mp_v (cx := []) (wr := []) hP hD hS hA [] [] rfl rfl rfl (by decide) (va_runV (As := []) (rest := []) F (N_MS_shake l g _ T s21 pl hO hU r21 kr21) (cwV 0 hts (wg_app (wg_c kw_1718 (wg_c kw_1661 (wg_c kw_1662 (wg_c kw_10 wg_n)))) kw_1663) rfl rfl rfl (by decide +kernel) ⟨by decide, by decide⟩) (pn_W "LatticeKeysModel$Sponge" (en_ok g) (ci := 9) (kn := 172) (fl := [(3, 173), (3, 174), (3, 175), (3, 176), (3, 177), (0, 0), (0, 0), (0, 0)]) hK hO kr21 rfl hP hD hS hA hEn [] rfl rfl rfl) rfl rfl hl.1 rfl (lv_room (Nat.le_of_ble_eq_true rfl)) dMH_keys_9 ⟨by omega, by omega⟩) (fun  u22 H locs hu22 hP hD hS => ?_)
  obtain ⟨s22, pl⟩ := u22
  obtain ⟨⟨eq22, hFc22, ⟨x30, hx_30, hb_30⟩, ⟨x31, hx_31, hb_31⟩, -⟩, hO⟩ := hu22
  have hO : okn g T s22 pl := hO
  have hP : va_P g.1 vcl ([] ++ pl) _ := hP
  have hD : va_D _ ([] ++ pl) := hD
  have hFc22 : frm (M_MS_shake) s21 s22 := hFc22
  have hb_30 : x30 = 0 := hb_30
  have hb_31 : x31 = 136 := hb_31
  replace hR := bnd_step hR eq22
  first | rw [bnd_step rfl eq22] at hE | replace hE := bndP_step hE eq22
  have hF := frm_tr hF hFc22 (fun k hk => by unfold M_MS_shake at hk; unfold M_MH_keys_2; omega)
  have hf21 : s22.1 225 23 = nI 2 := fc_F hx_21 hFc22 (by unfold M_MS_shake; omega)
  have hf22 : s22.1 225 24 = nI 8 := fc_F hx_22 hFc22 (by unfold M_MS_shake; omega)
  have hf23 : s22.1 225 25 = nI 7 := fc_F hx_23 hFc22 (by unfold M_MS_shake; omega)
  have hf24 : s22.1 225 26 = nI 2 := fc_F hx_24 hFc22 (by unfold M_MS_shake; omega)
  have hf25 : s22.1 225 27 = nI 524288 := fc_F hx_25 hFc22 (by unfold M_MS_shake; omega)
  have hf26 : s22.1 225 28 = nI 261888 := fc_F hx_26 hFc22 (by unfold M_MS_shake; omega)
  have hf27 : s22.1 225 29 = nI 120 := fc_F hx_27 hFc22 (by unfold M_MS_shake; omega)
  have hf28 : s22.1 225 30 = nI 64 := fc_F hx_28 hFc22 (by unfold M_MS_shake; omega)
  refine W.widen (k := 0) (n := 0) (by omega) (by omega) ?_
  refine lv_aload_n hx hb dMH_keys_12 rfl (lv_at hl 0 rfl) ?_
  refine nw_get (C := "LatticeKeysModel$Hands") (TT := T_MH) (N := 31) hx hb hts (wg_ft i_MH) hown hK hO k_h0 (kn := 225) (ci := 12) (fl := [(3, 172), (3, 181), (3, 226), (3, 291), (3, 299), (3, 308), (3, 317), (3, 326), (3, 334), (3, 342), (3, 350), (3, 359), (3, 368), (3, 369), (3, 370), (3, 371), (3, 372), (3, 373), (3, 374), (3, 375), (3, 376), (3, 377), (3, 378), (0, 0), (0, 0), (0, 0), (0, 0), (0, 0), (0, 0), (0, 0), (0, 0)]) rfl hP rfl 0 (by decide) (hts _ (wg_t kw_1432)) (fun _ h9 => h9) (cd := (3, 172)) rfl dMH_keys_13 (fun v22 hv22 => ?_)
  obtain ⟨r22, rfl, kr22⟩ := (show ∃ r : Nat, v22 = .ref r ∧ T r = some 172 from hv22)
  refine lv_aload_n hx hb dMH_keys_16 rfl (lv_at hl 2 rfl) ?_
  refine lv_iconst (v := nI 0) hx hb dMH_keys_17 (by decide) ?_
  refine lv_bipush (v := nI 32) hx hb dMH_keys_18 (by decide) ?_
  refine mp_v (cx := []) (wr := []) hP hD hS hA [] [] rfl rfl rfl (by decide) (va_runV (As := [.ref b, .int (nI 0), .int (nI 32)]) (rest := []) F (N_MS_puts l g _ T s22 pl hO hU r22 b pb n 0 32 x30 x31 kr22 k_b n_b hx_30 hx_31 (by omega) (by omega) (by omega) (by omega)) (cwV 3 hts (wg_app (wg_c kw_1719 (wg_c kw_1612 (wg_c kw_1613 (wg_c kw_10 wg_n)))) kw_1614) rfl rfl rfl (by decide +kernel) ⟨by decide, by decide⟩) (pn_W "LatticeKeysModel$Sponge" (en_ok g) (ci := 9) (kn := 172) (fl := [(3, 173), (3, 174), (3, 175), (3, 176), (3, 177), (0, 0), (0, 0), (0, 0)]) hK hO kr22 rfl hP hD hS hA hEn [] rfl rfl rfl) rfl rfl hl.1 rfl (lv_room (Nat.le_of_ble_eq_true rfl)) dMH_keys_20 ⟨by omega, by omega⟩) (fun  u23 H locs hu23 hP hD hS => ?_)
  obtain ⟨s23, pl⟩ := u23
  obtain ⟨⟨eq23, hFc23, ⟨x33, hx_33, hb_33⟩, ⟨x34, hx_34, hb_34⟩, -⟩, hO⟩ := hu23
  have hO : okn g T s23 pl := hO
  have hP : va_P g.1 vcl ([] ++ pl) _ := hP
  have hD : va_D _ ([] ++ pl) := hD
  have hFc23 : frm (M_MS_puts) s22 s23 := hFc23
  have hb_33 : x33 < x31 := hb_33
  have hb_34 : x34 = x31 := hb_34
  replace hR := bnd_step hR eq23
  first | rw [bnd_step rfl eq23] at hE | replace hE := bndP_step hE eq23
  have hF := frm_tr hF hFc23 (fun k hk => by unfold M_MS_puts at hk; unfold M_MH_keys_2; omega)
  have hf29 : s23.1 225 23 = nI 2 := fc_F hf21 hFc23 (by unfold M_MS_puts; omega)
  have hf30 : s23.1 225 24 = nI 8 := fc_F hf22 hFc23 (by unfold M_MS_puts; omega)
  have hf31 : s23.1 225 25 = nI 7 := fc_F hf23 hFc23 (by unfold M_MS_puts; omega)
  have hf32 : s23.1 225 26 = nI 2 := fc_F hf24 hFc23 (by unfold M_MS_puts; omega)
  have hf33 : s23.1 225 27 = nI 524288 := fc_F hf25 hFc23 (by unfold M_MS_puts; omega)
  have hf34 : s23.1 225 28 = nI 261888 := fc_F hf26 hFc23 (by unfold M_MS_puts; omega)
  have hf35 : s23.1 225 29 = nI 120 := fc_F hf27 hFc23 (by unfold M_MS_puts; omega)
  have hf36 : s23.1 225 30 = nI 64 := fc_F hf28 hFc23 (by unfold M_MS_puts; omega)
  refine W.widen (k := 0) (n := 0) (by omega) (by omega) ?_
  refine lv_aload_n hx hb dMH_keys_23 rfl (lv_at hl 0 rfl) ?_
  refine nw_get (C := "LatticeKeysModel$Hands") (TT := T_MH) (N := 31) hx hb hts (wg_ft i_MH) hown hK hO k_h0 (kn := 225) (ci := 12) (fl := [(3, 172), (3, 181), (3, 226), (3, 291), (3, 299), (3, 308), (3, 317), (3, 326), (3, 334), (3, 342), (3, 350), (3, 359), (3, 368), (3, 369), (3, 370), (3, 371), (3, 372), (3, 373), (3, 374), (3, 375), (3, 376), (3, 377), (3, 378), (0, 0), (0, 0), (0, 0), (0, 0), (0, 0), (0, 0), (0, 0), (0, 0)]) rfl hP rfl 0 (by decide) (hts _ (wg_t kw_1432)) (fun _ h9 => h9) (cd := (3, 172)) rfl dMH_keys_24 (fun v23 hv23 => ?_)
  obtain ⟨r23, rfl, kr23⟩ := (show ∃ r : Nat, v23 = .ref r ∧ T r = some 172 from hv23)
  refine lv_aload_n hx hb dMH_keys_27 rfl (lv_at hl 0 rfl) ?_
  refine nw_get (C := "LatticeKeysModel$Hands") (TT := T_MH) (N := 31) hx hb hts (wg_ft i_MH) hown hK hO k_h0 (kn := 225) (ci := 12) (fl := [(3, 172), (3, 181), (3, 226), (3, 291), (3, 299), (3, 308), (3, 317), (3, 326), (3, 334), (3, 342), (3, 350), (3, 359), (3, 368), (3, 369), (3, 370), (3, 371), (3, 372), (3, 373), (3, 374), (3, 375), (3, 376), (3, 377), (3, 378), (0, 0), (0, 0), (0, 0), (0, 0), (0, 0), (0, 0), (0, 0), (0, 0)]) rfl hP rfl 24 (by decide) (hts _ (wg_t kw_1456)) (fun _ h9 => h9) (cd := (0, 0)) rfl dMH_keys_28 (fun v24 hv24 => ?_)
  obtain rfl := (show v24 = .int (s23.1 225 24) from hv24)
  obtain ⟨z21, ez21, hz21, hz22⟩ := cl_of (b := 2147483648) hf30 (by omega) (by decide)
  replace hR := bnd_step hR ez21
  first | rw [bnd_step rfl ez21] at hE | replace hE := bndP_step hE ez21
  refine mi_as hz21 ?_
  subst hz22
  refine mp_v (cx := []) (wr := []) hP hD hS hA [] [] rfl rfl rfl (by decide) (va_runV (As := [.int (nI 8)]) (rest := []) F (N_MS_put l g _ T s23 pl hO hU r23 (nI 8) x33 x34 kr23 hx_33 hx_34 (by omega) (by omega)) (cwV 1 hts (wg_app (wg_c kw_1720 (wg_c kw_1616 (wg_c kw_1617 (wg_c kw_10 wg_n)))) kw_1618) rfl rfl rfl (by decide +kernel) ⟨by decide, by decide⟩) (pn_W "LatticeKeysModel$Sponge" (en_ok g) (ci := 9) (kn := 172) (fl := [(3, 173), (3, 174), (3, 175), (3, 176), (3, 177), (0, 0), (0, 0), (0, 0)]) hK hO kr23 rfl hP hD hS hA hEn [] rfl rfl rfl) rfl rfl hl.1 rfl (lv_room (Nat.le_of_ble_eq_true rfl)) dMH_keys_31 ⟨by omega, by omega⟩) (fun  u24 H locs hu24 hP hD hS => ?_)
  obtain ⟨s24, pl⟩ := u24
  obtain ⟨⟨eq24, hFc24, ⟨x36, hx_36, hb_36⟩, ⟨x37, hx_37, hb_37⟩, -⟩, hO⟩ := hu24
  have hO : okn g T s24 pl := hO
  have hP : va_P g.1 vcl ([] ++ pl) _ := hP
  have hD : va_D _ ([] ++ pl) := hD
  have hFc24 : frm (M_MS_put) s23 s24 := hFc24
  have hb_36 : x36 < x34 := hb_36
  have hb_37 : x37 = x34 := hb_37
  replace hR := bnd_step hR eq24
  first | rw [bnd_step rfl eq24] at hE | replace hE := bndP_step hE eq24
  have hF := frm_tr hF hFc24 (fun k hk => by unfold M_MS_put at hk; unfold M_MH_keys_2; omega)
  have hf37 : s24.1 225 23 = nI 2 := fc_F hf29 hFc24 (by unfold M_MS_put; omega)
  have hf38 : s24.1 225 24 = nI 8 := fc_F hf30 hFc24 (by unfold M_MS_put; omega)
  have hf39 : s24.1 225 25 = nI 7 := fc_F hf31 hFc24 (by unfold M_MS_put; omega)
  have hf40 : s24.1 225 26 = nI 2 := fc_F hf32 hFc24 (by unfold M_MS_put; omega)
  have hf41 : s24.1 225 27 = nI 524288 := fc_F hf33 hFc24 (by unfold M_MS_put; omega)
  have hf42 : s24.1 225 28 = nI 261888 := fc_F hf34 hFc24 (by unfold M_MS_put; omega)
  have hf43 : s24.1 225 29 = nI 120 := fc_F hf35 hFc24 (by unfold M_MS_put; omega)
  have hf44 : s24.1 225 30 = nI 64 := fc_F hf36 hFc24 (by unfold M_MS_put; omega)
  refine W.widen (k := 0) (n := 0) (by omega) (by omega) ?_
  refine lv_aload_n hx hb dMH_keys_34 rfl (lv_at hl 0 rfl) ?_
  refine nw_get (C := "LatticeKeysModel$Hands") (TT := T_MH) (N := 31) hx hb hts (wg_ft i_MH) hown hK hO k_h0 (kn := 225) (ci := 12) (fl := [(3, 172), (3, 181), (3, 226), (3, 291), (3, 299), (3, 308), (3, 317), (3, 326), (3, 334), (3, 342), (3, 350), (3, 359), (3, 368), (3, 369), (3, 370), (3, 371), (3, 372), (3, 373), (3, 374), (3, 375), (3, 376), (3, 377), (3, 378), (0, 0), (0, 0), (0, 0), (0, 0), (0, 0), (0, 0), (0, 0), (0, 0)]) rfl hP rfl 0 (by decide) (hts _ (wg_t kw_1432)) (fun _ h9 => h9) (cd := (3, 172)) rfl dMH_keys_35 (fun v25 hv25 => ?_)
  obtain ⟨r24, rfl, kr24⟩ := (show ∃ r : Nat, v25 = .ref r ∧ T r = some 172 from hv25)
  refine lv_aload_n hx hb dMH_keys_38 rfl (lv_at hl 0 rfl) ?_
  refine nw_get (C := "LatticeKeysModel$Hands") (TT := T_MH) (N := 31) hx hb hts (wg_ft i_MH) hown hK hO k_h0 (kn := 225) (ci := 12) (fl := [(3, 172), (3, 181), (3, 226), (3, 291), (3, 299), (3, 308), (3, 317), (3, 326), (3, 334), (3, 342), (3, 350), (3, 359), (3, 368), (3, 369), (3, 370), (3, 371), (3, 372), (3, 373), (3, 374), (3, 375), (3, 376), (3, 377), (3, 378), (0, 0), (0, 0), (0, 0), (0, 0), (0, 0), (0, 0), (0, 0), (0, 0)]) rfl hP rfl 25 (by decide) (hts _ (wg_t kw_1457)) (fun _ h9 => h9) (cd := (0, 0)) rfl dMH_keys_39 (fun v26 hv26 => ?_)
  obtain rfl := (show v26 = .int (s24.1 225 25) from hv26)
  obtain ⟨z22, ez22, hz23, hz24⟩ := cl_of (b := 2147483648) hf39 (by omega) (by decide)
  replace hR := bnd_step hR ez22
  first | rw [bnd_step rfl ez22] at hE | replace hE := bndP_step hE ez22
  refine mi_as hz23 ?_
  subst hz24
  refine mp_v (cx := []) (wr := []) hP hD hS hA [] [] rfl rfl rfl (by decide) (va_runV (As := [.int (nI 7)]) (rest := []) F (N_MS_put l g _ T s24 pl hO hU r24 (nI 7) x36 x37 kr24 hx_36 hx_37 (by omega) (by omega)) (cwV 1 hts (wg_app (wg_c kw_1720 (wg_c kw_1616 (wg_c kw_1617 (wg_c kw_10 wg_n)))) kw_1618) rfl rfl rfl (by decide +kernel) ⟨by decide, by decide⟩) (pn_W "LatticeKeysModel$Sponge" (en_ok g) (ci := 9) (kn := 172) (fl := [(3, 173), (3, 174), (3, 175), (3, 176), (3, 177), (0, 0), (0, 0), (0, 0)]) hK hO kr24 rfl hP hD hS hA hEn [] rfl rfl rfl) rfl rfl hl.1 rfl (lv_room (Nat.le_of_ble_eq_true rfl)) dMH_keys_42 ⟨by omega, by omega⟩) (fun  u25 H locs hu25 hP hD hS => ?_)
  obtain ⟨s25, pl⟩ := u25
  obtain ⟨⟨eq25, hFc25, ⟨x39, hx_39, hb_39⟩, ⟨x40, hx_40, hb_40⟩, -⟩, hO⟩ := hu25
  have hO : okn g T s25 pl := hO
  have hP : va_P g.1 vcl ([] ++ pl) _ := hP
  have hD : va_D _ ([] ++ pl) := hD
  have hFc25 : frm (M_MS_put) s24 s25 := hFc25
  have hb_39 : x39 < x37 := hb_39
  have hb_40 : x40 = x37 := hb_40
  replace hR := bnd_step hR eq25
  first | rw [bnd_step rfl eq25] at hE | replace hE := bndP_step hE eq25
  have hF := frm_tr hF hFc25 (fun k hk => by unfold M_MS_put at hk; unfold M_MH_keys_2; omega)
  have hf45 : s25.1 225 23 = nI 2 := fc_F hf37 hFc25 (by unfold M_MS_put; omega)
  have hf46 : s25.1 225 24 = nI 8 := fc_F hf38 hFc25 (by unfold M_MS_put; omega)
  have hf47 : s25.1 225 25 = nI 7 := fc_F hf39 hFc25 (by unfold M_MS_put; omega)
  have hf48 : s25.1 225 26 = nI 2 := fc_F hf40 hFc25 (by unfold M_MS_put; omega)
  have hf49 : s25.1 225 27 = nI 524288 := fc_F hf41 hFc25 (by unfold M_MS_put; omega)
  have hf50 : s25.1 225 28 = nI 261888 := fc_F hf42 hFc25 (by unfold M_MS_put; omega)
  have hf51 : s25.1 225 29 = nI 120 := fc_F hf43 hFc25 (by unfold M_MS_put; omega)
  have hf52 : s25.1 225 30 = nI 64 := fc_F hf44 hFc25 (by unfold M_MS_put; omega)
  refine W.widen (k := 0) (n := 0) (by omega) (by omega) ?_
  refine lv_aload_n hx hb dMH_keys_45 rfl (lv_at hl 0 rfl) ?_
  refine nw_get (C := "LatticeKeysModel$Hands") (TT := T_MH) (N := 31) hx hb hts (wg_ft i_MH) hown hK hO k_h0 (kn := 225) (ci := 12) (fl := [(3, 172), (3, 181), (3, 226), (3, 291), (3, 299), (3, 308), (3, 317), (3, 326), (3, 334), (3, 342), (3, 350), (3, 359), (3, 368), (3, 369), (3, 370), (3, 371), (3, 372), (3, 373), (3, 374), (3, 375), (3, 376), (3, 377), (3, 378), (0, 0), (0, 0), (0, 0), (0, 0), (0, 0), (0, 0), (0, 0), (0, 0)]) rfl hP rfl 0 (by decide) (hts _ (wg_t kw_1432)) (fun _ h9 => h9) (cd := (3, 172)) rfl dMH_keys_46 (fun v27 hv27 => ?_)
  obtain ⟨r25, rfl, kr25⟩ := (show ∃ r : Nat, v27 = .ref r ∧ T r = some 172 from hv27)
  refine mp_v (cx := []) (wr := []) hP hD hS hA [] [] rfl rfl rfl (by decide) (va_runV (As := []) (rest := []) F (N_MS_end l g _ T s25 pl hO hU r25 x39 x40 kr25 hx_39 hx_40 (by omega) (by omega)) (cwV 0 hts (wg_app (wg_c kw_1721 (wg_c kw_1634 (wg_c kw_1635 (wg_c kw_10 wg_n)))) kw_1636) rfl rfl rfl (by decide +kernel) ⟨by decide, by decide⟩) (pn_W "LatticeKeysModel$Sponge" (en_ok g) (ci := 9) (kn := 172) (fl := [(3, 173), (3, 174), (3, 175), (3, 176), (3, 177), (0, 0), (0, 0), (0, 0)]) hK hO kr25 rfl hP hD hS hA hEn [] rfl rfl rfl) rfl rfl hl.1 rfl (lv_room (Nat.le_of_ble_eq_true rfl)) dMH_keys_49 ⟨by omega, by omega⟩) (fun  u26 H locs hu26 hP hD hS => ?_)
  obtain ⟨s26, pl⟩ := u26
  obtain ⟨⟨eq26, hFc26, ⟨x42, hx_42, hb_42⟩, ⟨x43, hx_43, hb_43⟩, -⟩, hO⟩ := hu26
  have hO : okn g T s26 pl := hO
  have hP : va_P g.1 vcl ([] ++ pl) _ := hP
  have hD : va_D _ ([] ++ pl) := hD
  have hFc26 : frm (M_MS_end) s25 s26 := hFc26
  have hb_42 : x42 = 0 := hb_42
  have hb_43 : x43 = x40 := hb_43
  replace hR := bnd_step hR eq26
  first | rw [bnd_step rfl eq26] at hE | replace hE := bndP_step hE eq26
  have hF := frm_tr hF hFc26 (fun k hk => by unfold M_MS_end at hk; unfold M_MH_keys_2; omega)
  have hf53 : s26.1 225 23 = nI 2 := fc_F hf45 hFc26 (by unfold M_MS_end; omega)
  have hf54 : s26.1 225 24 = nI 8 := fc_F hf46 hFc26 (by unfold M_MS_end; omega)
  have hf55 : s26.1 225 25 = nI 7 := fc_F hf47 hFc26 (by unfold M_MS_end; omega)
  have hf56 : s26.1 225 26 = nI 2 := fc_F hf48 hFc26 (by unfold M_MS_end; omega)
  have hf57 : s26.1 225 27 = nI 524288 := fc_F hf49 hFc26 (by unfold M_MS_end; omega)
  have hf58 : s26.1 225 28 = nI 261888 := fc_F hf50 hFc26 (by unfold M_MS_end; omega)
  have hf59 : s26.1 225 29 = nI 120 := fc_F hf51 hFc26 (by unfold M_MS_end; omega)
  have hf60 : s26.1 225 30 = nI 64 := fc_F hf52 hFc26 (by unfold M_MS_end; omega)
  refine W.widen (k := 0) (n := 0) (by omega) (by omega) ?_
  refine lv_aload_n hx hb dMH_keys_52 rfl (lv_at hl 0 rfl) ?_
  refine nw_get (C := "LatticeKeysModel$Hands") (TT := T_MH) (N := 31) hx hb hts (wg_ft i_MH) hown hK hO k_h0 (kn := 225) (ci := 12) (fl := [(3, 172), (3, 181), (3, 226), (3, 291), (3, 299), (3, 308), (3, 317), (3, 326), (3, 334), (3, 342), (3, 350), (3, 359), (3, 368), (3, 369), (3, 370), (3, 371), (3, 372), (3, 373), (3, 374), (3, 375), (3, 376), (3, 377), (3, 378), (0, 0), (0, 0), (0, 0), (0, 0), (0, 0), (0, 0), (0, 0), (0, 0)]) rfl hP rfl 0 (by decide) (hts _ (wg_t kw_1432)) (fun _ h9 => h9) (cd := (3, 172)) rfl dMH_keys_53 (fun v28 hv28 => ?_)
  obtain ⟨r26, rfl, kr26⟩ := (show ∃ r : Nat, v28 = .ref r ∧ T r = some 172 from hv28)
  refine lv_aload_n hx hb dMH_keys_56 rfl (lv_at hl 0 rfl) ?_
  refine nw_get (C := "LatticeKeysModel$Hands") (TT := T_MH) (N := 31) hx hb hts (wg_ft i_MH) hown hK hO k_h0 (kn := 225) (ci := 12) (fl := [(3, 172), (3, 181), (3, 226), (3, 291), (3, 299), (3, 308), (3, 317), (3, 326), (3, 334), (3, 342), (3, 350), (3, 359), (3, 368), (3, 369), (3, 370), (3, 371), (3, 372), (3, 373), (3, 374), (3, 375), (3, 376), (3, 377), (3, 378), (0, 0), (0, 0), (0, 0), (0, 0), (0, 0), (0, 0), (0, 0), (0, 0)]) rfl hP rfl 16 (by decide) (hts _ (wg_t kw_1448)) (fun _ h9 => h9) (cd := (3, 372)) rfl dMH_keys_57 (fun v29 hv29 => ?_)
  obtain ⟨r27, rfl, kr27⟩ := (show ∃ r : Nat, v29 = .ref r ∧ T r = some 372 from hv29)
  refine lv_iconst (v := nI 0) hx hb dMH_keys_60 (by decide) ?_
  refine lv_sipush (v := nI 128) hx hb dMH_keys_61 (by decide) ?_
  refine mp_v (cx := []) (wr := []) hP hD hS hA [] [] rfl rfl rfl (by decide) (va_runV (As := [.ref r27, .int (nI 0), .int (nI 128)]) (rest := []) F (N_MS_take l g _ T s26 pl hO hU r26 r27 372 128 0 128 x42 x43 kr26 kr27 rfl hx_42 hx_43 (by omega) (by omega) (by omega) (by omega)) (cwV 3 hts (wg_app (wg_c kw_1722 (wg_c kw_1638 (wg_c kw_1639 (wg_c kw_10 wg_n)))) kw_1640) rfl rfl rfl (by decide +kernel) ⟨by decide, by decide⟩) (pn_W "LatticeKeysModel$Sponge" (en_ok g) (ci := 9) (kn := 172) (fl := [(3, 173), (3, 174), (3, 175), (3, 176), (3, 177), (0, 0), (0, 0), (0, 0)]) hK hO kr26 rfl hP hD hS hA hEn [] rfl rfl rfl) rfl rfl hl.1 rfl (lv_room (Nat.le_of_ble_eq_true rfl)) dMH_keys_64 ⟨by omega, by omega⟩) (fun  u27 H locs hu27 hP hD hS => ?_)
  obtain ⟨s27, pl⟩ := u27
  obtain ⟨⟨eq27, hFc27, ⟨x45, hx_45, hb_45⟩, ⟨x46, hx_46, hb_46⟩, -⟩, hO⟩ := hu27
  have hO : okn g T s27 pl := hO
  have hP : va_P g.1 vcl ([] ++ pl) _ := hP
  have hD : va_D _ ([] ++ pl) := hD
  have hFc27 : frm (M_MS_take 372) s26 s27 := hFc27
  have hb_45 : x45 ≤ x43 := hb_45
  have hb_46 : x46 = x43 := hb_46
  replace hR := bnd_step hR eq27
  first | rw [bnd_step rfl eq27] at hE | replace hE := bndP_step hE eq27
  have hF := frm_tr hF hFc27 (fun k hk => by unfold M_MS_take at hk; unfold M_MH_keys_2; omega)
  have hf61 : s27.1 225 23 = nI 2 := fc_F hf53 hFc27 (by unfold M_MS_take; omega)
  have hf62 : s27.1 225 24 = nI 8 := fc_F hf54 hFc27 (by unfold M_MS_take; omega)
  have hf63 : s27.1 225 25 = nI 7 := fc_F hf55 hFc27 (by unfold M_MS_take; omega)
  have hf64 : s27.1 225 26 = nI 2 := fc_F hf56 hFc27 (by unfold M_MS_take; omega)
  have hf65 : s27.1 225 27 = nI 524288 := fc_F hf57 hFc27 (by unfold M_MS_take; omega)
  have hf66 : s27.1 225 28 = nI 261888 := fc_F hf58 hFc27 (by unfold M_MS_take; omega)
  have hf67 : s27.1 225 29 = nI 120 := fc_F hf59 hFc27 (by unfold M_MS_take; omega)
  have hf68 : s27.1 225 30 = nI 64 := fc_F hf60 hFc27 (by unfold M_MS_take; omega)
  refine W.widen (k := 0) (n := 0) (by omega) (by omega) ?_
  refine lv_aload_n hx hb dMH_keys_67 rfl (lv_at hl 0 rfl) ?_
  refine lv_aload_n hx hb dMH_keys_68 rfl (lv_at hl 0 rfl) ?_
  refine nw_get (C := "LatticeKeysModel$Hands") (TT := T_MH) (N := 31) hx hb hts (wg_ft i_MH) hown hK hO k_h0 (kn := 225) (ci := 12) (fl := [(3, 172), (3, 181), (3, 226), (3, 291), (3, 299), (3, 308), (3, 317), (3, 326), (3, 334), (3, 342), (3, 350), (3, 359), (3, 368), (3, 369), (3, 370), (3, 371), (3, 372), (3, 373), (3, 374), (3, 375), (3, 376), (3, 377), (3, 378), (0, 0), (0, 0), (0, 0), (0, 0), (0, 0), (0, 0), (0, 0), (0, 0)]) rfl hP rfl 16 (by decide) (hts _ (wg_t kw_1448)) (fun _ h9 => h9) (cd := (3, 372)) rfl dMH_keys_69 (fun v30 hv30 => ?_)
  obtain ⟨r28, rfl, kr28⟩ := (show ∃ r : Nat, v30 = .ref r ∧ T r = some 372 from hv30)
  refine mp_v (cx := []) (wr := []) hP hD hS hA [] [] rfl rfl rfl (by decide) (va_runV (As := [.ref r28]) (rest := []) F (N_MH_expand_2 l g _ T s27 pl hO hU h0 r28 372 128 k_h0 kr28 rfl hf61 hf62 hf63 hf64 hf65 hf66 hf67 hf68 (by omega) (by omega) hE.1) (cwV 1 hts (wg_app (wg_c kw_1723 (wg_c kw_1725 (wg_c ks_61 (wg_c kw_13 wg_n)))) kw_1726) rfl rfl rfl (by decide +kernel) ⟨by decide, by decide⟩) (pn_W "LatticeKeysModel$Hands" (en_ok g) (ci := 12) (kn := 225) (fl := [(3, 172), (3, 181), (3, 226), (3, 291), (3, 299), (3, 308), (3, 317), (3, 326), (3, 334), (3, 342), (3, 350), (3, 359), (3, 368), (3, 369), (3, 370), (3, 371), (3, 372), (3, 373), (3, 374), (3, 375), (3, 376), (3, 377), (3, 378), (0, 0), (0, 0), (0, 0), (0, 0), (0, 0), (0, 0), (0, 0), (0, 0)]) hK hO k_h0 rfl hP hD hS hA hEn [] rfl rfl rfl) rfl rfl hl.1 rfl (lv_room (Nat.le_of_ble_eq_true rfl)) dMH_keys_72 ⟨by omega, by omega⟩) (fun  u28 H locs hu28 hP hD hS => ?_)
  obtain ⟨s28, pl⟩ := u28
  obtain ⟨⟨eq28, hFc28, -⟩, hO⟩ := hu28
  have hO : okn g T s28 pl := hO
  have hP : va_P g.1 vcl ([] ++ pl) _ := hP
  have hD : va_D _ ([] ++ pl) := hD
  have hFc28 : frm (M_MH_expand_2) s27 s28 := hFc28
  rw [and_iff_right hE.1] at hE
  replace hR := bnd_step hR eq28
  first | rw [bnd_step rfl eq28] at hE | replace hE := bndP_step hE eq28
  have hF := frm_tr hF hFc28 (fun k hk => by unfold M_MH_expand_2 at hk; unfold M_MH_keys_2; omega)
  have hf69 : s28.1 225 23 = nI 2 := fc_F hf61 hFc28 (by unfold M_MH_expand_2; omega)
  have hf70 : s28.1 225 24 = nI 8 := fc_F hf62 hFc28 (by unfold M_MH_expand_2; omega)
  have hf71 : s28.1 225 25 = nI 7 := fc_F hf63 hFc28 (by unfold M_MH_expand_2; omega)
  have hf72 : s28.1 225 26 = nI 2 := fc_F hf64 hFc28 (by unfold M_MH_expand_2; omega)
  have hf73 : s28.1 225 27 = nI 524288 := fc_F hf65 hFc28 (by unfold M_MH_expand_2; omega)
  have hf74 : s28.1 225 28 = nI 261888 := fc_F hf66 hFc28 (by unfold M_MH_expand_2; omega)
  have hf75 : s28.1 225 29 = nI 120 := fc_F hf67 hFc28 (by unfold M_MH_expand_2; omega)
  have hf76 : s28.1 225 30 = nI 64 := fc_F hf68 hFc28 (by unfold M_MH_expand_2; omega)
  refine W.widen (k := 0) (n := 0) (by omega) (by omega) ?_
  refine lv_iconst (v := nI 0) hx hb dMH_keys_75 (by decide) ?_
  refine lv_istore (lv' := [(5, .int (nI 0)), (0, .ref h0), (1, .int (nI 2)), (2, .ref b), (3, .ref pk), (4, .ref sk)]) hx hb dMH_keys_76 hl (by decide) rfl (fun ls hl => ?_)
  have lp21 : ∀ (n21 : Nat) (i21 : Nat) (s29 : Sto) (pl : va_W) (ls : Array Slot) (H : Heap) (locs : List Loc), n21 + i21 = 7 → frm (M_MH_keys_2 pp psk) s s29 → s29.1 225 23 = nI 2 → s29.1 225 24 = nI 8 → s29.1 225 25 = nI 7 → s29.1 225 26 = nI 2 → s29.1 225 27 = nI 524288 → s29.1 225 28 = nI 261888 → s29.1 225 29 = nI 120 → s29.1 225 30 = nI 64 → E_MH_keys_2_L0 pp psk n21 i21 s29 → F_MH_keys_2 pb n pp psk s = F_MH_keys_2_L0 pp psk n21 i21 s29 → lv_has ls 10 [(5, .int (nI i21)), (0, .ref h0), (3, .ref pk), (4, .ref sk)] → okn g T s29 pl → va_P g.1 vcl ([] ++ pl) H → va_D A ([] ++ pl) → va_S A s0.heap H locs → W p l e ({ frames := 5, cells := 0, slots := 0, locals := 118 } : Room) s0 m args below meth c H locs 0 0 (MQ below (va_Qv (fun (u : (Sto) × va_W) => (u.1 = F_MH_keys_2 pb n pp psk s ∧ frm (M_MH_keys_2 pp psk) s u.1 ∧ True) ∧ okn g T u.1 u.2) (po g.1 vcl A (fun (u : (Sto) × va_W) => [] ++ u.2)) A) args s0 0 0 A) (F0 m 78 ls []) := by
    intro n21
    induction n21 with
    | zero =>
      intro i21 s29 pl ls H locs hm21 hF hf77 hf78 hf79 hf80 hf81 hf82 hf83 hf84 hE hR hl hO hP hD hS
      refine lv_iload hx hb dMH_keys_78 (lv_at hl 0 rfl) ?_
      refine lv_aload_n hx hb dMH_keys_80 rfl (lv_at hl 1 rfl) ?_
      refine nw_get (C := "LatticeKeysModel$Hands") (TT := T_MH) (N := 31) hx hb hts (wg_ft i_MH) hown hK hO k_h0 (kn := 225) (ci := 12) (fl := [(3, 172), (3, 181), (3, 226), (3, 291), (3, 299), (3, 308), (3, 317), (3, 326), (3, 334), (3, 342), (3, 350), (3, 359), (3, 368), (3, 369), (3, 370), (3, 371), (3, 372), (3, 373), (3, 374), (3, 375), (3, 376), (3, 377), (3, 378), (0, 0), (0, 0), (0, 0), (0, 0), (0, 0), (0, 0), (0, 0), (0, 0)]) rfl hP rfl 25 (by decide) (hts _ (wg_t kw_1457)) (fun _ h9 => h9) (cd := (0, 0)) rfl dMH_keys_81 (fun v31 hv31 => ?_)
      obtain rfl := (show v31 = .int (s29.1 225 25) from hv31)
      obtain ⟨z23, ez23, hz25, hz26⟩ := cl_of (b := 2147483648) hf79 (by omega) (by decide)
      replace hR := bnd_step hR ez23
      first | rw [bnd_step rfl ez23] at hE | replace hE := bndP_step hE ez23
      refine mi_as hz25 ?_
      subst hz26
      refine mi_ge (tgt := 135) hx hb dMH_keys_84 (by decide) (by omega) (by omega) (fun h21 => ?_) (fun h21 => absurd h21 (by omega))
      refine lv_iconst (v := nI 0) hx hb dMH_keys_135 (by decide) ?_
      refine lv_istore (lv' := [(5, .int (nI 0)), (0, .ref h0), (3, .ref pk), (4, .ref sk)]) hx hb dMH_keys_136 hl (by decide) rfl (fun ls hl => ?_)
      have lp22 : ∀ (n22 : Nat) (i22 : Nat) (s30 : Sto) (pl : va_W) (ls : Array Slot) (H : Heap) (locs : List Loc), n22 + i22 = 8 → frm (M_MH_keys_2 pp psk) s s30 → s30.1 225 23 = nI 2 → s30.1 225 24 = nI 8 → s30.1 225 25 = nI 7 → s30.1 225 26 = nI 2 → s30.1 225 27 = nI 524288 → s30.1 225 28 = nI 261888 → s30.1 225 29 = nI 120 → s30.1 225 30 = nI 64 → E_MH_keys_2_L1 pp psk n22 i22 s30 → F_MH_keys_2 pb n pp psk s = F_MH_keys_2_L1 pp psk n22 i22 s30 → lv_has ls 10 [(5, .int (nI i22)), (0, .ref h0), (3, .ref pk), (4, .ref sk)] → okn g T s30 pl → va_P g.1 vcl ([] ++ pl) H → va_D A ([] ++ pl) → va_S A s0.heap H locs → W p l e ({ frames := 5, cells := 0, slots := 0, locals := 118 } : Room) s0 m args below meth c H locs 0 0 (MQ below (va_Qv (fun (u : (Sto) × va_W) => (u.1 = F_MH_keys_2 pb n pp psk s ∧ frm (M_MH_keys_2 pp psk) s u.1 ∧ True) ∧ okn g T u.1 u.2) (po g.1 vcl A (fun (u : (Sto) × va_W) => [] ++ u.2)) A) args s0 0 0 A) (F0 m 138 ls []) := by
        intro n22
        induction n22 with
        | zero =>
          intro i22 s30 pl ls H locs hm22 hF hf85 hf86 hf87 hf88 hf89 hf90 hf91 hf92 hE hR hl hO hP hD hS
          refine lv_iload hx hb dMH_keys_138 (lv_at hl 0 rfl) ?_
          refine lv_aload_n hx hb dMH_keys_140 rfl (lv_at hl 1 rfl) ?_
          refine nw_get (C := "LatticeKeysModel$Hands") (TT := T_MH) (N := 31) hx hb hts (wg_ft i_MH) hown hK hO k_h0 (kn := 225) (ci := 12) (fl := [(3, 172), (3, 181), (3, 226), (3, 291), (3, 299), (3, 308), (3, 317), (3, 326), (3, 334), (3, 342), (3, 350), (3, 359), (3, 368), (3, 369), (3, 370), (3, 371), (3, 372), (3, 373), (3, 374), (3, 375), (3, 376), (3, 377), (3, 378), (0, 0), (0, 0), (0, 0), (0, 0), (0, 0), (0, 0), (0, 0), (0, 0)]) rfl hP rfl 24 (by decide) (hts _ (wg_t kw_1456)) (fun _ h9 => h9) (cd := (0, 0)) rfl dMH_keys_141 (fun v32 hv32 => ?_)
          obtain rfl := (show v32 = .int (s30.1 225 24) from hv32)
          obtain ⟨z24, ez24, hz27, hz28⟩ := cl_of (b := 2147483648) hf86 (by omega) (by decide)
          replace hR := bnd_step hR ez24
          first | rw [bnd_step rfl ez24] at hE | replace hE := bndP_step hE ez24
          refine mi_as hz27 ?_
          subst hz28
          refine mi_ge (tgt := 280) hx hb dMH_keys_144 (by decide) (by omega) (by omega) (fun h22 => ?_) (fun h22 => absurd h22 (by omega))
          refine lv_iconst (v := nI 0) hx hb dMH_keys_280 (by decide) ?_
          refine lv_istore (lv' := [(5, .int (nI 0)), (0, .ref h0), (3, .ref pk), (4, .ref sk)]) hx hb dMH_keys_281 hl (by decide) rfl (fun ls hl => ?_)
          have lp23 : ∀ (n23 : Nat) (i23 : Nat) (s31 : Sto) (pl : va_W) (ls : Array Slot) (H : Heap) (locs : List Loc), n23 + i23 = 32 → frm (M_MH_keys_2 pp psk) s s31 → s31.1 225 23 = nI 2 → s31.1 225 24 = nI 8 → s31.1 225 25 = nI 7 → s31.1 225 26 = nI 2 → s31.1 225 27 = nI 524288 → s31.1 225 28 = nI 261888 → s31.1 225 29 = nI 120 → s31.1 225 30 = nI 64 → E_MH_keys_2_L2 pp psk n23 i23 s31 → F_MH_keys_2 pb n pp psk s = F_MH_keys_2_L2 pp psk n23 i23 s31 → lv_has ls 10 [(5, .int (nI i23)), (0, .ref h0), (3, .ref pk), (4, .ref sk)] → okn g T s31 pl → va_P g.1 vcl ([] ++ pl) H → va_D A ([] ++ pl) → va_S A s0.heap H locs → W p l e ({ frames := 5, cells := 0, slots := 0, locals := 118 } : Room) s0 m args below meth c H locs 0 0 (MQ below (va_Qv (fun (u : (Sto) × va_W) => (u.1 = F_MH_keys_2 pb n pp psk s ∧ frm (M_MH_keys_2 pp psk) s u.1 ∧ True) ∧ okn g T u.1 u.2) (po g.1 vcl A (fun (u : (Sto) × va_W) => [] ++ u.2)) A) args s0 0 0 A) (F0 m 283 ls []) := by
            intro n23
            induction n23 with
            | zero =>
              intro i23 s31 pl ls H locs hm23 hF hf93 hf94 hf95 hf96 hf97 hf98 hf99 hf100 hE hR hl hO hP hD hS
              refine lv_iload hx hb dMH_keys_283 (lv_at hl 0 rfl) ?_
              refine lv_bipush (v := nI 32) hx hb dMH_keys_285 (by decide) ?_
              refine mi_ge (tgt := 337) hx hb dMH_keys_287 (by decide) (by omega) (by omega) (fun h23 => ?_) (fun h23 => absurd h23 (by omega))
              refine lv_iconst (v := nI 0) hx hb dMH_keys_337 (by decide) ?_
              refine lv_istore (lv' := [(5, .int (nI 0)), (0, .ref h0), (3, .ref pk), (4, .ref sk)]) hx hb dMH_keys_338 hl (by decide) rfl (fun ls hl => ?_)
              have lp24 : ∀ (n24 : Nat) (i24 : Nat) (s32 : Sto) (pl : va_W) (ls : Array Slot) (H : Heap) (locs : List Loc), n24 + i24 = 8 → frm (M_MH_keys_2 pp psk) s s32 → s32.1 225 23 = nI 2 → s32.1 225 24 = nI 8 → s32.1 225 25 = nI 7 → s32.1 225 26 = nI 2 → s32.1 225 27 = nI 524288 → s32.1 225 28 = nI 261888 → s32.1 225 29 = nI 120 → s32.1 225 30 = nI 64 → E_MH_keys_2_L3 pp psk n24 i24 s32 → F_MH_keys_2 pb n pp psk s = F_MH_keys_2_L3 pp psk n24 i24 s32 → lv_has ls 10 [(5, .int (nI i24)), (0, .ref h0), (3, .ref pk), (4, .ref sk)] → okn g T s32 pl → va_P g.1 vcl ([] ++ pl) H → va_D A ([] ++ pl) → va_S A s0.heap H locs → W p l e ({ frames := 5, cells := 0, slots := 0, locals := 118 } : Room) s0 m args below meth c H locs 0 0 (MQ below (va_Qv (fun (u : (Sto) × va_W) => (u.1 = F_MH_keys_2 pb n pp psk s ∧ frm (M_MH_keys_2 pp psk) s u.1 ∧ True) ∧ okn g T u.1 u.2) (po g.1 vcl A (fun (u : (Sto) × va_W) => [] ++ u.2)) A) args s0 0 0 A) (F0 m 340 ls []) := by
                intro n24
                induction n24 with
                | zero =>
                  intro i24 s32 pl ls H locs hm24 hF hf101 hf102 hf103 hf104 hf105 hf106 hf107 hf108 hE hR hl hO hP hD hS
                  refine lv_iload hx hb dMH_keys_340 (lv_at hl 0 rfl) ?_
                  refine lv_aload_n hx hb dMH_keys_342 rfl (lv_at hl 1 rfl) ?_
                  refine nw_get (C := "LatticeKeysModel$Hands") (TT := T_MH) (N := 31) hx hb hts (wg_ft i_MH) hown hK hO k_h0 (kn := 225) (ci := 12) (fl := [(3, 172), (3, 181), (3, 226), (3, 291), (3, 299), (3, 308), (3, 317), (3, 326), (3, 334), (3, 342), (3, 350), (3, 359), (3, 368), (3, 369), (3, 370), (3, 371), (3, 372), (3, 373), (3, 374), (3, 375), (3, 376), (3, 377), (3, 378), (0, 0), (0, 0), (0, 0), (0, 0), (0, 0), (0, 0), (0, 0), (0, 0)]) rfl hP rfl 24 (by decide) (hts _ (wg_t kw_1456)) (fun _ h9 => h9) (cd := (0, 0)) rfl dMH_keys_343 (fun v33 hv33 => ?_)
                  obtain rfl := (show v33 = .int (s32.1 225 24) from hv33)
                  obtain ⟨z25, ez25, hz29, hz30⟩ := cl_of (b := 2147483648) hf102 (by omega) (by decide)
                  replace hR := bnd_step hR ez25
                  first | rw [bnd_step rfl ez25] at hE | replace hE := bndP_step hE ez25
                  refine mi_as hz29 ?_
                  subst hz30
                  refine mi_ge (tgt := 404) hx hb dMH_keys_346 (by decide) (by omega) (by omega) (fun h24 => ?_) (fun h24 => absurd h24 (by omega))
                  refine lv_aload_n hx hb dMH_keys_404 rfl (lv_at hl 1 rfl) ?_
                  refine nw_get (C := "LatticeKeysModel$Hands") (TT := T_MH) (N := 31) hx hb hts (wg_ft i_MH) hown hK hO k_h0 (kn := 225) (ci := 12) (fl := [(3, 172), (3, 181), (3, 226), (3, 291), (3, 299), (3, 308), (3, 317), (3, 326), (3, 334), (3, 342), (3, 350), (3, 359), (3, 368), (3, 369), (3, 370), (3, 371), (3, 372), (3, 373), (3, 374), (3, 375), (3, 376), (3, 377), (3, 378), (0, 0), (0, 0), (0, 0), (0, 0), (0, 0), (0, 0), (0, 0), (0, 0)]) rfl hP rfl 0 (by decide) (hts _ (wg_t kw_1432)) (fun _ h9 => h9) (cd := (3, 172)) rfl dMH_keys_405 (fun v34 hv34 => ?_)
                  obtain ⟨r29, rfl, kr29⟩ := (show ∃ r : Nat, v34 = .ref r ∧ T r = some 172 from hv34)
                  refine mp_v (cx := []) (wr := []) hP hD hS hA [] [] rfl rfl rfl (by decide) (va_runV (As := []) (rest := []) F (N_MS_shake l g _ T s32 pl hO hU r29 kr29) (cwV 0 hts (wg_app (wg_c kw_1718 (wg_c kw_1661 (wg_c kw_1662 (wg_c kw_10 wg_n)))) kw_1663) rfl rfl rfl (by decide +kernel) ⟨by decide, by decide⟩) (pn_W "LatticeKeysModel$Sponge" (en_ok g) (ci := 9) (kn := 172) (fl := [(3, 173), (3, 174), (3, 175), (3, 176), (3, 177), (0, 0), (0, 0), (0, 0)]) hK hO kr29 rfl hP hD hS hA hEn [] rfl rfl rfl) rfl rfl hl.1 rfl (lv_room (Nat.le_of_ble_eq_true rfl)) dMH_keys_408 ⟨by omega, by omega⟩) (fun  u29 H locs hu29 hP hD hS => ?_)
                  obtain ⟨s33, pl⟩ := u29
                  obtain ⟨⟨eq29, hFc29, ⟨x49, hx_49, hb_49⟩, ⟨x50, hx_50, hb_50⟩, -⟩, hO⟩ := hu29
                  have hO : okn g T s33 pl := hO
                  have hP : va_P g.1 vcl ([] ++ pl) _ := hP
                  have hD : va_D _ ([] ++ pl) := hD
                  have hFc29 : frm (M_MS_shake) s32 s33 := hFc29
                  have hb_49 : x49 = 0 := hb_49
                  have hb_50 : x50 = 136 := hb_50
                  replace hR := bnd_step hR eq29
                  first | rw [bnd_step rfl eq29] at hE | replace hE := bndP_step hE eq29
                  have hF := frm_tr hF hFc29 (fun k hk => by unfold M_MS_shake at hk; unfold M_MH_keys_2; omega)
                  have hf109 : s33.1 225 23 = nI 2 := fc_F hf101 hFc29 (by unfold M_MS_shake; omega)
                  have hf110 : s33.1 225 24 = nI 8 := fc_F hf102 hFc29 (by unfold M_MS_shake; omega)
                  have hf111 : s33.1 225 25 = nI 7 := fc_F hf103 hFc29 (by unfold M_MS_shake; omega)
                  have hf112 : s33.1 225 26 = nI 2 := fc_F hf104 hFc29 (by unfold M_MS_shake; omega)
                  have hf113 : s33.1 225 27 = nI 524288 := fc_F hf105 hFc29 (by unfold M_MS_shake; omega)
                  have hf114 : s33.1 225 28 = nI 261888 := fc_F hf106 hFc29 (by unfold M_MS_shake; omega)
                  have hf115 : s33.1 225 29 = nI 120 := fc_F hf107 hFc29 (by unfold M_MS_shake; omega)
                  have hf116 : s33.1 225 30 = nI 64 := fc_F hf108 hFc29 (by unfold M_MS_shake; omega)
                  refine W.widen (k := 0) (n := 0) (by omega) (by omega) ?_
                  refine lv_aload_n hx hb dMH_keys_411 rfl (lv_at hl 1 rfl) ?_
                  refine nw_get (C := "LatticeKeysModel$Hands") (TT := T_MH) (N := 31) hx hb hts (wg_ft i_MH) hown hK hO k_h0 (kn := 225) (ci := 12) (fl := [(3, 172), (3, 181), (3, 226), (3, 291), (3, 299), (3, 308), (3, 317), (3, 326), (3, 334), (3, 342), (3, 350), (3, 359), (3, 368), (3, 369), (3, 370), (3, 371), (3, 372), (3, 373), (3, 374), (3, 375), (3, 376), (3, 377), (3, 378), (0, 0), (0, 0), (0, 0), (0, 0), (0, 0), (0, 0), (0, 0), (0, 0)]) rfl hP rfl 0 (by decide) (hts _ (wg_t kw_1432)) (fun _ h9 => h9) (cd := (3, 172)) rfl dMH_keys_412 (fun v35 hv35 => ?_)
                  obtain ⟨r30, rfl, kr30⟩ := (show ∃ r : Nat, v35 = .ref r ∧ T r = some 172 from hv35)
                  refine lv_aload_n hx hb dMH_keys_415 rfl (lv_at hl 2 rfl) ?_
                  refine lv_iconst (v := nI 0) hx hb dMH_keys_416 (by decide) ?_
                  refine lv_aload_n hx hb dMH_keys_417 rfl (lv_at hl 1 rfl) ?_
                  refine nw_get (C := "LatticeKeysModel$Hands") (TT := T_MH) (N := 31) hx hb hts (wg_ft i_MH) hown hK hO k_h0 (kn := 225) (ci := 12) (fl := [(3, 172), (3, 181), (3, 226), (3, 291), (3, 299), (3, 308), (3, 317), (3, 326), (3, 334), (3, 342), (3, 350), (3, 359), (3, 368), (3, 369), (3, 370), (3, 371), (3, 372), (3, 373), (3, 374), (3, 375), (3, 376), (3, 377), (3, 378), (0, 0), (0, 0), (0, 0), (0, 0), (0, 0), (0, 0), (0, 0), (0, 0)]) rfl hP rfl 23 (by decide) (hts _ (wg_t kw_1455)) (fun _ h9 => h9) (cd := (0, 0)) rfl dMH_keys_418 (fun v36 hv36 => ?_)
                  obtain rfl := (show v36 = .int (s33.1 225 23) from hv36)
                  obtain ⟨z26, ez26, hz31, hz32⟩ := cl_of (b := 2147483648) hf109 (by omega) (by decide)
                  replace hR := bnd_step hR ez26
                  first | rw [bnd_step rfl ez26] at hE | replace hE := bndP_step hE ez26
                  refine mi_as hz31 ?_
                  subst hz32
                  refine mp_i (cx := []) (wr := []) hP hD hS hA [] [] rfl rfl rfl (by decide) (va_runS (As := [.int (nI 2)]) (rest := [.int (nI 0), .ref pk, .ref r30]) F (N_MH_openSize_2 l g _ T s33 pl hO hU ) (va_cwS 1 hts (wg_app (wg_c kw_1744 (wg_c kw_1745 (wg_c kw_13 wg_n))) kw_1746) rfl rfl rfl (by decide +kernel) ⟨by decide, by decide⟩) (pp_S (en_ok g) hP hD hS hA hEn [] rfl rfl) rfl rfl hl.1 rfl (lv_room (Nat.le_of_ble_eq_true rfl)) dMH_keys_421 ⟨by omega, by omega⟩) (fun r31 u30 H locs hu30 hP hD hS => ?_)
                  obtain ⟨q21, pl⟩ := u30
                  obtain ⟨⟨eq30, rfl, hFc30, ⟨x52, hx_52, hb_52⟩, hxp30, -⟩, hO⟩ := hu30
                  have hO : okn g T q21.2 pl := hO
                  have hP : va_P g.1 vcl ([] ++ pl) _ := hP
                  have hD : va_D _ ([] ++ pl) := hD
                  have hFc30 : frm (M_MH_openSize_2) s33 q21.2 := hFc30
                  have hb_52 : x52 < 2593 := hb_52
                  replace hR := bnd_step hR eq30
                  first | rw [bnd_step rfl eq30] at hE | replace hE := bndP_step hE eq30
                  have hF := frm_tr hF hFc30 (fun k hk => by unfold M_MH_openSize_2 at hk; unfold M_MH_keys_2; omega)
                  have hf117 : q21.2.1 225 23 = nI 2 := fc_F hf109 hFc30 (by unfold M_MH_openSize_2; omega)
                  have hf118 : q21.2.1 225 24 = nI 8 := fc_F hf110 hFc30 (by unfold M_MH_openSize_2; omega)
                  have hf119 : q21.2.1 225 25 = nI 7 := fc_F hf111 hFc30 (by unfold M_MH_openSize_2; omega)
                  have hf120 : q21.2.1 225 26 = nI 2 := fc_F hf112 hFc30 (by unfold M_MH_openSize_2; omega)
                  have hf121 : q21.2.1 225 27 = nI 524288 := fc_F hf113 hFc30 (by unfold M_MH_openSize_2; omega)
                  have hf122 : q21.2.1 225 28 = nI 261888 := fc_F hf114 hFc30 (by unfold M_MH_openSize_2; omega)
                  have hf123 : q21.2.1 225 29 = nI 120 := fc_F hf115 hFc30 (by unfold M_MH_openSize_2; omega)
                  have hf124 : q21.2.1 225 30 = nI 64 := fc_F hf116 hFc30 (by unfold M_MH_openSize_2; omega)
                  have hf125 : q21.2.1 172 6 = nI x49 := fc_F hx_49 hFc30 (by unfold M_MH_openSize_2; omega)
                  have hf126 : q21.2.1 172 5 = nI x50 := fc_F hx_50 hFc30 (by unfold M_MH_openSize_2; omega)
                  obtain ⟨z27, ez27, hz33, hz34⟩ := cl_of (b := 2147483648) hx_52 (by omega) (by decide)
                  replace hR := bnd_step hR ez27
                  first | rw [bnd_step rfl ez27] at hE | replace hE := bndP_step hE ez27
                  refine mi_as hz33 ?_
                  have hsz21 : z27 = 2592 := (nI_eq (by omega) (by omega)).mp (hz33.symm.trans hxp30)
                  subst hsz21
                  refine W.widen (k := 0) (n := 0) (by omega) (by omega) ?_
                  refine mp_v (cx := []) (wr := []) hP hD hS hA [] [] rfl rfl rfl (by decide) (va_runV (As := [.ref pk, .int (nI 0), .int (nI 2592)]) (rest := []) F (N_MS_puts l g _ T q21.2 pl hO hU r30 pk pp 2592 0 2592 x49 x50 kr30 k_pk n_pk hf125 hf126 (by omega) (by omega) (by omega) (by omega)) (cwV 3 hts (wg_app (wg_c kw_1719 (wg_c kw_1612 (wg_c kw_1613 (wg_c kw_10 wg_n)))) kw_1614) rfl rfl rfl (by decide +kernel) ⟨by decide, by decide⟩) (pn_W "LatticeKeysModel$Sponge" (en_ok g) (ci := 9) (kn := 172) (fl := [(3, 173), (3, 174), (3, 175), (3, 176), (3, 177), (0, 0), (0, 0), (0, 0)]) hK hO kr30 rfl hP hD hS hA hEn [] rfl rfl rfl) rfl rfl hl.1 rfl (lv_room (Nat.le_of_ble_eq_true rfl)) dMH_keys_424 ⟨by omega, by omega⟩) (fun  u31 H locs hu31 hP hD hS => ?_)
                  obtain ⟨s34, pl⟩ := u31
                  obtain ⟨⟨eq31, hFc31, ⟨x53, hx_53, hb_53⟩, ⟨x54, hx_54, hb_54⟩, -⟩, hO⟩ := hu31
                  have hO : okn g T s34 pl := hO
                  have hP : va_P g.1 vcl ([] ++ pl) _ := hP
                  have hD : va_D _ ([] ++ pl) := hD
                  have hFc31 : frm (M_MS_puts) q21.2 s34 := hFc31
                  have hb_53 : x53 < x50 := hb_53
                  have hb_54 : x54 = x50 := hb_54
                  replace hR := bnd_step hR eq31
                  first | rw [bnd_step rfl eq31] at hE | replace hE := bndP_step hE eq31
                  have hF := frm_tr hF hFc31 (fun k hk => by unfold M_MS_puts at hk; unfold M_MH_keys_2; omega)
                  have hf127 : s34.1 225 23 = nI 2 := fc_F hf117 hFc31 (by unfold M_MS_puts; omega)
                  have hf128 : s34.1 225 24 = nI 8 := fc_F hf118 hFc31 (by unfold M_MS_puts; omega)
                  have hf129 : s34.1 225 25 = nI 7 := fc_F hf119 hFc31 (by unfold M_MS_puts; omega)
                  have hf130 : s34.1 225 26 = nI 2 := fc_F hf120 hFc31 (by unfold M_MS_puts; omega)
                  have hf131 : s34.1 225 27 = nI 524288 := fc_F hf121 hFc31 (by unfold M_MS_puts; omega)
                  have hf132 : s34.1 225 28 = nI 261888 := fc_F hf122 hFc31 (by unfold M_MS_puts; omega)
                  have hf133 : s34.1 225 29 = nI 120 := fc_F hf123 hFc31 (by unfold M_MS_puts; omega)
                  have hf134 : s34.1 225 30 = nI 64 := fc_F hf124 hFc31 (by unfold M_MS_puts; omega)
                  refine W.widen (k := 0) (n := 0) (by omega) (by omega) ?_
                  refine lv_aload_n hx hb dMH_keys_427 rfl (lv_at hl 1 rfl) ?_
                  refine nw_get (C := "LatticeKeysModel$Hands") (TT := T_MH) (N := 31) hx hb hts (wg_ft i_MH) hown hK hO k_h0 (kn := 225) (ci := 12) (fl := [(3, 172), (3, 181), (3, 226), (3, 291), (3, 299), (3, 308), (3, 317), (3, 326), (3, 334), (3, 342), (3, 350), (3, 359), (3, 368), (3, 369), (3, 370), (3, 371), (3, 372), (3, 373), (3, 374), (3, 375), (3, 376), (3, 377), (3, 378), (0, 0), (0, 0), (0, 0), (0, 0), (0, 0), (0, 0), (0, 0), (0, 0)]) rfl hP rfl 0 (by decide) (hts _ (wg_t kw_1432)) (fun _ h9 => h9) (cd := (3, 172)) rfl dMH_keys_428 (fun v37 hv37 => ?_)
                  obtain ⟨r32, rfl, kr31⟩ := (show ∃ r : Nat, v37 = .ref r ∧ T r = some 172 from hv37)
                  refine mp_v (cx := []) (wr := []) hP hD hS hA [] [] rfl rfl rfl (by decide) (va_runV (As := []) (rest := []) F (N_MS_end l g _ T s34 pl hO hU r32 x53 x54 kr31 hx_53 hx_54 (by omega) (by omega)) (cwV 0 hts (wg_app (wg_c kw_1721 (wg_c kw_1634 (wg_c kw_1635 (wg_c kw_10 wg_n)))) kw_1636) rfl rfl rfl (by decide +kernel) ⟨by decide, by decide⟩) (pn_W "LatticeKeysModel$Sponge" (en_ok g) (ci := 9) (kn := 172) (fl := [(3, 173), (3, 174), (3, 175), (3, 176), (3, 177), (0, 0), (0, 0), (0, 0)]) hK hO kr31 rfl hP hD hS hA hEn [] rfl rfl rfl) rfl rfl hl.1 rfl (lv_room (Nat.le_of_ble_eq_true rfl)) dMH_keys_431 ⟨by omega, by omega⟩) (fun  u32 H locs hu32 hP hD hS => ?_)
                  obtain ⟨s35, pl⟩ := u32
                  obtain ⟨⟨eq32, hFc32, ⟨x56, hx_56, hb_56⟩, ⟨x57, hx_57, hb_57⟩, -⟩, hO⟩ := hu32
                  have hO : okn g T s35 pl := hO
                  have hP : va_P g.1 vcl ([] ++ pl) _ := hP
                  have hD : va_D _ ([] ++ pl) := hD
                  have hFc32 : frm (M_MS_end) s34 s35 := hFc32
                  have hb_56 : x56 = 0 := hb_56
                  have hb_57 : x57 = x54 := hb_57
                  replace hR := bnd_step hR eq32
                  first | rw [bnd_step rfl eq32] at hE | replace hE := bndP_step hE eq32
                  have hF := frm_tr hF hFc32 (fun k hk => by unfold M_MS_end at hk; unfold M_MH_keys_2; omega)
                  have hf135 : s35.1 225 23 = nI 2 := fc_F hf127 hFc32 (by unfold M_MS_end; omega)
                  have hf136 : s35.1 225 24 = nI 8 := fc_F hf128 hFc32 (by unfold M_MS_end; omega)
                  have hf137 : s35.1 225 25 = nI 7 := fc_F hf129 hFc32 (by unfold M_MS_end; omega)
                  have hf138 : s35.1 225 26 = nI 2 := fc_F hf130 hFc32 (by unfold M_MS_end; omega)
                  have hf139 : s35.1 225 27 = nI 524288 := fc_F hf131 hFc32 (by unfold M_MS_end; omega)
                  have hf140 : s35.1 225 28 = nI 261888 := fc_F hf132 hFc32 (by unfold M_MS_end; omega)
                  have hf141 : s35.1 225 29 = nI 120 := fc_F hf133 hFc32 (by unfold M_MS_end; omega)
                  have hf142 : s35.1 225 30 = nI 64 := fc_F hf134 hFc32 (by unfold M_MS_end; omega)
                  refine W.widen (k := 0) (n := 0) (by omega) (by omega) ?_
                  refine lv_aload_n hx hb dMH_keys_434 rfl (lv_at hl 1 rfl) ?_
                  refine nw_get (C := "LatticeKeysModel$Hands") (TT := T_MH) (N := 31) hx hb hts (wg_ft i_MH) hown hK hO k_h0 (kn := 225) (ci := 12) (fl := [(3, 172), (3, 181), (3, 226), (3, 291), (3, 299), (3, 308), (3, 317), (3, 326), (3, 334), (3, 342), (3, 350), (3, 359), (3, 368), (3, 369), (3, 370), (3, 371), (3, 372), (3, 373), (3, 374), (3, 375), (3, 376), (3, 377), (3, 378), (0, 0), (0, 0), (0, 0), (0, 0), (0, 0), (0, 0), (0, 0), (0, 0)]) rfl hP rfl 0 (by decide) (hts _ (wg_t kw_1432)) (fun _ h9 => h9) (cd := (3, 172)) rfl dMH_keys_435 (fun v38 hv38 => ?_)
                  obtain ⟨r33, rfl, kr32⟩ := (show ∃ r : Nat, v38 = .ref r ∧ T r = some 172 from hv38)
                  refine lv_aload hx hb dMH_keys_438 (lv_at hl 3 rfl) ?_
                  refine lv_bipush (v := nI 64) hx hb dMH_keys_440 (by decide) ?_
                  refine lv_bipush (v := nI 64) hx hb dMH_keys_442 (by decide) ?_
                  refine mp_v (cx := []) (wr := []) hP hD hS hA [] [] rfl rfl rfl (by decide) (va_runV (As := [.ref sk, .int (nI 64), .int (nI 64)]) (rest := []) F (N_MS_take l g _ T s35 pl hO hU r33 sk psk 4896 64 64 x56 x57 kr32 k_sk n_sk hx_56 hx_57 (by omega) (by omega) (by omega) (by omega)) (cwV 3 hts (wg_app (wg_c kw_1722 (wg_c kw_1638 (wg_c kw_1639 (wg_c kw_10 wg_n)))) kw_1640) rfl rfl rfl (by decide +kernel) ⟨by decide, by decide⟩) (pn_W "LatticeKeysModel$Sponge" (en_ok g) (ci := 9) (kn := 172) (fl := [(3, 173), (3, 174), (3, 175), (3, 176), (3, 177), (0, 0), (0, 0), (0, 0)]) hK hO kr32 rfl hP hD hS hA hEn [] rfl rfl rfl) rfl rfl hl.1 rfl (lv_room (Nat.le_of_ble_eq_true rfl)) dMH_keys_444 ⟨by omega, by omega⟩) (fun  u33 H locs hu33 hP hD hS => ?_)
                  obtain ⟨s36, pl⟩ := u33
                  obtain ⟨⟨eq33, hFc33, ⟨x59, hx_59, hb_59⟩, ⟨x60, hx_60, hb_60⟩, -⟩, hO⟩ := hu33
                  have hO : okn g T s36 pl := hO
                  have hP : va_P g.1 vcl ([] ++ pl) _ := hP
                  have hD : va_D _ ([] ++ pl) := hD
                  have hFc33 : frm (M_MS_take psk) s35 s36 := hFc33
                  have hb_59 : x59 ≤ x57 := hb_59
                  have hb_60 : x60 = x57 := hb_60
                  replace hR := bnd_step hR eq33
                  first | rw [bnd_step rfl eq33] at hE | replace hE := bndP_step hE eq33
                  have hF := frm_tr hF hFc33 (fun k hk => by unfold M_MS_take at hk; unfold M_MH_keys_2; omega)
                  have hf143 : s36.1 225 23 = nI 2 := fc_F hf135 hFc33 (by unfold M_MS_take; omega)
                  have hf144 : s36.1 225 24 = nI 8 := fc_F hf136 hFc33 (by unfold M_MS_take; omega)
                  have hf145 : s36.1 225 25 = nI 7 := fc_F hf137 hFc33 (by unfold M_MS_take; omega)
                  have hf146 : s36.1 225 26 = nI 2 := fc_F hf138 hFc33 (by unfold M_MS_take; omega)
                  have hf147 : s36.1 225 27 = nI 524288 := fc_F hf139 hFc33 (by unfold M_MS_take; omega)
                  have hf148 : s36.1 225 28 = nI 261888 := fc_F hf140 hFc33 (by unfold M_MS_take; omega)
                  have hf149 : s36.1 225 29 = nI 120 := fc_F hf141 hFc33 (by unfold M_MS_take; omega)
                  have hf150 : s36.1 225 30 = nI 64 := fc_F hf142 hFc33 (by unfold M_MS_take; omega)
                  refine W.widen (k := 0) (n := 0) (by omega) (by omega) ?_
                  refine lv_aload_n hx hb dMH_keys_447 rfl (lv_at hl 1 rfl) ?_
                  refine nw_get (C := "LatticeKeysModel$Hands") (TT := T_MH) (N := 31) hx hb hts (wg_ft i_MH) hown hK hO k_h0 (kn := 225) (ci := 12) (fl := [(3, 172), (3, 181), (3, 226), (3, 291), (3, 299), (3, 308), (3, 317), (3, 326), (3, 334), (3, 342), (3, 350), (3, 359), (3, 368), (3, 369), (3, 370), (3, 371), (3, 372), (3, 373), (3, 374), (3, 375), (3, 376), (3, 377), (3, 378), (0, 0), (0, 0), (0, 0), (0, 0), (0, 0), (0, 0), (0, 0), (0, 0)]) rfl hP rfl 26 (by decide) (hts _ (wg_t kw_1458)) (fun _ h9 => h9) (cd := (0, 0)) rfl dMH_keys_448 (fun v39 hv39 => ?_)
                  obtain rfl := (show v39 = .int (s36.1 225 26) from hv39)
                  obtain ⟨z28, ez28, hz35, hz36⟩ := cl_of (b := 2147483648) hf146 (by omega) (by decide)
                  replace hR := bnd_step hR ez28
                  first | rw [bnd_step rfl ez28] at hE | replace hE := bndP_step hE ez28
                  refine mi_as hz35 ?_
                  subst hz36
                  refine lv_iconst (v := nI 2) hx hb dMH_keys_451 (by decide) ?_
                  refine mi_ne (tgt := 459) hx hb dMH_keys_452 (by decide) (by omega) (by omega) (fun h25 => absurd h25 (by omega)) (fun h25 => ?_)
                  refine lv_iconst (v := nI 3) hx hb dMH_keys_455 (by decide) ?_
                  refine lv_goto (tgt := 460) hx hb dMH_keys_456 (by decide) ?_
                  refine lv_istore (lv' := [(5, .int (nI 3)), (0, .ref h0), (3, .ref pk), (4, .ref sk)]) hx hb dMH_keys_460 hl (by decide) rfl (fun ls hl => ?_)
                  refine lv_sipush (v := nI 1024) hx hb dMH_keys_462 (by decide) ?_
                  refine lv_istore (lv' := [(6, .int (nI 1024)), (5, .int (nI 3)), (0, .ref h0), (3, .ref pk), (4, .ref sk)]) hx hb dMH_keys_465 hl (by decide) rfl (fun ls hl => ?_)
                  refine lv_iconst (v := nI 0) hx hb dMH_keys_467 (by decide) ?_
                  refine lv_istore (lv' := [(7, .int (nI 0)), (6, .int (nI 1024)), (5, .int (nI 3)), (0, .ref h0), (3, .ref pk), (4, .ref sk)]) hx hb dMH_keys_468 hl (by decide) rfl (fun ls hl => ?_)
                  have lp25 : ∀ (n25 : Nat) (i25 : Nat) (az21 : Nat) (s37 : Sto) (pl : va_W) (ls : Array Slot) (H : Heap) (locs : List Loc), n25 + i25 = 15 → (az21 = 1024 + 768 * i25) → frm (M_MH_keys_2 pp psk) s s37 → s37.1 225 23 = nI 2 → s37.1 225 24 = nI 8 → s37.1 225 25 = nI 7 → s37.1 225 26 = nI 2 → s37.1 225 27 = nI 524288 → s37.1 225 28 = nI 261888 → s37.1 225 29 = nI 120 → s37.1 225 30 = nI 64 → E_MH_keys_2_L4 psk n25 i25 az21 s37 → F_MH_keys_2 pb n pp psk s = F_MH_keys_2_L4 psk n25 i25 az21 s37 → lv_has ls 10 [(7, .int (nI i25)), (6, .int (nI az21)), (5, .int (nI 3)), (0, .ref h0), (4, .ref sk)] → okn g T s37 pl → va_P g.1 vcl ([] ++ pl) H → va_D A ([] ++ pl) → va_S A s0.heap H locs → W p l e ({ frames := 5, cells := 0, slots := 0, locals := 118 } : Room) s0 m args below meth c H locs 0 0 (MQ below (va_Qv (fun (u : (Sto) × va_W) => (u.1 = F_MH_keys_2 pb n pp psk s ∧ frm (M_MH_keys_2 pp psk) s u.1 ∧ True) ∧ okn g T u.1 u.2) (po g.1 vcl A (fun (u : (Sto) × va_W) => [] ++ u.2)) A) args s0 0 0 A) (F0 m 470 ls []) := by
                    intro n25
                    induction n25 with
                    | zero =>
                      intro i25 az21 s37 pl ls H locs hm25 hi21 hF hf151 hf152 hf153 hf154 hf155 hf156 hf157 hf158 hE hR hl hO hP hD hS
                      refine lv_iload hx hb dMH_keys_470 (lv_at hl 0 rfl) ?_
                      refine lv_aload_n hx hb dMH_keys_472 rfl (lv_at hl 3 rfl) ?_
                      refine nw_get (C := "LatticeKeysModel$Hands") (TT := T_MH) (N := 31) hx hb hts (wg_ft i_MH) hown hK hO k_h0 (kn := 225) (ci := 12) (fl := [(3, 172), (3, 181), (3, 226), (3, 291), (3, 299), (3, 308), (3, 317), (3, 326), (3, 334), (3, 342), (3, 350), (3, 359), (3, 368), (3, 369), (3, 370), (3, 371), (3, 372), (3, 373), (3, 374), (3, 375), (3, 376), (3, 377), (3, 378), (0, 0), (0, 0), (0, 0), (0, 0), (0, 0), (0, 0), (0, 0), (0, 0)]) rfl hP rfl 24 (by decide) (hts _ (wg_t kw_1456)) (fun _ h9 => h9) (cd := (0, 0)) rfl dMH_keys_473 (fun v40 hv40 => ?_)
                      obtain rfl := (show v40 = .int (s37.1 225 24) from hv40)
                      obtain ⟨z29, ez29, hz37, hz38⟩ := cl_of (b := 2147483648) hf152 (by omega) (by decide)
                      replace hR := bnd_step hR ez29
                      first | rw [bnd_step rfl ez29] at hE | replace hE := bndP_step hE ez29
                      refine mi_as hz37 ?_
                      subst hz38
                      refine lv_aload_n hx hb dMH_keys_476 rfl (lv_at hl 3 rfl) ?_
                      refine nw_get (C := "LatticeKeysModel$Hands") (TT := T_MH) (N := 31) hx hb hts (wg_ft i_MH) hown hK hO k_h0 (kn := 225) (ci := 12) (fl := [(3, 172), (3, 181), (3, 226), (3, 291), (3, 299), (3, 308), (3, 317), (3, 326), (3, 334), (3, 342), (3, 350), (3, 359), (3, 368), (3, 369), (3, 370), (3, 371), (3, 372), (3, 373), (3, 374), (3, 375), (3, 376), (3, 377), (3, 378), (0, 0), (0, 0), (0, 0), (0, 0), (0, 0), (0, 0), (0, 0), (0, 0)]) rfl hP rfl 25 (by decide) (hts _ (wg_t kw_1457)) (fun _ h9 => h9) (cd := (0, 0)) rfl dMH_keys_477 (fun v41 hv41 => ?_)
                      obtain rfl := (show v41 = .int (s37.1 225 25) from hv41)
                      obtain ⟨z30, ez30, hz39, hz40⟩ := cl_of (b := 2147483648) hf153 (by omega) (by decide)
                      replace hR := bnd_step hR ez30
                      first | rw [bnd_step rfl ez30] at hE | replace hE := bndP_step hE ez30
                      refine mi_as hz39 ?_
                      subst hz40
                      refine mi_iadd hx hb dMH_keys_480 ?_
                      refine mi_as (show nI (8 + 7) = nI 15 from rfl) ?_
                      refine mi_ge (tgt := 591) hx hb dMH_keys_481 (by decide) (by omega) (by omega) (fun h26 => ?_) (fun h26 => absurd h26 (by omega))
                      refine lv_iconst (v := nI 0) hx hb dMH_keys_591 (by decide) ?_
                      refine lv_istore (lv' := [(7, .int (nI 0)), (6, .int (nI az21)), (5, .int (nI 3)), (0, .ref h0), (4, .ref sk)]) hx hb dMH_keys_592 hl (by decide) rfl (fun ls hl => ?_)
                      have lp26 : ∀ (n26 : Nat) (i26 : Nat) (az22 : Nat) (s38 : Sto) (pl : va_W) (ls : Array Slot) (H : Heap) (locs : List Loc), n26 + i26 = 8 → (az22 = 12544 + 3328 * i26) → frm (M_MH_keys_2 pp psk) s s38 → s38.1 225 23 = nI 2 → s38.1 225 24 = nI 8 → s38.1 225 25 = nI 7 → s38.1 225 26 = nI 2 → s38.1 225 27 = nI 524288 → s38.1 225 28 = nI 261888 → s38.1 225 29 = nI 120 → s38.1 225 30 = nI 64 → E_MH_keys_2_L5 psk n26 i26 az22 s38 → F_MH_keys_2 pb n pp psk s = F_MH_keys_2_L5 psk n26 i26 az22 s38 → lv_has ls 10 [(7, .int (nI i26)), (6, .int (nI az22)), (0, .ref h0), (4, .ref sk)] → okn g T s38 pl → va_P g.1 vcl ([] ++ pl) H → va_D A ([] ++ pl) → va_S A s0.heap H locs → W p l e ({ frames := 5, cells := 0, slots := 0, locals := 118 } : Room) s0 m args below meth c H locs 0 0 (MQ below (va_Qv (fun (u : (Sto) × va_W) => (u.1 = F_MH_keys_2 pb n pp psk s ∧ frm (M_MH_keys_2 pp psk) s u.1 ∧ True) ∧ okn g T u.1 u.2) (po g.1 vcl A (fun (u : (Sto) × va_W) => [] ++ u.2)) A) args s0 0 0 A) (F0 m 594 ls []) := by
                        intro n26
                        induction n26 with
                        | zero =>
                          intro i26 az22 s38 pl ls H locs hm26 hi22 hF hf159 hf160 hf161 hf162 hf163 hf164 hf165 hf166 hE hR hl hO hP hD hS
                          refine lv_iload hx hb dMH_keys_594 (lv_at hl 0 rfl) ?_
                          refine lv_aload_n hx hb dMH_keys_596 rfl (lv_at hl 2 rfl) ?_
                          refine nw_get (C := "LatticeKeysModel$Hands") (TT := T_MH) (N := 31) hx hb hts (wg_ft i_MH) hown hK hO k_h0 (kn := 225) (ci := 12) (fl := [(3, 172), (3, 181), (3, 226), (3, 291), (3, 299), (3, 308), (3, 317), (3, 326), (3, 334), (3, 342), (3, 350), (3, 359), (3, 368), (3, 369), (3, 370), (3, 371), (3, 372), (3, 373), (3, 374), (3, 375), (3, 376), (3, 377), (3, 378), (0, 0), (0, 0), (0, 0), (0, 0), (0, 0), (0, 0), (0, 0), (0, 0)]) rfl hP rfl 24 (by decide) (hts _ (wg_t kw_1456)) (fun _ h9 => h9) (cd := (0, 0)) rfl dMH_keys_597 (fun v42 hv42 => ?_)
                          obtain rfl := (show v42 = .int (s38.1 225 24) from hv42)
                          obtain ⟨z31, ez31, hz41, hz42⟩ := cl_of (b := 2147483648) hf160 (by omega) (by decide)
                          replace hR := bnd_step hR ez31
                          first | rw [bnd_step rfl ez31] at hE | replace hE := bndP_step hE ez31
                          refine mi_as hz41 ?_
                          subst hz42
                          refine mi_ge (tgt := 652) hx hb dMH_keys_600 (by decide) (by omega) (by omega) (fun h27 => ?_) (fun h27 => absurd h27 (by omega))
                          exact mp_vret hx hb hr hlk hP hD hS (s38, pl) ⟨⟨hR.symm, hF, trivial⟩, hO⟩ [] rfl rfl rfl (by omega) (by omega) dMH_keys_652
                        | succ n26 ih26 =>
                          intro i26 az22 s38 pl ls H locs hm26 hi22 hF hf167 hf168 hf169 hf170 hf171 hf172 hf173 hf174 hE hR hl hO hP hD hS
                          refine lv_iload hx hb dMH_keys_594 (lv_at hl 0 rfl) ?_
                          refine lv_aload_n hx hb dMH_keys_596 rfl (lv_at hl 2 rfl) ?_
                          refine nw_get (C := "LatticeKeysModel$Hands") (TT := T_MH) (N := 31) hx hb hts (wg_ft i_MH) hown hK hO k_h0 (kn := 225) (ci := 12) (fl := [(3, 172), (3, 181), (3, 226), (3, 291), (3, 299), (3, 308), (3, 317), (3, 326), (3, 334), (3, 342), (3, 350), (3, 359), (3, 368), (3, 369), (3, 370), (3, 371), (3, 372), (3, 373), (3, 374), (3, 375), (3, 376), (3, 377), (3, 378), (0, 0), (0, 0), (0, 0), (0, 0), (0, 0), (0, 0), (0, 0), (0, 0)]) rfl hP rfl 24 (by decide) (hts _ (wg_t kw_1456)) (fun _ h9 => h9) (cd := (0, 0)) rfl dMH_keys_597 (fun v43 hv43 => ?_)
                          obtain rfl := (show v43 = .int (s38.1 225 24) from hv43)
                          obtain ⟨z32, ez32, hz43, hz44⟩ := cl_of (b := 2147483648) hf168 (by omega) (by decide)
                          replace hR := bnd_step hR ez32
                          first | rw [bnd_step rfl ez32] at hE | replace hE := bndP_step hE ez32
                          refine mi_as hz43 ?_
                          subst hz44
                          refine mi_ge (tgt := 652) hx hb dMH_keys_600 (by decide) (by omega) (by omega) (fun h28 => absurd h28 (by omega)) (fun h28 => ?_)
                          refine lv_iconst (v := nI 0) hx hb dMH_keys_603 (by decide) ?_
                          refine lv_istore (lv' := [(8, .int (nI 0)), (7, .int (nI i26)), (6, .int (nI az22)), (0, .ref h0), (4, .ref sk)]) hx hb dMH_keys_604 hl (by decide) rfl (fun ls hl => ?_)
                          have lp27 : ∀ (n27 : Nat) (i27 : Nat) (az23 : Nat) (s39 : Sto) (pl : va_W) (ls : Array Slot) (H : Heap) (locs : List Loc), n27 + i27 = 256 → (az23 = 12544 + 3328 * i26 + 13 * i27) → frm (M_MH_keys_2 pp psk) s s39 → s39.1 225 23 = nI 2 → s39.1 225 24 = nI 8 → s39.1 225 25 = nI 7 → s39.1 225 26 = nI 2 → s39.1 225 27 = nI 524288 → s39.1 225 28 = nI 261888 → s39.1 225 29 = nI 120 → s39.1 225 30 = nI 64 → E_MH_keys_2_L6 psk i26 (E_MH_keys_2_L5 psk n26) n27 i27 az23 s39 → F_MH_keys_2 pb n pp psk s = F_MH_keys_2_L6 psk i26 (F_MH_keys_2_L5 psk n26) n27 i27 az23 s39 → lv_has ls 10 [(8, .int (nI i27)), (7, .int (nI i26)), (6, .int (nI az23)), (0, .ref h0), (4, .ref sk)] → okn g T s39 pl → va_P g.1 vcl ([] ++ pl) H → va_D A ([] ++ pl) → va_S A s0.heap H locs → W p l e ({ frames := 5, cells := 0, slots := 0, locals := 118 } : Room) s0 m args below meth c H locs 0 0 (MQ below (va_Qv (fun (u : (Sto) × va_W) => (u.1 = F_MH_keys_2 pb n pp psk s ∧ frm (M_MH_keys_2 pp psk) s u.1 ∧ True) ∧ okn g T u.1 u.2) (po g.1 vcl A (fun (u : (Sto) × va_W) => [] ++ u.2)) A) args s0 0 0 A) (F0 m 606 ls []) := by
                            intro n27
                            induction n27 with
                            | zero =>
                              intro i27 az23 s39 pl ls H locs hm27 hi23 hF hf175 hf176 hf177 hf178 hf179 hf180 hf181 hf182 hE hR hl hO hP hD hS
                              refine lv_iload hx hb dMH_keys_606 (lv_at hl 0 rfl) ?_
                              refine lv_sipush (v := nI 256) hx hb dMH_keys_608 (by decide) ?_
                              refine mi_ge (tgt := 646) hx hb dMH_keys_611 (by decide) (by omega) (by omega) (fun h29 => ?_) (fun h29 => absurd h29 (by omega))
                              refine mi_iinc (k := 1) (x := i26) (d := 1) (y := i26 + 1) (lv' := [(7, .int (nI (i26 + 1))), (8, .int (nI i27)), (6, .int (nI az23)), (0, .ref h0), (4, .ref sk)]) hx hb dMH_keys_646 hl rfl (by decide) rfl (by decide) rfl (fun ls hl => ?_)
                              refine lv_goto (tgt := 594) hx hb dMH_keys_649 (by decide) ?_
                              exact ih26 (i26 + 1) az23 s39 pl ls H locs (by omega) (by omega) hF hf175 hf176 hf177 hf178 hf179 hf180 hf181 hf182 hE hR (lv_sub hl [0, 2, 3, 4] rfl) hO hP hD hS
                            | succ n27 ih27 =>
                              intro i27 az23 s39 pl ls H locs hm27 hi23 hF hf183 hf184 hf185 hf186 hf187 hf188 hf189 hf190 hE hR hl hO hP hD hS
                              refine lv_iload hx hb dMH_keys_606 (lv_at hl 0 rfl) ?_
                              refine lv_sipush (v := nI 256) hx hb dMH_keys_608 (by decide) ?_
                              refine mi_ge (tgt := 646) hx hb dMH_keys_611 (by decide) (by omega) (by omega) (fun h30 => absurd h30 (by omega)) (fun h30 => ?_)
                              refine lv_aload hx hb dMH_keys_614 (lv_at hl 4 rfl) ?_
                              refine lv_iload hx hb dMH_keys_616 (lv_at hl 2 rfl) ?_
                              refine lv_bipush (v := nI 13) hx hb dMH_keys_618 (by decide) ?_
                              refine lv_sipush (v := nI 4096) hx hb dMH_keys_620 (by decide) ?_
                              refine lv_aload_n hx hb dMH_keys_623 rfl (lv_at hl 3 rfl) ?_
                              refine nw_get (C := "LatticeKeysModel$Hands") (TT := T_MH) (N := 31) hx hb hts (wg_ft i_MH) hown hK hO k_h0 (kn := 225) (ci := 12) (fl := [(3, 172), (3, 181), (3, 226), (3, 291), (3, 299), (3, 308), (3, 317), (3, 326), (3, 334), (3, 342), (3, 350), (3, 359), (3, 368), (3, 369), (3, 370), (3, 371), (3, 372), (3, 373), (3, 374), (3, 375), (3, 376), (3, 377), (3, 378), (0, 0), (0, 0), (0, 0), (0, 0), (0, 0), (0, 0), (0, 0), (0, 0)]) rfl hP rfl 5 (by decide) (hts _ (wg_t kw_1437)) (fun _ h9 => h9) (cd := (3, 308)) rfl dMH_keys_624 (fun v44 hv44 => ?_)
                              obtain ⟨r34, rfl, kr33⟩ := (show ∃ r : Nat, v44 = .ref r ∧ T r = some 308 from hv44)
                              refine lv_iload hx hb dMH_keys_627 (lv_at hl 1 rfl) ?_
                              refine nw_aald3 hx hb hK hO kr33 (k := 308) (b := 309) rfl hP (by omega) (by omega) dMH_keys_629 (fun r35 kr34 => ?_)
                              have hn21 : nsp (309 + i26) = (0, 256, []) := rows_ok 309 8 (by decide) _ (by omega)
                              refine lv_iload hx hb dMH_keys_630 (lv_at hl 0 rfl) ?_
                              refine nw_iald hx hb hK hO kr34 (k := (309 + i26)) hn21 hP (by omega) (by omega) dMH_keys_632 ?_
                              refine lv_isub hx hb dMH_keys_633 ?_
                              refine mp_v (cx := []) (wr := []) hP hD hS hA [] [] rfl rfl rfl (by decide) (va_runSN (As := [.ref sk, .int (nI az23), .int (nI 13), .int (((nI 4096) - (s39.1 ((309 + i26)) i27)))]) (rest := []) F (N_M_pack l g _ T s39 pl hO hU sk psk 4896 az23 13 ((nI 4096) - (s39.1 ((309 + i26)) i27)) k_sk n_sk (by omega) (by omega)) ⟨va_cnB 4 hts (wg_in kw_1690) rfl rfl rfl (hEn.2.2.2.2.2.2.2.2.2.1) (hts _ (wg_t kw_9)) (by decide +kernel) ⟨by decide, by decide⟩, hts _ (wg_t kw_1689), trivial⟩ (pp_S (en_ok g) hP hD hS hA hEn [] rfl rfl) rfl rfl hl.1 rfl (lv_room (Nat.le_of_ble_eq_true rfl)) dMH_keys_634 ⟨by omega, by omega⟩) (fun  u34 H locs hu34 hP hD hS => ?_)
                              obtain ⟨s40, pl⟩ := u34
                              obtain ⟨⟨eq34, hFc34, -⟩, hO⟩ := hu34
                              have hO : okn g T s40 pl := hO
                              have hP : va_P g.1 vcl ([] ++ pl) _ := hP
                              have hD : va_D _ ([] ++ pl) := hD
                              have hFc34 : frm (M_M_pack psk) s39 s40 := hFc34
                              replace hR := bnd_step hR eq34
                              first | rw [bnd_step rfl eq34] at hE | replace hE := bndP_step hE eq34
                              have hF := frm_tr hF hFc34 (fun k hk => by unfold M_M_pack at hk; unfold M_MH_keys_2; omega)
                              have hf191 : s40.1 225 23 = nI 2 := fc_F hf183 hFc34 (by unfold M_M_pack; omega)
                              have hf192 : s40.1 225 24 = nI 8 := fc_F hf184 hFc34 (by unfold M_M_pack; omega)
                              have hf193 : s40.1 225 25 = nI 7 := fc_F hf185 hFc34 (by unfold M_M_pack; omega)
                              have hf194 : s40.1 225 26 = nI 2 := fc_F hf186 hFc34 (by unfold M_M_pack; omega)
                              have hf195 : s40.1 225 27 = nI 524288 := fc_F hf187 hFc34 (by unfold M_M_pack; omega)
                              have hf196 : s40.1 225 28 = nI 261888 := fc_F hf188 hFc34 (by unfold M_M_pack; omega)
                              have hf197 : s40.1 225 29 = nI 120 := fc_F hf189 hFc34 (by unfold M_M_pack; omega)
                              have hf198 : s40.1 225 30 = nI 64 := fc_F hf190 hFc34 (by unfold M_M_pack; omega)
                              refine W.widen (k := 0) (n := 0) (by omega) (by omega) ?_
                              refine mi_iinc (k := 2) (x := az23) (d := 13) (y := az23 + 13) (lv' := [(6, .int (nI (az23 + 13))), (8, .int (nI i27)), (7, .int (nI i26)), (0, .ref h0), (4, .ref sk)]) hx hb dMH_keys_637 hl rfl (by decide) rfl (by decide) rfl (fun ls hl => ?_)
                              refine mi_iinc (k := 1) (x := i27) (d := 1) (y := i27 + 1) (lv' := [(8, .int (nI (i27 + 1))), (6, .int (nI (az23 + 13))), (7, .int (nI i26)), (0, .ref h0), (4, .ref sk)]) hx hb dMH_keys_640 hl rfl (by decide) rfl (by decide) rfl (fun ls hl => ?_)
                              refine lv_goto (tgt := 606) hx hb dMH_keys_643 (by decide) ?_
                              exact ih27 (i27 + 1) (az23 + 13) s40 pl ls H locs (by omega) (by omega) hF hf191 hf192 hf193 hf194 hf195 hf196 hf197 hf198 hE hR (lv_sub hl [0, 2, 1, 3, 4] rfl) hO hP hD hS
                          exact lp27 256 0 az22 s38 pl ls _ _ (by omega) (by omega) hF hf167 hf168 hf169 hf170 hf171 hf172 hf173 hf174 hE hR (lv_sub hl [0, 1, 2, 3, 4] rfl) hO hP hD hS
                      exact lp26 8 0 az21 s37 pl ls _ _ (by omega) (by omega) hF hf151 hf152 hf153 hf154 hf155 hf156 hf157 hf158 hE hR (lv_sub hl [0, 1, 3, 4] rfl) hO hP hD hS
                    | succ n25 ih25 =>
                      intro i25 az21 s37 pl ls H locs hm25 hi21 hF hf199 hf200 hf201 hf202 hf203 hf204 hf205 hf206 hE hR hl hO hP hD hS
                      refine lv_iload hx hb dMH_keys_470 (lv_at hl 0 rfl) ?_
                      refine lv_aload_n hx hb dMH_keys_472 rfl (lv_at hl 3 rfl) ?_
                      refine nw_get (C := "LatticeKeysModel$Hands") (TT := T_MH) (N := 31) hx hb hts (wg_ft i_MH) hown hK hO k_h0 (kn := 225) (ci := 12) (fl := [(3, 172), (3, 181), (3, 226), (3, 291), (3, 299), (3, 308), (3, 317), (3, 326), (3, 334), (3, 342), (3, 350), (3, 359), (3, 368), (3, 369), (3, 370), (3, 371), (3, 372), (3, 373), (3, 374), (3, 375), (3, 376), (3, 377), (3, 378), (0, 0), (0, 0), (0, 0), (0, 0), (0, 0), (0, 0), (0, 0), (0, 0)]) rfl hP rfl 24 (by decide) (hts _ (wg_t kw_1456)) (fun _ h9 => h9) (cd := (0, 0)) rfl dMH_keys_473 (fun v45 hv45 => ?_)
                      obtain rfl := (show v45 = .int (s37.1 225 24) from hv45)
                      obtain ⟨z33, ez33, hz45, hz46⟩ := cl_of (b := 2147483648) hf200 (by omega) (by decide)
                      replace hR := bnd_step hR ez33
                      first | rw [bnd_step rfl ez33] at hE | replace hE := bndP_step hE ez33
                      refine mi_as hz45 ?_
                      subst hz46
                      refine lv_aload_n hx hb dMH_keys_476 rfl (lv_at hl 3 rfl) ?_
                      refine nw_get (C := "LatticeKeysModel$Hands") (TT := T_MH) (N := 31) hx hb hts (wg_ft i_MH) hown hK hO k_h0 (kn := 225) (ci := 12) (fl := [(3, 172), (3, 181), (3, 226), (3, 291), (3, 299), (3, 308), (3, 317), (3, 326), (3, 334), (3, 342), (3, 350), (3, 359), (3, 368), (3, 369), (3, 370), (3, 371), (3, 372), (3, 373), (3, 374), (3, 375), (3, 376), (3, 377), (3, 378), (0, 0), (0, 0), (0, 0), (0, 0), (0, 0), (0, 0), (0, 0), (0, 0)]) rfl hP rfl 25 (by decide) (hts _ (wg_t kw_1457)) (fun _ h9 => h9) (cd := (0, 0)) rfl dMH_keys_477 (fun v46 hv46 => ?_)
                      obtain rfl := (show v46 = .int (s37.1 225 25) from hv46)
                      obtain ⟨z34, ez34, hz47, hz48⟩ := cl_of (b := 2147483648) hf201 (by omega) (by decide)
                      replace hR := bnd_step hR ez34
                      first | rw [bnd_step rfl ez34] at hE | replace hE := bndP_step hE ez34
                      refine mi_as hz47 ?_
                      subst hz48
                      refine mi_iadd hx hb dMH_keys_480 ?_
                      refine mi_as (show nI (8 + 7) = nI 15 from rfl) ?_
                      refine mi_ge (tgt := 591) hx hb dMH_keys_481 (by decide) (by omega) (by omega) (fun h31 => absurd h31 (by omega)) (fun h31 => ?_)
                      refine lv_iconst (v := nI 0) hx hb dMH_keys_484 (by decide) ?_
                      refine lv_istore (lv' := [(8, .int (nI 0)), (7, .int (nI i25)), (6, .int (nI az21)), (5, .int (nI 3)), (0, .ref h0), (4, .ref sk)]) hx hb dMH_keys_485 hl (by decide) rfl (fun ls hl => ?_)
                      have lp28 : ∀ (n28 : Nat) (i28 : Nat) (az24 : Nat) (s41 : Sto) (pl : va_W) (ls : Array Slot) (H : Heap) (locs : List Loc), n28 + i28 = 256 → (az24 = 1024 + 768 * i25 + 3 * i28) → frm (M_MH_keys_2 pp psk) s s41 → s41.1 225 23 = nI 2 → s41.1 225 24 = nI 8 → s41.1 225 25 = nI 7 → s41.1 225 26 = nI 2 → s41.1 225 27 = nI 524288 → s41.1 225 28 = nI 261888 → s41.1 225 29 = nI 120 → s41.1 225 30 = nI 64 → E_MH_keys_2_L7 psk i25 (E_MH_keys_2_L4 psk n25) n28 i28 az24 s41 → F_MH_keys_2 pb n pp psk s = F_MH_keys_2_L7 psk i25 (F_MH_keys_2_L4 psk n25) n28 i28 az24 s41 → lv_has ls 10 [(8, .int (nI i28)), (7, .int (nI i25)), (6, .int (nI az24)), (5, .int (nI 3)), (0, .ref h0), (4, .ref sk)] → okn g T s41 pl → va_P g.1 vcl ([] ++ pl) H → va_D A ([] ++ pl) → va_S A s0.heap H locs → W p l e ({ frames := 5, cells := 0, slots := 0, locals := 118 } : Room) s0 m args below meth c H locs 0 0 (MQ below (va_Qv (fun (u : (Sto) × va_W) => (u.1 = F_MH_keys_2 pb n pp psk s ∧ frm (M_MH_keys_2 pp psk) s u.1 ∧ True) ∧ okn g T u.1 u.2) (po g.1 vcl A (fun (u : (Sto) × va_W) => [] ++ u.2)) A) args s0 0 0 A) (F0 m 487 ls []) := by
                        intro n28
                        induction n28 with
                        | zero =>
                          intro i28 az24 s41 pl ls H locs hm28 hi24 hF hf207 hf208 hf209 hf210 hf211 hf212 hf213 hf214 hE hR hl hO hP hD hS
                          refine lv_iload hx hb dMH_keys_487 (lv_at hl 0 rfl) ?_
                          refine lv_sipush (v := nI 256) hx hb dMH_keys_489 (by decide) ?_
                          refine mi_ge (tgt := 585) hx hb dMH_keys_492 (by decide) (by omega) (by omega) (fun h32 => ?_) (fun h32 => absurd h32 (by omega))
                          refine mi_iinc (k := 1) (x := i25) (d := 1) (y := i25 + 1) (lv' := [(7, .int (nI (i25 + 1))), (8, .int (nI i28)), (6, .int (nI az24)), (5, .int (nI 3)), (0, .ref h0), (4, .ref sk)]) hx hb dMH_keys_585 hl rfl (by decide) rfl (by decide) rfl (fun ls hl => ?_)
                          refine lv_goto (tgt := 470) hx hb dMH_keys_588 (by decide) ?_
                          exact ih25 (i25 + 1) az24 s41 pl ls H locs (by omega) (by omega) hF hf207 hf208 hf209 hf210 hf211 hf212 hf213 hf214 hE hR (lv_sub hl [0, 2, 3, 4, 5] rfl) hO hP hD hS
                        | succ n28 ih28 =>
                          intro i28 az24 s41 pl ls H locs hm28 hi24 hF hf215 hf216 hf217 hf218 hf219 hf220 hf221 hf222 hE hR hl hO hP hD hS
                          refine lv_iload hx hb dMH_keys_487 (lv_at hl 0 rfl) ?_
                          refine lv_sipush (v := nI 256) hx hb dMH_keys_489 (by decide) ?_
                          refine mi_ge (tgt := 585) hx hb dMH_keys_492 (by decide) (by omega) (by omega) (fun h33 => absurd h33 (by omega)) (fun h33 => ?_)
                          refine lv_iload hx hb dMH_keys_495 (lv_at hl 1 rfl) ?_
                          refine lv_aload_n hx hb dMH_keys_497 rfl (lv_at hl 4 rfl) ?_
                          refine nw_get (C := "LatticeKeysModel$Hands") (TT := T_MH) (N := 31) hx hb hts (wg_ft i_MH) hown hK hO k_h0 (kn := 225) (ci := 12) (fl := [(3, 172), (3, 181), (3, 226), (3, 291), (3, 299), (3, 308), (3, 317), (3, 326), (3, 334), (3, 342), (3, 350), (3, 359), (3, 368), (3, 369), (3, 370), (3, 371), (3, 372), (3, 373), (3, 374), (3, 375), (3, 376), (3, 377), (3, 378), (0, 0), (0, 0), (0, 0), (0, 0), (0, 0), (0, 0), (0, 0), (0, 0)]) rfl hP rfl 25 (by decide) (hts _ (wg_t kw_1457)) (fun _ h9 => h9) (cd := (0, 0)) rfl dMH_keys_498 (fun v47 hv47 => ?_)
                          obtain rfl := (show v47 = .int (s41.1 225 25) from hv47)
                          obtain ⟨z35, ez35, hz49, hz50⟩ := cl_of (b := 2147483648) hf217 (by omega) (by decide)
                          replace hR := bnd_step hR ez35
                          first | rw [bnd_step rfl ez35] at hE | replace hE := bndP_step hE ez35
                          refine mi_as hz49 ?_
                          subst hz50
                          refine mi_ge (tgt := 517) hx hb dMH_keys_501 (by decide) (by omega) (by omega) (fun h34 => ?_) (fun h34 => ?_)
                          · replace hR := hR.trans (if_pos h34)
                            first | rw [if_pos h34] at hE | rw [E_MH_keys_2_L0, if_pos h34] at hE | rw [E_MH_keys_2_L1, if_pos h34] at hE | rw [E_MH_keys_2_L2, if_pos h34] at hE | rw [E_MH_keys_2_L3, if_pos h34] at hE | rw [E_MH_keys_2_L4, if_pos h34] at hE | rw [E_MH_keys_2_L5, if_pos h34] at hE | rw [E_MH_keys_2_L6, if_pos h34] at hE | rw [E_MH_keys_2_L7, if_pos h34] at hE | rw [E_MH_keys_2_L8, if_pos h34] at hE | replace hE := iteP_pos h34 hE
                            refine lv_aload_n hx hb dMH_keys_517 rfl (lv_at hl 4 rfl) ?_
                            refine nw_get (C := "LatticeKeysModel$Hands") (TT := T_MH) (N := 31) hx hb hts (wg_ft i_MH) hown hK hO k_h0 (kn := 225) (ci := 12) (fl := [(3, 172), (3, 181), (3, 226), (3, 291), (3, 299), (3, 308), (3, 317), (3, 326), (3, 334), (3, 342), (3, 350), (3, 359), (3, 368), (3, 369), (3, 370), (3, 371), (3, 372), (3, 373), (3, 374), (3, 375), (3, 376), (3, 377), (3, 378), (0, 0), (0, 0), (0, 0), (0, 0), (0, 0), (0, 0), (0, 0), (0, 0)]) rfl hP rfl 4 (by decide) (hts _ (wg_t kw_1436)) (fun _ h9 => h9) (cd := (3, 299)) rfl dMH_keys_518 (fun v48 hv48 => ?_)
                            obtain ⟨r36, rfl, kr35⟩ := (show ∃ r : Nat, v48 = .ref r ∧ T r = some 299 from hv48)
                            refine lv_iload hx hb dMH_keys_521 (lv_at hl 1 rfl) ?_
                            refine lv_aload_n hx hb dMH_keys_523 rfl (lv_at hl 4 rfl) ?_
                            refine nw_get (C := "LatticeKeysModel$Hands") (TT := T_MH) (N := 31) hx hb hts (wg_ft i_MH) hown hK hO k_h0 (kn := 225) (ci := 12) (fl := [(3, 172), (3, 181), (3, 226), (3, 291), (3, 299), (3, 308), (3, 317), (3, 326), (3, 334), (3, 342), (3, 350), (3, 359), (3, 368), (3, 369), (3, 370), (3, 371), (3, 372), (3, 373), (3, 374), (3, 375), (3, 376), (3, 377), (3, 378), (0, 0), (0, 0), (0, 0), (0, 0), (0, 0), (0, 0), (0, 0), (0, 0)]) rfl hP rfl 25 (by decide) (hts _ (wg_t kw_1457)) (fun _ h9 => h9) (cd := (0, 0)) rfl dMH_keys_524 (fun v49 hv49 => ?_)
                            obtain rfl := (show v49 = .int (s41.1 225 25) from hv49)
                            obtain ⟨z36, ez36, hz51, hz52⟩ := cl_of (b := 2147483648) hf217 (by omega) (by decide)
                            replace hR := bnd_step hR ez36
                            first | rw [bnd_step rfl ez36] at hE | replace hE := bndP_step hE ez36
                            refine mi_as hz51 ?_
                            subst hz52
                            refine mi_isub hx hb dMH_keys_527 (by omega) ?_
                            refine nw_aald3 hx hb hK hO kr35 (k := 299) (b := 300) rfl hP (by omega) (by omega) dMH_keys_528 (fun r37 kr36 => ?_)
                            have hn22 : nsp (300 + (i25 - 7)) = (0, 256, []) := rows_ok 300 8 (by decide) _ (by omega)
                            refine lv_iload hx hb dMH_keys_529 (lv_at hl 0 rfl) ?_
                            refine nw_iald hx hb hK hO kr36 (k := (300 + (i25 - 7))) hn22 hP (by omega) (by omega) dMH_keys_531 ?_
                            refine mi_eqv (fun z37 ez37 => ?_)
                            replace hR := bnd_step hR ez37
                            first | rw [bnd_step rfl ez37] at hE | replace hE := bndP_step hE ez37
                            refine lv_istore (lv' := [(9, .int z37), (8, .int (nI i28)), (7, .int (nI i25)), (6, .int (nI az24)), (5, .int (nI 3)), (0, .ref h0), (4, .ref sk)]) hx hb dMH_keys_532 hl (by decide) rfl (fun ls hl => ?_)
                            refine lv_aload hx hb dMH_keys_534 (lv_at hl 6 rfl) ?_
                            refine lv_iload hx hb dMH_keys_536 (lv_at hl 3 rfl) ?_
                            refine lv_iload hx hb dMH_keys_538 (lv_at hl 4 rfl) ?_
                            refine lv_iload hx hb dMH_keys_540 (lv_at hl 0 rfl) ?_
                            refine lv_aload_n hx hb dMH_keys_542 rfl (lv_at hl 5 rfl) ?_
                            refine nw_get (C := "LatticeKeysModel$Hands") (TT := T_MH) (N := 31) hx hb hts (wg_ft i_MH) hown hK hO k_h0 (kn := 225) (ci := 12) (fl := [(3, 172), (3, 181), (3, 226), (3, 291), (3, 299), (3, 308), (3, 317), (3, 326), (3, 334), (3, 342), (3, 350), (3, 359), (3, 368), (3, 369), (3, 370), (3, 371), (3, 372), (3, 373), (3, 374), (3, 375), (3, 376), (3, 377), (3, 378), (0, 0), (0, 0), (0, 0), (0, 0), (0, 0), (0, 0), (0, 0), (0, 0)]) rfl hP rfl 26 (by decide) (hts _ (wg_t kw_1458)) (fun _ h9 => h9) (cd := (0, 0)) rfl dMH_keys_543 (fun v50 hv50 => ?_)
                            obtain rfl := (show v50 = .int (s41.1 225 26) from hv50)
                            obtain ⟨z38, ez38, hz53, hz54⟩ := cl_of (b := 2147483648) hf218 (by omega) (by decide)
                            replace hR := bnd_step hR ez38
                            first | rw [bnd_step rfl ez38] at hE | replace hE := bndP_step hE ez38
                            refine mi_as hz53 ?_
                            subst hz54
                            refine lv_icmp_le (tgt := 562) hx hb dMH_keys_546 (by decide) (fun h35 => ?_) (fun h35 => ?_)
                            · replace hR := hR.trans (if_pos h35)
                              first | rw [if_pos h35] at hE | rw [E_MH_keys_2_L0, if_pos h35] at hE | rw [E_MH_keys_2_L1, if_pos h35] at hE | rw [E_MH_keys_2_L2, if_pos h35] at hE | rw [E_MH_keys_2_L3, if_pos h35] at hE | rw [E_MH_keys_2_L4, if_pos h35] at hE | rw [E_MH_keys_2_L5, if_pos h35] at hE | rw [E_MH_keys_2_L6, if_pos h35] at hE | rw [E_MH_keys_2_L7, if_pos h35] at hE | rw [E_MH_keys_2_L8, if_pos h35] at hE | replace hE := iteP_pos h35 hE
                              refine lv_aload_n hx hb dMH_keys_562 rfl (lv_at hl 5 rfl) ?_
                              refine nw_get (C := "LatticeKeysModel$Hands") (TT := T_MH) (N := 31) hx hb hts (wg_ft i_MH) hown hK hO k_h0 (kn := 225) (ci := 12) (fl := [(3, 172), (3, 181), (3, 226), (3, 291), (3, 299), (3, 308), (3, 317), (3, 326), (3, 334), (3, 342), (3, 350), (3, 359), (3, 368), (3, 369), (3, 370), (3, 371), (3, 372), (3, 373), (3, 374), (3, 375), (3, 376), (3, 377), (3, 378), (0, 0), (0, 0), (0, 0), (0, 0), (0, 0), (0, 0), (0, 0), (0, 0)]) rfl hP rfl 26 (by decide) (hts _ (wg_t kw_1458)) (fun _ h9 => h9) (cd := (0, 0)) rfl dMH_keys_563 (fun v51 hv51 => ?_)
                              obtain rfl := (show v51 = .int (s41.1 225 26) from hv51)
                              obtain ⟨z39, ez39, hz55, hz56⟩ := cl_of (b := 2147483648) hf218 (by omega) (by decide)
                              replace hR := bnd_step hR ez39
                              first | rw [bnd_step rfl ez39] at hE | replace hE := bndP_step hE ez39
                              refine mi_as hz55 ?_
                              subst hz56
                              refine lv_iload hx hb dMH_keys_566 (lv_at hl 0 rfl) ?_
                              refine lv_isub hx hb dMH_keys_568 ?_
                              refine mp_v (cx := []) (wr := []) hP hD hS hA [] [] rfl rfl rfl (by decide) (va_runSN (As := [.ref sk, .int (nI az24), .int (nI 3), .int (((nI 2) - z37))]) (rest := []) F (N_M_pack l g _ T s41 pl hO hU sk psk 4896 az24 3 ((nI 2) - z37) k_sk n_sk (by omega) (by omega)) ⟨va_cnB 4 hts (wg_in kw_1690) rfl rfl rfl (hEn.2.2.2.2.2.2.2.2.2.1) (hts _ (wg_t kw_9)) (by decide +kernel) ⟨by decide, by decide⟩, hts _ (wg_t kw_1689), trivial⟩ (pp_S (en_ok g) hP hD hS hA hEn [] rfl rfl) rfl rfl hl.1 rfl (lv_room (Nat.le_of_ble_eq_true rfl)) dMH_keys_569 ⟨by omega, by omega⟩) (fun  u35 H locs hu35 hP hD hS => ?_)
                              obtain ⟨s42, pl⟩ := u35
                              obtain ⟨⟨eq35, hFc35, -⟩, hO⟩ := hu35
                              have hO : okn g T s42 pl := hO
                              have hP : va_P g.1 vcl ([] ++ pl) _ := hP
                              have hD : va_D _ ([] ++ pl) := hD
                              have hFc35 : frm (M_M_pack psk) s41 s42 := hFc35
                              replace hR := bnd_step hR eq35
                              first | rw [bnd_step rfl eq35] at hE | replace hE := bndP_step hE eq35
                              have hF := frm_tr hF hFc35 (fun k hk => by unfold M_M_pack at hk; unfold M_MH_keys_2; omega)
                              have hf223 : s42.1 225 23 = nI 2 := fc_F hf215 hFc35 (by unfold M_M_pack; omega)
                              have hf224 : s42.1 225 24 = nI 8 := fc_F hf216 hFc35 (by unfold M_M_pack; omega)
                              have hf225 : s42.1 225 25 = nI 7 := fc_F hf217 hFc35 (by unfold M_M_pack; omega)
                              have hf226 : s42.1 225 26 = nI 2 := fc_F hf218 hFc35 (by unfold M_M_pack; omega)
                              have hf227 : s42.1 225 27 = nI 524288 := fc_F hf219 hFc35 (by unfold M_M_pack; omega)
                              have hf228 : s42.1 225 28 = nI 261888 := fc_F hf220 hFc35 (by unfold M_M_pack; omega)
                              have hf229 : s42.1 225 29 = nI 120 := fc_F hf221 hFc35 (by unfold M_M_pack; omega)
                              have hf230 : s42.1 225 30 = nI 64 := fc_F hf222 hFc35 (by unfold M_M_pack; omega)
                              refine W.widen (k := 0) (n := 0) (by omega) (by omega) ?_
                              refine lv_iload hx hb dMH_keys_572 (lv_at hl 3 rfl) ?_
                              refine lv_iload hx hb dMH_keys_574 (lv_at hl 4 rfl) ?_
                              refine mi_iadd hx hb dMH_keys_576 ?_
                              refine lv_istore (lv' := [(6, .int (nI (az24 + 3))), (9, .int z37), (8, .int (nI i28)), (7, .int (nI i25)), (5, .int (nI 3)), (0, .ref h0), (4, .ref sk)]) hx hb dMH_keys_577 hl (by decide) rfl (fun ls hl => ?_)
                              refine mi_iinc (k := 2) (x := i28) (d := 1) (y := i28 + 1) (lv' := [(8, .int (nI (i28 + 1))), (6, .int (nI (az24 + 3))), (9, .int z37), (7, .int (nI i25)), (5, .int (nI 3)), (0, .ref h0), (4, .ref sk)]) hx hb dMH_keys_579 hl rfl (by decide) rfl (by decide) rfl (fun ls hl => ?_)
                              refine lv_goto (tgt := 487) hx hb dMH_keys_582 (by decide) ?_
                              exact ih28 (i28 + 1) (az24 + 3) s42 pl ls H locs (by omega) (by omega) hF hf223 hf224 hf225 hf226 hf227 hf228 hf229 hf230 hE hR (lv_sub hl [0, 3, 1, 4, 5, 6] rfl) hO hP hD hS
                            · replace hR := hR.trans (if_neg h35)
                              first | rw [if_neg h35] at hE | rw [E_MH_keys_2_L0, if_neg h35] at hE | rw [E_MH_keys_2_L1, if_neg h35] at hE | rw [E_MH_keys_2_L2, if_neg h35] at hE | rw [E_MH_keys_2_L3, if_neg h35] at hE | rw [E_MH_keys_2_L4, if_neg h35] at hE | rw [E_MH_keys_2_L5, if_neg h35] at hE | rw [E_MH_keys_2_L6, if_neg h35] at hE | rw [E_MH_keys_2_L7, if_neg h35] at hE | rw [E_MH_keys_2_L8, if_neg h35] at hE | replace hE := iteP_neg h35 hE
                              refine lv_aload_n hx hb dMH_keys_549 rfl (lv_at hl 5 rfl) ?_
                              refine nw_get (C := "LatticeKeysModel$Hands") (TT := T_MH) (N := 31) hx hb hts (wg_ft i_MH) hown hK hO k_h0 (kn := 225) (ci := 12) (fl := [(3, 172), (3, 181), (3, 226), (3, 291), (3, 299), (3, 308), (3, 317), (3, 326), (3, 334), (3, 342), (3, 350), (3, 359), (3, 368), (3, 369), (3, 370), (3, 371), (3, 372), (3, 373), (3, 374), (3, 375), (3, 376), (3, 377), (3, 378), (0, 0), (0, 0), (0, 0), (0, 0), (0, 0), (0, 0), (0, 0), (0, 0)]) rfl hP rfl 26 (by decide) (hts _ (wg_t kw_1458)) (fun _ h9 => h9) (cd := (0, 0)) rfl dMH_keys_550 (fun v52 hv52 => ?_)
                              obtain rfl := (show v52 = .int (s41.1 225 26) from hv52)
                              obtain ⟨z40, ez40, hz57, hz58⟩ := cl_of (b := 2147483648) hf218 (by omega) (by decide)
                              replace hR := bnd_step hR ez40
                              first | rw [bnd_step rfl ez40] at hE | replace hE := bndP_step hE ez40
                              refine mi_as hz57 ?_
                              subst hz58
                              refine lv_iload hx hb dMH_keys_553 (lv_at hl 0 rfl) ?_
                              refine lv_isub hx hb dMH_keys_555 ?_
                              refine lv_ldc (v := 8380417) hx hb hown (hts _ (wg_t kw_1429)) dMH_keys_556 ?_
                              refine mi_as (show (8380417 : Int32) = nI 8380417 by decide) ?_
                              refine lv_iadd hx hb dMH_keys_558 ?_
                              refine lv_goto (tgt := 569) hx hb dMH_keys_559 (by decide) ?_
                              refine mp_v (cx := []) (wr := []) hP hD hS hA [] [] rfl rfl rfl (by decide) (va_runSN (As := [.ref sk, .int (nI az24), .int (nI 3), .int ((((nI 2) - z37) + (nI 8380417)))]) (rest := []) F (N_M_pack l g _ T s41 pl hO hU sk psk 4896 az24 3 (((nI 2) - z37) + (nI 8380417)) k_sk n_sk (by omega) (by omega)) ⟨va_cnB 4 hts (wg_in kw_1690) rfl rfl rfl (hEn.2.2.2.2.2.2.2.2.2.1) (hts _ (wg_t kw_9)) (by decide +kernel) ⟨by decide, by decide⟩, hts _ (wg_t kw_1689), trivial⟩ (pp_S (en_ok g) hP hD hS hA hEn [] rfl rfl) rfl rfl hl.1 rfl (lv_room (Nat.le_of_ble_eq_true rfl)) dMH_keys_569 ⟨by omega, by omega⟩) (fun  u36 H locs hu36 hP hD hS => ?_)
                              obtain ⟨s43, pl⟩ := u36
                              obtain ⟨⟨eq36, hFc36, -⟩, hO⟩ := hu36
                              have hO : okn g T s43 pl := hO
                              have hP : va_P g.1 vcl ([] ++ pl) _ := hP
                              have hD : va_D _ ([] ++ pl) := hD
                              have hFc36 : frm (M_M_pack psk) s41 s43 := hFc36
                              replace hR := bnd_step hR eq36
                              first | rw [bnd_step rfl eq36] at hE | replace hE := bndP_step hE eq36
                              have hF := frm_tr hF hFc36 (fun k hk => by unfold M_M_pack at hk; unfold M_MH_keys_2; omega)
                              have hf231 : s43.1 225 23 = nI 2 := fc_F hf215 hFc36 (by unfold M_M_pack; omega)
                              have hf232 : s43.1 225 24 = nI 8 := fc_F hf216 hFc36 (by unfold M_M_pack; omega)
                              have hf233 : s43.1 225 25 = nI 7 := fc_F hf217 hFc36 (by unfold M_M_pack; omega)
                              have hf234 : s43.1 225 26 = nI 2 := fc_F hf218 hFc36 (by unfold M_M_pack; omega)
                              have hf235 : s43.1 225 27 = nI 524288 := fc_F hf219 hFc36 (by unfold M_M_pack; omega)
                              have hf236 : s43.1 225 28 = nI 261888 := fc_F hf220 hFc36 (by unfold M_M_pack; omega)
                              have hf237 : s43.1 225 29 = nI 120 := fc_F hf221 hFc36 (by unfold M_M_pack; omega)
                              have hf238 : s43.1 225 30 = nI 64 := fc_F hf222 hFc36 (by unfold M_M_pack; omega)
                              refine W.widen (k := 0) (n := 0) (by omega) (by omega) ?_
                              refine lv_iload hx hb dMH_keys_572 (lv_at hl 3 rfl) ?_
                              refine lv_iload hx hb dMH_keys_574 (lv_at hl 4 rfl) ?_
                              refine mi_iadd hx hb dMH_keys_576 ?_
                              refine lv_istore (lv' := [(6, .int (nI (az24 + 3))), (9, .int z37), (8, .int (nI i28)), (7, .int (nI i25)), (5, .int (nI 3)), (0, .ref h0), (4, .ref sk)]) hx hb dMH_keys_577 hl (by decide) rfl (fun ls hl => ?_)
                              refine mi_iinc (k := 2) (x := i28) (d := 1) (y := i28 + 1) (lv' := [(8, .int (nI (i28 + 1))), (6, .int (nI (az24 + 3))), (9, .int z37), (7, .int (nI i25)), (5, .int (nI 3)), (0, .ref h0), (4, .ref sk)]) hx hb dMH_keys_579 hl rfl (by decide) rfl (by decide) rfl (fun ls hl => ?_)
                              refine lv_goto (tgt := 487) hx hb dMH_keys_582 (by decide) ?_
                              exact ih28 (i28 + 1) (az24 + 3) s43 pl ls H locs (by omega) (by omega) hF hf231 hf232 hf233 hf234 hf235 hf236 hf237 hf238 hE hR (lv_sub hl [0, 3, 1, 4, 5, 6] rfl) hO hP hD hS
                          · replace hR := hR.trans (if_neg (Nat.not_le.mpr h34))
                            first | rw [if_neg (Nat.not_le.mpr h34)] at hE | rw [E_MH_keys_2_L0, if_neg (Nat.not_le.mpr h34)] at hE | rw [E_MH_keys_2_L1, if_neg (Nat.not_le.mpr h34)] at hE | rw [E_MH_keys_2_L2, if_neg (Nat.not_le.mpr h34)] at hE | rw [E_MH_keys_2_L3, if_neg (Nat.not_le.mpr h34)] at hE | rw [E_MH_keys_2_L4, if_neg (Nat.not_le.mpr h34)] at hE | rw [E_MH_keys_2_L5, if_neg (Nat.not_le.mpr h34)] at hE | rw [E_MH_keys_2_L6, if_neg (Nat.not_le.mpr h34)] at hE | rw [E_MH_keys_2_L7, if_neg (Nat.not_le.mpr h34)] at hE | rw [E_MH_keys_2_L8, if_neg (Nat.not_le.mpr h34)] at hE | replace hE := iteP_neg (Nat.not_le.mpr h34) hE
                            refine lv_aload_n hx hb dMH_keys_504 rfl (lv_at hl 4 rfl) ?_
                            refine nw_get (C := "LatticeKeysModel$Hands") (TT := T_MH) (N := 31) hx hb hts (wg_ft i_MH) hown hK hO k_h0 (kn := 225) (ci := 12) (fl := [(3, 172), (3, 181), (3, 226), (3, 291), (3, 299), (3, 308), (3, 317), (3, 326), (3, 334), (3, 342), (3, 350), (3, 359), (3, 368), (3, 369), (3, 370), (3, 371), (3, 372), (3, 373), (3, 374), (3, 375), (3, 376), (3, 377), (3, 378), (0, 0), (0, 0), (0, 0), (0, 0), (0, 0), (0, 0), (0, 0), (0, 0)]) rfl hP rfl 3 (by decide) (hts _ (wg_t kw_1435)) (fun _ h9 => h9) (cd := (3, 291)) rfl dMH_keys_505 (fun v53 hv53 => ?_)
                            obtain ⟨r38, rfl, kr37⟩ := (show ∃ r : Nat, v53 = .ref r ∧ T r = some 291 from hv53)
                            refine lv_iload hx hb dMH_keys_508 (lv_at hl 1 rfl) ?_
                            refine nw_aald3 hx hb hK hO kr37 (k := 291) (b := 292) rfl hP (by omega) (by omega) dMH_keys_510 (fun r39 kr38 => ?_)
                            have hn23 : nsp (292 + i25) = (0, 256, []) := rows_ok 292 7 (by decide) _ (by omega)
                            refine lv_iload hx hb dMH_keys_511 (lv_at hl 0 rfl) ?_
                            refine nw_iald hx hb hK hO kr38 (k := (292 + i25)) hn23 hP (by omega) (by omega) dMH_keys_513 ?_
                            refine lv_goto (tgt := 532) hx hb dMH_keys_514 (by decide) ?_
                            refine mi_eqv (fun z41 ez41 => ?_)
                            replace hR := bnd_step hR ez41
                            first | rw [bnd_step rfl ez41] at hE | replace hE := bndP_step hE ez41
                            refine lv_istore (lv' := [(9, .int z41), (8, .int (nI i28)), (7, .int (nI i25)), (6, .int (nI az24)), (5, .int (nI 3)), (0, .ref h0), (4, .ref sk)]) hx hb dMH_keys_532 hl (by decide) rfl (fun ls hl => ?_)
                            refine lv_aload hx hb dMH_keys_534 (lv_at hl 6 rfl) ?_
                            refine lv_iload hx hb dMH_keys_536 (lv_at hl 3 rfl) ?_
                            refine lv_iload hx hb dMH_keys_538 (lv_at hl 4 rfl) ?_
                            refine lv_iload hx hb dMH_keys_540 (lv_at hl 0 rfl) ?_
                            refine lv_aload_n hx hb dMH_keys_542 rfl (lv_at hl 5 rfl) ?_
                            refine nw_get (C := "LatticeKeysModel$Hands") (TT := T_MH) (N := 31) hx hb hts (wg_ft i_MH) hown hK hO k_h0 (kn := 225) (ci := 12) (fl := [(3, 172), (3, 181), (3, 226), (3, 291), (3, 299), (3, 308), (3, 317), (3, 326), (3, 334), (3, 342), (3, 350), (3, 359), (3, 368), (3, 369), (3, 370), (3, 371), (3, 372), (3, 373), (3, 374), (3, 375), (3, 376), (3, 377), (3, 378), (0, 0), (0, 0), (0, 0), (0, 0), (0, 0), (0, 0), (0, 0), (0, 0)]) rfl hP rfl 26 (by decide) (hts _ (wg_t kw_1458)) (fun _ h9 => h9) (cd := (0, 0)) rfl dMH_keys_543 (fun v54 hv54 => ?_)
                            obtain rfl := (show v54 = .int (s41.1 225 26) from hv54)
                            obtain ⟨z42, ez42, hz59, hz60⟩ := cl_of (b := 2147483648) hf218 (by omega) (by decide)
                            replace hR := bnd_step hR ez42
                            first | rw [bnd_step rfl ez42] at hE | replace hE := bndP_step hE ez42
                            refine mi_as hz59 ?_
                            subst hz60
                            refine lv_icmp_le (tgt := 562) hx hb dMH_keys_546 (by decide) (fun h36 => ?_) (fun h36 => ?_)
                            · replace hR := hR.trans (if_pos h36)
                              first | rw [if_pos h36] at hE | rw [E_MH_keys_2_L0, if_pos h36] at hE | rw [E_MH_keys_2_L1, if_pos h36] at hE | rw [E_MH_keys_2_L2, if_pos h36] at hE | rw [E_MH_keys_2_L3, if_pos h36] at hE | rw [E_MH_keys_2_L4, if_pos h36] at hE | rw [E_MH_keys_2_L5, if_pos h36] at hE | rw [E_MH_keys_2_L6, if_pos h36] at hE | rw [E_MH_keys_2_L7, if_pos h36] at hE | rw [E_MH_keys_2_L8, if_pos h36] at hE | replace hE := iteP_pos h36 hE
                              refine lv_aload_n hx hb dMH_keys_562 rfl (lv_at hl 5 rfl) ?_
                              refine nw_get (C := "LatticeKeysModel$Hands") (TT := T_MH) (N := 31) hx hb hts (wg_ft i_MH) hown hK hO k_h0 (kn := 225) (ci := 12) (fl := [(3, 172), (3, 181), (3, 226), (3, 291), (3, 299), (3, 308), (3, 317), (3, 326), (3, 334), (3, 342), (3, 350), (3, 359), (3, 368), (3, 369), (3, 370), (3, 371), (3, 372), (3, 373), (3, 374), (3, 375), (3, 376), (3, 377), (3, 378), (0, 0), (0, 0), (0, 0), (0, 0), (0, 0), (0, 0), (0, 0), (0, 0)]) rfl hP rfl 26 (by decide) (hts _ (wg_t kw_1458)) (fun _ h9 => h9) (cd := (0, 0)) rfl dMH_keys_563 (fun v55 hv55 => ?_)
                              obtain rfl := (show v55 = .int (s41.1 225 26) from hv55)
                              obtain ⟨z43, ez43, hz61, hz62⟩ := cl_of (b := 2147483648) hf218 (by omega) (by decide)
                              replace hR := bnd_step hR ez43
                              first | rw [bnd_step rfl ez43] at hE | replace hE := bndP_step hE ez43
                              refine mi_as hz61 ?_
                              subst hz62
                              refine lv_iload hx hb dMH_keys_566 (lv_at hl 0 rfl) ?_
                              refine lv_isub hx hb dMH_keys_568 ?_
                              refine mp_v (cx := []) (wr := []) hP hD hS hA [] [] rfl rfl rfl (by decide) (va_runSN (As := [.ref sk, .int (nI az24), .int (nI 3), .int (((nI 2) - z41))]) (rest := []) F (N_M_pack l g _ T s41 pl hO hU sk psk 4896 az24 3 ((nI 2) - z41) k_sk n_sk (by omega) (by omega)) ⟨va_cnB 4 hts (wg_in kw_1690) rfl rfl rfl (hEn.2.2.2.2.2.2.2.2.2.1) (hts _ (wg_t kw_9)) (by decide +kernel) ⟨by decide, by decide⟩, hts _ (wg_t kw_1689), trivial⟩ (pp_S (en_ok g) hP hD hS hA hEn [] rfl rfl) rfl rfl hl.1 rfl (lv_room (Nat.le_of_ble_eq_true rfl)) dMH_keys_569 ⟨by omega, by omega⟩) (fun  u37 H locs hu37 hP hD hS => ?_)
                              obtain ⟨s44, pl⟩ := u37
                              obtain ⟨⟨eq37, hFc37, -⟩, hO⟩ := hu37
                              have hO : okn g T s44 pl := hO
                              have hP : va_P g.1 vcl ([] ++ pl) _ := hP
                              have hD : va_D _ ([] ++ pl) := hD
                              have hFc37 : frm (M_M_pack psk) s41 s44 := hFc37
                              replace hR := bnd_step hR eq37
                              first | rw [bnd_step rfl eq37] at hE | replace hE := bndP_step hE eq37
                              have hF := frm_tr hF hFc37 (fun k hk => by unfold M_M_pack at hk; unfold M_MH_keys_2; omega)
                              have hf239 : s44.1 225 23 = nI 2 := fc_F hf215 hFc37 (by unfold M_M_pack; omega)
                              have hf240 : s44.1 225 24 = nI 8 := fc_F hf216 hFc37 (by unfold M_M_pack; omega)
                              have hf241 : s44.1 225 25 = nI 7 := fc_F hf217 hFc37 (by unfold M_M_pack; omega)
                              have hf242 : s44.1 225 26 = nI 2 := fc_F hf218 hFc37 (by unfold M_M_pack; omega)
                              have hf243 : s44.1 225 27 = nI 524288 := fc_F hf219 hFc37 (by unfold M_M_pack; omega)
                              have hf244 : s44.1 225 28 = nI 261888 := fc_F hf220 hFc37 (by unfold M_M_pack; omega)
                              have hf245 : s44.1 225 29 = nI 120 := fc_F hf221 hFc37 (by unfold M_M_pack; omega)
                              have hf246 : s44.1 225 30 = nI 64 := fc_F hf222 hFc37 (by unfold M_M_pack; omega)
                              refine W.widen (k := 0) (n := 0) (by omega) (by omega) ?_
                              refine lv_iload hx hb dMH_keys_572 (lv_at hl 3 rfl) ?_
                              refine lv_iload hx hb dMH_keys_574 (lv_at hl 4 rfl) ?_
                              refine mi_iadd hx hb dMH_keys_576 ?_
                              refine lv_istore (lv' := [(6, .int (nI (az24 + 3))), (9, .int z41), (8, .int (nI i28)), (7, .int (nI i25)), (5, .int (nI 3)), (0, .ref h0), (4, .ref sk)]) hx hb dMH_keys_577 hl (by decide) rfl (fun ls hl => ?_)
                              refine mi_iinc (k := 2) (x := i28) (d := 1) (y := i28 + 1) (lv' := [(8, .int (nI (i28 + 1))), (6, .int (nI (az24 + 3))), (9, .int z41), (7, .int (nI i25)), (5, .int (nI 3)), (0, .ref h0), (4, .ref sk)]) hx hb dMH_keys_579 hl rfl (by decide) rfl (by decide) rfl (fun ls hl => ?_)
                              refine lv_goto (tgt := 487) hx hb dMH_keys_582 (by decide) ?_
                              exact ih28 (i28 + 1) (az24 + 3) s44 pl ls H locs (by omega) (by omega) hF hf239 hf240 hf241 hf242 hf243 hf244 hf245 hf246 hE hR (lv_sub hl [0, 3, 1, 4, 5, 6] rfl) hO hP hD hS
                            · replace hR := hR.trans (if_neg h36)
                              first | rw [if_neg h36] at hE | rw [E_MH_keys_2_L0, if_neg h36] at hE | rw [E_MH_keys_2_L1, if_neg h36] at hE | rw [E_MH_keys_2_L2, if_neg h36] at hE | rw [E_MH_keys_2_L3, if_neg h36] at hE | rw [E_MH_keys_2_L4, if_neg h36] at hE | rw [E_MH_keys_2_L5, if_neg h36] at hE | rw [E_MH_keys_2_L6, if_neg h36] at hE | rw [E_MH_keys_2_L7, if_neg h36] at hE | rw [E_MH_keys_2_L8, if_neg h36] at hE | replace hE := iteP_neg h36 hE
                              refine lv_aload_n hx hb dMH_keys_549 rfl (lv_at hl 5 rfl) ?_
                              refine nw_get (C := "LatticeKeysModel$Hands") (TT := T_MH) (N := 31) hx hb hts (wg_ft i_MH) hown hK hO k_h0 (kn := 225) (ci := 12) (fl := [(3, 172), (3, 181), (3, 226), (3, 291), (3, 299), (3, 308), (3, 317), (3, 326), (3, 334), (3, 342), (3, 350), (3, 359), (3, 368), (3, 369), (3, 370), (3, 371), (3, 372), (3, 373), (3, 374), (3, 375), (3, 376), (3, 377), (3, 378), (0, 0), (0, 0), (0, 0), (0, 0), (0, 0), (0, 0), (0, 0), (0, 0)]) rfl hP rfl 26 (by decide) (hts _ (wg_t kw_1458)) (fun _ h9 => h9) (cd := (0, 0)) rfl dMH_keys_550 (fun v56 hv56 => ?_)
                              obtain rfl := (show v56 = .int (s41.1 225 26) from hv56)
                              obtain ⟨z44, ez44, hz63, hz64⟩ := cl_of (b := 2147483648) hf218 (by omega) (by decide)
                              replace hR := bnd_step hR ez44
                              first | rw [bnd_step rfl ez44] at hE | replace hE := bndP_step hE ez44
                              refine mi_as hz63 ?_
                              subst hz64
                              refine lv_iload hx hb dMH_keys_553 (lv_at hl 0 rfl) ?_
                              refine lv_isub hx hb dMH_keys_555 ?_
                              refine lv_ldc (v := 8380417) hx hb hown (hts _ (wg_t kw_1429)) dMH_keys_556 ?_
                              refine mi_as (show (8380417 : Int32) = nI 8380417 by decide) ?_
                              refine lv_iadd hx hb dMH_keys_558 ?_
                              refine lv_goto (tgt := 569) hx hb dMH_keys_559 (by decide) ?_
                              refine mp_v (cx := []) (wr := []) hP hD hS hA [] [] rfl rfl rfl (by decide) (va_runSN (As := [.ref sk, .int (nI az24), .int (nI 3), .int ((((nI 2) - z41) + (nI 8380417)))]) (rest := []) F (N_M_pack l g _ T s41 pl hO hU sk psk 4896 az24 3 (((nI 2) - z41) + (nI 8380417)) k_sk n_sk (by omega) (by omega)) ⟨va_cnB 4 hts (wg_in kw_1690) rfl rfl rfl (hEn.2.2.2.2.2.2.2.2.2.1) (hts _ (wg_t kw_9)) (by decide +kernel) ⟨by decide, by decide⟩, hts _ (wg_t kw_1689), trivial⟩ (pp_S (en_ok g) hP hD hS hA hEn [] rfl rfl) rfl rfl hl.1 rfl (lv_room (Nat.le_of_ble_eq_true rfl)) dMH_keys_569 ⟨by omega, by omega⟩) (fun  u38 H locs hu38 hP hD hS => ?_)
                              obtain ⟨s45, pl⟩ := u38
                              obtain ⟨⟨eq38, hFc38, -⟩, hO⟩ := hu38
                              have hO : okn g T s45 pl := hO
                              have hP : va_P g.1 vcl ([] ++ pl) _ := hP
                              have hD : va_D _ ([] ++ pl) := hD
                              have hFc38 : frm (M_M_pack psk) s41 s45 := hFc38
                              replace hR := bnd_step hR eq38
                              first | rw [bnd_step rfl eq38] at hE | replace hE := bndP_step hE eq38
                              have hF := frm_tr hF hFc38 (fun k hk => by unfold M_M_pack at hk; unfold M_MH_keys_2; omega)
                              have hf247 : s45.1 225 23 = nI 2 := fc_F hf215 hFc38 (by unfold M_M_pack; omega)
                              have hf248 : s45.1 225 24 = nI 8 := fc_F hf216 hFc38 (by unfold M_M_pack; omega)
                              have hf249 : s45.1 225 25 = nI 7 := fc_F hf217 hFc38 (by unfold M_M_pack; omega)
                              have hf250 : s45.1 225 26 = nI 2 := fc_F hf218 hFc38 (by unfold M_M_pack; omega)
                              have hf251 : s45.1 225 27 = nI 524288 := fc_F hf219 hFc38 (by unfold M_M_pack; omega)
                              have hf252 : s45.1 225 28 = nI 261888 := fc_F hf220 hFc38 (by unfold M_M_pack; omega)
                              have hf253 : s45.1 225 29 = nI 120 := fc_F hf221 hFc38 (by unfold M_M_pack; omega)
                              have hf254 : s45.1 225 30 = nI 64 := fc_F hf222 hFc38 (by unfold M_M_pack; omega)
                              refine W.widen (k := 0) (n := 0) (by omega) (by omega) ?_
                              refine lv_iload hx hb dMH_keys_572 (lv_at hl 3 rfl) ?_
                              refine lv_iload hx hb dMH_keys_574 (lv_at hl 4 rfl) ?_
                              refine mi_iadd hx hb dMH_keys_576 ?_
                              refine lv_istore (lv' := [(6, .int (nI (az24 + 3))), (9, .int z41), (8, .int (nI i28)), (7, .int (nI i25)), (5, .int (nI 3)), (0, .ref h0), (4, .ref sk)]) hx hb dMH_keys_577 hl (by decide) rfl (fun ls hl => ?_)
                              refine mi_iinc (k := 2) (x := i28) (d := 1) (y := i28 + 1) (lv' := [(8, .int (nI (i28 + 1))), (6, .int (nI (az24 + 3))), (9, .int z41), (7, .int (nI i25)), (5, .int (nI 3)), (0, .ref h0), (4, .ref sk)]) hx hb dMH_keys_579 hl rfl (by decide) rfl (by decide) rfl (fun ls hl => ?_)
                              refine lv_goto (tgt := 487) hx hb dMH_keys_582 (by decide) ?_
                              exact ih28 (i28 + 1) (az24 + 3) s45 pl ls H locs (by omega) (by omega) hF hf247 hf248 hf249 hf250 hf251 hf252 hf253 hf254 hE hR (lv_sub hl [0, 3, 1, 4, 5, 6] rfl) hO hP hD hS
                      exact lp28 256 0 az21 s37 pl ls _ _ (by omega) (by omega) hF hf199 hf200 hf201 hf202 hf203 hf204 hf205 hf206 hE hR (lv_sub hl [0, 1, 2, 3, 4, 5] rfl) hO hP hD hS
                  exact lp25 15 0 1024 s36 pl ls _ _ (by omega) (by omega) hF hf143 hf144 hf145 hf146 hf147 hf148 hf149 hf150 hE hR (lv_sub hl [0, 1, 2, 3, 5] rfl) hO hP hD hS
                | succ n24 ih24 =>
                  intro i24 s32 pl ls H locs hm24 hF hf255 hf256 hf257 hf258 hf259 hf260 hf261 hf262 hE hR hl hO hP hD hS
                  refine lv_iload hx hb dMH_keys_340 (lv_at hl 0 rfl) ?_
                  refine lv_aload_n hx hb dMH_keys_342 rfl (lv_at hl 1 rfl) ?_
                  refine nw_get (C := "LatticeKeysModel$Hands") (TT := T_MH) (N := 31) hx hb hts (wg_ft i_MH) hown hK hO k_h0 (kn := 225) (ci := 12) (fl := [(3, 172), (3, 181), (3, 226), (3, 291), (3, 299), (3, 308), (3, 317), (3, 326), (3, 334), (3, 342), (3, 350), (3, 359), (3, 368), (3, 369), (3, 370), (3, 371), (3, 372), (3, 373), (3, 374), (3, 375), (3, 376), (3, 377), (3, 378), (0, 0), (0, 0), (0, 0), (0, 0), (0, 0), (0, 0), (0, 0), (0, 0)]) rfl hP rfl 24 (by decide) (hts _ (wg_t kw_1456)) (fun _ h9 => h9) (cd := (0, 0)) rfl dMH_keys_343 (fun v57 hv57 => ?_)
                  obtain rfl := (show v57 = .int (s32.1 225 24) from hv57)
                  obtain ⟨z45, ez45, hz65, hz66⟩ := cl_of (b := 2147483648) hf256 (by omega) (by decide)
                  replace hR := bnd_step hR ez45
                  first | rw [bnd_step rfl ez45] at hE | replace hE := bndP_step hE ez45
                  refine mi_as hz65 ?_
                  subst hz66
                  refine mi_ge (tgt := 404) hx hb dMH_keys_346 (by decide) (by omega) (by omega) (fun h37 => absurd h37 (by omega)) (fun h37 => ?_)
                  refine lv_iconst (v := nI 0) hx hb dMH_keys_349 (by decide) ?_
                  refine lv_istore (lv' := [(6, .int (nI 0)), (5, .int (nI i24)), (0, .ref h0), (3, .ref pk), (4, .ref sk)]) hx hb dMH_keys_350 hl (by decide) rfl (fun ls hl => ?_)
                  have lp29 : ∀ (n29 : Nat) (i29 : Nat) (s46 : Sto) (pl : va_W) (ls : Array Slot) (H : Heap) (locs : List Loc), n29 + i29 = 256 → frm (M_MH_keys_2 pp psk) s s46 → s46.1 225 23 = nI 2 → s46.1 225 24 = nI 8 → s46.1 225 25 = nI 7 → s46.1 225 26 = nI 2 → s46.1 225 27 = nI 524288 → s46.1 225 28 = nI 261888 → s46.1 225 29 = nI 120 → s46.1 225 30 = nI 64 → E_MH_keys_2_L8 pp i24 (E_MH_keys_2_L3 pp psk n24) n29 i29 s46 → F_MH_keys_2 pb n pp psk s = F_MH_keys_2_L8 pp i24 (F_MH_keys_2_L3 pp psk n24) n29 i29 s46 → lv_has ls 10 [(6, .int (nI i29)), (5, .int (nI i24)), (0, .ref h0), (3, .ref pk), (4, .ref sk)] → okn g T s46 pl → va_P g.1 vcl ([] ++ pl) H → va_D A ([] ++ pl) → va_S A s0.heap H locs → W p l e ({ frames := 5, cells := 0, slots := 0, locals := 118 } : Room) s0 m args below meth c H locs 0 0 (MQ below (va_Qv (fun (u : (Sto) × va_W) => (u.1 = F_MH_keys_2 pb n pp psk s ∧ frm (M_MH_keys_2 pp psk) s u.1 ∧ True) ∧ okn g T u.1 u.2) (po g.1 vcl A (fun (u : (Sto) × va_W) => [] ++ u.2)) A) args s0 0 0 A) (F0 m 352 ls []) := by
                    intro n29
                    induction n29 with
                    | zero =>
                      intro i29 s46 pl ls H locs hm29 hF hf263 hf264 hf265 hf266 hf267 hf268 hf269 hf270 hE hR hl hO hP hD hS
                      refine lv_iload hx hb dMH_keys_352 (lv_at hl 0 rfl) ?_
                      refine lv_sipush (v := nI 256) hx hb dMH_keys_354 (by decide) ?_
                      refine mi_ge (tgt := 398) hx hb dMH_keys_357 (by decide) (by omega) (by omega) (fun h38 => ?_) (fun h38 => absurd h38 (by omega))
                      refine mi_iinc (k := 1) (x := i24) (d := 1) (y := i24 + 1) (lv' := [(5, .int (nI (i24 + 1))), (6, .int (nI i29)), (0, .ref h0), (3, .ref pk), (4, .ref sk)]) hx hb dMH_keys_398 hl rfl (by decide) rfl (by decide) rfl (fun ls hl => ?_)
                      refine lv_goto (tgt := 340) hx hb dMH_keys_401 (by decide) ?_
                      exact ih24 (i24 + 1) s46 pl ls H locs (by omega) hF hf263 hf264 hf265 hf266 hf267 hf268 hf269 hf270 hE hR (lv_sub hl [0, 2, 3, 4] rfl) hO hP hD hS
                    | succ n29 ih29 =>
                      intro i29 s46 pl ls H locs hm29 hF hf271 hf272 hf273 hf274 hf275 hf276 hf277 hf278 hE hR hl hO hP hD hS
                      refine lv_iload hx hb dMH_keys_352 (lv_at hl 0 rfl) ?_
                      refine lv_sipush (v := nI 256) hx hb dMH_keys_354 (by decide) ?_
                      refine mi_ge (tgt := 398) hx hb dMH_keys_357 (by decide) (by omega) (by omega) (fun h39 => absurd h39 (by omega)) (fun h39 => ?_)
                      refine lv_aload_n hx hb dMH_keys_360 rfl (lv_at hl 3 rfl) ?_
                      refine lv_sipush (v := nI 256) hx hb dMH_keys_361 (by decide) ?_
                      refine lv_sipush (v := nI 2560) hx hb dMH_keys_364 (by decide) ?_
                      refine lv_iload hx hb dMH_keys_367 (lv_at hl 1 rfl) ?_
                      refine mi_imul hx hb dMH_keys_369 ?_
                      refine mi_iadd hx hb dMH_keys_370 ?_
                      refine lv_bipush (v := nI 10) hx hb dMH_keys_371 (by decide) ?_
                      refine lv_iload hx hb dMH_keys_373 (lv_at hl 0 rfl) ?_
                      refine mi_imul hx hb dMH_keys_375 ?_
                      refine mi_iadd hx hb dMH_keys_376 ?_
                      refine lv_bipush (v := nI 10) hx hb dMH_keys_377 (by decide) ?_
                      refine lv_aload_n hx hb dMH_keys_379 rfl (lv_at hl 2 rfl) ?_
                      refine nw_get (C := "LatticeKeysModel$Hands") (TT := T_MH) (N := 31) hx hb hts (wg_ft i_MH) hown hK hO k_h0 (kn := 225) (ci := 12) (fl := [(3, 172), (3, 181), (3, 226), (3, 291), (3, 299), (3, 308), (3, 317), (3, 326), (3, 334), (3, 342), (3, 350), (3, 359), (3, 368), (3, 369), (3, 370), (3, 371), (3, 372), (3, 373), (3, 374), (3, 375), (3, 376), (3, 377), (3, 378), (0, 0), (0, 0), (0, 0), (0, 0), (0, 0), (0, 0), (0, 0), (0, 0)]) rfl hP rfl 6 (by decide) (hts _ (wg_t kw_1438)) (fun _ h9 => h9) (cd := (3, 317)) rfl dMH_keys_380 (fun v58 hv58 => ?_)
                      obtain ⟨r40, rfl, kr39⟩ := (show ∃ r : Nat, v58 = .ref r ∧ T r = some 317 from hv58)
                      refine lv_iload hx hb dMH_keys_383 (lv_at hl 1 rfl) ?_
                      refine nw_aald3 hx hb hK hO kr39 (k := 317) (b := 318) rfl hP (by omega) (by omega) dMH_keys_385 (fun r41 kr40 => ?_)
                      have hn24 : nsp (318 + i24) = (0, 256, []) := rows_ok 318 8 (by decide) _ (by omega)
                      refine lv_iload hx hb dMH_keys_386 (lv_at hl 0 rfl) ?_
                      refine nw_iald hx hb hK hO kr40 (k := (318 + i24)) hn24 hP (by omega) (by omega) dMH_keys_388 ?_
                      refine mp_v (cx := []) (wr := []) hP hD hS hA [] [] rfl rfl rfl (by decide) (va_runSN (As := [.ref pk, .int (nI ((256 + (2560 * i24)) + (10 * i29))), .int (nI 10), .int ((s46.1 ((318 + i24)) i29))]) (rest := []) F (N_M_pack l g _ T s46 pl hO hU pk pp 2592 ((256 + (2560 * i24)) + (10 * i29)) 10 (s46.1 ((318 + i24)) i29) k_pk n_pk (by omega) (by omega)) ⟨va_cnB 4 hts (wg_in kw_1690) rfl rfl rfl (hEn.2.2.2.2.2.2.2.2.2.1) (hts _ (wg_t kw_9)) (by decide +kernel) ⟨by decide, by decide⟩, hts _ (wg_t kw_1689), trivial⟩ (pp_S (en_ok g) hP hD hS hA hEn [] rfl rfl) rfl rfl hl.1 rfl (lv_room (Nat.le_of_ble_eq_true rfl)) dMH_keys_389 ⟨by omega, by omega⟩) (fun  u39 H locs hu39 hP hD hS => ?_)
                      obtain ⟨s47, pl⟩ := u39
                      obtain ⟨⟨eq39, hFc39, -⟩, hO⟩ := hu39
                      have hO : okn g T s47 pl := hO
                      have hP : va_P g.1 vcl ([] ++ pl) _ := hP
                      have hD : va_D _ ([] ++ pl) := hD
                      have hFc39 : frm (M_M_pack pp) s46 s47 := hFc39
                      replace hR := bnd_step hR eq39
                      first | rw [bnd_step rfl eq39] at hE | replace hE := bndP_step hE eq39
                      have hF := frm_tr hF hFc39 (fun k hk => by unfold M_M_pack at hk; unfold M_MH_keys_2; omega)
                      have hf279 : s47.1 225 23 = nI 2 := fc_F hf271 hFc39 (by unfold M_M_pack; omega)
                      have hf280 : s47.1 225 24 = nI 8 := fc_F hf272 hFc39 (by unfold M_M_pack; omega)
                      have hf281 : s47.1 225 25 = nI 7 := fc_F hf273 hFc39 (by unfold M_M_pack; omega)
                      have hf282 : s47.1 225 26 = nI 2 := fc_F hf274 hFc39 (by unfold M_M_pack; omega)
                      have hf283 : s47.1 225 27 = nI 524288 := fc_F hf275 hFc39 (by unfold M_M_pack; omega)
                      have hf284 : s47.1 225 28 = nI 261888 := fc_F hf276 hFc39 (by unfold M_M_pack; omega)
                      have hf285 : s47.1 225 29 = nI 120 := fc_F hf277 hFc39 (by unfold M_M_pack; omega)
                      have hf286 : s47.1 225 30 = nI 64 := fc_F hf278 hFc39 (by unfold M_M_pack; omega)
                      refine W.widen (k := 0) (n := 0) (by omega) (by omega) ?_
                      refine mi_iinc (k := 0) (x := i29) (d := 1) (y := i29 + 1) (lv' := [(6, .int (nI (i29 + 1))), (5, .int (nI i24)), (0, .ref h0), (3, .ref pk), (4, .ref sk)]) hx hb dMH_keys_392 hl rfl (by decide) rfl (by decide) rfl (fun ls hl => ?_)
                      refine lv_goto (tgt := 352) hx hb dMH_keys_395 (by decide) ?_
                      exact ih29 (i29 + 1) s47 pl ls H locs (by omega) hF hf279 hf280 hf281 hf282 hf283 hf284 hf285 hf286 hE hR (lv_sub hl [0, 1, 2, 3, 4] rfl) hO hP hD hS
                  exact lp29 256 0 s32 pl ls _ _ (by omega) hF hf255 hf256 hf257 hf258 hf259 hf260 hf261 hf262 hE hR (lv_sub hl [0, 1, 2, 3, 4] rfl) hO hP hD hS
              exact lp24 8 0 s31 pl ls _ _ (by omega) hF hf93 hf94 hf95 hf96 hf97 hf98 hf99 hf100 hE hR (lv_sub hl [0, 1, 2, 3] rfl) hO hP hD hS
            | succ n23 ih23 =>
              intro i23 s31 pl ls H locs hm23 hF hf287 hf288 hf289 hf290 hf291 hf292 hf293 hf294 hE hR hl hO hP hD hS
              refine lv_iload hx hb dMH_keys_283 (lv_at hl 0 rfl) ?_
              refine lv_bipush (v := nI 32) hx hb dMH_keys_285 (by decide) ?_
              refine mi_ge (tgt := 337) hx hb dMH_keys_287 (by decide) (by omega) (by omega) (fun h40 => absurd h40 (by omega)) (fun h40 => ?_)
              refine lv_aload_n hx hb dMH_keys_290 rfl (lv_at hl 2 rfl) ?_
              refine lv_iload hx hb dMH_keys_291 (lv_at hl 0 rfl) ?_
              refine lv_aload_n hx hb dMH_keys_293 rfl (lv_at hl 1 rfl) ?_
              refine nw_get (C := "LatticeKeysModel$Hands") (TT := T_MH) (N := 31) hx hb hts (wg_ft i_MH) hown hK hO k_h0 (kn := 225) (ci := 12) (fl := [(3, 172), (3, 181), (3, 226), (3, 291), (3, 299), (3, 308), (3, 317), (3, 326), (3, 334), (3, 342), (3, 350), (3, 359), (3, 368), (3, 369), (3, 370), (3, 371), (3, 372), (3, 373), (3, 374), (3, 375), (3, 376), (3, 377), (3, 378), (0, 0), (0, 0), (0, 0), (0, 0), (0, 0), (0, 0), (0, 0), (0, 0)]) rfl hP rfl 16 (by decide) (hts _ (wg_t kw_1448)) (fun _ h9 => h9) (cd := (3, 372)) rfl dMH_keys_294 (fun v59 hv59 => ?_)
              obtain ⟨r42, rfl, kr41⟩ := (show ∃ r : Nat, v59 = .ref r ∧ T r = some 372 from hv59)
              refine lv_iload hx hb dMH_keys_297 (lv_at hl 0 rfl) ?_
              refine nw_bald hx hb hK hO kr41 (k := 372) rfl hP (by omega) (by omega) dMH_keys_299 ?_
              refine nw_bast hx hb hK hO hU k_pk (k := pp) n_pk hP hD hS (by omega) (by omega) dMH_keys_300 (fun s48 pl H locs es21 hO hP hD hS => ?_)
              replace hR := bnd_step hR es21
              first | rw [bnd_step rfl es21] at hE | replace hE := bndP_step hE es21
              have hF := frm_sB hF es21 (by unfold M_MH_keys_2; omega)
              have hf295 : s48.1 225 23 = nI 2 := fc_B hf287 es21 (by omega)
              have hf296 : s48.1 225 24 = nI 8 := fc_B hf288 es21 (by omega)
              have hf297 : s48.1 225 25 = nI 7 := fc_B hf289 es21 (by omega)
              have hf298 : s48.1 225 26 = nI 2 := fc_B hf290 es21 (by omega)
              have hf299 : s48.1 225 27 = nI 524288 := fc_B hf291 es21 (by omega)
              have hf300 : s48.1 225 28 = nI 261888 := fc_B hf292 es21 (by omega)
              have hf301 : s48.1 225 29 = nI 120 := fc_B hf293 es21 (by omega)
              have hf302 : s48.1 225 30 = nI 64 := fc_B hf294 es21 (by omega)
              refine lv_aload hx hb dMH_keys_301 (lv_at hl 3 rfl) ?_
              refine lv_iload hx hb dMH_keys_303 (lv_at hl 0 rfl) ?_
              refine lv_aload_n hx hb dMH_keys_305 rfl (lv_at hl 1 rfl) ?_
              refine nw_get (C := "LatticeKeysModel$Hands") (TT := T_MH) (N := 31) hx hb hts (wg_ft i_MH) hown hK hO k_h0 (kn := 225) (ci := 12) (fl := [(3, 172), (3, 181), (3, 226), (3, 291), (3, 299), (3, 308), (3, 317), (3, 326), (3, 334), (3, 342), (3, 350), (3, 359), (3, 368), (3, 369), (3, 370), (3, 371), (3, 372), (3, 373), (3, 374), (3, 375), (3, 376), (3, 377), (3, 378), (0, 0), (0, 0), (0, 0), (0, 0), (0, 0), (0, 0), (0, 0), (0, 0)]) rfl hP rfl 16 (by decide) (hts _ (wg_t kw_1448)) (fun _ h9 => h9) (cd := (3, 372)) rfl dMH_keys_306 (fun v60 hv60 => ?_)
              obtain ⟨r43, rfl, kr42⟩ := (show ∃ r : Nat, v60 = .ref r ∧ T r = some 372 from hv60)
              refine lv_iload hx hb dMH_keys_309 (lv_at hl 0 rfl) ?_
              refine nw_bald hx hb hK hO kr42 (k := 372) rfl hP (by omega) (by omega) dMH_keys_311 ?_
              refine nw_bast hx hb hK hO hU k_sk (k := psk) n_sk hP hD hS (by omega) (by omega) dMH_keys_312 (fun s49 pl H locs es22 hO hP hD hS => ?_)
              replace hR := bnd_step hR es22
              first | rw [bnd_step rfl es22] at hE | replace hE := bndP_step hE es22
              have hF := frm_sB hF es22 (by unfold M_MH_keys_2; omega)
              have hf303 : s49.1 225 23 = nI 2 := fc_B hf295 es22 (by omega)
              have hf304 : s49.1 225 24 = nI 8 := fc_B hf296 es22 (by omega)
              have hf305 : s49.1 225 25 = nI 7 := fc_B hf297 es22 (by omega)
              have hf306 : s49.1 225 26 = nI 2 := fc_B hf298 es22 (by omega)
              have hf307 : s49.1 225 27 = nI 524288 := fc_B hf299 es22 (by omega)
              have hf308 : s49.1 225 28 = nI 261888 := fc_B hf300 es22 (by omega)
              have hf309 : s49.1 225 29 = nI 120 := fc_B hf301 es22 (by omega)
              have hf310 : s49.1 225 30 = nI 64 := fc_B hf302 es22 (by omega)
              refine lv_aload hx hb dMH_keys_313 (lv_at hl 3 rfl) ?_
              refine lv_bipush (v := nI 32) hx hb dMH_keys_315 (by decide) ?_
              refine lv_iload hx hb dMH_keys_317 (lv_at hl 0 rfl) ?_
              refine mi_iadd hx hb dMH_keys_319 ?_
              refine lv_aload_n hx hb dMH_keys_320 rfl (lv_at hl 1 rfl) ?_
              refine nw_get (C := "LatticeKeysModel$Hands") (TT := T_MH) (N := 31) hx hb hts (wg_ft i_MH) hown hK hO k_h0 (kn := 225) (ci := 12) (fl := [(3, 172), (3, 181), (3, 226), (3, 291), (3, 299), (3, 308), (3, 317), (3, 326), (3, 334), (3, 342), (3, 350), (3, 359), (3, 368), (3, 369), (3, 370), (3, 371), (3, 372), (3, 373), (3, 374), (3, 375), (3, 376), (3, 377), (3, 378), (0, 0), (0, 0), (0, 0), (0, 0), (0, 0), (0, 0), (0, 0), (0, 0)]) rfl hP rfl 16 (by decide) (hts _ (wg_t kw_1448)) (fun _ h9 => h9) (cd := (3, 372)) rfl dMH_keys_321 (fun v61 hv61 => ?_)
              obtain ⟨r44, rfl, kr43⟩ := (show ∃ r : Nat, v61 = .ref r ∧ T r = some 372 from hv61)
              refine lv_bipush (v := nI 96) hx hb dMH_keys_324 (by decide) ?_
              refine lv_iload hx hb dMH_keys_326 (lv_at hl 0 rfl) ?_
              refine mi_iadd hx hb dMH_keys_328 ?_
              refine nw_bald hx hb hK hO kr43 (k := 372) rfl hP (by omega) (by omega) dMH_keys_329 ?_
              refine nw_bast hx hb hK hO hU k_sk (k := psk) n_sk hP hD hS (by omega) (by omega) dMH_keys_330 (fun s50 pl H locs es23 hO hP hD hS => ?_)
              replace hR := bnd_step hR es23
              first | rw [bnd_step rfl es23] at hE | replace hE := bndP_step hE es23
              have hF := frm_sB hF es23 (by unfold M_MH_keys_2; omega)
              have hf311 : s50.1 225 23 = nI 2 := fc_B hf303 es23 (by omega)
              have hf312 : s50.1 225 24 = nI 8 := fc_B hf304 es23 (by omega)
              have hf313 : s50.1 225 25 = nI 7 := fc_B hf305 es23 (by omega)
              have hf314 : s50.1 225 26 = nI 2 := fc_B hf306 es23 (by omega)
              have hf315 : s50.1 225 27 = nI 524288 := fc_B hf307 es23 (by omega)
              have hf316 : s50.1 225 28 = nI 261888 := fc_B hf308 es23 (by omega)
              have hf317 : s50.1 225 29 = nI 120 := fc_B hf309 es23 (by omega)
              have hf318 : s50.1 225 30 = nI 64 := fc_B hf310 es23 (by omega)
              refine mi_iinc (k := 0) (x := i23) (d := 1) (y := i23 + 1) (lv' := [(5, .int (nI (i23 + 1))), (0, .ref h0), (3, .ref pk), (4, .ref sk)]) hx hb dMH_keys_331 hl rfl (by decide) rfl (by decide) rfl (fun ls hl => ?_)
              refine lv_goto (tgt := 283) hx hb dMH_keys_334 (by decide) ?_
              exact ih23 (i23 + 1) s50 pl ls H locs (by omega) hF hf311 hf312 hf313 hf314 hf315 hf316 hf317 hf318 hE hR (lv_sub hl [0, 1, 2, 3] rfl) hO hP hD hS
          exact lp23 32 0 s30 pl ls _ _ (by omega) hF hf85 hf86 hf87 hf88 hf89 hf90 hf91 hf92 hE hR (lv_sub hl [0, 1, 2, 3] rfl) hO hP hD hS
        | succ n22 ih22 =>
          intro i22 s30 pl ls H locs hm22 hF hf319 hf320 hf321 hf322 hf323 hf324 hf325 hf326 hE hR hl hO hP hD hS
          refine lv_iload hx hb dMH_keys_138 (lv_at hl 0 rfl) ?_
          refine lv_aload_n hx hb dMH_keys_140 rfl (lv_at hl 1 rfl) ?_
          refine nw_get (C := "LatticeKeysModel$Hands") (TT := T_MH) (N := 31) hx hb hts (wg_ft i_MH) hown hK hO k_h0 (kn := 225) (ci := 12) (fl := [(3, 172), (3, 181), (3, 226), (3, 291), (3, 299), (3, 308), (3, 317), (3, 326), (3, 334), (3, 342), (3, 350), (3, 359), (3, 368), (3, 369), (3, 370), (3, 371), (3, 372), (3, 373), (3, 374), (3, 375), (3, 376), (3, 377), (3, 378), (0, 0), (0, 0), (0, 0), (0, 0), (0, 0), (0, 0), (0, 0), (0, 0)]) rfl hP rfl 24 (by decide) (hts _ (wg_t kw_1456)) (fun _ h9 => h9) (cd := (0, 0)) rfl dMH_keys_141 (fun v62 hv62 => ?_)
          obtain rfl := (show v62 = .int (s30.1 225 24) from hv62)
          obtain ⟨z46, ez46, hz67, hz68⟩ := cl_of (b := 2147483648) hf320 (by omega) (by decide)
          replace hR := bnd_step hR ez46
          first | rw [bnd_step rfl ez46] at hE | replace hE := bndP_step hE ez46
          refine mi_as hz67 ?_
          subst hz68
          refine mi_ge (tgt := 280) hx hb dMH_keys_144 (by decide) (by omega) (by omega) (fun h41 => absurd h41 (by omega)) (fun h41 => ?_)
          refine lv_aload_n hx hb dMH_keys_147 rfl (lv_at hl 1 rfl) ?_
          refine lv_aload_n hx hb dMH_keys_148 rfl (lv_at hl 1 rfl) ?_
          refine nw_get (C := "LatticeKeysModel$Hands") (TT := T_MH) (N := 31) hx hb hts (wg_ft i_MH) hown hK hO k_h0 (kn := 225) (ci := 12) (fl := [(3, 172), (3, 181), (3, 226), (3, 291), (3, 299), (3, 308), (3, 317), (3, 326), (3, 334), (3, 342), (3, 350), (3, 359), (3, 368), (3, 369), (3, 370), (3, 371), (3, 372), (3, 373), (3, 374), (3, 375), (3, 376), (3, 377), (3, 378), (0, 0), (0, 0), (0, 0), (0, 0), (0, 0), (0, 0), (0, 0), (0, 0)]) rfl hP rfl 4 (by decide) (hts _ (wg_t kw_1436)) (fun _ h9 => h9) (cd := (3, 299)) rfl dMH_keys_149 (fun v63 hv63 => ?_)
          obtain ⟨r45, rfl, kr44⟩ := (show ∃ r : Nat, v63 = .ref r ∧ T r = some 299 from hv63)
          refine lv_iload hx hb dMH_keys_152 (lv_at hl 0 rfl) ?_
          refine nw_aald3 hx hb hK hO kr44 (k := 299) (b := 300) rfl hP (by omega) (by omega) dMH_keys_154 (fun r46 kr45 => ?_)
          have hn25 : nsp (300 + i22) = (0, 256, []) := rows_ok 300 8 (by decide) _ (by omega)
          refine lv_aload_n hx hb dMH_keys_155 rfl (lv_at hl 1 rfl) ?_
          refine nw_get (C := "LatticeKeysModel$Hands") (TT := T_MH) (N := 31) hx hb hts (wg_ft i_MH) hown hK hO k_h0 (kn := 225) (ci := 12) (fl := [(3, 172), (3, 181), (3, 226), (3, 291), (3, 299), (3, 308), (3, 317), (3, 326), (3, 334), (3, 342), (3, 350), (3, 359), (3, 368), (3, 369), (3, 370), (3, 371), (3, 372), (3, 373), (3, 374), (3, 375), (3, 376), (3, 377), (3, 378), (0, 0), (0, 0), (0, 0), (0, 0), (0, 0), (0, 0), (0, 0), (0, 0)]) rfl hP rfl 16 (by decide) (hts _ (wg_t kw_1448)) (fun _ h9 => h9) (cd := (3, 372)) rfl dMH_keys_156 (fun v64 hv64 => ?_)
          obtain ⟨r47, rfl, kr46⟩ := (show ∃ r : Nat, v64 = .ref r ∧ T r = some 372 from hv64)
          refine lv_bipush (v := nI 32) hx hb dMH_keys_159 (by decide) ?_
          refine lv_iload hx hb dMH_keys_161 (lv_at hl 0 rfl) ?_
          refine lv_aload_n hx hb dMH_keys_163 rfl (lv_at hl 1 rfl) ?_
          refine nw_get (C := "LatticeKeysModel$Hands") (TT := T_MH) (N := 31) hx hb hts (wg_ft i_MH) hown hK hO k_h0 (kn := 225) (ci := 12) (fl := [(3, 172), (3, 181), (3, 226), (3, 291), (3, 299), (3, 308), (3, 317), (3, 326), (3, 334), (3, 342), (3, 350), (3, 359), (3, 368), (3, 369), (3, 370), (3, 371), (3, 372), (3, 373), (3, 374), (3, 375), (3, 376), (3, 377), (3, 378), (0, 0), (0, 0), (0, 0), (0, 0), (0, 0), (0, 0), (0, 0), (0, 0)]) rfl hP rfl 25 (by decide) (hts _ (wg_t kw_1457)) (fun _ h9 => h9) (cd := (0, 0)) rfl dMH_keys_164 (fun v65 hv65 => ?_)
          obtain rfl := (show v65 = .int (s30.1 225 25) from hv65)
          obtain ⟨z47, ez47, hz69, hz70⟩ := cl_of (b := 2147483648) hf321 (by omega) (by decide)
          replace hR := bnd_step hR ez47
          first | rw [bnd_step rfl ez47] at hE | replace hE := bndP_step hE ez47
          refine mi_as hz69 ?_
          subst hz70
          refine mi_iadd hx hb dMH_keys_167 ?_
          refine mp_v (cx := []) (wr := []) hP hD hS hA [] [] rfl rfl rfl (by decide) (va_runV (As := [.ref r46, .ref r47, .int (nI 32), .int (nI (i22 + 7))]) (rest := []) F (N_MH_small_2 l g _ T s30 pl hO hU h0 r46 r47 (300 + i22) 372 128 32 (nI (i22 + 7)) k_h0 kr45 hn25 kr46 rfl hf319 hf320 hf321 hf322 hf323 hf324 hf325 hf326 (by omega) (by omega) hE.1) (cwV 4 hts (wg_app (wg_c kw_1729 (wg_c kw_1731 (wg_c ks_62 (wg_c kw_13 wg_n)))) kw_1732) rfl rfl rfl (by decide +kernel) ⟨by decide, by decide⟩) (pn_W "LatticeKeysModel$Hands" (en_ok g) (ci := 12) (kn := 225) (fl := [(3, 172), (3, 181), (3, 226), (3, 291), (3, 299), (3, 308), (3, 317), (3, 326), (3, 334), (3, 342), (3, 350), (3, 359), (3, 368), (3, 369), (3, 370), (3, 371), (3, 372), (3, 373), (3, 374), (3, 375), (3, 376), (3, 377), (3, 378), (0, 0), (0, 0), (0, 0), (0, 0), (0, 0), (0, 0), (0, 0), (0, 0)]) hK hO k_h0 rfl hP hD hS hA hEn [] rfl rfl rfl) rfl rfl hl.1 rfl (lv_room (Nat.le_of_ble_eq_true rfl)) dMH_keys_168 ⟨by omega, by omega⟩) (fun  u40 H locs hu40 hP hD hS => ?_)
          obtain ⟨s51, pl⟩ := u40
          obtain ⟨⟨eq40, hFc40, -⟩, hO⟩ := hu40
          have hO : okn g T s51 pl := hO
          have hP : va_P g.1 vcl ([] ++ pl) _ := hP
          have hD : va_D _ ([] ++ pl) := hD
          have hFc40 : frm (M_MH_small_2 (300 + i22)) s30 s51 := hFc40
          rw [and_iff_right hE.1] at hE
          replace hR := bnd_step hR eq40
          first | rw [bnd_step rfl eq40] at hE | replace hE := bndP_step hE eq40
          have hF := frm_tr hF hFc40 (fun k hk => by unfold M_MH_small_2 at hk; unfold M_MH_keys_2; omega)
          have hf327 : s51.1 225 23 = nI 2 := fc_F hf319 hFc40 (by unfold M_MH_small_2; omega)
          have hf328 : s51.1 225 24 = nI 8 := fc_F hf320 hFc40 (by unfold M_MH_small_2; omega)
          have hf329 : s51.1 225 25 = nI 7 := fc_F hf321 hFc40 (by unfold M_MH_small_2; omega)
          have hf330 : s51.1 225 26 = nI 2 := fc_F hf322 hFc40 (by unfold M_MH_small_2; omega)
          have hf331 : s51.1 225 27 = nI 524288 := fc_F hf323 hFc40 (by unfold M_MH_small_2; omega)
          have hf332 : s51.1 225 28 = nI 261888 := fc_F hf324 hFc40 (by unfold M_MH_small_2; omega)
          have hf333 : s51.1 225 29 = nI 120 := fc_F hf325 hFc40 (by unfold M_MH_small_2; omega)
          have hf334 : s51.1 225 30 = nI 64 := fc_F hf326 hFc40 (by unfold M_MH_small_2; omega)
          refine W.widen (k := 0) (n := 0) (by omega) (by omega) ?_
          refine lv_aload_n hx hb dMH_keys_171 rfl (lv_at hl 1 rfl) ?_
          refine lv_iload hx hb dMH_keys_172 (lv_at hl 0 rfl) ?_
          refine lv_aload_n hx hb dMH_keys_174 rfl (lv_at hl 1 rfl) ?_
          refine nw_get (C := "LatticeKeysModel$Hands") (TT := T_MH) (N := 31) hx hb hts (wg_ft i_MH) hown hK hO k_h0 (kn := 225) (ci := 12) (fl := [(3, 172), (3, 181), (3, 226), (3, 291), (3, 299), (3, 308), (3, 317), (3, 326), (3, 334), (3, 342), (3, 350), (3, 359), (3, 368), (3, 369), (3, 370), (3, 371), (3, 372), (3, 373), (3, 374), (3, 375), (3, 376), (3, 377), (3, 378), (0, 0), (0, 0), (0, 0), (0, 0), (0, 0), (0, 0), (0, 0), (0, 0)]) rfl hP rfl 13 (by decide) (hts _ (wg_t kw_1445)) (fun _ h9 => h9) (cd := (3, 369)) rfl dMH_keys_175 (fun v66 hv66 => ?_)
          obtain ⟨r48, rfl, kr47⟩ := (show ∃ r : Nat, v66 = .ref r ∧ T r = some 369 from hv66)
          refine mp_v (cx := []) (wr := []) hP hD hS hA [] [] rfl rfl rfl (by decide) (va_runV (As := [.int (nI i22), .ref r48]) (rest := []) F (N_MH_rowBy_2 l g _ T s51 pl hO hU h0 r48 i22 369 k_h0 kr47 rfl hf327 hf328 hf329 hf330 hf331 hf332 hf333 hf334 (by omega)) (cwV 2 hts (wg_app (wg_c kw_1734 (wg_c kw_1736 (wg_c ks_63 (wg_c kw_13 wg_n)))) kw_1737) rfl rfl rfl (by decide +kernel) ⟨by decide, by decide⟩) (pn_W "LatticeKeysModel$Hands" (en_ok g) (ci := 12) (kn := 225) (fl := [(3, 172), (3, 181), (3, 226), (3, 291), (3, 299), (3, 308), (3, 317), (3, 326), (3, 334), (3, 342), (3, 350), (3, 359), (3, 368), (3, 369), (3, 370), (3, 371), (3, 372), (3, 373), (3, 374), (3, 375), (3, 376), (3, 377), (3, 378), (0, 0), (0, 0), (0, 0), (0, 0), (0, 0), (0, 0), (0, 0), (0, 0)]) hK hO k_h0 rfl hP hD hS hA hEn [] rfl rfl rfl) rfl rfl hl.1 rfl (lv_room (Nat.le_of_ble_eq_true rfl)) dMH_keys_178 ⟨by omega, by omega⟩) (fun  u41 H locs hu41 hP hD hS => ?_)
          obtain ⟨s52, pl⟩ := u41
          obtain ⟨⟨eq41, hFc41, -⟩, hO⟩ := hu41
          have hO : okn g T s52 pl := hO
          have hP : va_P g.1 vcl ([] ++ pl) _ := hP
          have hD : va_D _ ([] ++ pl) := hD
          have hFc41 : frm (M_MH_rowBy_2 369) s51 s52 := hFc41
          replace hR := bnd_step hR eq41
          first | rw [bnd_step rfl eq41] at hE | replace hE := bndP_step hE eq41
          have hF := frm_tr hF hFc41 (fun k hk => by unfold M_MH_rowBy_2 at hk; unfold M_MH_keys_2; omega)
          have hf335 : s52.1 225 23 = nI 2 := fc_F hf327 hFc41 (by unfold M_MH_rowBy_2; omega)
          have hf336 : s52.1 225 24 = nI 8 := fc_F hf328 hFc41 (by unfold M_MH_rowBy_2; omega)
          have hf337 : s52.1 225 25 = nI 7 := fc_F hf329 hFc41 (by unfold M_MH_rowBy_2; omega)
          have hf338 : s52.1 225 26 = nI 2 := fc_F hf330 hFc41 (by unfold M_MH_rowBy_2; omega)
          have hf339 : s52.1 225 27 = nI 524288 := fc_F hf331 hFc41 (by unfold M_MH_rowBy_2; omega)
          have hf340 : s52.1 225 28 = nI 261888 := fc_F hf332 hFc41 (by unfold M_MH_rowBy_2; omega)
          have hf341 : s52.1 225 29 = nI 120 := fc_F hf333 hFc41 (by unfold M_MH_rowBy_2; omega)
          have hf342 : s52.1 225 30 = nI 64 := fc_F hf334 hFc41 (by unfold M_MH_rowBy_2; omega)
          refine W.widen (k := 0) (n := 0) (by omega) (by omega) ?_
          refine lv_iconst (v := nI 0) hx hb dMH_keys_181 (by decide) ?_
          refine lv_istore (lv' := [(6, .int (nI 0)), (5, .int (nI i22)), (0, .ref h0), (3, .ref pk), (4, .ref sk)]) hx hb dMH_keys_182 hl (by decide) rfl (fun ls hl => ?_)
          have lp30 : ∀ (n30 : Nat) (i30 : Nat) (s53 : Sto) (pl : va_W) (ls : Array Slot) (H : Heap) (locs : List Loc), n30 + i30 = 256 → frm (M_MH_keys_2 pp psk) s s53 → s53.1 225 23 = nI 2 → s53.1 225 24 = nI 8 → s53.1 225 25 = nI 7 → s53.1 225 26 = nI 2 → s53.1 225 27 = nI 524288 → s53.1 225 28 = nI 261888 → s53.1 225 29 = nI 120 → s53.1 225 30 = nI 64 → E_MH_keys_2_L9 i22 (E_MH_keys_2_L1 pp psk n22) n30 i30 s53 → F_MH_keys_2 pb n pp psk s = F_MH_keys_2_L9 i22 (F_MH_keys_2_L1 pp psk n22) n30 i30 s53 → lv_has ls 10 [(6, .int (nI i30)), (5, .int (nI i22)), (0, .ref h0), (3, .ref pk), (4, .ref sk)] → okn g T s53 pl → va_P g.1 vcl ([] ++ pl) H → va_D A ([] ++ pl) → va_S A s0.heap H locs → W p l e ({ frames := 5, cells := 0, slots := 0, locals := 118 } : Room) s0 m args below meth c H locs 0 0 (MQ below (va_Qv (fun (u : (Sto) × va_W) => (u.1 = F_MH_keys_2 pb n pp psk s ∧ frm (M_MH_keys_2 pp psk) s u.1 ∧ True) ∧ okn g T u.1 u.2) (po g.1 vcl A (fun (u : (Sto) × va_W) => [] ++ u.2)) A) args s0 0 0 A) (F0 m 184 ls []) := by
            intro n30
            induction n30 with
            | zero =>
              intro i30 s53 pl ls H locs hm30 hF hf343 hf344 hf345 hf346 hf347 hf348 hf349 hf350 hE hR hl hO hP hD hS
              refine lv_iload hx hb dMH_keys_184 (lv_at hl 0 rfl) ?_
              refine lv_sipush (v := nI 256) hx hb dMH_keys_186 (by decide) ?_
              refine mi_ge (tgt := 274) hx hb dMH_keys_189 (by decide) (by omega) (by omega) (fun h42 => ?_) (fun h42 => absurd h42 (by omega))
              refine mi_iinc (k := 1) (x := i22) (d := 1) (y := i22 + 1) (lv' := [(5, .int (nI (i22 + 1))), (6, .int (nI i30)), (0, .ref h0), (3, .ref pk), (4, .ref sk)]) hx hb dMH_keys_274 hl rfl (by decide) rfl (by decide) rfl (fun ls hl => ?_)
              refine lv_goto (tgt := 138) hx hb dMH_keys_277 (by decide) ?_
              exact ih22 (i22 + 1) s53 pl ls H locs (by omega) hF hf343 hf344 hf345 hf346 hf347 hf348 hf349 hf350 hE hR (lv_sub hl [0, 2, 3, 4] rfl) hO hP hD hS
            | succ n30 ih30 =>
              intro i30 s53 pl ls H locs hm30 hF hf351 hf352 hf353 hf354 hf355 hf356 hf357 hf358 hE hR hl hO hP hD hS
              refine lv_iload hx hb dMH_keys_184 (lv_at hl 0 rfl) ?_
              refine lv_sipush (v := nI 256) hx hb dMH_keys_186 (by decide) ?_
              refine mi_ge (tgt := 274) hx hb dMH_keys_189 (by decide) (by omega) (by omega) (fun h43 => absurd h43 (by omega)) (fun h43 => ?_)
              refine lv_aload_n hx hb dMH_keys_192 rfl (lv_at hl 2 rfl) ?_
              refine nw_get (C := "LatticeKeysModel$Hands") (TT := T_MH) (N := 31) hx hb hts (wg_ft i_MH) hown hK hO k_h0 (kn := 225) (ci := 12) (fl := [(3, 172), (3, 181), (3, 226), (3, 291), (3, 299), (3, 308), (3, 317), (3, 326), (3, 334), (3, 342), (3, 350), (3, 359), (3, 368), (3, 369), (3, 370), (3, 371), (3, 372), (3, 373), (3, 374), (3, 375), (3, 376), (3, 377), (3, 378), (0, 0), (0, 0), (0, 0), (0, 0), (0, 0), (0, 0), (0, 0), (0, 0)]) rfl hP rfl 13 (by decide) (hts _ (wg_t kw_1445)) (fun _ h9 => h9) (cd := (3, 369)) rfl dMH_keys_193 (fun v67 hv67 => ?_)
              obtain ⟨r49, rfl, kr48⟩ := (show ∃ r : Nat, v67 = .ref r ∧ T r = some 369 from hv67)
              refine lv_iload hx hb dMH_keys_196 (lv_at hl 0 rfl) ?_
              refine nw_iald hx hb hK hO kr48 (k := 369) rfl hP (by omega) (by omega) dMH_keys_198 ?_
              refine lv_aload_n hx hb dMH_keys_199 rfl (lv_at hl 2 rfl) ?_
              refine nw_get (C := "LatticeKeysModel$Hands") (TT := T_MH) (N := 31) hx hb hts (wg_ft i_MH) hown hK hO k_h0 (kn := 225) (ci := 12) (fl := [(3, 172), (3, 181), (3, 226), (3, 291), (3, 299), (3, 308), (3, 317), (3, 326), (3, 334), (3, 342), (3, 350), (3, 359), (3, 368), (3, 369), (3, 370), (3, 371), (3, 372), (3, 373), (3, 374), (3, 375), (3, 376), (3, 377), (3, 378), (0, 0), (0, 0), (0, 0), (0, 0), (0, 0), (0, 0), (0, 0), (0, 0)]) rfl hP rfl 4 (by decide) (hts _ (wg_t kw_1436)) (fun _ h9 => h9) (cd := (3, 299)) rfl dMH_keys_200 (fun v68 hv68 => ?_)
              obtain ⟨r50, rfl, kr49⟩ := (show ∃ r : Nat, v68 = .ref r ∧ T r = some 299 from hv68)
              refine lv_iload hx hb dMH_keys_203 (lv_at hl 1 rfl) ?_
              refine nw_aald3 hx hb hK hO kr49 (k := 299) (b := 300) rfl hP (by omega) (by omega) dMH_keys_205 (fun r51 kr50 => ?_)
              have hn26 : nsp (300 + i22) = (0, 256, []) := rows_ok 300 8 (by decide) _ (by omega)
              refine lv_iload hx hb dMH_keys_206 (lv_at hl 0 rfl) ?_
              refine nw_iald hx hb hK hO kr50 (k := (300 + i22)) hn26 hP (by omega) (by omega) dMH_keys_208 ?_
              refine lv_iadd hx hb dMH_keys_209 ?_
              refine lv_ldc (v := 8380417) hx hb hown (hts _ (wg_t kw_1429)) dMH_keys_210 ?_
              refine mi_as (show (8380417 : Int32) = nI 8380417 by decide) ?_
              refine lv_irem hx hb dMH_keys_212 (nI_ne0 (by omega) (by omega)) ?_
              refine mi_eqv (fun z48 ez48 => ?_)
              replace hR := bnd_step hR ez48
              first | rw [bnd_step rfl ez48] at hE | replace hE := bndP_step hE ez48
              refine lv_istore (lv' := [(7, .int z48), (6, .int (nI i30)), (5, .int (nI i22)), (0, .ref h0), (3, .ref pk), (4, .ref sk)]) hx hb dMH_keys_213 hl (by decide) rfl (fun ls hl => ?_)
              refine lv_iload hx hb dMH_keys_215 (lv_at hl 0 rfl) ?_
              refine lv_sipush (v := nI 8192) hx hb dMH_keys_217 (by decide) ?_
              refine lv_irem hx hb dMH_keys_220 (nI_ne0 (by omega) (by omega)) ?_
              refine mi_eqv (fun z49 ez49 => ?_)
              replace hR := bnd_step hR ez49
              first | rw [bnd_step rfl ez49] at hE | replace hE := bndP_step hE ez49
              refine lv_istore (lv' := [(8, .int z49), (7, .int z48), (6, .int (nI i30)), (5, .int (nI i22)), (0, .ref h0), (3, .ref pk), (4, .ref sk)]) hx hb dMH_keys_221 hl (by decide) rfl (fun ls hl => ?_)
              refine lv_iload hx hb dMH_keys_223 (lv_at hl 0 rfl) ?_
              refine lv_sipush (v := nI 4096) hx hb dMH_keys_225 (by decide) ?_
              refine lv_icmp_le (tgt := 237) hx hb dMH_keys_228 (by decide) (fun h44 => ?_) (fun h44 => ?_)
              · replace hR := hR.trans (if_pos h44)
                first | rw [if_pos h44] at hE | rw [E_MH_keys_2_L0, if_pos h44] at hE | rw [E_MH_keys_2_L1, if_pos h44] at hE | rw [E_MH_keys_2_L2, if_pos h44] at hE | rw [E_MH_keys_2_L3, if_pos h44] at hE | rw [E_MH_keys_2_L4, if_pos h44] at hE | rw [E_MH_keys_2_L5, if_pos h44] at hE | rw [E_MH_keys_2_L6, if_pos h44] at hE | rw [E_MH_keys_2_L7, if_pos h44] at hE | rw [E_MH_keys_2_L8, if_pos h44] at hE | replace hE := iteP_pos h44 hE
                refine lv_aload_n hx hb dMH_keys_237 rfl (lv_at hl 4 rfl) ?_
                refine nw_get (C := "LatticeKeysModel$Hands") (TT := T_MH) (N := 31) hx hb hts (wg_ft i_MH) hown hK hO k_h0 (kn := 225) (ci := 12) (fl := [(3, 172), (3, 181), (3, 226), (3, 291), (3, 299), (3, 308), (3, 317), (3, 326), (3, 334), (3, 342), (3, 350), (3, 359), (3, 368), (3, 369), (3, 370), (3, 371), (3, 372), (3, 373), (3, 374), (3, 375), (3, 376), (3, 377), (3, 378), (0, 0), (0, 0), (0, 0), (0, 0), (0, 0), (0, 0), (0, 0), (0, 0)]) rfl hP rfl 5 (by decide) (hts _ (wg_t kw_1437)) (fun _ h9 => h9) (cd := (3, 308)) rfl dMH_keys_238 (fun v69 hv69 => ?_)
                obtain ⟨r52, rfl, kr51⟩ := (show ∃ r : Nat, v69 = .ref r ∧ T r = some 308 from hv69)
                refine lv_iload hx hb dMH_keys_241 (lv_at hl 3 rfl) ?_
                refine nw_aald3 hx hb hK hO kr51 (k := 308) (b := 309) rfl hP (by omega) (by omega) dMH_keys_243 (fun r53 kr52 => ?_)
                have hn27 : nsp (309 + i22) = (0, 256, []) := rows_ok 309 8 (by decide) _ (by omega)
                refine lv_iload hx hb dMH_keys_244 (lv_at hl 2 rfl) ?_
                refine lv_iload hx hb dMH_keys_246 (lv_at hl 0 rfl) ?_
                refine nw_iast hx hb hK hO hU kr52 (k := (309 + i22)) hn27 hP hD hS (by omega) (by omega) dMH_keys_248 (fun s54 pl H locs es24 hO hP hD hS => ?_)
                replace hR := bnd_step hR es24
                first | rw [bnd_step rfl es24] at hE | replace hE := bndP_step hE es24
                have hF := frm_sI hF es24 (by unfold M_MH_keys_2; omega)
                have hf359 : s54.1 225 23 = nI 2 := fc_ne hf351 es24 (by omega)
                have hf360 : s54.1 225 24 = nI 8 := fc_ne hf352 es24 (by omega)
                have hf361 : s54.1 225 25 = nI 7 := fc_ne hf353 es24 (by omega)
                have hf362 : s54.1 225 26 = nI 2 := fc_ne hf354 es24 (by omega)
                have hf363 : s54.1 225 27 = nI 524288 := fc_ne hf355 es24 (by omega)
                have hf364 : s54.1 225 28 = nI 261888 := fc_ne hf356 es24 (by omega)
                have hf365 : s54.1 225 29 = nI 120 := fc_ne hf357 es24 (by omega)
                have hf366 : s54.1 225 30 = nI 64 := fc_ne hf358 es24 (by omega)
                refine lv_aload_n hx hb dMH_keys_249 rfl (lv_at hl 4 rfl) ?_
                refine nw_get (C := "LatticeKeysModel$Hands") (TT := T_MH) (N := 31) hx hb hts (wg_ft i_MH) hown hK hO k_h0 (kn := 225) (ci := 12) (fl := [(3, 172), (3, 181), (3, 226), (3, 291), (3, 299), (3, 308), (3, 317), (3, 326), (3, 334), (3, 342), (3, 350), (3, 359), (3, 368), (3, 369), (3, 370), (3, 371), (3, 372), (3, 373), (3, 374), (3, 375), (3, 376), (3, 377), (3, 378), (0, 0), (0, 0), (0, 0), (0, 0), (0, 0), (0, 0), (0, 0), (0, 0)]) rfl hP rfl 6 (by decide) (hts _ (wg_t kw_1438)) (fun _ h9 => h9) (cd := (3, 317)) rfl dMH_keys_250 (fun v70 hv70 => ?_)
                obtain ⟨r54, rfl, kr53⟩ := (show ∃ r : Nat, v70 = .ref r ∧ T r = some 317 from hv70)
                refine lv_iload hx hb dMH_keys_253 (lv_at hl 3 rfl) ?_
                refine nw_aald3 hx hb hK hO kr53 (k := 317) (b := 318) rfl hP (by omega) (by omega) dMH_keys_255 (fun r55 kr54 => ?_)
                have hn28 : nsp (318 + i22) = (0, 256, []) := rows_ok 318 8 (by decide) _ (by omega)
                refine lv_iload hx hb dMH_keys_256 (lv_at hl 2 rfl) ?_
                refine lv_iload hx hb dMH_keys_258 (lv_at hl 1 rfl) ?_
                refine lv_iload hx hb dMH_keys_260 (lv_at hl 0 rfl) ?_
                refine lv_isub hx hb dMH_keys_262 ?_
                refine lv_sipush (v := nI 8192) hx hb dMH_keys_263 (by decide) ?_
                refine lv_idiv hx hb dMH_keys_266 (nI_ne0 (by omega) (by omega)) ?_
                refine nw_iast hx hb hK hO hU kr54 (k := (318 + i22)) hn28 hP hD hS (by omega) (by omega) dMH_keys_267 (fun s55 pl H locs es25 hO hP hD hS => ?_)
                replace hR := bnd_step hR es25
                first | rw [bnd_step rfl es25] at hE | replace hE := bndP_step hE es25
                have hF := frm_sI hF es25 (by unfold M_MH_keys_2; omega)
                have hf367 : s55.1 225 23 = nI 2 := fc_ne hf359 es25 (by omega)
                have hf368 : s55.1 225 24 = nI 8 := fc_ne hf360 es25 (by omega)
                have hf369 : s55.1 225 25 = nI 7 := fc_ne hf361 es25 (by omega)
                have hf370 : s55.1 225 26 = nI 2 := fc_ne hf362 es25 (by omega)
                have hf371 : s55.1 225 27 = nI 524288 := fc_ne hf363 es25 (by omega)
                have hf372 : s55.1 225 28 = nI 261888 := fc_ne hf364 es25 (by omega)
                have hf373 : s55.1 225 29 = nI 120 := fc_ne hf365 es25 (by omega)
                have hf374 : s55.1 225 30 = nI 64 := fc_ne hf366 es25 (by omega)
                refine mi_iinc (k := 2) (x := i30) (d := 1) (y := i30 + 1) (lv' := [(6, .int (nI (i30 + 1))), (8, .int z49), (7, .int z48), (5, .int (nI i22)), (0, .ref h0), (3, .ref pk), (4, .ref sk)]) hx hb dMH_keys_268 hl rfl (by decide) rfl (by decide) rfl (fun ls hl => ?_)
                refine lv_goto (tgt := 184) hx hb dMH_keys_271 (by decide) ?_
                exact ih30 (i30 + 1) s55 pl ls H locs (by omega) hF hf367 hf368 hf369 hf370 hf371 hf372 hf373 hf374 hE hR (lv_sub hl [0, 3, 4, 5, 6] rfl) hO hP hD hS
              · replace hR := hR.trans (if_neg h44)
                first | rw [if_neg h44] at hE | rw [E_MH_keys_2_L0, if_neg h44] at hE | rw [E_MH_keys_2_L1, if_neg h44] at hE | rw [E_MH_keys_2_L2, if_neg h44] at hE | rw [E_MH_keys_2_L3, if_neg h44] at hE | rw [E_MH_keys_2_L4, if_neg h44] at hE | rw [E_MH_keys_2_L5, if_neg h44] at hE | rw [E_MH_keys_2_L6, if_neg h44] at hE | rw [E_MH_keys_2_L7, if_neg h44] at hE | rw [E_MH_keys_2_L8, if_neg h44] at hE | replace hE := iteP_neg h44 hE
                obtain ⟨z50, ez50⟩ : ∃ z : Int32, z = z49 + Int32.ofInt (-8192) := ⟨_, rfl⟩
                replace hR := bnd_step hR ez50
                first | rw [bnd_step rfl ez50] at hE | replace hE := bndP_step hE ez50
                refine lv_iincW (k := 0) (v := z50) (lv' := [(8, .int z50), (7, .int z48), (6, .int (nI i30)), (5, .int (nI i22)), (0, .ref h0), (3, .ref pk), (4, .ref sk)]) hx hb dMH_keys_231 hl rfl ez50.symm (by decide) rfl (fun ls hl => ?_)
                refine lv_aload_n hx hb dMH_keys_237 rfl (lv_at hl 4 rfl) ?_
                refine nw_get (C := "LatticeKeysModel$Hands") (TT := T_MH) (N := 31) hx hb hts (wg_ft i_MH) hown hK hO k_h0 (kn := 225) (ci := 12) (fl := [(3, 172), (3, 181), (3, 226), (3, 291), (3, 299), (3, 308), (3, 317), (3, 326), (3, 334), (3, 342), (3, 350), (3, 359), (3, 368), (3, 369), (3, 370), (3, 371), (3, 372), (3, 373), (3, 374), (3, 375), (3, 376), (3, 377), (3, 378), (0, 0), (0, 0), (0, 0), (0, 0), (0, 0), (0, 0), (0, 0), (0, 0)]) rfl hP rfl 5 (by decide) (hts _ (wg_t kw_1437)) (fun _ h9 => h9) (cd := (3, 308)) rfl dMH_keys_238 (fun v71 hv71 => ?_)
                obtain ⟨r56, rfl, kr55⟩ := (show ∃ r : Nat, v71 = .ref r ∧ T r = some 308 from hv71)
                refine lv_iload hx hb dMH_keys_241 (lv_at hl 3 rfl) ?_
                refine nw_aald3 hx hb hK hO kr55 (k := 308) (b := 309) rfl hP (by omega) (by omega) dMH_keys_243 (fun r57 kr56 => ?_)
                have hn29 : nsp (309 + i22) = (0, 256, []) := rows_ok 309 8 (by decide) _ (by omega)
                refine lv_iload hx hb dMH_keys_244 (lv_at hl 2 rfl) ?_
                refine lv_iload hx hb dMH_keys_246 (lv_at hl 0 rfl) ?_
                refine nw_iast hx hb hK hO hU kr56 (k := (309 + i22)) hn29 hP hD hS (by omega) (by omega) dMH_keys_248 (fun s56 pl H locs es26 hO hP hD hS => ?_)
                replace hR := bnd_step hR es26
                first | rw [bnd_step rfl es26] at hE | replace hE := bndP_step hE es26
                have hF := frm_sI hF es26 (by unfold M_MH_keys_2; omega)
                have hf375 : s56.1 225 23 = nI 2 := fc_ne hf351 es26 (by omega)
                have hf376 : s56.1 225 24 = nI 8 := fc_ne hf352 es26 (by omega)
                have hf377 : s56.1 225 25 = nI 7 := fc_ne hf353 es26 (by omega)
                have hf378 : s56.1 225 26 = nI 2 := fc_ne hf354 es26 (by omega)
                have hf379 : s56.1 225 27 = nI 524288 := fc_ne hf355 es26 (by omega)
                have hf380 : s56.1 225 28 = nI 261888 := fc_ne hf356 es26 (by omega)
                have hf381 : s56.1 225 29 = nI 120 := fc_ne hf357 es26 (by omega)
                have hf382 : s56.1 225 30 = nI 64 := fc_ne hf358 es26 (by omega)
                refine lv_aload_n hx hb dMH_keys_249 rfl (lv_at hl 4 rfl) ?_
                refine nw_get (C := "LatticeKeysModel$Hands") (TT := T_MH) (N := 31) hx hb hts (wg_ft i_MH) hown hK hO k_h0 (kn := 225) (ci := 12) (fl := [(3, 172), (3, 181), (3, 226), (3, 291), (3, 299), (3, 308), (3, 317), (3, 326), (3, 334), (3, 342), (3, 350), (3, 359), (3, 368), (3, 369), (3, 370), (3, 371), (3, 372), (3, 373), (3, 374), (3, 375), (3, 376), (3, 377), (3, 378), (0, 0), (0, 0), (0, 0), (0, 0), (0, 0), (0, 0), (0, 0), (0, 0)]) rfl hP rfl 6 (by decide) (hts _ (wg_t kw_1438)) (fun _ h9 => h9) (cd := (3, 317)) rfl dMH_keys_250 (fun v72 hv72 => ?_)
                obtain ⟨r58, rfl, kr57⟩ := (show ∃ r : Nat, v72 = .ref r ∧ T r = some 317 from hv72)
                refine lv_iload hx hb dMH_keys_253 (lv_at hl 3 rfl) ?_
                refine nw_aald3 hx hb hK hO kr57 (k := 317) (b := 318) rfl hP (by omega) (by omega) dMH_keys_255 (fun r59 kr58 => ?_)
                have hn30 : nsp (318 + i22) = (0, 256, []) := rows_ok 318 8 (by decide) _ (by omega)
                refine lv_iload hx hb dMH_keys_256 (lv_at hl 2 rfl) ?_
                refine lv_iload hx hb dMH_keys_258 (lv_at hl 1 rfl) ?_
                refine lv_iload hx hb dMH_keys_260 (lv_at hl 0 rfl) ?_
                refine lv_isub hx hb dMH_keys_262 ?_
                refine lv_sipush (v := nI 8192) hx hb dMH_keys_263 (by decide) ?_
                refine lv_idiv hx hb dMH_keys_266 (nI_ne0 (by omega) (by omega)) ?_
                refine nw_iast hx hb hK hO hU kr58 (k := (318 + i22)) hn30 hP hD hS (by omega) (by omega) dMH_keys_267 (fun s57 pl H locs es27 hO hP hD hS => ?_)
                replace hR := bnd_step hR es27
                first | rw [bnd_step rfl es27] at hE | replace hE := bndP_step hE es27
                have hF := frm_sI hF es27 (by unfold M_MH_keys_2; omega)
                have hf383 : s57.1 225 23 = nI 2 := fc_ne hf375 es27 (by omega)
                have hf384 : s57.1 225 24 = nI 8 := fc_ne hf376 es27 (by omega)
                have hf385 : s57.1 225 25 = nI 7 := fc_ne hf377 es27 (by omega)
                have hf386 : s57.1 225 26 = nI 2 := fc_ne hf378 es27 (by omega)
                have hf387 : s57.1 225 27 = nI 524288 := fc_ne hf379 es27 (by omega)
                have hf388 : s57.1 225 28 = nI 261888 := fc_ne hf380 es27 (by omega)
                have hf389 : s57.1 225 29 = nI 120 := fc_ne hf381 es27 (by omega)
                have hf390 : s57.1 225 30 = nI 64 := fc_ne hf382 es27 (by omega)
                refine mi_iinc (k := 2) (x := i30) (d := 1) (y := i30 + 1) (lv' := [(6, .int (nI (i30 + 1))), (8, .int z50), (7, .int z48), (5, .int (nI i22)), (0, .ref h0), (3, .ref pk), (4, .ref sk)]) hx hb dMH_keys_268 hl rfl (by decide) rfl (by decide) rfl (fun ls hl => ?_)
                refine lv_goto (tgt := 184) hx hb dMH_keys_271 (by decide) ?_
                exact ih30 (i30 + 1) s57 pl ls H locs (by omega) hF hf383 hf384 hf385 hf386 hf387 hf388 hf389 hf390 hE hR (lv_sub hl [0, 3, 4, 5, 6] rfl) hO hP hD hS
          exact lp30 256 0 s52 pl ls _ _ (by omega) hF hf335 hf336 hf337 hf338 hf339 hf340 hf341 hf342 hE hR (lv_sub hl [0, 1, 2, 3, 4] rfl) hO hP hD hS
      exact lp22 8 0 s29 pl ls _ _ (by omega) hF hf77 hf78 hf79 hf80 hf81 hf82 hf83 hf84 hE hR (lv_sub hl [0, 1, 2, 3] rfl) hO hP hD hS
    | succ n21 ih21 =>
      intro i21 s29 pl ls H locs hm21 hF hf391 hf392 hf393 hf394 hf395 hf396 hf397 hf398 hE hR hl hO hP hD hS
      refine lv_iload hx hb dMH_keys_78 (lv_at hl 0 rfl) ?_
      refine lv_aload_n hx hb dMH_keys_80 rfl (lv_at hl 1 rfl) ?_
      refine nw_get (C := "LatticeKeysModel$Hands") (TT := T_MH) (N := 31) hx hb hts (wg_ft i_MH) hown hK hO k_h0 (kn := 225) (ci := 12) (fl := [(3, 172), (3, 181), (3, 226), (3, 291), (3, 299), (3, 308), (3, 317), (3, 326), (3, 334), (3, 342), (3, 350), (3, 359), (3, 368), (3, 369), (3, 370), (3, 371), (3, 372), (3, 373), (3, 374), (3, 375), (3, 376), (3, 377), (3, 378), (0, 0), (0, 0), (0, 0), (0, 0), (0, 0), (0, 0), (0, 0), (0, 0)]) rfl hP rfl 25 (by decide) (hts _ (wg_t kw_1457)) (fun _ h9 => h9) (cd := (0, 0)) rfl dMH_keys_81 (fun v73 hv73 => ?_)
      obtain rfl := (show v73 = .int (s29.1 225 25) from hv73)
      obtain ⟨z51, ez51, hz71, hz72⟩ := cl_of (b := 2147483648) hf393 (by omega) (by decide)
      replace hR := bnd_step hR ez51
      first | rw [bnd_step rfl ez51] at hE | replace hE := bndP_step hE ez51
      refine mi_as hz71 ?_
      subst hz72
      refine mi_ge (tgt := 135) hx hb dMH_keys_84 (by decide) (by omega) (by omega) (fun h45 => absurd h45 (by omega)) (fun h45 => ?_)
      refine lv_aload_n hx hb dMH_keys_87 rfl (lv_at hl 1 rfl) ?_
      refine lv_aload_n hx hb dMH_keys_88 rfl (lv_at hl 1 rfl) ?_
      refine nw_get (C := "LatticeKeysModel$Hands") (TT := T_MH) (N := 31) hx hb hts (wg_ft i_MH) hown hK hO k_h0 (kn := 225) (ci := 12) (fl := [(3, 172), (3, 181), (3, 226), (3, 291), (3, 299), (3, 308), (3, 317), (3, 326), (3, 334), (3, 342), (3, 350), (3, 359), (3, 368), (3, 369), (3, 370), (3, 371), (3, 372), (3, 373), (3, 374), (3, 375), (3, 376), (3, 377), (3, 378), (0, 0), (0, 0), (0, 0), (0, 0), (0, 0), (0, 0), (0, 0), (0, 0)]) rfl hP rfl 3 (by decide) (hts _ (wg_t kw_1435)) (fun _ h9 => h9) (cd := (3, 291)) rfl dMH_keys_89 (fun v74 hv74 => ?_)
      obtain ⟨r60, rfl, kr59⟩ := (show ∃ r : Nat, v74 = .ref r ∧ T r = some 291 from hv74)
      refine lv_iload hx hb dMH_keys_92 (lv_at hl 0 rfl) ?_
      refine nw_aald3 hx hb hK hO kr59 (k := 291) (b := 292) rfl hP (by omega) (by omega) dMH_keys_94 (fun r61 kr60 => ?_)
      have hn31 : nsp (292 + i21) = (0, 256, []) := rows_ok 292 7 (by decide) _ (by omega)
      refine lv_aload_n hx hb dMH_keys_95 rfl (lv_at hl 1 rfl) ?_
      refine nw_get (C := "LatticeKeysModel$Hands") (TT := T_MH) (N := 31) hx hb hts (wg_ft i_MH) hown hK hO k_h0 (kn := 225) (ci := 12) (fl := [(3, 172), (3, 181), (3, 226), (3, 291), (3, 299), (3, 308), (3, 317), (3, 326), (3, 334), (3, 342), (3, 350), (3, 359), (3, 368), (3, 369), (3, 370), (3, 371), (3, 372), (3, 373), (3, 374), (3, 375), (3, 376), (3, 377), (3, 378), (0, 0), (0, 0), (0, 0), (0, 0), (0, 0), (0, 0), (0, 0), (0, 0)]) rfl hP rfl 16 (by decide) (hts _ (wg_t kw_1448)) (fun _ h9 => h9) (cd := (3, 372)) rfl dMH_keys_96 (fun v75 hv75 => ?_)
      obtain ⟨r62, rfl, kr61⟩ := (show ∃ r : Nat, v75 = .ref r ∧ T r = some 372 from hv75)
      refine lv_bipush (v := nI 32) hx hb dMH_keys_99 (by decide) ?_
      refine lv_iload hx hb dMH_keys_101 (lv_at hl 0 rfl) ?_
      refine mp_v (cx := []) (wr := []) hP hD hS hA [] [] rfl rfl rfl (by decide) (va_runV (As := [.ref r61, .ref r62, .int (nI 32), .int (nI i21)]) (rest := []) F (N_MH_small_2 l g _ T s29 pl hO hU h0 r61 r62 (292 + i21) 372 128 32 (nI i21) k_h0 kr60 hn31 kr61 rfl hf391 hf392 hf393 hf394 hf395 hf396 hf397 hf398 (by omega) (by omega) hE.1) (cwV 4 hts (wg_app (wg_c kw_1729 (wg_c kw_1731 (wg_c ks_62 (wg_c kw_13 wg_n)))) kw_1732) rfl rfl rfl (by decide +kernel) ⟨by decide, by decide⟩) (pn_W "LatticeKeysModel$Hands" (en_ok g) (ci := 12) (kn := 225) (fl := [(3, 172), (3, 181), (3, 226), (3, 291), (3, 299), (3, 308), (3, 317), (3, 326), (3, 334), (3, 342), (3, 350), (3, 359), (3, 368), (3, 369), (3, 370), (3, 371), (3, 372), (3, 373), (3, 374), (3, 375), (3, 376), (3, 377), (3, 378), (0, 0), (0, 0), (0, 0), (0, 0), (0, 0), (0, 0), (0, 0), (0, 0)]) hK hO k_h0 rfl hP hD hS hA hEn [] rfl rfl rfl) rfl rfl hl.1 rfl (lv_room (Nat.le_of_ble_eq_true rfl)) dMH_keys_103 ⟨by omega, by omega⟩) (fun  u42 H locs hu42 hP hD hS => ?_)
      obtain ⟨s58, pl⟩ := u42
      obtain ⟨⟨eq42, hFc42, -⟩, hO⟩ := hu42
      have hO : okn g T s58 pl := hO
      have hP : va_P g.1 vcl ([] ++ pl) _ := hP
      have hD : va_D _ ([] ++ pl) := hD
      have hFc42 : frm (M_MH_small_2 (292 + i21)) s29 s58 := hFc42
      rw [and_iff_right hE.1] at hE
      replace hR := bnd_step hR eq42
      first | rw [bnd_step rfl eq42] at hE | replace hE := bndP_step hE eq42
      have hF := frm_tr hF hFc42 (fun k hk => by unfold M_MH_small_2 at hk; unfold M_MH_keys_2; omega)
      have hf399 : s58.1 225 23 = nI 2 := fc_F hf391 hFc42 (by unfold M_MH_small_2; omega)
      have hf400 : s58.1 225 24 = nI 8 := fc_F hf392 hFc42 (by unfold M_MH_small_2; omega)
      have hf401 : s58.1 225 25 = nI 7 := fc_F hf393 hFc42 (by unfold M_MH_small_2; omega)
      have hf402 : s58.1 225 26 = nI 2 := fc_F hf394 hFc42 (by unfold M_MH_small_2; omega)
      have hf403 : s58.1 225 27 = nI 524288 := fc_F hf395 hFc42 (by unfold M_MH_small_2; omega)
      have hf404 : s58.1 225 28 = nI 261888 := fc_F hf396 hFc42 (by unfold M_MH_small_2; omega)
      have hf405 : s58.1 225 29 = nI 120 := fc_F hf397 hFc42 (by unfold M_MH_small_2; omega)
      have hf406 : s58.1 225 30 = nI 64 := fc_F hf398 hFc42 (by unfold M_MH_small_2; omega)
      refine W.widen (k := 0) (n := 0) (by omega) (by omega) ?_
      refine lv_aload_n hx hb dMH_keys_106 rfl (lv_at hl 1 rfl) ?_
      refine nw_get (C := "LatticeKeysModel$Hands") (TT := T_MH) (N := 31) hx hb hts (wg_ft i_MH) hown hK hO k_h0 (kn := 225) (ci := 12) (fl := [(3, 172), (3, 181), (3, 226), (3, 291), (3, 299), (3, 308), (3, 317), (3, 326), (3, 334), (3, 342), (3, 350), (3, 359), (3, 368), (3, 369), (3, 370), (3, 371), (3, 372), (3, 373), (3, 374), (3, 375), (3, 376), (3, 377), (3, 378), (0, 0), (0, 0), (0, 0), (0, 0), (0, 0), (0, 0), (0, 0), (0, 0)]) rfl hP rfl 1 (by decide) (hts _ (wg_t kw_1433)) (fun _ h9 => h9) (cd := (3, 181)) rfl dMH_keys_107 (fun v76 hv76 => ?_)
      obtain ⟨r63, rfl, kr62⟩ := (show ∃ r : Nat, v76 = .ref r ∧ T r = some 181 from hv76)
      refine lv_aload_n hx hb dMH_keys_110 rfl (lv_at hl 1 rfl) ?_
      refine nw_get (C := "LatticeKeysModel$Hands") (TT := T_MH) (N := 31) hx hb hts (wg_ft i_MH) hown hK hO k_h0 (kn := 225) (ci := 12) (fl := [(3, 172), (3, 181), (3, 226), (3, 291), (3, 299), (3, 308), (3, 317), (3, 326), (3, 334), (3, 342), (3, 350), (3, 359), (3, 368), (3, 369), (3, 370), (3, 371), (3, 372), (3, 373), (3, 374), (3, 375), (3, 376), (3, 377), (3, 378), (0, 0), (0, 0), (0, 0), (0, 0), (0, 0), (0, 0), (0, 0), (0, 0)]) rfl hP rfl 3 (by decide) (hts _ (wg_t kw_1435)) (fun _ h9 => h9) (cd := (3, 291)) rfl dMH_keys_111 (fun v77 hv77 => ?_)
      obtain ⟨r64, rfl, kr63⟩ := (show ∃ r : Nat, v77 = .ref r ∧ T r = some 291 from hv77)
      refine lv_iload hx hb dMH_keys_114 (lv_at hl 0 rfl) ?_
      refine nw_aald3 hx hb hK hO kr63 (k := 291) (b := 292) rfl hP (by omega) (by omega) dMH_keys_116 (fun r65 kr64 => ?_)
      have hn32 : nsp (292 + i21) = (0, 256, []) := rows_ok 292 7 (by decide) _ (by omega)
      refine lv_aload_n hx hb dMH_keys_117 rfl (lv_at hl 1 rfl) ?_
      refine nw_get (C := "LatticeKeysModel$Hands") (TT := T_MH) (N := 31) hx hb hts (wg_ft i_MH) hown hK hO k_h0 (kn := 225) (ci := 12) (fl := [(3, 172), (3, 181), (3, 226), (3, 291), (3, 299), (3, 308), (3, 317), (3, 326), (3, 334), (3, 342), (3, 350), (3, 359), (3, 368), (3, 369), (3, 370), (3, 371), (3, 372), (3, 373), (3, 374), (3, 375), (3, 376), (3, 377), (3, 378), (0, 0), (0, 0), (0, 0), (0, 0), (0, 0), (0, 0), (0, 0), (0, 0)]) rfl hP rfl 9 (by decide) (hts _ (wg_t kw_1441)) (fun _ h9 => h9) (cd := (3, 342)) rfl dMH_keys_118 (fun v78 hv78 => ?_)
      obtain ⟨r66, rfl, kr65⟩ := (show ∃ r : Nat, v78 = .ref r ∧ T r = some 342 from hv78)
      refine lv_iload hx hb dMH_keys_121 (lv_at hl 0 rfl) ?_
      refine nw_aald3 hx hb hK hO kr65 (k := 342) (b := 343) rfl hP (by omega) (by omega) dMH_keys_123 (fun r67 kr66 => ?_)
      have hn33 : nsp (343 + i21) = (0, 256, []) := rows_ok 343 7 (by decide) _ (by omega)
      refine lv_iconst (v := nI 1) hx hb dMH_keys_124 (by decide) ?_
      refine lv_iconst (v := nI 0) hx hb dMH_keys_125 (by decide) ?_
      refine mp_v (cx := []) (wr := []) hP hD hS hA [] [] rfl rfl rfl (by decide) (va_runV (As := [.ref r65, .ref r67, .int (nI 1), .int (nI 0)]) (rest := []) F (N_MR_forth_8_0 l g _ T s58 pl hO hU r63 r65 r67 (292 + i21) (343 + i21) kr62 kr64 hn32 kr66 hn33) (cwV 4 hts (wg_app (wg_c kw_1733 (wg_c kw_1673 (wg_c kw_1674 (wg_c kw_12 wg_n)))) kw_1675) rfl rfl rfl (by decide +kernel) ⟨by decide, by decide⟩) (pn_W "LatticeKeysModel$Ring" (en_ok g) (ci := 10) (kn := 181) (fl := [(1, 8380417), (1, 256), (3, 182), (3, 183), (4, 8347681)]) hK hO kr62 rfl hP hD hS hA hEn [] rfl rfl rfl) rfl rfl hl.1 rfl (lv_room (Nat.le_of_ble_eq_true rfl)) dMH_keys_126 ⟨by omega, by omega⟩) (fun  u43 H locs hu43 hP hD hS => ?_)
      obtain ⟨s59, pl⟩ := u43
      obtain ⟨⟨eq43, hFc43, -⟩, hO⟩ := hu43
      have hO : okn g T s59 pl := hO
      have hP : va_P g.1 vcl ([] ++ pl) _ := hP
      have hD : va_D _ ([] ++ pl) := hD
      have hFc43 : frm (M_MR_forth_8_0 (343 + i21)) s58 s59 := hFc43
      replace hR := bnd_step hR eq43
      first | rw [bnd_step rfl eq43] at hE | replace hE := bndP_step hE eq43
      have hF := frm_tr hF hFc43 (fun k hk => by unfold M_MR_forth_8_0 at hk; unfold M_MH_keys_2; omega)
      have hf407 : s59.1 225 23 = nI 2 := fc_F hf399 hFc43 (by unfold M_MR_forth_8_0; omega)
      have hf408 : s59.1 225 24 = nI 8 := fc_F hf400 hFc43 (by unfold M_MR_forth_8_0; omega)
      have hf409 : s59.1 225 25 = nI 7 := fc_F hf401 hFc43 (by unfold M_MR_forth_8_0; omega)
      have hf410 : s59.1 225 26 = nI 2 := fc_F hf402 hFc43 (by unfold M_MR_forth_8_0; omega)
      have hf411 : s59.1 225 27 = nI 524288 := fc_F hf403 hFc43 (by unfold M_MR_forth_8_0; omega)
      have hf412 : s59.1 225 28 = nI 261888 := fc_F hf404 hFc43 (by unfold M_MR_forth_8_0; omega)
      have hf413 : s59.1 225 29 = nI 120 := fc_F hf405 hFc43 (by unfold M_MR_forth_8_0; omega)
      have hf414 : s59.1 225 30 = nI 64 := fc_F hf406 hFc43 (by unfold M_MR_forth_8_0; omega)
      refine W.widen (k := 0) (n := 0) (by omega) (by omega) ?_
      refine mi_iinc (k := 0) (x := i21) (d := 1) (y := i21 + 1) (lv' := [(5, .int (nI (i21 + 1))), (0, .ref h0), (3, .ref pk), (4, .ref sk)]) hx hb dMH_keys_129 hl rfl (by decide) rfl (by decide) rfl (fun ls hl => ?_)
      refine lv_goto (tgt := 78) hx hb dMH_keys_132 (by decide) ?_
      exact ih21 (i21 + 1) s59 pl ls H locs (by omega) hF hf407 hf408 hf409 hf410 hf411 hf412 hf413 hf414 hE hR (lv_sub hl [0, 1, 2, 3] rfl) hO hP hD hS
  exact lp21 7 0 s28 pl ls _ _ (by omega) hF hf69 hf70 hf71 hf72 hf73 hf74 hf75 hf76 hE hR (lv_sub hl [0, 1, 4, 5] rfl) hO hP hD hS
