set_option linter.all false
abbrev c_K_keys : ByteArray := prog_1_method_6_code
abbrev y_K_keys : MethodName := ⟨"LatticeKeys", "keys", "(I)I"⟩
abbrev w_K_keys : List Cond := Cond.code y_K_keys c_K_keys 4 (some .int) :: WG
theorem dK_keys_0 : decode c_K_keys 0 = .ok (.iload_n 1, 1) := by decide +kernel
theorem dK_keys_1 : decode c_K_keys 1 = .ok (.invokestatic 95, 3) := by decide +kernel
theorem dK_keys_4 : decode c_K_keys 4 = .ok (.ifCond .eq 14, 3) := by decide +kernel
theorem dK_keys_7 : decode c_K_keys 7 = .ok (.aload_n 0, 1) := by decide +kernel
theorem dK_keys_8 : decode c_K_keys 8 = .ok (.getfield 13, 3) := by decide +kernel
theorem dK_keys_11 : decode c_K_keys 11 = .ok (.iload_n 1, 1) := by decide +kernel
theorem dK_keys_12 : decode c_K_keys 12 = .ok (.invokestatic 99, 3) := by decide +kernel
theorem dK_keys_15 : decode c_K_keys 15 = .ok (.if_icmp .eq 13, 3) := by decide +kernel
theorem dK_keys_18 : decode c_K_keys 18 = .ok (.new 79, 3) := by decide +kernel
theorem dK_keys_21 : decode c_K_keys 21 = .ok (.dup, 1) := by decide +kernel
theorem dK_keys_22 : decode c_K_keys 22 = .ok (.ldc 103, 2) := by decide +kernel
theorem dK_keys_24 : decode c_K_keys 24 = .ok (.invokespecial 83, 3) := by decide +kernel
theorem dK_keys_27 : decode c_K_keys 27 = .ok (.athrow, 1) := by decide +kernel
theorem dK_keys_28 : decode c_K_keys 28 = .ok (.aload_n 0, 1) := by decide +kernel
theorem dK_keys_29 : decode c_K_keys 29 = .ok (.getfield 29, 3) := by decide +kernel
theorem dK_keys_32 : decode c_K_keys 32 = .ok (.bipush 8, 2) := by decide +kernel
theorem dK_keys_34 : decode c_K_keys 34 = .ok (.if_icmp .lt 13, 3) := by decide +kernel
theorem dK_keys_37 : decode c_K_keys 37 = .ok (.new 69, 3) := by decide +kernel
theorem dK_keys_40 : decode c_K_keys 40 = .ok (.dup, 1) := by decide +kernel
theorem dK_keys_41 : decode c_K_keys 41 = .ok (.ldc 105, 2) := by decide +kernel
theorem dK_keys_43 : decode c_K_keys 43 = .ok (.invokespecial 73, 3) := by decide +kernel
theorem dK_keys_46 : decode c_K_keys 46 = .ok (.athrow, 1) := by decide +kernel
theorem dK_keys_47 : decode c_K_keys 47 = .ok (.aload_n 0, 1) := by decide +kernel
theorem dK_keys_48 : decode c_K_keys 48 = .ok (.iload_n 1, 1) := by decide +kernel
theorem dK_keys_49 : decode c_K_keys 49 = .ok (.invokevirtual 107, 3) := by decide +kernel
theorem dK_keys_52 : decode c_K_keys 52 = .ok (.newarray .byte, 2) := by decide +kernel
theorem dK_keys_54 : decode c_K_keys 54 = .ok (.astore_n 2, 1) := by decide +kernel
theorem dK_keys_55 : decode c_K_keys 55 = .ok (.aload_n 0, 1) := by decide +kernel
theorem dK_keys_56 : decode c_K_keys 56 = .ok (.iload_n 1, 1) := by decide +kernel
theorem dK_keys_57 : decode c_K_keys 57 = .ok (.invokevirtual 110, 3) := by decide +kernel
theorem dK_keys_60 : decode c_K_keys 60 = .ok (.newarray .byte, 2) := by decide +kernel
theorem dK_keys_62 : decode c_K_keys 62 = .ok (.astore_n 3, 1) := by decide +kernel
theorem dK_keys_63 : decode c_K_keys 63 = .ok (.iload_n 1, 1) := by decide +kernel
theorem dK_keys_64 : decode c_K_keys 64 = .ok (.iconst 3, 1) := by decide +kernel
theorem dK_keys_65 : decode c_K_keys 65 = .ok (.if_icmp .ge 25, 3) := by decide +kernel
theorem dK_keys_68 : decode c_K_keys 68 = .ok (.aload_n 0, 1) := by decide +kernel
theorem dK_keys_69 : decode c_K_keys 69 = .ok (.getfield 54, 3) := by decide +kernel
theorem dK_keys_72 : decode c_K_keys 72 = .ok (.aload_n 0, 1) := by decide +kernel
theorem dK_keys_73 : decode c_K_keys 73 = .ok (.getfield 34, 3) := by decide +kernel
theorem dK_keys_76 : decode c_K_keys 76 = .ok (.iload_n 1, 1) := by decide +kernel
theorem dK_keys_77 : decode c_K_keys 77 = .ok (.aaload, 1) := by decide +kernel
theorem dK_keys_78 : decode c_K_keys 78 = .ok (.aload_n 0, 1) := by decide +kernel
theorem dK_keys_79 : decode c_K_keys 79 = .ok (.getfield 9, 3) := by decide +kernel
theorem dK_keys_82 : decode c_K_keys 82 = .ok (.aload_n 2, 1) := by decide +kernel
theorem dK_keys_83 : decode c_K_keys 83 = .ok (.aload_n 3, 1) := by decide +kernel
theorem dK_keys_84 : decode c_K_keys 84 = .ok (.invokevirtual 113, 3) := by decide +kernel
theorem dK_keys_87 : decode c_K_keys 87 = .ok (.goto 24, 3) := by decide +kernel
theorem dK_keys_90 : decode c_K_keys 90 = .ok (.aload_n 0, 1) := by decide +kernel
theorem dK_keys_91 : decode c_K_keys 91 = .ok (.getfield 61, 3) := by decide +kernel
theorem dK_keys_94 : decode c_K_keys 94 = .ok (.aload_n 0, 1) := by decide +kernel
theorem dK_keys_95 : decode c_K_keys 95 = .ok (.getfield 40, 3) := by decide +kernel
theorem dK_keys_98 : decode c_K_keys 98 = .ok (.iload_n 1, 1) := by decide +kernel
theorem dK_keys_99 : decode c_K_keys 99 = .ok (.iconst 3, 1) := by decide +kernel
theorem dK_keys_100 : decode c_K_keys 100 = .ok (.isub, 1) := by decide +kernel
theorem dK_keys_101 : decode c_K_keys 101 = .ok (.aaload, 1) := by decide +kernel
theorem dK_keys_102 : decode c_K_keys 102 = .ok (.aload_n 0, 1) := by decide +kernel
theorem dK_keys_103 : decode c_K_keys 103 = .ok (.getfield 9, 3) := by decide +kernel
theorem dK_keys_106 : decode c_K_keys 106 = .ok (.aload_n 2, 1) := by decide +kernel
theorem dK_keys_107 : decode c_K_keys 107 = .ok (.aload_n 3, 1) := by decide +kernel
theorem dK_keys_108 : decode c_K_keys 108 = .ok (.invokevirtual 117, 3) := by decide +kernel
theorem dK_keys_111 : decode c_K_keys 111 = .ok (.aload_n 0, 1) := by decide +kernel
theorem dK_keys_112 : decode c_K_keys 112 = .ok (.iconst 0, 1) := by decide +kernel
theorem dK_keys_113 : decode c_K_keys 113 = .ok (.putfield 13, 3) := by decide +kernel
theorem dK_keys_116 : decode c_K_keys 116 = .ok (.aload_n 0, 1) := by decide +kernel
theorem dK_keys_117 : decode c_K_keys 117 = .ok (.new 23, 3) := by decide +kernel
theorem dK_keys_120 : decode c_K_keys 120 = .ok (.dup, 1) := by decide +kernel
theorem dK_keys_121 : decode c_K_keys 121 = .ok (.iload_n 1, 1) := by decide +kernel
theorem dK_keys_122 : decode c_K_keys 122 = .ok (.aload_n 2, 1) := by decide +kernel
theorem dK_keys_123 : decode c_K_keys 123 = .ok (.aload_n 3, 1) := by decide +kernel
theorem dK_keys_124 : decode c_K_keys 124 = .ok (.invokespecial 120, 3) := by decide +kernel
theorem dK_keys_127 : decode c_K_keys 127 = .ok (.invokevirtual 123, 3) := by decide +kernel
theorem dK_keys_130 : decode c_K_keys 130 = .ok (.ireturn, 1) := by decide +kernel
def M_K_keys (k : Nat) : Prop := (106 ≤ k ∧ k < 114) ∨ (132 ≤ k ∧ k < 140) ∨ (26 ≤ k ∧ k < 30) ∨ (379 ≤ k ∧ k < 667) ∨ (41 ≤ k ∧ k < 97) ∨ (98 ≤ k ∧ k < 105) ∨ k = 0 ∨ k = 14 ∨ k = 141 ∨ k = 142 ∨ k = 143 ∨ k = 16 ∨ k = 18 ∨ k = 3 ∨ k = 30 ∨ k = 31 ∨ k = 33 ∨ k = 34 ∨ k = 35 ∨ (0 : Nat) = 1
noncomputable def F_K_keys (v : Int32) (pn : Nat) (s : Sto) : Int32 × Int32 × Sto := bnd (F_K_isSet v s) fun q21 => if (q21.1) = 0 then (nI 1, nI 0, q21.2) else bnd (v.toNatClampNeg) fun z21 => if z21 = 0 then bnd ((q21.2.1 0 1).toNatClampNeg) fun z22 => bnd (F_K_seedLength_0  q21.2) fun q22 => bnd (q22.1.toNatClampNeg) fun z23 => if z22 = 64 then bnd ((q22.2.1 0 5).toNatClampNeg) fun z24 => if z24 < 8 then bnd (F_K_publicLength_0  q22.2) fun q23 => bnd (q23.1.toNatClampNeg) fun z25 => bnd (sZ q23.2 (379 + 36 * pn + 1)) fun s21 => bnd (F_K_secretLength_0  s21) fun q25 => bnd (q25.1.toNatClampNeg) fun z26 => bnd (sZ q25.2 (379 + 36 * pn + 2)) fun s22 => bnd (F_KM_makePair_0 1 16384 (379 + 36 * pn + 1) (379 + 36 * pn + 2) s22) fun s23 => bnd (sI s23 0 1 (nI 0)) fun s24 => bnd (F_K_keep 0 s24) fun q28 => (nI 0, q28.1, q28.2) else (nI 2, nI 0, q22.2) else (nI 1, nI 0, q22.2) else if z21 = 1 then bnd ((q21.2.1 0 1).toNatClampNeg) fun z27 => bnd (F_K_seedLength_1  q21.2) fun q29 => bnd (q29.1.toNatClampNeg) fun z28 => if z27 = 64 then bnd ((q29.2.1 0 5).toNatClampNeg) fun z29 => if z29 < 8 then bnd (F_K_publicLength_1  q29.2) fun q30 => bnd (q30.1.toNatClampNeg) fun z30 => bnd (sZ q30.2 (379 + 36 * pn + 4)) fun s25 => bnd (F_K_secretLength_1  s25) fun q32 => bnd (q32.1.toNatClampNeg) fun z31 => bnd (sZ q32.2 (379 + 36 * pn + 5)) fun s26 => bnd (F_KM_makePair_1 1 16384 (379 + 36 * pn + 4) (379 + 36 * pn + 5) s26) fun s27 => bnd (sI s27 0 1 (nI 0)) fun s28 => bnd (F_K_keep 1 s28) fun q35 => (nI 0, q35.1, q35.2) else (nI 2, nI 0, q29.2) else (nI 1, nI 0, q29.2) else if z21 = 2 then bnd ((q21.2.1 0 1).toNatClampNeg) fun z32 => bnd (F_K_seedLength_2  q21.2) fun q36 => bnd (q36.1.toNatClampNeg) fun z33 => if z32 = 64 then bnd ((q36.2.1 0 5).toNatClampNeg) fun z34 => if z34 < 8 then bnd (F_K_publicLength_2  q36.2) fun q37 => bnd (q37.1.toNatClampNeg) fun z35 => bnd (sZ q37.2 (379 + 36 * pn + 7)) fun s29 => bnd (F_K_secretLength_2  s29) fun q39 => bnd (q39.1.toNatClampNeg) fun z36 => bnd (sZ q39.2 (379 + 36 * pn + 8)) fun s30 => bnd (F_KM_makePair_2 1 16384 (379 + 36 * pn + 7) (379 + 36 * pn + 8) s30) fun s31 => bnd (sI s31 0 1 (nI 0)) fun s32 => bnd (F_K_keep 2 s32) fun q42 => (nI 0, q42.1, q42.2) else (nI 2, nI 0, q36.2) else (nI 1, nI 0, q36.2) else if z21 = 3 then bnd ((q21.2.1 0 1).toNatClampNeg) fun z37 => bnd (F_K_seedLength_3  q21.2) fun q43 => bnd (q43.1.toNatClampNeg) fun z38 => if z37 = 32 then bnd ((q43.2.1 0 5).toNatClampNeg) fun z39 => if z39 < 8 then bnd (F_K_publicLength_3  q43.2) fun q44 => bnd (q44.1.toNatClampNeg) fun z40 => bnd (sZ q44.2 (379 + 36 * pn + 10)) fun s33 => bnd (F_K_secretLength_3  s33) fun q46 => bnd (q46.1.toNatClampNeg) fun z41 => bnd (sZ q46.2 (379 + 36 * pn + 11)) fun s34 => bnd (F_DA_makePair_0 1 16384 (379 + 36 * pn + 10) (379 + 36 * pn + 11) s34) fun s35 => bnd (sI s35 0 1 (nI 0)) fun s36 => bnd (F_K_keep 3 s36) fun q49 => (nI 0, q49.1, q49.2) else (nI 2, nI 0, q43.2) else (nI 1, nI 0, q43.2) else if z21 = 4 then bnd ((q21.2.1 0 1).toNatClampNeg) fun z42 => bnd (F_K_seedLength_4  q21.2) fun q50 => bnd (q50.1.toNatClampNeg) fun z43 => if z42 = 32 then bnd ((q50.2.1 0 5).toNatClampNeg) fun z44 => if z44 < 8 then bnd (F_K_publicLength_4  q50.2) fun q51 => bnd (q51.1.toNatClampNeg) fun z45 => bnd (sZ q51.2 (379 + 36 * pn + 13)) fun s37 => bnd (F_K_secretLength_4  s37) fun q53 => bnd (q53.1.toNatClampNeg) fun z46 => bnd (sZ q53.2 (379 + 36 * pn + 14)) fun s38 => bnd (F_DA_makePair_1 1 16384 (379 + 36 * pn + 13) (379 + 36 * pn + 14) s38) fun s39 => bnd (sI s39 0 1 (nI 0)) fun s40 => bnd (F_K_keep 4 s40) fun q56 => (nI 0, q56.1, q56.2) else (nI 2, nI 0, q50.2) else (nI 1, nI 0, q50.2) else bnd ((q21.2.1 0 1).toNatClampNeg) fun z47 => bnd (F_K_seedLength_5  q21.2) fun q57 => bnd (q57.1.toNatClampNeg) fun z48 => if z47 = 32 then bnd ((q57.2.1 0 5).toNatClampNeg) fun z49 => if z49 < 8 then bnd (F_K_publicLength_5  q57.2) fun q58 => bnd (q58.1.toNatClampNeg) fun z50 => bnd (sZ q58.2 (379 + 36 * pn + 16)) fun s41 => bnd (F_K_secretLength_5  s41) fun q60 => bnd (q60.1.toNatClampNeg) fun z51 => bnd (sZ q60.2 (379 + 36 * pn + 17)) fun s42 => bnd (F_DA_makePair_2 1 16384 (379 + 36 * pn + 16) (379 + 36 * pn + 17) s42) fun s43 => bnd (sI s43 0 1 (nI 0)) fun s44 => bnd (F_K_keep 5 s44) fun q63 => (nI 0, q63.1, q63.2) else (nI 2, nI 0, q57.2) else (nI 1, nI 0, q57.2)
set_option maxHeartbeats 2000000 in
set_option maxRecDepth 100000 in
theorem N_K_keys (l : Launch) (htr : l.stackTraces = false) (g : Gd) (sz : Nat) (T : TyN) (s : Sto) (pl : va_W) (hO : okn g T s pl) (hU : inj T) (h0 : Nat) (v : Int32) (tl : Nat) (al : Nat) (pn : Nat) (k_h0 : T h0 = some 0) (e_tl : s.1 0 1 = nI tl) (e_al : s.1 0 3 = nI al) (e_pn : s.1 0 5 = nI pn) (h1 : tl ≤ 16384) (h2 : al ≤ 8192) (h3 : pn ≤ 8) (hlow : lowT T (379 + 36 * pn))  : etMet l y_K_keys w_K_keys ({ frames := 7, cells := 3, slots := 7491, locals := 202 } : Room) (va_Pc [.ref h0, .int v] (pr (ex g) g.1 vcl sz ([] ++ pl))) (xls ["java/lang/IllegalArgumentException", "java/lang/IllegalStateException"] (F_K_keys v pn s).1) (va_Qi (fun (r : Int32) (u : ((Int32 × Int32 × Sto) × TyN) × va_W) => (u.1.1 = F_K_keys v pn s ∧ r = u.1.1.2.1 ∧ u.1.1.1 = nI 0 ∧ frm (M_K_keys) s u.1.1.2.2 ∧ (∃ x : Nat, u.1.1.2.2.1 0 1 = nI x ∧ x ≤ 16384) ∧ (∃ x : Nat, u.1.1.2.2.1 0 3 = nI x ∧ x ≤ 8192) ∧ (∃ x : Nat, u.1.1.2.2.1 0 5 = nI x ∧ x ≤ 8) ∧ True ∧ extN T u.1.2 ∧ inj u.1.2 ∧ (∃ x : Nat, u.1.1.2.2.1 0 5 = nI x ∧ x ≤ 8 ∧ lowT u.1.2 (379 + 36 * x))) ∧ okn g u.1.2 u.1.1.2.2 u.2) (po g.1 vcl (va_A ([] ++ pl) sz) (fun (u : ((Int32 × Int32 × Sto) × TyN) × va_W) => [] ++ u.2)) (va_A ([] ++ pl) sz)) (xtP (fun (u : ((Int32 × Int32 × Sto) × TyN) × va_W) => (u.1.1 = F_K_keys v pn s ∧ frm (M_K_keys) s u.1.1.2.2 ∧ (∃ x : Nat, u.1.1.2.2.1 0 1 = nI x ∧ x ≤ 16384) ∧ (∃ x : Nat, u.1.1.2.2.1 0 3 = nI x ∧ x ≤ 8192) ∧ (∃ x : Nat, u.1.1.2.2.1 0 5 = nI x ∧ x ≤ 8) ∧ True ∧ extN T u.1.2 ∧ inj u.1.2 ∧ (∃ x : Nat, u.1.1.2.2.1 0 5 = nI x ∧ x ≤ 8 ∧ lowT u.1.2 (379 + 36 * x))) ∧ okn g u.1.2 u.1.1.2.2 u.2) (po g.1 vcl (va_A ([] ++ pl) sz) (fun (u : ((Int32 × Int32 × Sto) × TyN) × va_W) => [] ++ u.2)) (va_A ([] ++ pl) sz)) 3 7491 (va_A ([] ++ pl) sz) := by
  refine et_entry (cc := c_K_keys) (maxL := 4) (ret := (some .int)) (by decide) rfl (Nat.le_of_ble_eq_true rfl) ?_
  intro p e s0 m args below meth c ls F hr hlk htab hsz hP hD hX hA hl
  obtain ⟨hx, hb, hml, hown, hts⟩ := id F
  have hE := hX.1
  have hK := hE.1
  generalize va_A ([] ++ pl) sz = A at hD hX hE hA ⊢
  have hS : va_S A s0.heap s0.heap [] := va_S.rf
  have hl : lv_has ls 4 [(0, .ref h0), (1, .int v)] := hl
  have hR : F_K_keys v pn s = F_K_keys v pn s := rfl
  have hF : frm (M_K_keys) s s := frm_rf
  have hXT : extN T T := extN_rf
  refine lv_iload_n hx hb dK_keys_0 rfl (lv_at hl 1 rfl) ?_
  refine mp_i (cx := []) (wr := []) hP hD hS hA [] [] rfl rfl rfl (by decide) (va_runS (As := [.int v]) (rest := []) F (N_K_isSet l g _ T s pl hO hU v) (va_cwS 1 hts (wg_app (wg_c kw_558 (wg_c kw_559 (wg_c kw_1 wg_n))) kw_560) rfl rfl rfl (by decide +kernel) ⟨by decide, by decide⟩) (pp_S (en_ok g) hP hD hS hA hE [] rfl rfl) rfl rfl hl.1 rfl (lv_room (Nat.le_of_ble_eq_true rfl)) dK_keys_1 ⟨Nat.le_of_ble_eq_true rfl, Nat.le_of_ble_eq_true rfl⟩) (fun r21 u21 H locs hu21 hP hD hS => ?_)
  obtain ⟨q21, pl⟩ := u21
  obtain ⟨⟨eq21, rfl, hFc21, hxp21, -⟩, hO⟩ := hu21
  have hO : okn g T q21.2 pl := hO
  have hP : va_P g.1 vcl ([] ++ pl) _ := hP
  have hD : va_D _ ([] ++ pl) := hD
  have hFc21 : frm (M_K_isSet) s q21.2 := hFc21
  replace hR := bnd_step hR eq21
  have hF := frm_tr hF hFc21 (fun k hk => by unfold M_K_isSet at hk; unfold M_K_keys; omega)
  have hf21 : q21.2.1 0 1 = nI tl := fc_F e_tl hFc21 (by unfold M_K_isSet; omega)
  have hf22 : q21.2.1 0 3 = nI al := fc_F e_al hFc21 (by unfold M_K_isSet; omega)
  have hf23 : q21.2.1 0 5 = nI pn := fc_F e_pn hFc21 (by unfold M_K_isSet; omega)
  refine W.widen (k := 0) (n := 0) (by omega) (by omega) ?_
  refine lv_if_eq (tgt := 18) hx hb dK_keys_4 (by decide) (fun h21 => ?_) (fun h21 => ?_)
  · replace hR := hR.trans (if_pos h21)
    exact et_throw (own := "LatticeKeys") (cls := "java/lang/IllegalArgumentException") (text := "no such set, or a seed of another length") (names := ["java/lang/RuntimeException", "java/lang/Exception"]) (ik := 79) (is := 103) (ic := 83) hx hb htr ctr_IAE_0 ctr_IAE_1 ctr_IAE_2 ctr_IAE_5 hown (by decide) (by decide) (hts _ (wg_t kw_501)) (hts _ (wg_t kw_18)) (hX.2.2.2.2.2.1 3 ("LatticeKeys", 103, "no such set, or a seed of another length") rfl) (hat_IAE hts hX.2) hS.1 (hl.1.trans hml.symm) dK_keys_18 dK_keys_21 dK_keys_22 dK_keys_24 dK_keys_27 htab (Nat.le_of_ble_eq_true rfl) (Nat.le_of_ble_eq_true rfl) (Nat.le_of_ble_eq_true rfl) (Nat.le_of_ble_eq_true rfl) hlk (Nat.le_of_ble_eq_true rfl) (Nat.le_of_ble_eq_true rfl) (xls_at 0 (congrArg Prod.fst hR) (by decide) rfl) hS.2.2 (thr_st hX.2) (fun t hz9 hk9 => ⟨⟨(((nI 1, nI 0, q21.2), T), pl), ⟨⟨hR.symm, hF, ⟨tl, hf21, by omega⟩, ⟨al, hf22, by omega⟩, ⟨pn, hf23, by omega⟩, trivial, hXT, hU, ⟨pn, hf23, by omega, (lowT_up hlow (by omega))⟩⟩, hO⟩, lc_P hP hk9, hD⟩, (lc_S hS hz9 hk9).F rfl⟩)
  · replace hR := hR.trans (if_neg h21)
    obtain ⟨z21, hz21, hv21⟩ := (hxp21.resolve_left (fun h9 => h21 (h9.trans (by decide)))).2
    have ez21 : z21 = v.toNatClampNeg := by rw [hv21]; exact (nI_clamp (by omega)).symm
    replace hR := bnd_step hR ez21
    rw [hv21] at hl
    by_cases hs21 : z21 = 0
    · replace hR := hR.trans (if_pos hs21)
      subst hs21
      refine lv_aload_n hx hb dK_keys_7 rfl (lv_at hl 0 rfl) ?_
      refine nw_get (C := "LatticeKeys") (TT := T_K) (N := 11) hx hb hts (wg_ft i_K) hown hK hO k_h0 (kn := 0) (ci := 0) (fl := [(3, 1), (0, 0), (3, 2), (0, 0), (3, 3), (0, 0), (3, 4), (3, 8), (3, 12), (3, 24), (3, 39)]) rfl hP rfl 1 (by decide) (hts _ (wg_t kw_375)) (fun _ h9 => h9) (cd := (0, 0)) rfl dK_keys_8 (fun v21 hv22 => ?_)
      obtain rfl := (show v21 = .int (q21.2.1 0 1) from hv22)
      obtain ⟨z22, ez22, hz22, hz23⟩ := cl_of (b := 2147483648) hf21 (by omega) (by decide)
      replace hR := bnd_step hR ez22
      refine mi_as hz22 ?_
      refine lv_iload_n hx hb dK_keys_11 rfl (lv_at hl 1 rfl) ?_
      refine mp_i (cx := []) (wr := []) hP hD hS hA [] [] rfl rfl rfl (by decide) (va_runS (As := [.int (nI 0)]) (rest := [.int (nI z22)]) F (N_K_seedLength_0 l g _ T q21.2 pl hO hU ) (va_cwS 1 hts (wg_app (wg_c kw_561 (wg_c kw_562 (wg_c kw_1 wg_n))) kw_563) rfl rfl rfl (by decide +kernel) ⟨by decide, by decide⟩) (pp_S (en_ok g) hP hD hS hA hE [] rfl rfl) rfl rfl hl.1 rfl (lv_room (Nat.le_of_ble_eq_true rfl)) dK_keys_12 ⟨Nat.le_of_ble_eq_true rfl, Nat.le_of_ble_eq_true rfl⟩) (fun r22 u22 H locs hu22 hP hD hS => ?_)
      obtain ⟨q22, pl⟩ := u22
      obtain ⟨⟨eq22, rfl, hFc22, ⟨x22, hx_22, hb_22⟩, hxp22, -⟩, hO⟩ := hu22
      have hO : okn g T q22.2 pl := hO
      have hP : va_P g.1 vcl ([] ++ pl) _ := hP
      have hD : va_D _ ([] ++ pl) := hD
      have hFc22 : frm (M_K_seedLength_0) q21.2 q22.2 := hFc22
      have hb_22 : x22 < 65 := hb_22
      replace hR := bnd_step hR eq22
      have hF := frm_tr hF hFc22 (fun k hk => by unfold M_K_seedLength_0 at hk; unfold M_K_keys; omega)
      have hf24 : q22.2.1 0 1 = nI tl := fc_F hf21 hFc22 (by unfold M_K_seedLength_0; omega)
      have hf25 : q22.2.1 0 3 = nI al := fc_F hf22 hFc22 (by unfold M_K_seedLength_0; omega)
      have hf26 : q22.2.1 0 5 = nI pn := fc_F hf23 hFc22 (by unfold M_K_seedLength_0; omega)
      obtain ⟨z23, ez23, hz24, hz25⟩ := cl_of (b := 2147483648) hx_22 (by omega) (by decide)
      replace hR := bnd_step hR ez23
      refine mi_as hz24 ?_
      have hsz21 : z23 = 64 := (nI_eq (by omega) (by omega)).mp (hz24.symm.trans hxp22)
      subst hsz21
      refine W.widen (k := 0) (n := 0) (by omega) (by omega) ?_
      refine mi_eq (tgt := 28) hx hb dK_keys_15 (by decide) (by omega) (by omega) (fun h22 => ?_) (fun h22 => ?_)
      · replace hR := hR.trans (if_pos h22)
        refine lv_aload_n hx hb dK_keys_28 rfl (lv_at hl 0 rfl) ?_
        refine nw_get (C := "LatticeKeys") (TT := T_K) (N := 11) hx hb hts (wg_ft i_K) hown hK hO k_h0 (kn := 0) (ci := 0) (fl := [(3, 1), (0, 0), (3, 2), (0, 0), (3, 3), (0, 0), (3, 4), (3, 8), (3, 12), (3, 24), (3, 39)]) rfl hP rfl 5 (by decide) (hts _ (wg_t kw_379)) (fun _ h9 => h9) (cd := (0, 0)) rfl dK_keys_29 (fun v22 hv23 => ?_)
        obtain rfl := (show v22 = .int (q22.2.1 0 5) from hv23)
        obtain ⟨z24, ez24, hz26, hz27⟩ := cl_of (b := 2147483648) hf26 (by omega) (by decide)
        replace hR := bnd_step hR ez24
        refine mi_as hz26 ?_
        refine lv_bipush (v := nI 8) hx hb dK_keys_32 (by decide) ?_
        refine mi_lt (tgt := 47) hx hb dK_keys_34 (by decide) (by omega) (by omega) (fun h23 => ?_) (fun h23 => ?_)
        · replace hR := hR.trans (if_pos h23)
          refine lv_aload_n hx hb dK_keys_47 rfl (lv_at hl 0 rfl) ?_
          refine lv_iload_n hx hb dK_keys_48 rfl (lv_at hl 1 rfl) ?_
          refine mp_i (cx := []) (wr := []) hP hD hS hA [] [] rfl rfl rfl (by decide) (va_runV (As := [.int (nI 0)]) (rest := []) F (N_K_publicLength_0 l g _ T q22.2 pl hO hU h0 k_h0) (cwV 1 hts (wg_app (wg_c kw_566 (wg_c kw_568 (wg_c ks_2 (wg_c kw_1 wg_n)))) kw_569) rfl rfl rfl (by decide +kernel) ⟨by decide, by decide⟩) (pn_W "LatticeKeys" (en_ok g) (ci := 0) (kn := 0) (fl := [(3, 1), (0, 0), (3, 2), (0, 0), (3, 3), (0, 0), (3, 4), (3, 8), (3, 12), (3, 24), (3, 39)]) hK hO k_h0 rfl hP hD hS hA hE [] rfl rfl rfl) rfl rfl hl.1 rfl (lv_room (Nat.le_of_ble_eq_true rfl)) dK_keys_49 ⟨Nat.le_of_ble_eq_true rfl, Nat.le_of_ble_eq_true rfl⟩) (fun r23 u23 H locs hu23 hP hD hS => ?_)
          obtain ⟨q23, pl⟩ := u23
          obtain ⟨⟨eq23, rfl, hFc23, ⟨x23, hx_23, hb_23⟩, hxp23, -⟩, hO⟩ := hu23
          have hO : okn g T q23.2 pl := hO
          have hP : va_P g.1 vcl ([] ++ pl) _ := hP
          have hD : va_D _ ([] ++ pl) := hD
          have hFc23 : frm (M_K_publicLength_0) q22.2 q23.2 := hFc23
          have hb_23 : x23 < 801 := hb_23
          replace hR := bnd_step hR eq23
          have hF := frm_tr hF hFc23 (fun k hk => by unfold M_K_publicLength_0 at hk; unfold M_K_keys; omega)
          have hf27 : q23.2.1 0 1 = nI tl := fc_F hf24 hFc23 (by unfold M_K_publicLength_0; omega)
          have hf28 : q23.2.1 0 3 = nI al := fc_F hf25 hFc23 (by unfold M_K_publicLength_0; omega)
          have hf29 : q23.2.1 0 5 = nI pn := fc_F hf26 hFc23 (by unfold M_K_publicLength_0; omega)
          obtain ⟨z25, ez25, hz28, hz29⟩ := cl_of (b := 2147483648) hx_23 (by omega) (by decide)
          replace hR := bnd_step hR ez25
          refine mi_as hz28 ?_
          have hsz22 : z25 = 800 := (nI_eq (by omega) (by omega)).mp (hz28.symm.trans hxp23)
          subst hsz22
          refine W.widen (k := 0) (n := 0) (by omega) (by omega) ?_
          have hfr21 : frT T (379 + 36 * pn + 0) := frT_low hlow (by omega)
          have hfr22 : frT T (379 + 36 * pn + 1) := frT_low hlow (by omega)
          have hfr23 : frT T (379 + 36 * pn + 2) := frT_low hlow (by omega)
          have hlw21 : lowT T (379 + 36 * (pn + 1)) := lowT_up hlow (by omega)
          refine ma_newa (ws := [] ++ pl) (atype := .byte) hx hb (hts _ (wg_t kw_72)) rfl hK hP hD hS hA 1 rfl (N' := 800) (a0 := (800, .inl (fun _ => 0))) (fun _ => rfl) (nI_pos (by omega)) (nI_clamp (by omega)) (by show (800) * 1 ≤ 536870912; omega) (Nat.le_of_ble_eq_true rfl) (Nat.le_of_ble_eq_true rfl) dK_keys_52 (fun q24 H hP hD hS => ?_)
          refine W.widen (k := 1) (n := 800) (by omega) (by omega) ?_
          obtain ⟨T, pl, hxt21, hU, kr21, hO, hP, hD, hnf21, hnl21⟩ := absorbN (sZ q23.2 (379 + 36 * pn + 1)) (379 + 36 * pn + 1) hP hD hO hU hfr22 (fun _ h9 => uA_ne h9) (fun _ _ => rfl) (fun _ _ _ => fitZ (pr_p0 (z := pn) (by omega)))
          have kr22 := hxt21 _ _ k_h0
          have hXT := extN_tr hXT hxt21
          have hfr24 := hnf21 _ (by omega) hfr21
          have hfr25 := hnf21 _ (by omega) hfr23
          have hlw22 := hnl21 _ (by omega) hlw21
          obtain ⟨s21, es21⟩ : ∃ x : Sto, x = sZ q23.2 (379 + 36 * pn + 1) := ⟨_, rfl⟩
          rw [← es21] at hO
          replace hR := bnd_step hR es21
          have hF := frm_sZ hF es21 (by unfold M_K_keys; omega)
          have hf30 : s21.1 0 1 = nI tl := fc_Z hf27 es21 (by omega)
          have hf31 : s21.1 0 3 = nI al := fc_Z hf28 es21 (by omega)
          have hf32 : s21.1 0 5 = nI pn := fc_Z hf29 es21 (by omega)
          refine lv_astore_n (lv' := [(2, .ref q24), (0, .ref h0), (1, .int (nI 0))]) hx hb dK_keys_54 rfl hl (by decide) rfl (fun ls hl => ?_)
          refine lv_aload_n hx hb dK_keys_55 rfl (lv_at hl 1 rfl) ?_
          refine lv_iload_n hx hb dK_keys_56 rfl (lv_at hl 2 rfl) ?_
          refine mp_i (cx := []) (wr := []) hP hD hS hA [] [] rfl rfl rfl (by decide) (va_runV (As := [.int (nI 0)]) (rest := []) F (N_K_secretLength_0 l g _ T s21 pl hO hU h0 kr22) (cwV 1 hts (wg_app (wg_c kw_570 (wg_c kw_572 (wg_c ks_3 (wg_c kw_1 wg_n)))) kw_573) rfl rfl rfl (by decide +kernel) ⟨by decide, by decide⟩) (pn_W "LatticeKeys" (en_ok g) (ci := 0) (kn := 0) (fl := [(3, 1), (0, 0), (3, 2), (0, 0), (3, 3), (0, 0), (3, 4), (3, 8), (3, 12), (3, 24), (3, 39)]) hK hO kr22 rfl hP hD hS hA hE [] rfl rfl rfl) rfl rfl hl.1 rfl (lv_room (Nat.le_of_ble_eq_true rfl)) dK_keys_57 ⟨Nat.le_of_ble_eq_true rfl, Nat.le_of_ble_eq_true rfl⟩) (fun r24 u24 H locs hu24 hP hD hS => ?_)
          obtain ⟨q25, pl⟩ := u24
          obtain ⟨⟨eq24, rfl, hFc24, ⟨x24, hx_24, hb_24⟩, hxp24, -⟩, hO⟩ := hu24
          have hO : okn g T q25.2 pl := hO
          have hP : va_P g.1 vcl ([] ++ pl) _ := hP
          have hD : va_D _ ([] ++ pl) := hD
          have hFc24 : frm (M_K_secretLength_0) s21 q25.2 := hFc24
          have hb_24 : x24 < 1633 := hb_24
          replace hR := bnd_step hR eq24
          have hF := frm_tr hF hFc24 (fun k hk => by unfold M_K_secretLength_0 at hk; unfold M_K_keys; omega)
          have hf33 : q25.2.1 0 1 = nI tl := fc_F hf30 hFc24 (by unfold M_K_secretLength_0; omega)
          have hf34 : q25.2.1 0 3 = nI al := fc_F hf31 hFc24 (by unfold M_K_secretLength_0; omega)
          have hf35 : q25.2.1 0 5 = nI pn := fc_F hf32 hFc24 (by unfold M_K_secretLength_0; omega)
          obtain ⟨z26, ez26, hz30, hz31⟩ := cl_of (b := 2147483648) hx_24 (by omega) (by decide)
          replace hR := bnd_step hR ez26
          refine mi_as hz30 ?_
          have hsz23 : z26 = 1632 := (nI_eq (by omega) (by omega)).mp (hz30.symm.trans hxp24)
          subst hsz23
          refine W.widen (k := 1) (n := 800) (by omega) (by omega) ?_
          refine ma_newa (ws := [] ++ pl) (atype := .byte) hx hb (hts _ (wg_t kw_72)) rfl hK hP hD hS hA 1 rfl (N' := 1632) (a0 := (1632, .inl (fun _ => 0))) (fun _ => rfl) (nI_pos (by omega)) (nI_clamp (by omega)) (by show (1632) * 1 ≤ 536870912; omega) (Nat.le_of_ble_eq_true rfl) (Nat.le_of_ble_eq_true rfl) dK_keys_60 (fun q26 H hP hD hS => ?_)
          refine W.widen (k := 2) (n := 2432) (by omega) (by omega) ?_
          obtain ⟨T, pl, hxt22, hU, kr23, hO, hP, hD, hnf22, hnl22⟩ := absorbN (sZ q25.2 (379 + 36 * pn + 2)) (379 + 36 * pn + 2) hP hD hO hU hfr25 (fun _ h9 => uA_ne h9) (fun _ _ => rfl) (fun _ _ _ => fitZ (pr_s0 (z := pn) (by omega)))
          have kr24 := hxt22 _ _ kr22
          have kr25 := hxt22 _ _ kr21
          have hXT := extN_tr hXT hxt22
          have hfr26 := hnf22 _ (by omega) hfr24
          have hlw23 := hnl22 _ (by omega) hlw22
          obtain ⟨s22, es22⟩ : ∃ x : Sto, x = sZ q25.2 (379 + 36 * pn + 2) := ⟨_, rfl⟩
          rw [← es22] at hO
          replace hR := bnd_step hR es22
          have hF := frm_sZ hF es22 (by unfold M_K_keys; omega)
          have hf36 : s22.1 0 1 = nI tl := fc_Z hf33 es22 (by omega)
          have hf37 : s22.1 0 3 = nI al := fc_Z hf34 es22 (by omega)
          have hf38 : s22.1 0 5 = nI pn := fc_Z hf35 es22 (by omega)
          refine lv_astore_n (lv' := [(3, .ref q26), (2, .ref q24), (0, .ref h0), (1, .int (nI 0))]) hx hb dK_keys_62 rfl hl (by decide) rfl (fun ls hl => ?_)
          refine lv_iload_n hx hb dK_keys_63 rfl (lv_at hl 3 rfl) ?_
          refine lv_iconst (v := nI 3) hx hb dK_keys_64 (by decide) ?_
          refine mi_ge (tgt := 90) hx hb dK_keys_65 (by decide) (by omega) (by omega) (fun h24 => absurd h24 (by omega)) (fun h24 => ?_)
          refine lv_aload_n hx hb dK_keys_68 rfl (lv_at hl 2 rfl) ?_
          refine nw_get (C := "LatticeKeys") (TT := T_K) (N := 11) hx hb hts (wg_ft i_K) hown hK hO kr24 (kn := 0) (ci := 0) (fl := [(3, 1), (0, 0), (3, 2), (0, 0), (3, 3), (0, 0), (3, 4), (3, 8), (3, 12), (3, 24), (3, 39)]) rfl hP rfl 9 (by decide) (hts _ (wg_t kw_383)) (fun _ h9 => h9) (cd := (3, 24)) rfl dK_keys_69 (fun v23 hv24 => ?_)
          obtain ⟨r25, rfl, kr26⟩ := (show ∃ r : Nat, v23 = .ref r ∧ T r = some 24 from hv24)
          refine lv_aload_n hx hb dK_keys_72 rfl (lv_at hl 2 rfl) ?_
          refine nw_get (C := "LatticeKeys") (TT := T_K) (N := 11) hx hb hts (wg_ft i_K) hown hK hO kr24 (kn := 0) (ci := 0) (fl := [(3, 1), (0, 0), (3, 2), (0, 0), (3, 3), (0, 0), (3, 4), (3, 8), (3, 12), (3, 24), (3, 39)]) rfl hP rfl 6 (by decide) (hts _ (wg_t kw_380)) (fun _ h9 => h9) (cd := (3, 4)) rfl dK_keys_73 (fun v24 hv25 => ?_)
          obtain ⟨r26, rfl, kr27⟩ := (show ∃ r : Nat, v24 = .ref r ∧ T r = some 4 from hv25)
          refine lv_iload_n hx hb dK_keys_76 rfl (lv_at hl 3 rfl) ?_
          refine nw_aald6 hx hb hK hO kr27 (k := 4) (b := 5) rfl hP (by omega) (by omega) dK_keys_77 (fun r27 kr28 => ?_)
          refine lv_aload_n hx hb dK_keys_78 rfl (lv_at hl 2 rfl) ?_
          refine nw_get (C := "LatticeKeys") (TT := T_K) (N := 11) hx hb hts (wg_ft i_K) hown hK hO kr24 (kn := 0) (ci := 0) (fl := [(3, 1), (0, 0), (3, 2), (0, 0), (3, 3), (0, 0), (3, 4), (3, 8), (3, 12), (3, 24), (3, 39)]) rfl hP rfl 0 (by decide) (hts _ (wg_t kw_374)) (fun _ h9 => h9) (cd := (3, 1)) rfl dK_keys_79 (fun v25 hv26 => ?_)
          obtain ⟨r28, rfl, kr29⟩ := (show ∃ r : Nat, v25 = .ref r ∧ T r = some 1 from hv26)
          refine lv_aload_n hx hb dK_keys_82 rfl (lv_at hl 1 rfl) ?_
          refine lv_aload_n hx hb dK_keys_83 rfl (lv_at hl 0 rfl) ?_
          refine mp_v (cx := []) (wr := []) hP hD hS hA [] [] rfl rfl rfl (by decide) (va_runV (As := [.ref r27, .ref r28, .ref q24, .ref q26]) (rest := []) F (N_KM_makePair_0 l g _ T s22 pl hO hU r25 r27 r28 q24 q26 1 16384 (379 + 36 * pn + 1) (379 + 36 * pn + 2) kr26 kr28 kr29 rfl kr25 (pr_p0 (z := pn) (by omega)) kr23 (pr_s0 (z := pn) (by omega)) (by omega) (by omega)) (cwV 4 hts (wg_app (wg_c kw_574 (wg_c kw_575 (wg_c kw_576 (wg_c kw_3 wg_n)))) kw_577) rfl rfl rfl (by decide +kernel) ⟨by decide, by decide⟩) (pn_W "LatticeKeys$Kem" (en_ok g) (ci := 5) (kn := 24) (fl := [(3, 14), (3, 20), (3, 25), (3, 30), (3, 31), (3, 32), (3, 33), (3, 34), (3, 35), (3, 36)]) hK hO kr26 rfl hP hD hS hA hE [] rfl rfl rfl) rfl rfl hl.1 rfl (lv_room (Nat.le_of_ble_eq_true rfl)) dK_keys_84 ⟨Nat.le_of_ble_eq_true rfl, Nat.le_of_ble_eq_true rfl⟩) (fun  u25 H locs hu25 hP hD hS => ?_)
          obtain ⟨s23, pl⟩ := u25
          obtain ⟨⟨eq25, hFc25, -⟩, hO⟩ := hu25
          have hO : okn g T s23 pl := hO
          have hP : va_P g.1 vcl ([] ++ pl) _ := hP
          have hD : va_D _ ([] ++ pl) := hD
          have hFc25 : frm (M_KM_makePair_0 (379 + 36 * pn + 1) (379 + 36 * pn + 2)) s22 s23 := hFc25
          replace hR := bnd_step hR eq25
          have hF := frm_tr hF hFc25 (fun k hk => by unfold M_KM_makePair_0 at hk; unfold M_K_keys; omega)
          have hf39 : s23.1 0 1 = nI tl := fc_F hf36 hFc25 (by unfold M_KM_makePair_0; omega)
          have hf40 : s23.1 0 3 = nI al := fc_F hf37 hFc25 (by unfold M_KM_makePair_0; omega)
          have hf41 : s23.1 0 5 = nI pn := fc_F hf38 hFc25 (by unfold M_KM_makePair_0; omega)
          refine W.widen (k := 2) (n := 2432) (by omega) (by omega) ?_
          refine lv_goto (tgt := 111) hx hb dK_keys_87 (by decide) ?_
          refine lv_aload_n hx hb dK_keys_111 rfl (lv_at hl 2 rfl) ?_
          refine lv_iconst (v := nI 0) hx hb dK_keys_112 (by decide) ?_
          refine nw_put (C := "LatticeKeys") (TT := T_K) (N := 11) hx hb hts (wg_ft i_K) ty_K k_K n_K hown hK hO hU kr24 (kn := 0) (ci := 0) (fl := [(3, 1), (0, 0), (3, 2), (0, 0), (3, 3), (0, 0), (3, 4), (3, 8), (3, 12), (3, 24), (3, 39)]) rfl hP hD hS rfl 1 (by decide) (hts _ (wg_t kw_375)) (fun _ h9 => h9) rfl (by decide +kernel) rfl dK_keys_113 (fun s24 pl H locs es23 hO hP hD hS => ?_)
          replace hR := bnd_step hR es23
          have hF := frm_sI hF es23 (by unfold M_K_keys; omega)
          have hf43 : s24.1 0 3 = nI al := fc_ne hf40 es23 (by omega)
          have hf44 : s24.1 0 5 = nI pn := fc_ne hf41 es23 (by omega)
          have hf45 : s24.1 0 1 = nI 0 := fc_eq es23
          refine lv_aload_n hx hb dK_keys_116 rfl (lv_at hl 2 rfl) ?_
          refine va_new (ws := [] ++ pl) (ci := 13) (fs := [.int 0, .null, .null]) (C := "LatticeKeys$KeyPair") (T := T_KP) (N := 3) hx hb hts (wg_ft i_KP) ty_KP k_KP hown (hts _ (wg_t kw_43)) (hts _ (wg_t kw_740)) (hts _ (wg_t kw_24)) hK hP hD hS hA rfl z_KP (Nat.le_of_ble_eq_true rfl) (Nat.le_of_ble_eq_true rfl) dK_keys_117 (fun q27 H hP hD hS => ?_)
          obtain ⟨hP, hD⟩ := mv_first hP hD
          have hP : va_P g.1 vcl ([(q27, .inr (13, [.int 0, .null, .null]))] ++ pl) _ := hP
          have hD : va_D _ ([(q27, .inr (13, [.int 0, .null, .null]))] ++ pl) := hD
          refine W.widen (k := 3) (n := 2435) (by omega) (by omega) ?_
          refine lv_dup hx hb dK_keys_120 rfl ?_
          refine lv_iload_n hx hb dK_keys_121 rfl (lv_at hl 3 rfl) ?_
          refine lv_aload_n hx hb dK_keys_122 rfl (lv_at hl 1 rfl) ?_
          refine lv_aload_n hx hb dK_keys_123 rfl (lv_at hl 0 rfl) ?_
          refine mq_v (cx := [(q27, .inr (13, [.int 0, .null, .null]))]) (wr := []) hP hD hS hA [0] [] rfl rfl rfl (by decide) (va_runI (As := [.int (nI 0), .ref q24, .ref q26]) (rest := [.ref q27, .ref h0]) F (m_KP_init_s l g _ q27 q24 q26 (nI 0)) (cwI 3 hts (wg_in kw_743) rfl rfl rfl (hts _ (wg_t kw_24)) (hts _ (wg_t kw_741)) (hts _ (wg_t kw_742)) rfl (by decide +kernel) ⟨by decide, by decide⟩) (pr_S (en_ok g) hP hD hS hA hE [0] rfl rfl) rfl rfl hl.1 rfl (lv_room (Nat.le_of_ble_eq_true rfl)) dK_keys_124 ⟨Nat.le_of_ble_eq_true rfl, Nat.le_of_ble_eq_true rfl⟩) (fun _ H locs _ hP hD hS => ?_)
          obtain ⟨hP, hD⟩ := mv_last (X := []) (c := (q27, .inr (13, [.int (nI 0), .ref q24, .ref q26]))) hP hD
          refine W.widen (k := 3) (n := 2435) (by omega) (by omega) ?_
          obtain ⟨T, pl, hxt23, hU, kr30, hO, hP, hD, hnf23, hnl23⟩ := absorbN (s24) (379 + 36 * pn + 0) hP hD hO hU hfr26 (fun _ _ => rfl) (fun _ _ => rfl) (fun _ h9 _ => fitP (pr_o0 (z := pn) (by omega)) (h9 _ _ kr25) (h9 _ _ kr23))
          have kr31 := hxt23 _ _ kr24
          have kr32 := hxt23 _ _ kr25
          have kr33 := hxt23 _ _ kr23
          have kr34 := hxt23 _ _ kr26
          have kr35 := hxt23 _ _ kr27
          have kr36 := hxt23 _ _ kr28
          have kr37 := hxt23 _ _ kr29
          have hXT := extN_tr hXT hxt23
          have hlw24 := hnl23 _ (by omega) hlw23
          refine mp_i (cx := []) (wr := []) hP hD hS hA [] [] rfl rfl rfl (by decide) (va_runV (As := [.ref q27]) (rest := []) F (N_K_keep l g _ T s24 pl hO hU h0 q27 0 0 al pn kr31 kr30 hf45 hf43 hf44 (by omega) (by omega) (by omega) (by omega)) (cwV 1 hts (wg_app (wg_c kw_760 (wg_c kw_762 (wg_c ks_19 (wg_c kw_1 wg_n)))) kw_763) rfl rfl rfl (by decide +kernel) ⟨by decide, by decide⟩) (pn_W "LatticeKeys" (en_ok g) (ci := 0) (kn := 0) (fl := [(3, 1), (0, 0), (3, 2), (0, 0), (3, 3), (0, 0), (3, 4), (3, 8), (3, 12), (3, 24), (3, 39)]) hK hO kr31 rfl hP hD hS hA hE [] rfl rfl rfl) rfl rfl hl.1 rfl (lv_room (Nat.le_of_ble_eq_true rfl)) dK_keys_127 ⟨Nat.le_of_ble_eq_true rfl, Nat.le_of_ble_eq_true rfl⟩) (fun r29 u26 H locs hu26 hP hD hS => ?_)
          obtain ⟨q28, pl⟩ := u26
          obtain ⟨⟨eq26, rfl, hFc26, ⟨x26, hx_26, hb_26⟩, ⟨x27, hx_27, hb_27⟩, ⟨x28, hx_28, hb_28⟩, -⟩, hO⟩ := hu26
          have hO : okn g T q28.2 pl := hO
          have hP : va_P g.1 vcl ([] ++ pl) _ := hP
          have hD : va_D _ ([] ++ pl) := hD
          have hFc26 : frm (M_K_keep) s24 q28.2 := hFc26
          have hb_26 : x26 = 0 := hb_26
          have hb_27 : x27 = al := hb_27
          have hb_28 : x28 = pn + 1 := hb_28
          replace hR := bnd_step hR eq26
          have hF := frm_tr hF hFc26 (fun k hk => by unfold M_K_keep at hk; unfold M_K_keys; omega)
          refine W.widen (k := 3) (n := 2435) (by omega) (by omega) ?_
          refine et_ret ?_
          exact mp_iret hx hb hr hlk hP hD hS (((nI 0, q28.1, q28.2), T), pl) ⟨⟨hR.symm, rfl, rfl, hF, ⟨x26, hx_26, by omega⟩, ⟨x27, hx_27, by omega⟩, ⟨x28, hx_28, by omega⟩, trivial, hXT, hU, ⟨x28, hx_28, by omega, (lowT_up hlw24 (by omega))⟩⟩, hO⟩ [] rfl rfl rfl (by omega) (by omega) dK_keys_130
        · replace hR := hR.trans (if_neg (Nat.not_lt.mpr h23))
          exact et_throw (own := "LatticeKeys") (cls := "java/lang/IllegalStateException") (text := "no room for more keys") (names := ["java/lang/RuntimeException", "java/lang/Exception"]) (ik := 69) (is := 105) (ic := 73) hx hb htr ctr_ISE_0 ctr_ISE_1 ctr_ISE_2 ctr_ISE_5 hown (by decide) (by decide) (hts _ (wg_t kw_420)) (hts _ (wg_t kw_17)) (hX.2.2.2.2.2.1 4 ("LatticeKeys", 105, "no room for more keys") rfl) (hat_ISE hts hX.2) hS.1 (hl.1.trans hml.symm) dK_keys_37 dK_keys_40 dK_keys_41 dK_keys_43 dK_keys_46 htab (Nat.le_of_ble_eq_true rfl) (Nat.le_of_ble_eq_true rfl) (Nat.le_of_ble_eq_true rfl) (Nat.le_of_ble_eq_true rfl) hlk (Nat.le_of_ble_eq_true rfl) (Nat.le_of_ble_eq_true rfl) (xls_at 1 (congrArg Prod.fst hR) (by decide) rfl) hS.2.2 (thr_st hX.2) (fun t hz9 hk9 => ⟨⟨(((nI 2, nI 0, q22.2), T), pl), ⟨⟨hR.symm, hF, ⟨tl, hf24, by omega⟩, ⟨al, hf25, by omega⟩, ⟨pn, hf26, by omega⟩, trivial, hXT, hU, ⟨pn, hf26, by omega, (lowT_up hlow (by omega))⟩⟩, hO⟩, lc_P hP hk9, hD⟩, (lc_S hS hz9 hk9).F rfl⟩)
      · replace hR := hR.trans (if_neg h22)
        exact et_throw (own := "LatticeKeys") (cls := "java/lang/IllegalArgumentException") (text := "no such set, or a seed of another length") (names := ["java/lang/RuntimeException", "java/lang/Exception"]) (ik := 79) (is := 103) (ic := 83) hx hb htr ctr_IAE_0 ctr_IAE_1 ctr_IAE_2 ctr_IAE_5 hown (by decide) (by decide) (hts _ (wg_t kw_501)) (hts _ (wg_t kw_18)) (hX.2.2.2.2.2.1 3 ("LatticeKeys", 103, "no such set, or a seed of another length") rfl) (hat_IAE hts hX.2) hS.1 (hl.1.trans hml.symm) dK_keys_18 dK_keys_21 dK_keys_22 dK_keys_24 dK_keys_27 htab (Nat.le_of_ble_eq_true rfl) (Nat.le_of_ble_eq_true rfl) (Nat.le_of_ble_eq_true rfl) (Nat.le_of_ble_eq_true rfl) hlk (Nat.le_of_ble_eq_true rfl) (Nat.le_of_ble_eq_true rfl) (xls_at 0 (congrArg Prod.fst hR) (by decide) rfl) hS.2.2 (thr_st hX.2) (fun t hz9 hk9 => ⟨⟨(((nI 1, nI 0, q22.2), T), pl), ⟨⟨hR.symm, hF, ⟨tl, hf24, by omega⟩, ⟨al, hf25, by omega⟩, ⟨pn, hf26, by omega⟩, trivial, hXT, hU, ⟨pn, hf26, by omega, (lowT_up hlow (by omega))⟩⟩, hO⟩, lc_P hP hk9, hD⟩, (lc_S hS hz9 hk9).F rfl⟩)
    replace hR := hR.trans (if_neg hs21)
    by_cases hs22 : z21 = 1
    · replace hR := hR.trans (if_pos hs22)
      subst hs22
      refine lv_aload_n hx hb dK_keys_7 rfl (lv_at hl 0 rfl) ?_
      refine nw_get (C := "LatticeKeys") (TT := T_K) (N := 11) hx hb hts (wg_ft i_K) hown hK hO k_h0 (kn := 0) (ci := 0) (fl := [(3, 1), (0, 0), (3, 2), (0, 0), (3, 3), (0, 0), (3, 4), (3, 8), (3, 12), (3, 24), (3, 39)]) rfl hP rfl 1 (by decide) (hts _ (wg_t kw_375)) (fun _ h9 => h9) (cd := (0, 0)) rfl dK_keys_8 (fun v26 hv27 => ?_)
      obtain rfl := (show v26 = .int (q21.2.1 0 1) from hv27)
      obtain ⟨z27, ez27, hz32, hz33⟩ := cl_of (b := 2147483648) hf21 (by omega) (by decide)
      replace hR := bnd_step hR ez27
      refine mi_as hz32 ?_
      refine lv_iload_n hx hb dK_keys_11 rfl (lv_at hl 1 rfl) ?_
      refine mp_i (cx := []) (wr := []) hP hD hS hA [] [] rfl rfl rfl (by decide) (va_runS (As := [.int (nI 1)]) (rest := [.int (nI z27)]) F (N_K_seedLength_1 l g _ T q21.2 pl hO hU ) (va_cwS 1 hts (wg_app (wg_c kw_561 (wg_c kw_562 (wg_c kw_1 wg_n))) kw_563) rfl rfl rfl (by decide +kernel) ⟨by decide, by decide⟩) (pp_S (en_ok g) hP hD hS hA hE [] rfl rfl) rfl rfl hl.1 rfl (lv_room (Nat.le_of_ble_eq_true rfl)) dK_keys_12 ⟨Nat.le_of_ble_eq_true rfl, Nat.le_of_ble_eq_true rfl⟩) (fun r30 u27 H locs hu27 hP hD hS => ?_)
      obtain ⟨q29, pl⟩ := u27
      obtain ⟨⟨eq27, rfl, hFc27, ⟨x30, hx_30, hb_30⟩, hxp27, -⟩, hO⟩ := hu27
      have hO : okn g T q29.2 pl := hO
      have hP : va_P g.1 vcl ([] ++ pl) _ := hP
      have hD : va_D _ ([] ++ pl) := hD
      have hFc27 : frm (M_K_seedLength_1) q21.2 q29.2 := hFc27
      have hb_30 : x30 < 65 := hb_30
      replace hR := bnd_step hR eq27
      have hF := frm_tr hF hFc27 (fun k hk => by unfold M_K_seedLength_1 at hk; unfold M_K_keys; omega)
      have hf46 : q29.2.1 0 1 = nI tl := fc_F hf21 hFc27 (by unfold M_K_seedLength_1; omega)
      have hf47 : q29.2.1 0 3 = nI al := fc_F hf22 hFc27 (by unfold M_K_seedLength_1; omega)
      have hf48 : q29.2.1 0 5 = nI pn := fc_F hf23 hFc27 (by unfold M_K_seedLength_1; omega)
      obtain ⟨z28, ez28, hz34, hz35⟩ := cl_of (b := 2147483648) hx_30 (by omega) (by decide)
      replace hR := bnd_step hR ez28
      refine mi_as hz34 ?_
      have hsz24 : z28 = 64 := (nI_eq (by omega) (by omega)).mp (hz34.symm.trans hxp27)
      subst hsz24
      refine W.widen (k := 0) (n := 0) (by omega) (by omega) ?_
      refine mi_eq (tgt := 28) hx hb dK_keys_15 (by decide) (by omega) (by omega) (fun h25 => ?_) (fun h25 => ?_)
      · replace hR := hR.trans (if_pos h25)
        refine lv_aload_n hx hb dK_keys_28 rfl (lv_at hl 0 rfl) ?_
        refine nw_get (C := "LatticeKeys") (TT := T_K) (N := 11) hx hb hts (wg_ft i_K) hown hK hO k_h0 (kn := 0) (ci := 0) (fl := [(3, 1), (0, 0), (3, 2), (0, 0), (3, 3), (0, 0), (3, 4), (3, 8), (3, 12), (3, 24), (3, 39)]) rfl hP rfl 5 (by decide) (hts _ (wg_t kw_379)) (fun _ h9 => h9) (cd := (0, 0)) rfl dK_keys_29 (fun v27 hv28 => ?_)
        obtain rfl := (show v27 = .int (q29.2.1 0 5) from hv28)
        obtain ⟨z29, ez29, hz36, hz37⟩ := cl_of (b := 2147483648) hf48 (by omega) (by decide)
        replace hR := bnd_step hR ez29
        refine mi_as hz36 ?_
        refine lv_bipush (v := nI 8) hx hb dK_keys_32 (by decide) ?_
        refine mi_lt (tgt := 47) hx hb dK_keys_34 (by decide) (by omega) (by omega) (fun h26 => ?_) (fun h26 => ?_)
        · replace hR := hR.trans (if_pos h26)
          refine lv_aload_n hx hb dK_keys_47 rfl (lv_at hl 0 rfl) ?_
          refine lv_iload_n hx hb dK_keys_48 rfl (lv_at hl 1 rfl) ?_
          refine mp_i (cx := []) (wr := []) hP hD hS hA [] [] rfl rfl rfl (by decide) (va_runV (As := [.int (nI 1)]) (rest := []) F (N_K_publicLength_1 l g _ T q29.2 pl hO hU h0 k_h0) (cwV 1 hts (wg_app (wg_c kw_566 (wg_c kw_568 (wg_c ks_2 (wg_c kw_1 wg_n)))) kw_569) rfl rfl rfl (by decide +kernel) ⟨by decide, by decide⟩) (pn_W "LatticeKeys" (en_ok g) (ci := 0) (kn := 0) (fl := [(3, 1), (0, 0), (3, 2), (0, 0), (3, 3), (0, 0), (3, 4), (3, 8), (3, 12), (3, 24), (3, 39)]) hK hO k_h0 rfl hP hD hS hA hE [] rfl rfl rfl) rfl rfl hl.1 rfl (lv_room (Nat.le_of_ble_eq_true rfl)) dK_keys_49 ⟨Nat.le_of_ble_eq_true rfl, Nat.le_of_ble_eq_true rfl⟩) (fun r31 u28 H locs hu28 hP hD hS => ?_)
          obtain ⟨q30, pl⟩ := u28
          obtain ⟨⟨eq28, rfl, hFc28, ⟨x31, hx_31, hb_31⟩, hxp28, -⟩, hO⟩ := hu28
          have hO : okn g T q30.2 pl := hO
          have hP : va_P g.1 vcl ([] ++ pl) _ := hP
          have hD : va_D _ ([] ++ pl) := hD
          have hFc28 : frm (M_K_publicLength_1) q29.2 q30.2 := hFc28
          have hb_31 : x31 < 1185 := hb_31
          replace hR := bnd_step hR eq28
          have hF := frm_tr hF hFc28 (fun k hk => by unfold M_K_publicLength_1 at hk; unfold M_K_keys; omega)
          have hf49 : q30.2.1 0 1 = nI tl := fc_F hf46 hFc28 (by unfold M_K_publicLength_1; omega)
          have hf50 : q30.2.1 0 3 = nI al := fc_F hf47 hFc28 (by unfold M_K_publicLength_1; omega)
          have hf51 : q30.2.1 0 5 = nI pn := fc_F hf48 hFc28 (by unfold M_K_publicLength_1; omega)
          obtain ⟨z30, ez30, hz38, hz39⟩ := cl_of (b := 2147483648) hx_31 (by omega) (by decide)
          replace hR := bnd_step hR ez30
          refine mi_as hz38 ?_
          have hsz25 : z30 = 1184 := (nI_eq (by omega) (by omega)).mp (hz38.symm.trans hxp28)
          subst hsz25
          refine W.widen (k := 0) (n := 0) (by omega) (by omega) ?_
          have hfr27 : frT T (379 + 36 * pn + 3) := frT_low hlow (by omega)
          have hfr28 : frT T (379 + 36 * pn + 4) := frT_low hlow (by omega)
          have hfr29 : frT T (379 + 36 * pn + 5) := frT_low hlow (by omega)
          have hlw25 : lowT T (379 + 36 * (pn + 1)) := lowT_up hlow (by omega)
          refine ma_newa (ws := [] ++ pl) (atype := .byte) hx hb (hts _ (wg_t kw_72)) rfl hK hP hD hS hA 1 rfl (N' := 1184) (a0 := (1184, .inl (fun _ => 0))) (fun _ => rfl) (nI_pos (by omega)) (nI_clamp (by omega)) (by show (1184) * 1 ≤ 536870912; omega) (Nat.le_of_ble_eq_true rfl) (Nat.le_of_ble_eq_true rfl) dK_keys_52 (fun q31 H hP hD hS => ?_)
          refine W.widen (k := 1) (n := 1184) (by omega) (by omega) ?_
          obtain ⟨T, pl, hxt24, hU, kr38, hO, hP, hD, hnf24, hnl24⟩ := absorbN (sZ q30.2 (379 + 36 * pn + 4)) (379 + 36 * pn + 4) hP hD hO hU hfr28 (fun _ h9 => uA_ne h9) (fun _ _ => rfl) (fun _ _ _ => fitZ (pr_p1 (z := pn) (by omega)))
          have kr39 := hxt24 _ _ k_h0
          have hXT := extN_tr hXT hxt24
          have hfr30 := hnf24 _ (by omega) hfr27
          have hfr31 := hnf24 _ (by omega) hfr29
          have hlw26 := hnl24 _ (by omega) hlw25
          obtain ⟨s25, es24⟩ : ∃ x : Sto, x = sZ q30.2 (379 + 36 * pn + 4) := ⟨_, rfl⟩
          rw [← es24] at hO
          replace hR := bnd_step hR es24
          have hF := frm_sZ hF es24 (by unfold M_K_keys; omega)
          have hf52 : s25.1 0 1 = nI tl := fc_Z hf49 es24 (by omega)
          have hf53 : s25.1 0 3 = nI al := fc_Z hf50 es24 (by omega)
          have hf54 : s25.1 0 5 = nI pn := fc_Z hf51 es24 (by omega)
          refine lv_astore_n (lv' := [(2, .ref q31), (0, .ref h0), (1, .int (nI 1))]) hx hb dK_keys_54 rfl hl (by decide) rfl (fun ls hl => ?_)
          refine lv_aload_n hx hb dK_keys_55 rfl (lv_at hl 1 rfl) ?_
          refine lv_iload_n hx hb dK_keys_56 rfl (lv_at hl 2 rfl) ?_
          refine mp_i (cx := []) (wr := []) hP hD hS hA [] [] rfl rfl rfl (by decide) (va_runV (As := [.int (nI 1)]) (rest := []) F (N_K_secretLength_1 l g _ T s25 pl hO hU h0 kr39) (cwV 1 hts (wg_app (wg_c kw_570 (wg_c kw_572 (wg_c ks_3 (wg_c kw_1 wg_n)))) kw_573) rfl rfl rfl (by decide +kernel) ⟨by decide, by decide⟩) (pn_W "LatticeKeys" (en_ok g) (ci := 0) (kn := 0) (fl := [(3, 1), (0, 0), (3, 2), (0, 0), (3, 3), (0, 0), (3, 4), (3, 8), (3, 12), (3, 24), (3, 39)]) hK hO kr39 rfl hP hD hS hA hE [] rfl rfl rfl) rfl rfl hl.1 rfl (lv_room (Nat.le_of_ble_eq_true rfl)) dK_keys_57 ⟨Nat.le_of_ble_eq_true rfl, Nat.le_of_ble_eq_true rfl⟩) (fun r32 u29 H locs hu29 hP hD hS => ?_)
          obtain ⟨q32, pl⟩ := u29
          obtain ⟨⟨eq29, rfl, hFc29, ⟨x32, hx_32, hb_32⟩, hxp29, -⟩, hO⟩ := hu29
          have hO : okn g T q32.2 pl := hO
          have hP : va_P g.1 vcl ([] ++ pl) _ := hP
          have hD : va_D _ ([] ++ pl) := hD
          have hFc29 : frm (M_K_secretLength_1) s25 q32.2 := hFc29
          have hb_32 : x32 < 2401 := hb_32
          replace hR := bnd_step hR eq29
          have hF := frm_tr hF hFc29 (fun k hk => by unfold M_K_secretLength_1 at hk; unfold M_K_keys; omega)
          have hf55 : q32.2.1 0 1 = nI tl := fc_F hf52 hFc29 (by unfold M_K_secretLength_1; omega)
          have hf56 : q32.2.1 0 3 = nI al := fc_F hf53 hFc29 (by unfold M_K_secretLength_1; omega)
          have hf57 : q32.2.1 0 5 = nI pn := fc_F hf54 hFc29 (by unfold M_K_secretLength_1; omega)
          obtain ⟨z31, ez31, hz40, hz41⟩ := cl_of (b := 2147483648) hx_32 (by omega) (by decide)
          replace hR := bnd_step hR ez31
          refine mi_as hz40 ?_
          have hsz26 : z31 = 2400 := (nI_eq (by omega) (by omega)).mp (hz40.symm.trans hxp29)
          subst hsz26
          refine W.widen (k := 1) (n := 1184) (by omega) (by omega) ?_
          refine ma_newa (ws := [] ++ pl) (atype := .byte) hx hb (hts _ (wg_t kw_72)) rfl hK hP hD hS hA 1 rfl (N' := 2400) (a0 := (2400, .inl (fun _ => 0))) (fun _ => rfl) (nI_pos (by omega)) (nI_clamp (by omega)) (by show (2400) * 1 ≤ 536870912; omega) (Nat.le_of_ble_eq_true rfl) (Nat.le_of_ble_eq_true rfl) dK_keys_60 (fun q33 H hP hD hS => ?_)
          refine W.widen (k := 2) (n := 3584) (by omega) (by omega) ?_
          obtain ⟨T, pl, hxt25, hU, kr40, hO, hP, hD, hnf25, hnl25⟩ := absorbN (sZ q32.2 (379 + 36 * pn + 5)) (379 + 36 * pn + 5) hP hD hO hU hfr31 (fun _ h9 => uA_ne h9) (fun _ _ => rfl) (fun _ _ _ => fitZ (pr_s1 (z := pn) (by omega)))
          have kr41 := hxt25 _ _ kr39
          have kr42 := hxt25 _ _ kr38
          have hXT := extN_tr hXT hxt25
          have hfr32 := hnf25 _ (by omega) hfr30
          have hlw27 := hnl25 _ (by omega) hlw26
          obtain ⟨s26, es25⟩ : ∃ x : Sto, x = sZ q32.2 (379 + 36 * pn + 5) := ⟨_, rfl⟩
          rw [← es25] at hO
          replace hR := bnd_step hR es25
          have hF := frm_sZ hF es25 (by unfold M_K_keys; omega)
          have hf58 : s26.1 0 1 = nI tl := fc_Z hf55 es25 (by omega)
          have hf59 : s26.1 0 3 = nI al := fc_Z hf56 es25 (by omega)
          have hf60 : s26.1 0 5 = nI pn := fc_Z hf57 es25 (by omega)
          refine lv_astore_n (lv' := [(3, .ref q33), (2, .ref q31), (0, .ref h0), (1, .int (nI 1))]) hx hb dK_keys_62 rfl hl (by decide) rfl (fun ls hl => ?_)
          refine lv_iload_n hx hb dK_keys_63 rfl (lv_at hl 3 rfl) ?_
          refine lv_iconst (v := nI 3) hx hb dK_keys_64 (by decide) ?_
          refine mi_ge (tgt := 90) hx hb dK_keys_65 (by decide) (by omega) (by omega) (fun h27 => absurd h27 (by omega)) (fun h27 => ?_)
          refine lv_aload_n hx hb dK_keys_68 rfl (lv_at hl 2 rfl) ?_
          refine nw_get (C := "LatticeKeys") (TT := T_K) (N := 11) hx hb hts (wg_ft i_K) hown hK hO kr41 (kn := 0) (ci := 0) (fl := [(3, 1), (0, 0), (3, 2), (0, 0), (3, 3), (0, 0), (3, 4), (3, 8), (3, 12), (3, 24), (3, 39)]) rfl hP rfl 9 (by decide) (hts _ (wg_t kw_383)) (fun _ h9 => h9) (cd := (3, 24)) rfl dK_keys_69 (fun v28 hv29 => ?_)
          obtain ⟨r33, rfl, kr43⟩ := (show ∃ r : Nat, v28 = .ref r ∧ T r = some 24 from hv29)
          refine lv_aload_n hx hb dK_keys_72 rfl (lv_at hl 2 rfl) ?_
          refine nw_get (C := "LatticeKeys") (TT := T_K) (N := 11) hx hb hts (wg_ft i_K) hown hK hO kr41 (kn := 0) (ci := 0) (fl := [(3, 1), (0, 0), (3, 2), (0, 0), (3, 3), (0, 0), (3, 4), (3, 8), (3, 12), (3, 24), (3, 39)]) rfl hP rfl 6 (by decide) (hts _ (wg_t kw_380)) (fun _ h9 => h9) (cd := (3, 4)) rfl dK_keys_73 (fun v29 hv30 => ?_)
          obtain ⟨r34, rfl, kr44⟩ := (show ∃ r : Nat, v29 = .ref r ∧ T r = some 4 from hv30)
          refine lv_iload_n hx hb dK_keys_76 rfl (lv_at hl 3 rfl) ?_
          refine nw_aald6 hx hb hK hO kr44 (k := 4) (b := 5) rfl hP (by omega) (by omega) dK_keys_77 (fun r35 kr45 => ?_)
          refine lv_aload_n hx hb dK_keys_78 rfl (lv_at hl 2 rfl) ?_
          refine nw_get (C := "LatticeKeys") (TT := T_K) (N := 11) hx hb hts (wg_ft i_K) hown hK hO kr41 (kn := 0) (ci := 0) (fl := [(3, 1), (0, 0), (3, 2), (0, 0), (3, 3), (0, 0), (3, 4), (3, 8), (3, 12), (3, 24), (3, 39)]) rfl hP rfl 0 (by decide) (hts _ (wg_t kw_374)) (fun _ h9 => h9) (cd := (3, 1)) rfl dK_keys_79 (fun v30 hv31 => ?_)
          obtain ⟨r36, rfl, kr46⟩ := (show ∃ r : Nat, v30 = .ref r ∧ T r = some 1 from hv31)
          refine lv_aload_n hx hb dK_keys_82 rfl (lv_at hl 1 rfl) ?_
          refine lv_aload_n hx hb dK_keys_83 rfl (lv_at hl 0 rfl) ?_
          refine mp_v (cx := []) (wr := []) hP hD hS hA [] [] rfl rfl rfl (by decide) (va_runV (As := [.ref r35, .ref r36, .ref q31, .ref q33]) (rest := []) F (N_KM_makePair_1 l g _ T s26 pl hO hU r33 r35 r36 q31 q33 1 16384 (379 + 36 * pn + 4) (379 + 36 * pn + 5) kr43 kr45 kr46 rfl kr42 (pr_p1 (z := pn) (by omega)) kr40 (pr_s1 (z := pn) (by omega)) (by omega) (by omega)) (cwV 4 hts (wg_app (wg_c kw_574 (wg_c kw_575 (wg_c kw_576 (wg_c kw_3 wg_n)))) kw_577) rfl rfl rfl (by decide +kernel) ⟨by decide, by decide⟩) (pn_W "LatticeKeys$Kem" (en_ok g) (ci := 5) (kn := 24) (fl := [(3, 14), (3, 20), (3, 25), (3, 30), (3, 31), (3, 32), (3, 33), (3, 34), (3, 35), (3, 36)]) hK hO kr43 rfl hP hD hS hA hE [] rfl rfl rfl) rfl rfl hl.1 rfl (lv_room (Nat.le_of_ble_eq_true rfl)) dK_keys_84 ⟨Nat.le_of_ble_eq_true rfl, Nat.le_of_ble_eq_true rfl⟩) (fun  u30 H locs hu30 hP hD hS => ?_)
          obtain ⟨s27, pl⟩ := u30
          obtain ⟨⟨eq30, hFc30, -⟩, hO⟩ := hu30
          have hO : okn g T s27 pl := hO
          have hP : va_P g.1 vcl ([] ++ pl) _ := hP
          have hD : va_D _ ([] ++ pl) := hD
          have hFc30 : frm (M_KM_makePair_1 (379 + 36 * pn + 4) (379 + 36 * pn + 5)) s26 s27 := hFc30
          replace hR := bnd_step hR eq30
          have hF := frm_tr hF hFc30 (fun k hk => by unfold M_KM_makePair_1 at hk; unfold M_K_keys; omega)
          have hf61 : s27.1 0 1 = nI tl := fc_F hf58 hFc30 (by unfold M_KM_makePair_1; omega)
          have hf62 : s27.1 0 3 = nI al := fc_F hf59 hFc30 (by unfold M_KM_makePair_1; omega)
          have hf63 : s27.1 0 5 = nI pn := fc_F hf60 hFc30 (by unfold M_KM_makePair_1; omega)
          refine W.widen (k := 2) (n := 3584) (by omega) (by omega) ?_
          refine lv_goto (tgt := 111) hx hb dK_keys_87 (by decide) ?_
          refine lv_aload_n hx hb dK_keys_111 rfl (lv_at hl 2 rfl) ?_
          refine lv_iconst (v := nI 0) hx hb dK_keys_112 (by decide) ?_
          refine nw_put (C := "LatticeKeys") (TT := T_K) (N := 11) hx hb hts (wg_ft i_K) ty_K k_K n_K hown hK hO hU kr41 (kn := 0) (ci := 0) (fl := [(3, 1), (0, 0), (3, 2), (0, 0), (3, 3), (0, 0), (3, 4), (3, 8), (3, 12), (3, 24), (3, 39)]) rfl hP hD hS rfl 1 (by decide) (hts _ (wg_t kw_375)) (fun _ h9 => h9) rfl (by decide +kernel) rfl dK_keys_113 (fun s28 pl H locs es26 hO hP hD hS => ?_)
          replace hR := bnd_step hR es26
          have hF := frm_sI hF es26 (by unfold M_K_keys; omega)
          have hf65 : s28.1 0 3 = nI al := fc_ne hf62 es26 (by omega)
          have hf66 : s28.1 0 5 = nI pn := fc_ne hf63 es26 (by omega)
          have hf67 : s28.1 0 1 = nI 0 := fc_eq es26
          refine lv_aload_n hx hb dK_keys_116 rfl (lv_at hl 2 rfl) ?_
          refine va_new (ws := [] ++ pl) (ci := 13) (fs := [.int 0, .null, .null]) (C := "LatticeKeys$KeyPair") (T := T_KP) (N := 3) hx hb hts (wg_ft i_KP) ty_KP k_KP hown (hts _ (wg_t kw_43)) (hts _ (wg_t kw_740)) (hts _ (wg_t kw_24)) hK hP hD hS hA rfl z_KP (Nat.le_of_ble_eq_true rfl) (Nat.le_of_ble_eq_true rfl) dK_keys_117 (fun q34 H hP hD hS => ?_)
          obtain ⟨hP, hD⟩ := mv_first hP hD
          have hP : va_P g.1 vcl ([(q34, .inr (13, [.int 0, .null, .null]))] ++ pl) _ := hP
          have hD : va_D _ ([(q34, .inr (13, [.int 0, .null, .null]))] ++ pl) := hD
          refine W.widen (k := 3) (n := 3587) (by omega) (by omega) ?_
          refine lv_dup hx hb dK_keys_120 rfl ?_
          refine lv_iload_n hx hb dK_keys_121 rfl (lv_at hl 3 rfl) ?_
          refine lv_aload_n hx hb dK_keys_122 rfl (lv_at hl 1 rfl) ?_
          refine lv_aload_n hx hb dK_keys_123 rfl (lv_at hl 0 rfl) ?_
          refine mq_v (cx := [(q34, .inr (13, [.int 0, .null, .null]))]) (wr := []) hP hD hS hA [0] [] rfl rfl rfl (by decide) (va_runI (As := [.int (nI 1), .ref q31, .ref q33]) (rest := [.ref q34, .ref h0]) F (m_KP_init_s l g _ q34 q31 q33 (nI 1)) (cwI 3 hts (wg_in kw_743) rfl rfl rfl (hts _ (wg_t kw_24)) (hts _ (wg_t kw_741)) (hts _ (wg_t kw_742)) rfl (by decide +kernel) ⟨by decide, by decide⟩) (pr_S (en_ok g) hP hD hS hA hE [0] rfl rfl) rfl rfl hl.1 rfl (lv_room (Nat.le_of_ble_eq_true rfl)) dK_keys_124 ⟨Nat.le_of_ble_eq_true rfl, Nat.le_of_ble_eq_true rfl⟩) (fun _ H locs _ hP hD hS => ?_)
          obtain ⟨hP, hD⟩ := mv_last (X := []) (c := (q34, .inr (13, [.int (nI 1), .ref q31, .ref q33]))) hP hD
          refine W.widen (k := 3) (n := 3587) (by omega) (by omega) ?_
          obtain ⟨T, pl, hxt26, hU, kr47, hO, hP, hD, hnf26, hnl26⟩ := absorbN (s28) (379 + 36 * pn + 3) hP hD hO hU hfr32 (fun _ _ => rfl) (fun _ _ => rfl) (fun _ h9 _ => fitP (pr_o1 (z := pn) (by omega)) (h9 _ _ kr42) (h9 _ _ kr40))
          have kr48 := hxt26 _ _ kr41
          have kr49 := hxt26 _ _ kr42
          have kr50 := hxt26 _ _ kr40
          have kr51 := hxt26 _ _ kr43
          have kr52 := hxt26 _ _ kr44
          have kr53 := hxt26 _ _ kr45
          have kr54 := hxt26 _ _ kr46
          have hXT := extN_tr hXT hxt26
          have hlw28 := hnl26 _ (by omega) hlw27
          refine mp_i (cx := []) (wr := []) hP hD hS hA [] [] rfl rfl rfl (by decide) (va_runV (As := [.ref q34]) (rest := []) F (N_K_keep l g _ T s28 pl hO hU h0 q34 1 0 al pn kr48 kr47 hf67 hf65 hf66 (by omega) (by omega) (by omega) (by omega)) (cwV 1 hts (wg_app (wg_c kw_760 (wg_c kw_762 (wg_c ks_19 (wg_c kw_1 wg_n)))) kw_763) rfl rfl rfl (by decide +kernel) ⟨by decide, by decide⟩) (pn_W "LatticeKeys" (en_ok g) (ci := 0) (kn := 0) (fl := [(3, 1), (0, 0), (3, 2), (0, 0), (3, 3), (0, 0), (3, 4), (3, 8), (3, 12), (3, 24), (3, 39)]) hK hO kr48 rfl hP hD hS hA hE [] rfl rfl rfl) rfl rfl hl.1 rfl (lv_room (Nat.le_of_ble_eq_true rfl)) dK_keys_127 ⟨Nat.le_of_ble_eq_true rfl, Nat.le_of_ble_eq_true rfl⟩) (fun r37 u31 H locs hu31 hP hD hS => ?_)
          obtain ⟨q35, pl⟩ := u31
          obtain ⟨⟨eq31, rfl, hFc31, ⟨x34, hx_34, hb_34⟩, ⟨x35, hx_35, hb_35⟩, ⟨x36, hx_36, hb_36⟩, -⟩, hO⟩ := hu31
          have hO : okn g T q35.2 pl := hO
          have hP : va_P g.1 vcl ([] ++ pl) _ := hP
          have hD : va_D _ ([] ++ pl) := hD
          have hFc31 : frm (M_K_keep) s28 q35.2 := hFc31
          have hb_34 : x34 = 0 := hb_34
          have hb_35 : x35 = al := hb_35
          have hb_36 : x36 = pn + 1 := hb_36
          replace hR := bnd_step hR eq31
          have hF := frm_tr hF hFc31 (fun k hk => by unfold M_K_keep at hk; unfold M_K_keys; omega)
          refine W.widen (k := 3) (n := 3587) (by omega) (by omega) ?_
          refine et_ret ?_
          exact mp_iret hx hb hr hlk hP hD hS (((nI 0, q35.1, q35.2), T), pl) ⟨⟨hR.symm, rfl, rfl, hF, ⟨x34, hx_34, by omega⟩, ⟨x35, hx_35, by omega⟩, ⟨x36, hx_36, by omega⟩, trivial, hXT, hU, ⟨x36, hx_36, by omega, (lowT_up hlw28 (by omega))⟩⟩, hO⟩ [] rfl rfl rfl (by omega) (by omega) dK_keys_130
        · replace hR := hR.trans (if_neg (Nat.not_lt.mpr h26))
          exact et_throw (own := "LatticeKeys") (cls := "java/lang/IllegalStateException") (text := "no room for more keys") (names := ["java/lang/RuntimeException", "java/lang/Exception"]) (ik := 69) (is := 105) (ic := 73) hx hb htr ctr_ISE_0 ctr_ISE_1 ctr_ISE_2 ctr_ISE_5 hown (by decide) (by decide) (hts _ (wg_t kw_420)) (hts _ (wg_t kw_17)) (hX.2.2.2.2.2.1 4 ("LatticeKeys", 105, "no room for more keys") rfl) (hat_ISE hts hX.2) hS.1 (hl.1.trans hml.symm) dK_keys_37 dK_keys_40 dK_keys_41 dK_keys_43 dK_keys_46 htab (Nat.le_of_ble_eq_true rfl) (Nat.le_of_ble_eq_true rfl) (Nat.le_of_ble_eq_true rfl) (Nat.le_of_ble_eq_true rfl) hlk (Nat.le_of_ble_eq_true rfl) (Nat.le_of_ble_eq_true rfl) (xls_at 1 (congrArg Prod.fst hR) (by decide) rfl) hS.2.2 (thr_st hX.2) (fun t hz9 hk9 => ⟨⟨(((nI 2, nI 0, q29.2), T), pl), ⟨⟨hR.symm, hF, ⟨tl, hf46, by omega⟩, ⟨al, hf47, by omega⟩, ⟨pn, hf48, by omega⟩, trivial, hXT, hU, ⟨pn, hf48, by omega, (lowT_up hlow (by omega))⟩⟩, hO⟩, lc_P hP hk9, hD⟩, (lc_S hS hz9 hk9).F rfl⟩)
      · replace hR := hR.trans (if_neg h25)
        exact et_throw (own := "LatticeKeys") (cls := "java/lang/IllegalArgumentException") (text := "no such set, or a seed of another length") (names := ["java/lang/RuntimeException", "java/lang/Exception"]) (ik := 79) (is := 103) (ic := 83) hx hb htr ctr_IAE_0 ctr_IAE_1 ctr_IAE_2 ctr_IAE_5 hown (by decide) (by decide) (hts _ (wg_t kw_501)) (hts _ (wg_t kw_18)) (hX.2.2.2.2.2.1 3 ("LatticeKeys", 103, "no such set, or a seed of another length") rfl) (hat_IAE hts hX.2) hS.1 (hl.1.trans hml.symm) dK_keys_18 dK_keys_21 dK_keys_22 dK_keys_24 dK_keys_27 htab (Nat.le_of_ble_eq_true rfl) (Nat.le_of_ble_eq_true rfl) (Nat.le_of_ble_eq_true rfl) (Nat.le_of_ble_eq_true rfl) hlk (Nat.le_of_ble_eq_true rfl) (Nat.le_of_ble_eq_true rfl) (xls_at 0 (congrArg Prod.fst hR) (by decide) rfl) hS.2.2 (thr_st hX.2) (fun t hz9 hk9 => ⟨⟨(((nI 1, nI 0, q29.2), T), pl), ⟨⟨hR.symm, hF, ⟨tl, hf46, by omega⟩, ⟨al, hf47, by omega⟩, ⟨pn, hf48, by omega⟩, trivial, hXT, hU, ⟨pn, hf48, by omega, (lowT_up hlow (by omega))⟩⟩, hO⟩, lc_P hP hk9, hD⟩, (lc_S hS hz9 hk9).F rfl⟩)
    replace hR := hR.trans (if_neg hs22)
    by_cases hs23 : z21 = 2
    · replace hR := hR.trans (if_pos hs23)
      subst hs23
      refine lv_aload_n hx hb dK_keys_7 rfl (lv_at hl 0 rfl) ?_
      refine nw_get (C := "LatticeKeys") (TT := T_K) (N := 11) hx hb hts (wg_ft i_K) hown hK hO k_h0 (kn := 0) (ci := 0) (fl := [(3, 1), (0, 0), (3, 2), (0, 0), (3, 3), (0, 0), (3, 4), (3, 8), (3, 12), (3, 24), (3, 39)]) rfl hP rfl 1 (by decide) (hts _ (wg_t kw_375)) (fun _ h9 => h9) (cd := (0, 0)) rfl dK_keys_8 (fun v31 hv32 => ?_)
      obtain rfl := (show v31 = .int (q21.2.1 0 1) from hv32)
      obtain ⟨z32, ez32, hz42, hz43⟩ := cl_of (b := 2147483648) hf21 (by omega) (by decide)
      replace hR := bnd_step hR ez32
      refine mi_as hz42 ?_
      refine lv_iload_n hx hb dK_keys_11 rfl (lv_at hl 1 rfl) ?_
      refine mp_i (cx := []) (wr := []) hP hD hS hA [] [] rfl rfl rfl (by decide) (va_runS (As := [.int (nI 2)]) (rest := [.int (nI z32)]) F (N_K_seedLength_2 l g _ T q21.2 pl hO hU ) (va_cwS 1 hts (wg_app (wg_c kw_561 (wg_c kw_562 (wg_c kw_1 wg_n))) kw_563) rfl rfl rfl (by decide +kernel) ⟨by decide, by decide⟩) (pp_S (en_ok g) hP hD hS hA hE [] rfl rfl) rfl rfl hl.1 rfl (lv_room (Nat.le_of_ble_eq_true rfl)) dK_keys_12 ⟨Nat.le_of_ble_eq_true rfl, Nat.le_of_ble_eq_true rfl⟩) (fun r38 u32 H locs hu32 hP hD hS => ?_)
      obtain ⟨q36, pl⟩ := u32
      obtain ⟨⟨eq32, rfl, hFc32, ⟨x38, hx_38, hb_38⟩, hxp32, -⟩, hO⟩ := hu32
      have hO : okn g T q36.2 pl := hO
      have hP : va_P g.1 vcl ([] ++ pl) _ := hP
      have hD : va_D _ ([] ++ pl) := hD
      have hFc32 : frm (M_K_seedLength_2) q21.2 q36.2 := hFc32
      have hb_38 : x38 < 65 := hb_38
      replace hR := bnd_step hR eq32
      have hF := frm_tr hF hFc32 (fun k hk => by unfold M_K_seedLength_2 at hk; unfold M_K_keys; omega)
      have hf68 : q36.2.1 0 1 = nI tl := fc_F hf21 hFc32 (by unfold M_K_seedLength_2; omega)
      have hf69 : q36.2.1 0 3 = nI al := fc_F hf22 hFc32 (by unfold M_K_seedLength_2; omega)
      have hf70 : q36.2.1 0 5 = nI pn := fc_F hf23 hFc32 (by unfold M_K_seedLength_2; omega)
      obtain ⟨z33, ez33, hz44, hz45⟩ := cl_of (b := 2147483648) hx_38 (by omega) (by decide)
      replace hR := bnd_step hR ez33
      refine mi_as hz44 ?_
      have hsz27 : z33 = 64 := (nI_eq (by omega) (by omega)).mp (hz44.symm.trans hxp32)
      subst hsz27
      refine W.widen (k := 0) (n := 0) (by omega) (by omega) ?_
      refine mi_eq (tgt := 28) hx hb dK_keys_15 (by decide) (by omega) (by omega) (fun h28 => ?_) (fun h28 => ?_)
      · replace hR := hR.trans (if_pos h28)
        refine lv_aload_n hx hb dK_keys_28 rfl (lv_at hl 0 rfl) ?_
        refine nw_get (C := "LatticeKeys") (TT := T_K) (N := 11) hx hb hts (wg_ft i_K) hown hK hO k_h0 (kn := 0) (ci := 0) (fl := [(3, 1), (0, 0), (3, 2), (0, 0), (3, 3), (0, 0), (3, 4), (3, 8), (3, 12), (3, 24), (3, 39)]) rfl hP rfl 5 (by decide) (hts _ (wg_t kw_379)) (fun _ h9 => h9) (cd := (0, 0)) rfl dK_keys_29 (fun v32 hv33 => ?_)
        obtain rfl := (show v32 = .int (q36.2.1 0 5) from hv33)
        obtain ⟨z34, ez34, hz46, hz47⟩ := cl_of (b := 2147483648) hf70 (by omega) (by decide)
        replace hR := bnd_step hR ez34
        refine mi_as hz46 ?_
        refine lv_bipush (v := nI 8) hx hb dK_keys_32 (by decide) ?_
        refine mi_lt (tgt := 47) hx hb dK_keys_34 (by decide) (by omega) (by omega) (fun h29 => ?_) (fun h29 => ?_)
        · replace hR := hR.trans (if_pos h29)
          refine lv_aload_n hx hb dK_keys_47 rfl (lv_at hl 0 rfl) ?_
          refine lv_iload_n hx hb dK_keys_48 rfl (lv_at hl 1 rfl) ?_
          refine mp_i (cx := []) (wr := []) hP hD hS hA [] [] rfl rfl rfl (by decide) (va_runV (As := [.int (nI 2)]) (rest := []) F (N_K_publicLength_2 l g _ T q36.2 pl hO hU h0 k_h0) (cwV 1 hts (wg_app (wg_c kw_566 (wg_c kw_568 (wg_c ks_2 (wg_c kw_1 wg_n)))) kw_569) rfl rfl rfl (by decide +kernel) ⟨by decide, by decide⟩) (pn_W "LatticeKeys" (en_ok g) (ci := 0) (kn := 0) (fl := [(3, 1), (0, 0), (3, 2), (0, 0), (3, 3), (0, 0), (3, 4), (3, 8), (3, 12), (3, 24), (3, 39)]) hK hO k_h0 rfl hP hD hS hA hE [] rfl rfl rfl) rfl rfl hl.1 rfl (lv_room (Nat.le_of_ble_eq_true rfl)) dK_keys_49 ⟨Nat.le_of_ble_eq_true rfl, Nat.le_of_ble_eq_true rfl⟩) (fun r39 u33 H locs hu33 hP hD hS => ?_)
          obtain ⟨q37, pl⟩ := u33
          obtain ⟨⟨eq33, rfl, hFc33, ⟨x39, hx_39, hb_39⟩, hxp33, -⟩, hO⟩ := hu33
          have hO : okn g T q37.2 pl := hO
          have hP : va_P g.1 vcl ([] ++ pl) _ := hP
          have hD : va_D _ ([] ++ pl) := hD
          have hFc33 : frm (M_K_publicLength_2) q36.2 q37.2 := hFc33
          have hb_39 : x39 < 1569 := hb_39
          replace hR := bnd_step hR eq33
          have hF := frm_tr hF hFc33 (fun k hk => by unfold M_K_publicLength_2 at hk; unfold M_K_keys; omega)
          have hf71 : q37.2.1 0 1 = nI tl := fc_F hf68 hFc33 (by unfold M_K_publicLength_2; omega)
          have hf72 : q37.2.1 0 3 = nI al := fc_F hf69 hFc33 (by unfold M_K_publicLength_2; omega)
          have hf73 : q37.2.1 0 5 = nI pn := fc_F hf70 hFc33 (by unfold M_K_publicLength_2; omega)
          obtain ⟨z35, ez35, hz48, hz49⟩ := cl_of (b := 2147483648) hx_39 (by omega) (by decide)
          replace hR := bnd_step hR ez35
          refine mi_as hz48 ?_
          have hsz28 : z35 = 1568 := (nI_eq (by omega) (by omega)).mp (hz48.symm.trans hxp33)
          subst hsz28
          refine W.widen (k := 0) (n := 0) (by omega) (by omega) ?_
          have hfr33 : frT T (379 + 36 * pn + 6) := frT_low hlow (by omega)
          have hfr34 : frT T (379 + 36 * pn + 7) := frT_low hlow (by omega)
          have hfr35 : frT T (379 + 36 * pn + 8) := frT_low hlow (by omega)
          have hlw29 : lowT T (379 + 36 * (pn + 1)) := lowT_up hlow (by omega)
          refine ma_newa (ws := [] ++ pl) (atype := .byte) hx hb (hts _ (wg_t kw_72)) rfl hK hP hD hS hA 1 rfl (N' := 1568) (a0 := (1568, .inl (fun _ => 0))) (fun _ => rfl) (nI_pos (by omega)) (nI_clamp (by omega)) (by show (1568) * 1 ≤ 536870912; omega) (Nat.le_of_ble_eq_true rfl) (Nat.le_of_ble_eq_true rfl) dK_keys_52 (fun q38 H hP hD hS => ?_)
          refine W.widen (k := 1) (n := 1568) (by omega) (by omega) ?_
          obtain ⟨T, pl, hxt27, hU, kr55, hO, hP, hD, hnf27, hnl27⟩ := absorbN (sZ q37.2 (379 + 36 * pn + 7)) (379 + 36 * pn + 7) hP hD hO hU hfr34 (fun _ h9 => uA_ne h9) (fun _ _ => rfl) (fun _ _ _ => fitZ (pr_p2 (z := pn) (by omega)))
          have kr56 := hxt27 _ _ k_h0
          have hXT := extN_tr hXT hxt27
          have hfr36 := hnf27 _ (by omega) hfr33
          have hfr37 := hnf27 _ (by omega) hfr35
          have hlw30 := hnl27 _ (by omega) hlw29
          obtain ⟨s29, es27⟩ : ∃ x : Sto, x = sZ q37.2 (379 + 36 * pn + 7) := ⟨_, rfl⟩
          rw [← es27] at hO
          replace hR := bnd_step hR es27
          have hF := frm_sZ hF es27 (by unfold M_K_keys; omega)
          have hf74 : s29.1 0 1 = nI tl := fc_Z hf71 es27 (by omega)
          have hf75 : s29.1 0 3 = nI al := fc_Z hf72 es27 (by omega)
          have hf76 : s29.1 0 5 = nI pn := fc_Z hf73 es27 (by omega)
          refine lv_astore_n (lv' := [(2, .ref q38), (0, .ref h0), (1, .int (nI 2))]) hx hb dK_keys_54 rfl hl (by decide) rfl (fun ls hl => ?_)
          refine lv_aload_n hx hb dK_keys_55 rfl (lv_at hl 1 rfl) ?_
          refine lv_iload_n hx hb dK_keys_56 rfl (lv_at hl 2 rfl) ?_
          refine mp_i (cx := []) (wr := []) hP hD hS hA [] [] rfl rfl rfl (by decide) (va_runV (As := [.int (nI 2)]) (rest := []) F (N_K_secretLength_2 l g _ T s29 pl hO hU h0 kr56) (cwV 1 hts (wg_app (wg_c kw_570 (wg_c kw_572 (wg_c ks_3 (wg_c kw_1 wg_n)))) kw_573) rfl rfl rfl (by decide +kernel) ⟨by decide, by decide⟩) (pn_W "LatticeKeys" (en_ok g) (ci := 0) (kn := 0) (fl := [(3, 1), (0, 0), (3, 2), (0, 0), (3, 3), (0, 0), (3, 4), (3, 8), (3, 12), (3, 24), (3, 39)]) hK hO kr56 rfl hP hD hS hA hE [] rfl rfl rfl) rfl rfl hl.1 rfl (lv_room (Nat.le_of_ble_eq_true rfl)) dK_keys_57 ⟨Nat.le_of_ble_eq_true rfl, Nat.le_of_ble_eq_true rfl⟩) (fun r40 u34 H locs hu34 hP hD hS => ?_)
          obtain ⟨q39, pl⟩ := u34
          obtain ⟨⟨eq34, rfl, hFc34, ⟨x40, hx_40, hb_40⟩, hxp34, -⟩, hO⟩ := hu34
          have hO : okn g T q39.2 pl := hO
          have hP : va_P g.1 vcl ([] ++ pl) _ := hP
          have hD : va_D _ ([] ++ pl) := hD
          have hFc34 : frm (M_K_secretLength_2) s29 q39.2 := hFc34
          have hb_40 : x40 < 3169 := hb_40
          replace hR := bnd_step hR eq34
          have hF := frm_tr hF hFc34 (fun k hk => by unfold M_K_secretLength_2 at hk; unfold M_K_keys; omega)
          have hf77 : q39.2.1 0 1 = nI tl := fc_F hf74 hFc34 (by unfold M_K_secretLength_2; omega)
          have hf78 : q39.2.1 0 3 = nI al := fc_F hf75 hFc34 (by unfold M_K_secretLength_2; omega)
          have hf79 : q39.2.1 0 5 = nI pn := fc_F hf76 hFc34 (by unfold M_K_secretLength_2; omega)
          obtain ⟨z36, ez36, hz50, hz51⟩ := cl_of (b := 2147483648) hx_40 (by omega) (by decide)
          replace hR := bnd_step hR ez36
          refine mi_as hz50 ?_
          have hsz29 : z36 = 3168 := (nI_eq (by omega) (by omega)).mp (hz50.symm.trans hxp34)
          subst hsz29
          refine W.widen (k := 1) (n := 1568) (by omega) (by omega) ?_
          refine ma_newa (ws := [] ++ pl) (atype := .byte) hx hb (hts _ (wg_t kw_72)) rfl hK hP hD hS hA 1 rfl (N' := 3168) (a0 := (3168, .inl (fun _ => 0))) (fun _ => rfl) (nI_pos (by omega)) (nI_clamp (by omega)) (by show (3168) * 1 ≤ 536870912; omega) (Nat.le_of_ble_eq_true rfl) (Nat.le_of_ble_eq_true rfl) dK_keys_60 (fun q40 H hP hD hS => ?_)
          refine W.widen (k := 2) (n := 4736) (by omega) (by omega) ?_
          obtain ⟨T, pl, hxt28, hU, kr57, hO, hP, hD, hnf28, hnl28⟩ := absorbN (sZ q39.2 (379 + 36 * pn + 8)) (379 + 36 * pn + 8) hP hD hO hU hfr37 (fun _ h9 => uA_ne h9) (fun _ _ => rfl) (fun _ _ _ => fitZ (pr_s2 (z := pn) (by omega)))
          have kr58 := hxt28 _ _ kr56
          have kr59 := hxt28 _ _ kr55
          have hXT := extN_tr hXT hxt28
          have hfr38 := hnf28 _ (by omega) hfr36
          have hlw31 := hnl28 _ (by omega) hlw30
          obtain ⟨s30, es28⟩ : ∃ x : Sto, x = sZ q39.2 (379 + 36 * pn + 8) := ⟨_, rfl⟩
          rw [← es28] at hO
          replace hR := bnd_step hR es28
          have hF := frm_sZ hF es28 (by unfold M_K_keys; omega)
          have hf80 : s30.1 0 1 = nI tl := fc_Z hf77 es28 (by omega)
          have hf81 : s30.1 0 3 = nI al := fc_Z hf78 es28 (by omega)
          have hf82 : s30.1 0 5 = nI pn := fc_Z hf79 es28 (by omega)
          refine lv_astore_n (lv' := [(3, .ref q40), (2, .ref q38), (0, .ref h0), (1, .int (nI 2))]) hx hb dK_keys_62 rfl hl (by decide) rfl (fun ls hl => ?_)
          refine lv_iload_n hx hb dK_keys_63 rfl (lv_at hl 3 rfl) ?_
          refine lv_iconst (v := nI 3) hx hb dK_keys_64 (by decide) ?_
          refine mi_ge (tgt := 90) hx hb dK_keys_65 (by decide) (by omega) (by omega) (fun h30 => absurd h30 (by omega)) (fun h30 => ?_)
          refine lv_aload_n hx hb dK_keys_68 rfl (lv_at hl 2 rfl) ?_
          refine nw_get (C := "LatticeKeys") (TT := T_K) (N := 11) hx hb hts (wg_ft i_K) hown hK hO kr58 (kn := 0) (ci := 0) (fl := [(3, 1), (0, 0), (3, 2), (0, 0), (3, 3), (0, 0), (3, 4), (3, 8), (3, 12), (3, 24), (3, 39)]) rfl hP rfl 9 (by decide) (hts _ (wg_t kw_383)) (fun _ h9 => h9) (cd := (3, 24)) rfl dK_keys_69 (fun v33 hv34 => ?_)
          obtain ⟨r41, rfl, kr60⟩ := (show ∃ r : Nat, v33 = .ref r ∧ T r = some 24 from hv34)
          refine lv_aload_n hx hb dK_keys_72 rfl (lv_at hl 2 rfl) ?_
          refine nw_get (C := "LatticeKeys") (TT := T_K) (N := 11) hx hb hts (wg_ft i_K) hown hK hO kr58 (kn := 0) (ci := 0) (fl := [(3, 1), (0, 0), (3, 2), (0, 0), (3, 3), (0, 0), (3, 4), (3, 8), (3, 12), (3, 24), (3, 39)]) rfl hP rfl 6 (by decide) (hts _ (wg_t kw_380)) (fun _ h9 => h9) (cd := (3, 4)) rfl dK_keys_73 (fun v34 hv35 => ?_)
          obtain ⟨r42, rfl, kr61⟩ := (show ∃ r : Nat, v34 = .ref r ∧ T r = some 4 from hv35)
          refine lv_iload_n hx hb dK_keys_76 rfl (lv_at hl 3 rfl) ?_
          refine nw_aald6 hx hb hK hO kr61 (k := 4) (b := 5) rfl hP (by omega) (by omega) dK_keys_77 (fun r43 kr62 => ?_)
          refine lv_aload_n hx hb dK_keys_78 rfl (lv_at hl 2 rfl) ?_
          refine nw_get (C := "LatticeKeys") (TT := T_K) (N := 11) hx hb hts (wg_ft i_K) hown hK hO kr58 (kn := 0) (ci := 0) (fl := [(3, 1), (0, 0), (3, 2), (0, 0), (3, 3), (0, 0), (3, 4), (3, 8), (3, 12), (3, 24), (3, 39)]) rfl hP rfl 0 (by decide) (hts _ (wg_t kw_374)) (fun _ h9 => h9) (cd := (3, 1)) rfl dK_keys_79 (fun v35 hv36 => ?_)
          obtain ⟨r44, rfl, kr63⟩ := (show ∃ r : Nat, v35 = .ref r ∧ T r = some 1 from hv36)
          refine lv_aload_n hx hb dK_keys_82 rfl (lv_at hl 1 rfl) ?_
          refine lv_aload_n hx hb dK_keys_83 rfl (lv_at hl 0 rfl) ?_
          refine mp_v (cx := []) (wr := []) hP hD hS hA [] [] rfl rfl rfl (by decide) (va_runV (As := [.ref r43, .ref r44, .ref q38, .ref q40]) (rest := []) F (N_KM_makePair_2 l g _ T s30 pl hO hU r41 r43 r44 q38 q40 1 16384 (379 + 36 * pn + 7) (379 + 36 * pn + 8) kr60 kr62 kr63 rfl kr59 (pr_p2 (z := pn) (by omega)) kr57 (pr_s2 (z := pn) (by omega)) (by omega) (by omega)) (cwV 4 hts (wg_app (wg_c kw_574 (wg_c kw_575 (wg_c kw_576 (wg_c kw_3 wg_n)))) kw_577) rfl rfl rfl (by decide +kernel) ⟨by decide, by decide⟩) (pn_W "LatticeKeys$Kem" (en_ok g) (ci := 5) (kn := 24) (fl := [(3, 14), (3, 20), (3, 25), (3, 30), (3, 31), (3, 32), (3, 33), (3, 34), (3, 35), (3, 36)]) hK hO kr60 rfl hP hD hS hA hE [] rfl rfl rfl) rfl rfl hl.1 rfl (lv_room (Nat.le_of_ble_eq_true rfl)) dK_keys_84 ⟨Nat.le_of_ble_eq_true rfl, Nat.le_of_ble_eq_true rfl⟩) (fun  u35 H locs hu35 hP hD hS => ?_)
          obtain ⟨s31, pl⟩ := u35
          obtain ⟨⟨eq35, hFc35, -⟩, hO⟩ := hu35
          have hO : okn g T s31 pl := hO
          have hP : va_P g.1 vcl ([] ++ pl) _ := hP
          have hD : va_D _ ([] ++ pl) := hD
          have hFc35 : frm (M_KM_makePair_2 (379 + 36 * pn + 7) (379 + 36 * pn + 8)) s30 s31 := hFc35
          replace hR := bnd_step hR eq35
          have hF := frm_tr hF hFc35 (fun k hk => by unfold M_KM_makePair_2 at hk; unfold M_K_keys; omega)
          have hf83 : s31.1 0 1 = nI tl := fc_F hf80 hFc35 (by unfold M_KM_makePair_2; omega)
          have hf84 : s31.1 0 3 = nI al := fc_F hf81 hFc35 (by unfold M_KM_makePair_2; omega)
          have hf85 : s31.1 0 5 = nI pn := fc_F hf82 hFc35 (by unfold M_KM_makePair_2; omega)
          refine W.widen (k := 2) (n := 4736) (by omega) (by omega) ?_
          refine lv_goto (tgt := 111) hx hb dK_keys_87 (by decide) ?_
          refine lv_aload_n hx hb dK_keys_111 rfl (lv_at hl 2 rfl) ?_
          refine lv_iconst (v := nI 0) hx hb dK_keys_112 (by decide) ?_
          refine nw_put (C := "LatticeKeys") (TT := T_K) (N := 11) hx hb hts (wg_ft i_K) ty_K k_K n_K hown hK hO hU kr58 (kn := 0) (ci := 0) (fl := [(3, 1), (0, 0), (3, 2), (0, 0), (3, 3), (0, 0), (3, 4), (3, 8), (3, 12), (3, 24), (3, 39)]) rfl hP hD hS rfl 1 (by decide) (hts _ (wg_t kw_375)) (fun _ h9 => h9) rfl (by decide +kernel) rfl dK_keys_113 (fun s32 pl H locs es29 hO hP hD hS => ?_)
          replace hR := bnd_step hR es29
          have hF := frm_sI hF es29 (by unfold M_K_keys; omega)
          have hf87 : s32.1 0 3 = nI al := fc_ne hf84 es29 (by omega)
          have hf88 : s32.1 0 5 = nI pn := fc_ne hf85 es29 (by omega)
          have hf89 : s32.1 0 1 = nI 0 := fc_eq es29
          refine lv_aload_n hx hb dK_keys_116 rfl (lv_at hl 2 rfl) ?_
          refine va_new (ws := [] ++ pl) (ci := 13) (fs := [.int 0, .null, .null]) (C := "LatticeKeys$KeyPair") (T := T_KP) (N := 3) hx hb hts (wg_ft i_KP) ty_KP k_KP hown (hts _ (wg_t kw_43)) (hts _ (wg_t kw_740)) (hts _ (wg_t kw_24)) hK hP hD hS hA rfl z_KP (Nat.le_of_ble_eq_true rfl) (Nat.le_of_ble_eq_true rfl) dK_keys_117 (fun q41 H hP hD hS => ?_)
          obtain ⟨hP, hD⟩ := mv_first hP hD
          have hP : va_P g.1 vcl ([(q41, .inr (13, [.int 0, .null, .null]))] ++ pl) _ := hP
          have hD : va_D _ ([(q41, .inr (13, [.int 0, .null, .null]))] ++ pl) := hD
          refine W.widen (k := 3) (n := 4739) (by omega) (by omega) ?_
          refine lv_dup hx hb dK_keys_120 rfl ?_
          refine lv_iload_n hx hb dK_keys_121 rfl (lv_at hl 3 rfl) ?_
          refine lv_aload_n hx hb dK_keys_122 rfl (lv_at hl 1 rfl) ?_
          refine lv_aload_n hx hb dK_keys_123 rfl (lv_at hl 0 rfl) ?_
          refine mq_v (cx := [(q41, .inr (13, [.int 0, .null, .null]))]) (wr := []) hP hD hS hA [0] [] rfl rfl rfl (by decide) (va_runI (As := [.int (nI 2), .ref q38, .ref q40]) (rest := [.ref q41, .ref h0]) F (m_KP_init_s l g _ q41 q38 q40 (nI 2)) (cwI 3 hts (wg_in kw_743) rfl rfl rfl (hts _ (wg_t kw_24)) (hts _ (wg_t kw_741)) (hts _ (wg_t kw_742)) rfl (by decide +kernel) ⟨by decide, by decide⟩) (pr_S (en_ok g) hP hD hS hA hE [0] rfl rfl) rfl rfl hl.1 rfl (lv_room (Nat.le_of_ble_eq_true rfl)) dK_keys_124 ⟨Nat.le_of_ble_eq_true rfl, Nat.le_of_ble_eq_true rfl⟩) (fun _ H locs _ hP hD hS => ?_)
          obtain ⟨hP, hD⟩ := mv_last (X := []) (c := (q41, .inr (13, [.int (nI 2), .ref q38, .ref q40]))) hP hD
          refine W.widen (k := 3) (n := 4739) (by omega) (by omega) ?_
          obtain ⟨T, pl, hxt29, hU, kr64, hO, hP, hD, hnf29, hnl29⟩ := absorbN (s32) (379 + 36 * pn + 6) hP hD hO hU hfr38 (fun _ _ => rfl) (fun _ _ => rfl) (fun _ h9 _ => fitP (pr_o2 (z := pn) (by omega)) (h9 _ _ kr59) (h9 _ _ kr57))
          have kr65 := hxt29 _ _ kr58
          have kr66 := hxt29 _ _ kr59
          have kr67 := hxt29 _ _ kr57
          have kr68 := hxt29 _ _ kr60
          have kr69 := hxt29 _ _ kr61
          have kr70 := hxt29 _ _ kr62
          have kr71 := hxt29 _ _ kr63
          have hXT := extN_tr hXT hxt29
          have hlw32 := hnl29 _ (by omega) hlw31
          refine mp_i (cx := []) (wr := []) hP hD hS hA [] [] rfl rfl rfl (by decide) (va_runV (As := [.ref q41]) (rest := []) F (N_K_keep l g _ T s32 pl hO hU h0 q41 2 0 al pn kr65 kr64 hf89 hf87 hf88 (by omega) (by omega) (by omega) (by omega)) (cwV 1 hts (wg_app (wg_c kw_760 (wg_c kw_762 (wg_c ks_19 (wg_c kw_1 wg_n)))) kw_763) rfl rfl rfl (by decide +kernel) ⟨by decide, by decide⟩) (pn_W "LatticeKeys" (en_ok g) (ci := 0) (kn := 0) (fl := [(3, 1), (0, 0), (3, 2), (0, 0), (3, 3), (0, 0), (3, 4), (3, 8), (3, 12), (3, 24), (3, 39)]) hK hO kr65 rfl hP hD hS hA hE [] rfl rfl rfl) rfl rfl hl.1 rfl (lv_room (Nat.le_of_ble_eq_true rfl)) dK_keys_127 ⟨Nat.le_of_ble_eq_true rfl, Nat.le_of_ble_eq_true rfl⟩) (fun r45 u36 H locs hu36 hP hD hS => ?_)
          obtain ⟨q42, pl⟩ := u36
          obtain ⟨⟨eq36, rfl, hFc36, ⟨x42, hx_42, hb_42⟩, ⟨x43, hx_43, hb_43⟩, ⟨x44, hx_44, hb_44⟩, -⟩, hO⟩ := hu36
          have hO : okn g T q42.2 pl := hO
          have hP : va_P g.1 vcl ([] ++ pl) _ := hP
          have hD : va_D _ ([] ++ pl) := hD
          have hFc36 : frm (M_K_keep) s32 q42.2 := hFc36
          have hb_42 : x42 = 0 := hb_42
          have hb_43 : x43 = al := hb_43
          have hb_44 : x44 = pn + 1 := hb_44
          replace hR := bnd_step hR eq36
          have hF := frm_tr hF hFc36 (fun k hk => by unfold M_K_keep at hk; unfold M_K_keys; omega)
          refine W.widen (k := 3) (n := 4739) (by omega) (by omega) ?_
          refine et_ret ?_
          exact mp_iret hx hb hr hlk hP hD hS (((nI 0, q42.1, q42.2), T), pl) ⟨⟨hR.symm, rfl, rfl, hF, ⟨x42, hx_42, by omega⟩, ⟨x43, hx_43, by omega⟩, ⟨x44, hx_44, by omega⟩, trivial, hXT, hU, ⟨x44, hx_44, by omega, (lowT_up hlw32 (by omega))⟩⟩, hO⟩ [] rfl rfl rfl (by omega) (by omega) dK_keys_130
        · replace hR := hR.trans (if_neg (Nat.not_lt.mpr h29))
          exact et_throw (own := "LatticeKeys") (cls := "java/lang/IllegalStateException") (text := "no room for more keys") (names := ["java/lang/RuntimeException", "java/lang/Exception"]) (ik := 69) (is := 105) (ic := 73) hx hb htr ctr_ISE_0 ctr_ISE_1 ctr_ISE_2 ctr_ISE_5 hown (by decide) (by decide) (hts _ (wg_t kw_420)) (hts _ (wg_t kw_17)) (hX.2.2.2.2.2.1 4 ("LatticeKeys", 105, "no room for more keys") rfl) (hat_ISE hts hX.2) hS.1 (hl.1.trans hml.symm) dK_keys_37 dK_keys_40 dK_keys_41 dK_keys_43 dK_keys_46 htab (Nat.le_of_ble_eq_true rfl) (Nat.le_of_ble_eq_true rfl) (Nat.le_of_ble_eq_true rfl) (Nat.le_of_ble_eq_true rfl) hlk (Nat.le_of_ble_eq_true rfl) (Nat.le_of_ble_eq_true rfl) (xls_at 1 (congrArg Prod.fst hR) (by decide) rfl) hS.2.2 (thr_st hX.2) (fun t hz9 hk9 => ⟨⟨(((nI 2, nI 0, q36.2), T), pl), ⟨⟨hR.symm, hF, ⟨tl, hf68, by omega⟩, ⟨al, hf69, by omega⟩, ⟨pn, hf70, by omega⟩, trivial, hXT, hU, ⟨pn, hf70, by omega, (lowT_up hlow (by omega))⟩⟩, hO⟩, lc_P hP hk9, hD⟩, (lc_S hS hz9 hk9).F rfl⟩)
      · replace hR := hR.trans (if_neg h28)
        exact et_throw (own := "LatticeKeys") (cls := "java/lang/IllegalArgumentException") (text := "no such set, or a seed of another length") (names := ["java/lang/RuntimeException", "java/lang/Exception"]) (ik := 79) (is := 103) (ic := 83) hx hb htr ctr_IAE_0 ctr_IAE_1 ctr_IAE_2 ctr_IAE_5 hown (by decide) (by decide) (hts _ (wg_t kw_501)) (hts _ (wg_t kw_18)) (hX.2.2.2.2.2.1 3 ("LatticeKeys", 103, "no such set, or a seed of another length") rfl) (hat_IAE hts hX.2) hS.1 (hl.1.trans hml.symm) dK_keys_18 dK_keys_21 dK_keys_22 dK_keys_24 dK_keys_27 htab (Nat.le_of_ble_eq_true rfl) (Nat.le_of_ble_eq_true rfl) (Nat.le_of_ble_eq_true rfl) (Nat.le_of_ble_eq_true rfl) hlk (Nat.le_of_ble_eq_true rfl) (Nat.le_of_ble_eq_true rfl) (xls_at 0 (congrArg Prod.fst hR) (by decide) rfl) hS.2.2 (thr_st hX.2) (fun t hz9 hk9 => ⟨⟨(((nI 1, nI 0, q36.2), T), pl), ⟨⟨hR.symm, hF, ⟨tl, hf68, by omega⟩, ⟨al, hf69, by omega⟩, ⟨pn, hf70, by omega⟩, trivial, hXT, hU, ⟨pn, hf70, by omega, (lowT_up hlow (by omega))⟩⟩, hO⟩, lc_P hP hk9, hD⟩, (lc_S hS hz9 hk9).F rfl⟩)
    replace hR := hR.trans (if_neg hs23)
    by_cases hs24 : z21 = 3
    · replace hR := hR.trans (if_pos hs24)
      subst hs24
      refine lv_aload_n hx hb dK_keys_7 rfl (lv_at hl 0 rfl) ?_
      refine nw_get (C := "LatticeKeys") (TT := T_K) (N := 11) hx hb hts (wg_ft i_K) hown hK hO k_h0 (kn := 0) (ci := 0) (fl := [(3, 1), (0, 0), (3, 2), (0, 0), (3, 3), (0, 0), (3, 4), (3, 8), (3, 12), (3, 24), (3, 39)]) rfl hP rfl 1 (by decide) (hts _ (wg_t kw_375)) (fun _ h9 => h9) (cd := (0, 0)) rfl dK_keys_8 (fun v36 hv37 => ?_)
      obtain rfl := (show v36 = .int (q21.2.1 0 1) from hv37)
      obtain ⟨z37, ez37, hz52, hz53⟩ := cl_of (b := 2147483648) hf21 (by omega) (by decide)
      replace hR := bnd_step hR ez37
      refine mi_as hz52 ?_
      refine lv_iload_n hx hb dK_keys_11 rfl (lv_at hl 1 rfl) ?_
      refine mp_i (cx := []) (wr := []) hP hD hS hA [] [] rfl rfl rfl (by decide) (va_runS (As := [.int (nI 3)]) (rest := [.int (nI z37)]) F (N_K_seedLength_3 l g _ T q21.2 pl hO hU ) (va_cwS 1 hts (wg_app (wg_c kw_561 (wg_c kw_562 (wg_c kw_1 wg_n))) kw_563) rfl rfl rfl (by decide +kernel) ⟨by decide, by decide⟩) (pp_S (en_ok g) hP hD hS hA hE [] rfl rfl) rfl rfl hl.1 rfl (lv_room (Nat.le_of_ble_eq_true rfl)) dK_keys_12 ⟨Nat.le_of_ble_eq_true rfl, Nat.le_of_ble_eq_true rfl⟩) (fun r46 u37 H locs hu37 hP hD hS => ?_)
      obtain ⟨q43, pl⟩ := u37
      obtain ⟨⟨eq37, rfl, hFc37, ⟨x46, hx_46, hb_46⟩, hxp37, -⟩, hO⟩ := hu37
      have hO : okn g T q43.2 pl := hO
      have hP : va_P g.1 vcl ([] ++ pl) _ := hP
      have hD : va_D _ ([] ++ pl) := hD
      have hFc37 : frm (M_K_seedLength_3) q21.2 q43.2 := hFc37
      have hb_46 : x46 < 33 := hb_46
      replace hR := bnd_step hR eq37
      have hF := frm_tr hF hFc37 (fun k hk => by unfold M_K_seedLength_3 at hk; unfold M_K_keys; omega)
      have hf90 : q43.2.1 0 1 = nI tl := fc_F hf21 hFc37 (by unfold M_K_seedLength_3; omega)
      have hf91 : q43.2.1 0 3 = nI al := fc_F hf22 hFc37 (by unfold M_K_seedLength_3; omega)
      have hf92 : q43.2.1 0 5 = nI pn := fc_F hf23 hFc37 (by unfold M_K_seedLength_3; omega)
      obtain ⟨z38, ez38, hz54, hz55⟩ := cl_of (b := 2147483648) hx_46 (by omega) (by decide)
      replace hR := bnd_step hR ez38
      refine mi_as hz54 ?_
      have hsz30 : z38 = 32 := (nI_eq (by omega) (by omega)).mp (hz54.symm.trans hxp37)
      subst hsz30
      refine W.widen (k := 0) (n := 0) (by omega) (by omega) ?_
      refine mi_eq (tgt := 28) hx hb dK_keys_15 (by decide) (by omega) (by omega) (fun h31 => ?_) (fun h31 => ?_)
      · replace hR := hR.trans (if_pos h31)
        refine lv_aload_n hx hb dK_keys_28 rfl (lv_at hl 0 rfl) ?_
        refine nw_get (C := "LatticeKeys") (TT := T_K) (N := 11) hx hb hts (wg_ft i_K) hown hK hO k_h0 (kn := 0) (ci := 0) (fl := [(3, 1), (0, 0), (3, 2), (0, 0), (3, 3), (0, 0), (3, 4), (3, 8), (3, 12), (3, 24), (3, 39)]) rfl hP rfl 5 (by decide) (hts _ (wg_t kw_379)) (fun _ h9 => h9) (cd := (0, 0)) rfl dK_keys_29 (fun v37 hv38 => ?_)
        obtain rfl := (show v37 = .int (q43.2.1 0 5) from hv38)
        obtain ⟨z39, ez39, hz56, hz57⟩ := cl_of (b := 2147483648) hf92 (by omega) (by decide)
        replace hR := bnd_step hR ez39
        refine mi_as hz56 ?_
        refine lv_bipush (v := nI 8) hx hb dK_keys_32 (by decide) ?_
        refine mi_lt (tgt := 47) hx hb dK_keys_34 (by decide) (by omega) (by omega) (fun h32 => ?_) (fun h32 => ?_)
        · replace hR := hR.trans (if_pos h32)
          refine lv_aload_n hx hb dK_keys_47 rfl (lv_at hl 0 rfl) ?_
          refine lv_iload_n hx hb dK_keys_48 rfl (lv_at hl 1 rfl) ?_
          refine mp_i (cx := []) (wr := []) hP hD hS hA [] [] rfl rfl rfl (by decide) (va_runV (As := [.int (nI 3)]) (rest := []) F (N_K_publicLength_3 l g _ T q43.2 pl hO hU h0 k_h0) (cwV 1 hts (wg_app (wg_c kw_566 (wg_c kw_568 (wg_c ks_2 (wg_c kw_1 wg_n)))) kw_569) rfl rfl rfl (by decide +kernel) ⟨by decide, by decide⟩) (pn_W "LatticeKeys" (en_ok g) (ci := 0) (kn := 0) (fl := [(3, 1), (0, 0), (3, 2), (0, 0), (3, 3), (0, 0), (3, 4), (3, 8), (3, 12), (3, 24), (3, 39)]) hK hO k_h0 rfl hP hD hS hA hE [] rfl rfl rfl) rfl rfl hl.1 rfl (lv_room (Nat.le_of_ble_eq_true rfl)) dK_keys_49 ⟨Nat.le_of_ble_eq_true rfl, Nat.le_of_ble_eq_true rfl⟩) (fun r47 u38 H locs hu38 hP hD hS => ?_)
          obtain ⟨q44, pl⟩ := u38
          obtain ⟨⟨eq38, rfl, hFc38, ⟨x47, hx_47, hb_47⟩, hxp38, -⟩, hO⟩ := hu38
          have hO : okn g T q44.2 pl := hO
          have hP : va_P g.1 vcl ([] ++ pl) _ := hP
          have hD : va_D _ ([] ++ pl) := hD
          have hFc38 : frm (M_K_publicLength_3) q43.2 q44.2 := hFc38
          have hb_47 : x47 < 1313 := hb_47
          replace hR := bnd_step hR eq38
          have hF := frm_tr hF hFc38 (fun k hk => by unfold M_K_publicLength_3 at hk; unfold M_K_keys; omega)
          have hf93 : q44.2.1 0 1 = nI tl := fc_F hf90 hFc38 (by unfold M_K_publicLength_3; omega)
          have hf94 : q44.2.1 0 3 = nI al := fc_F hf91 hFc38 (by unfold M_K_publicLength_3; omega)
          have hf95 : q44.2.1 0 5 = nI pn := fc_F hf92 hFc38 (by unfold M_K_publicLength_3; omega)
          obtain ⟨z40, ez40, hz58, hz59⟩ := cl_of (b := 2147483648) hx_47 (by omega) (by decide)
          replace hR := bnd_step hR ez40
          refine mi_as hz58 ?_
          have hsz31 : z40 = 1312 := (nI_eq (by omega) (by omega)).mp (hz58.symm.trans hxp38)
          subst hsz31
          refine W.widen (k := 0) (n := 0) (by omega) (by omega) ?_
          have hfr39 : frT T (379 + 36 * pn + 9) := frT_low hlow (by omega)
          have hfr40 : frT T (379 + 36 * pn + 10) := frT_low hlow (by omega)
          have hfr41 : frT T (379 + 36 * pn + 11) := frT_low hlow (by omega)
          have hlw33 : lowT T (379 + 36 * (pn + 1)) := lowT_up hlow (by omega)
          refine ma_newa (ws := [] ++ pl) (atype := .byte) hx hb (hts _ (wg_t kw_72)) rfl hK hP hD hS hA 1 rfl (N' := 1312) (a0 := (1312, .inl (fun _ => 0))) (fun _ => rfl) (nI_pos (by omega)) (nI_clamp (by omega)) (by show (1312) * 1 ≤ 536870912; omega) (Nat.le_of_ble_eq_true rfl) (Nat.le_of_ble_eq_true rfl) dK_keys_52 (fun q45 H hP hD hS => ?_)
          refine W.widen (k := 1) (n := 1312) (by omega) (by omega) ?_
          obtain ⟨T, pl, hxt30, hU, kr72, hO, hP, hD, hnf30, hnl30⟩ := absorbN (sZ q44.2 (379 + 36 * pn + 10)) (379 + 36 * pn + 10) hP hD hO hU hfr40 (fun _ h9 => uA_ne h9) (fun _ _ => rfl) (fun _ _ _ => fitZ (pr_p3 (z := pn) (by omega)))
          have kr73 := hxt30 _ _ k_h0
          have hXT := extN_tr hXT hxt30
          have hfr42 := hnf30 _ (by omega) hfr39
          have hfr43 := hnf30 _ (by omega) hfr41
          have hlw34 := hnl30 _ (by omega) hlw33
          obtain ⟨s33, es30⟩ : ∃ x : Sto, x = sZ q44.2 (379 + 36 * pn + 10) := ⟨_, rfl⟩
          rw [← es30] at hO
          replace hR := bnd_step hR es30
          have hF := frm_sZ hF es30 (by unfold M_K_keys; omega)
          have hf96 : s33.1 0 1 = nI tl := fc_Z hf93 es30 (by omega)
          have hf97 : s33.1 0 3 = nI al := fc_Z hf94 es30 (by omega)
          have hf98 : s33.1 0 5 = nI pn := fc_Z hf95 es30 (by omega)
          refine lv_astore_n (lv' := [(2, .ref q45), (0, .ref h0), (1, .int (nI 3))]) hx hb dK_keys_54 rfl hl (by decide) rfl (fun ls hl => ?_)
          refine lv_aload_n hx hb dK_keys_55 rfl (lv_at hl 1 rfl) ?_
          refine lv_iload_n hx hb dK_keys_56 rfl (lv_at hl 2 rfl) ?_
          refine mp_i (cx := []) (wr := []) hP hD hS hA [] [] rfl rfl rfl (by decide) (va_runV (As := [.int (nI 3)]) (rest := []) F (N_K_secretLength_3 l g _ T s33 pl hO hU h0 kr73) (cwV 1 hts (wg_app (wg_c kw_570 (wg_c kw_572 (wg_c ks_3 (wg_c kw_1 wg_n)))) kw_573) rfl rfl rfl (by decide +kernel) ⟨by decide, by decide⟩) (pn_W "LatticeKeys" (en_ok g) (ci := 0) (kn := 0) (fl := [(3, 1), (0, 0), (3, 2), (0, 0), (3, 3), (0, 0), (3, 4), (3, 8), (3, 12), (3, 24), (3, 39)]) hK hO kr73 rfl hP hD hS hA hE [] rfl rfl rfl) rfl rfl hl.1 rfl (lv_room (Nat.le_of_ble_eq_true rfl)) dK_keys_57 ⟨Nat.le_of_ble_eq_true rfl, Nat.le_of_ble_eq_true rfl⟩) (fun r48 u39 H locs hu39 hP hD hS => ?_)
          obtain ⟨q46, pl⟩ := u39
          obtain ⟨⟨eq39, rfl, hFc39, ⟨x48, hx_48, hb_48⟩, hxp39, -⟩, hO⟩ := hu39
          have hO : okn g T q46.2 pl := hO
          have hP : va_P g.1 vcl ([] ++ pl) _ := hP
          have hD : va_D _ ([] ++ pl) := hD
          have hFc39 : frm (M_K_secretLength_3) s33 q46.2 := hFc39
          have hb_48 : x48 < 2561 := hb_48
          replace hR := bnd_step hR eq39
          have hF := frm_tr hF hFc39 (fun k hk => by unfold M_K_secretLength_3 at hk; unfold M_K_keys; omega)
          have hf99 : q46.2.1 0 1 = nI tl := fc_F hf96 hFc39 (by unfold M_K_secretLength_3; omega)
          have hf100 : q46.2.1 0 3 = nI al := fc_F hf97 hFc39 (by unfold M_K_secretLength_3; omega)
          have hf101 : q46.2.1 0 5 = nI pn := fc_F hf98 hFc39 (by unfold M_K_secretLength_3; omega)
          obtain ⟨z41, ez41, hz60, hz61⟩ := cl_of (b := 2147483648) hx_48 (by omega) (by decide)
          replace hR := bnd_step hR ez41
          refine mi_as hz60 ?_
          have hsz32 : z41 = 2560 := (nI_eq (by omega) (by omega)).mp (hz60.symm.trans hxp39)
          subst hsz32
          refine W.widen (k := 1) (n := 1312) (by omega) (by omega) ?_
          refine ma_newa (ws := [] ++ pl) (atype := .byte) hx hb (hts _ (wg_t kw_72)) rfl hK hP hD hS hA 1 rfl (N' := 2560) (a0 := (2560, .inl (fun _ => 0))) (fun _ => rfl) (nI_pos (by omega)) (nI_clamp (by omega)) (by show (2560) * 1 ≤ 536870912; omega) (Nat.le_of_ble_eq_true rfl) (Nat.le_of_ble_eq_true rfl) dK_keys_60 (fun q47 H hP hD hS => ?_)
          refine W.widen (k := 2) (n := 3872) (by omega) (by omega) ?_
          obtain ⟨T, pl, hxt31, hU, kr74, hO, hP, hD, hnf31, hnl31⟩ := absorbN (sZ q46.2 (379 + 36 * pn + 11)) (379 + 36 * pn + 11) hP hD hO hU hfr43 (fun _ h9 => uA_ne h9) (fun _ _ => rfl) (fun _ _ _ => fitZ (pr_s3 (z := pn) (by omega)))
          have kr75 := hxt31 _ _ kr73
          have kr76 := hxt31 _ _ kr72
          have hXT := extN_tr hXT hxt31
          have hfr44 := hnf31 _ (by omega) hfr42
          have hlw35 := hnl31 _ (by omega) hlw34
          obtain ⟨s34, es31⟩ : ∃ x : Sto, x = sZ q46.2 (379 + 36 * pn + 11) := ⟨_, rfl⟩
          rw [← es31] at hO
          replace hR := bnd_step hR es31
          have hF := frm_sZ hF es31 (by unfold M_K_keys; omega)
          have hf102 : s34.1 0 1 = nI tl := fc_Z hf99 es31 (by omega)
          have hf103 : s34.1 0 3 = nI al := fc_Z hf100 es31 (by omega)
          have hf104 : s34.1 0 5 = nI pn := fc_Z hf101 es31 (by omega)
          refine lv_astore_n (lv' := [(3, .ref q47), (2, .ref q45), (0, .ref h0), (1, .int (nI 3))]) hx hb dK_keys_62 rfl hl (by decide) rfl (fun ls hl => ?_)
          refine lv_iload_n hx hb dK_keys_63 rfl (lv_at hl 3 rfl) ?_
          refine lv_iconst (v := nI 3) hx hb dK_keys_64 (by decide) ?_
          refine mi_ge (tgt := 90) hx hb dK_keys_65 (by decide) (by omega) (by omega) (fun h33 => ?_) (fun h33 => absurd h33 (by omega))
          refine lv_aload_n hx hb dK_keys_90 rfl (lv_at hl 2 rfl) ?_
          refine nw_get (C := "LatticeKeys") (TT := T_K) (N := 11) hx hb hts (wg_ft i_K) hown hK hO kr75 (kn := 0) (ci := 0) (fl := [(3, 1), (0, 0), (3, 2), (0, 0), (3, 3), (0, 0), (3, 4), (3, 8), (3, 12), (3, 24), (3, 39)]) rfl hP rfl 10 (by decide) (hts _ (wg_t kw_384)) (fun _ h9 => h9) (cd := (3, 39)) rfl dK_keys_91 (fun v38 hv39 => ?_)
          obtain ⟨r49, rfl, kr77⟩ := (show ∃ r : Nat, v38 = .ref r ∧ T r = some 39 from hv39)
          refine lv_aload_n hx hb dK_keys_94 rfl (lv_at hl 2 rfl) ?_
          refine nw_get (C := "LatticeKeys") (TT := T_K) (N := 11) hx hb hts (wg_ft i_K) hown hK hO kr75 (kn := 0) (ci := 0) (fl := [(3, 1), (0, 0), (3, 2), (0, 0), (3, 3), (0, 0), (3, 4), (3, 8), (3, 12), (3, 24), (3, 39)]) rfl hP rfl 7 (by decide) (hts _ (wg_t kw_381)) (fun _ h9 => h9) (cd := (3, 8)) rfl dK_keys_95 (fun v39 hv40 => ?_)
          obtain ⟨r50, rfl, kr78⟩ := (show ∃ r : Nat, v39 = .ref r ∧ T r = some 8 from hv40)
          refine lv_iload_n hx hb dK_keys_98 rfl (lv_at hl 3 rfl) ?_
          refine lv_iconst (v := nI 3) hx hb dK_keys_99 (by decide) ?_
          refine mi_isub hx hb dK_keys_100 (by omega) ?_
          refine mi_as (show nI (3 - 3) = nI 0 from rfl) ?_
          refine nw_aald7 hx hb hK hO kr78 (k := 8) (b := 9) rfl hP (by omega) (by omega) dK_keys_101 (fun r51 kr79 => ?_)
          refine lv_aload_n hx hb dK_keys_102 rfl (lv_at hl 2 rfl) ?_
          refine nw_get (C := "LatticeKeys") (TT := T_K) (N := 11) hx hb hts (wg_ft i_K) hown hK hO kr75 (kn := 0) (ci := 0) (fl := [(3, 1), (0, 0), (3, 2), (0, 0), (3, 3), (0, 0), (3, 4), (3, 8), (3, 12), (3, 24), (3, 39)]) rfl hP rfl 0 (by decide) (hts _ (wg_t kw_374)) (fun _ h9 => h9) (cd := (3, 1)) rfl dK_keys_103 (fun v40 hv41 => ?_)
          obtain ⟨r52, rfl, kr80⟩ := (show ∃ r : Nat, v40 = .ref r ∧ T r = some 1 from hv41)
          refine lv_aload_n hx hb dK_keys_106 rfl (lv_at hl 1 rfl) ?_
          refine lv_aload_n hx hb dK_keys_107 rfl (lv_at hl 0 rfl) ?_
          refine mp_v (cx := []) (wr := []) hP hD hS hA [] [] rfl rfl rfl (by decide) (va_runV (As := [.ref r51, .ref r52, .ref q45, .ref q47]) (rest := []) F (N_DA_makePair_0 l g _ T s34 pl hO hU r49 r51 r52 q45 q47 1 16384 (379 + 36 * pn + 10) (379 + 36 * pn + 11) kr77 kr79 kr80 rfl kr76 (pr_p3 (z := pn) (by omega)) kr74 (pr_s3 (z := pn) (by omega)) (by omega) (by omega)) (cwV 4 hts (wg_app (wg_c kw_665 (wg_c kw_666 (wg_c kw_667 (wg_c kw_5 wg_n)))) kw_668) rfl rfl rfl (by decide +kernel) ⟨by decide, by decide⟩) (pn_W "LatticeKeys$Dsa" (en_ok g) (ci := 6) (kn := 39) (fl := [(3, 16), (3, 22), (3, 37), (3, 40), (3, 97), (3, 105), (3, 114), (3, 123), (3, 131), (3, 140), (3, 141), (3, 142), (3, 143), (3, 144), (3, 145), (3, 146), (3, 147)]) hK hO kr77 rfl hP hD hS hA hE [] rfl rfl rfl) rfl rfl hl.1 rfl (lv_room (Nat.le_of_ble_eq_true rfl)) dK_keys_108 ⟨Nat.le_of_ble_eq_true rfl, Nat.le_of_ble_eq_true rfl⟩) (fun  u40 H locs hu40 hP hD hS => ?_)
          obtain ⟨s35, pl⟩ := u40
          obtain ⟨⟨eq40, hFc40, -⟩, hO⟩ := hu40
          have hO : okn g T s35 pl := hO
          have hP : va_P g.1 vcl ([] ++ pl) _ := hP
          have hD : va_D _ ([] ++ pl) := hD
          have hFc40 : frm (M_DA_makePair_0 (379 + 36 * pn + 10) (379 + 36 * pn + 11)) s34 s35 := hFc40
          replace hR := bnd_step hR eq40
          have hF := frm_tr hF hFc40 (fun k hk => by unfold M_DA_makePair_0 at hk; unfold M_K_keys; omega)
          have hf105 : s35.1 0 1 = nI tl := fc_F hf102 hFc40 (by unfold M_DA_makePair_0; omega)
          have hf106 : s35.1 0 3 = nI al := fc_F hf103 hFc40 (by unfold M_DA_makePair_0; omega)
          have hf107 : s35.1 0 5 = nI pn := fc_F hf104 hFc40 (by unfold M_DA_makePair_0; omega)
          refine W.widen (k := 2) (n := 3872) (by omega) (by omega) ?_
          refine lv_aload_n hx hb dK_keys_111 rfl (lv_at hl 2 rfl) ?_
          refine lv_iconst (v := nI 0) hx hb dK_keys_112 (by decide) ?_
          refine nw_put (C := "LatticeKeys") (TT := T_K) (N := 11) hx hb hts (wg_ft i_K) ty_K k_K n_K hown hK hO hU kr75 (kn := 0) (ci := 0) (fl := [(3, 1), (0, 0), (3, 2), (0, 0), (3, 3), (0, 0), (3, 4), (3, 8), (3, 12), (3, 24), (3, 39)]) rfl hP hD hS rfl 1 (by decide) (hts _ (wg_t kw_375)) (fun _ h9 => h9) rfl (by decide +kernel) rfl dK_keys_113 (fun s36 pl H locs es32 hO hP hD hS => ?_)
          replace hR := bnd_step hR es32
          have hF := frm_sI hF es32 (by unfold M_K_keys; omega)
          have hf109 : s36.1 0 3 = nI al := fc_ne hf106 es32 (by omega)
          have hf110 : s36.1 0 5 = nI pn := fc_ne hf107 es32 (by omega)
          have hf111 : s36.1 0 1 = nI 0 := fc_eq es32
          refine lv_aload_n hx hb dK_keys_116 rfl (lv_at hl 2 rfl) ?_
          refine va_new (ws := [] ++ pl) (ci := 13) (fs := [.int 0, .null, .null]) (C := "LatticeKeys$KeyPair") (T := T_KP) (N := 3) hx hb hts (wg_ft i_KP) ty_KP k_KP hown (hts _ (wg_t kw_43)) (hts _ (wg_t kw_740)) (hts _ (wg_t kw_24)) hK hP hD hS hA rfl z_KP (Nat.le_of_ble_eq_true rfl) (Nat.le_of_ble_eq_true rfl) dK_keys_117 (fun q48 H hP hD hS => ?_)
          obtain ⟨hP, hD⟩ := mv_first hP hD
          have hP : va_P g.1 vcl ([(q48, .inr (13, [.int 0, .null, .null]))] ++ pl) _ := hP
          have hD : va_D _ ([(q48, .inr (13, [.int 0, .null, .null]))] ++ pl) := hD
          refine W.widen (k := 3) (n := 3875) (by omega) (by omega) ?_
          refine lv_dup hx hb dK_keys_120 rfl ?_
          refine lv_iload_n hx hb dK_keys_121 rfl (lv_at hl 3 rfl) ?_
          refine lv_aload_n hx hb dK_keys_122 rfl (lv_at hl 1 rfl) ?_
          refine lv_aload_n hx hb dK_keys_123 rfl (lv_at hl 0 rfl) ?_
          refine mq_v (cx := [(q48, .inr (13, [.int 0, .null, .null]))]) (wr := []) hP hD hS hA [0] [] rfl rfl rfl (by decide) (va_runI (As := [.int (nI 3), .ref q45, .ref q47]) (rest := [.ref q48, .ref h0]) F (m_KP_init_s l g _ q48 q45 q47 (nI 3)) (cwI 3 hts (wg_in kw_743) rfl rfl rfl (hts _ (wg_t kw_24)) (hts _ (wg_t kw_741)) (hts _ (wg_t kw_742)) rfl (by decide +kernel) ⟨by decide, by decide⟩) (pr_S (en_ok g) hP hD hS hA hE [0] rfl rfl) rfl rfl hl.1 rfl (lv_room (Nat.le_of_ble_eq_true rfl)) dK_keys_124 ⟨Nat.le_of_ble_eq_true rfl, Nat.le_of_ble_eq_true rfl⟩) (fun _ H locs _ hP hD hS => ?_)
          obtain ⟨hP, hD⟩ := mv_last (X := []) (c := (q48, .inr (13, [.int (nI 3), .ref q45, .ref q47]))) hP hD
          refine W.widen (k := 3) (n := 3875) (by omega) (by omega) ?_
          obtain ⟨T, pl, hxt32, hU, kr81, hO, hP, hD, hnf32, hnl32⟩ := absorbN (s36) (379 + 36 * pn + 9) hP hD hO hU hfr44 (fun _ _ => rfl) (fun _ _ => rfl) (fun _ h9 _ => fitP (pr_o3 (z := pn) (by omega)) (h9 _ _ kr76) (h9 _ _ kr74))
          have kr82 := hxt32 _ _ kr75
          have kr83 := hxt32 _ _ kr76
          have kr84 := hxt32 _ _ kr74
          have kr85 := hxt32 _ _ kr77
          have kr86 := hxt32 _ _ kr78
          have kr87 := hxt32 _ _ kr79
          have kr88 := hxt32 _ _ kr80
          have hXT := extN_tr hXT hxt32
          have hlw36 := hnl32 _ (by omega) hlw35
          refine mp_i (cx := []) (wr := []) hP hD hS hA [] [] rfl rfl rfl (by decide) (va_runV (As := [.ref q48]) (rest := []) F (N_K_keep l g _ T s36 pl hO hU h0 q48 3 0 al pn kr82 kr81 hf111 hf109 hf110 (by omega) (by omega) (by omega) (by omega)) (cwV 1 hts (wg_app (wg_c kw_760 (wg_c kw_762 (wg_c ks_19 (wg_c kw_1 wg_n)))) kw_763) rfl rfl rfl (by decide +kernel) ⟨by decide, by decide⟩) (pn_W "LatticeKeys" (en_ok g) (ci := 0) (kn := 0) (fl := [(3, 1), (0, 0), (3, 2), (0, 0), (3, 3), (0, 0), (3, 4), (3, 8), (3, 12), (3, 24), (3, 39)]) hK hO kr82 rfl hP hD hS hA hE [] rfl rfl rfl) rfl rfl hl.1 rfl (lv_room (Nat.le_of_ble_eq_true rfl)) dK_keys_127 ⟨Nat.le_of_ble_eq_true rfl, Nat.le_of_ble_eq_true rfl⟩) (fun r53 u41 H locs hu41 hP hD hS => ?_)
          obtain ⟨q49, pl⟩ := u41
          obtain ⟨⟨eq41, rfl, hFc41, ⟨x50, hx_50, hb_50⟩, ⟨x51, hx_51, hb_51⟩, ⟨x52, hx_52, hb_52⟩, -⟩, hO⟩ := hu41
          have hO : okn g T q49.2 pl := hO
          have hP : va_P g.1 vcl ([] ++ pl) _ := hP
          have hD : va_D _ ([] ++ pl) := hD
          have hFc41 : frm (M_K_keep) s36 q49.2 := hFc41
          have hb_50 : x50 = 0 := hb_50
          have hb_51 : x51 = al := hb_51
          have hb_52 : x52 = pn + 1 := hb_52
          replace hR := bnd_step hR eq41
          have hF := frm_tr hF hFc41 (fun k hk => by unfold M_K_keep at hk; unfold M_K_keys; omega)
          refine W.widen (k := 3) (n := 3875) (by omega) (by omega) ?_
          refine et_ret ?_
          exact mp_iret hx hb hr hlk hP hD hS (((nI 0, q49.1, q49.2), T), pl) ⟨⟨hR.symm, rfl, rfl, hF, ⟨x50, hx_50, by omega⟩, ⟨x51, hx_51, by omega⟩, ⟨x52, hx_52, by omega⟩, trivial, hXT, hU, ⟨x52, hx_52, by omega, (lowT_up hlw36 (by omega))⟩⟩, hO⟩ [] rfl rfl rfl (by omega) (by omega) dK_keys_130
        · replace hR := hR.trans (if_neg (Nat.not_lt.mpr h32))
          exact et_throw (own := "LatticeKeys") (cls := "java/lang/IllegalStateException") (text := "no room for more keys") (names := ["java/lang/RuntimeException", "java/lang/Exception"]) (ik := 69) (is := 105) (ic := 73) hx hb htr ctr_ISE_0 ctr_ISE_1 ctr_ISE_2 ctr_ISE_5 hown (by decide) (by decide) (hts _ (wg_t kw_420)) (hts _ (wg_t kw_17)) (hX.2.2.2.2.2.1 4 ("LatticeKeys", 105, "no room for more keys") rfl) (hat_ISE hts hX.2) hS.1 (hl.1.trans hml.symm) dK_keys_37 dK_keys_40 dK_keys_41 dK_keys_43 dK_keys_46 htab (Nat.le_of_ble_eq_true rfl) (Nat.le_of_ble_eq_true rfl) (Nat.le_of_ble_eq_true rfl) (Nat.le_of_ble_eq_true rfl) hlk (Nat.le_of_ble_eq_true rfl) (Nat.le_of_ble_eq_true rfl) (xls_at 1 (congrArg Prod.fst hR) (by decide) rfl) hS.2.2 (thr_st hX.2) (fun t hz9 hk9 => ⟨⟨(((nI 2, nI 0, q43.2), T), pl), ⟨⟨hR.symm, hF, ⟨tl, hf90, by omega⟩, ⟨al, hf91, by omega⟩, ⟨pn, hf92, by omega⟩, trivial, hXT, hU, ⟨pn, hf92, by omega, (lowT_up hlow (by omega))⟩⟩, hO⟩, lc_P hP hk9, hD⟩, (lc_S hS hz9 hk9).F rfl⟩)
      · replace hR := hR.trans (if_neg h31)
        exact et_throw (own := "LatticeKeys") (cls := "java/lang/IllegalArgumentException") (text := "no such set, or a seed of another length") (names := ["java/lang/RuntimeException", "java/lang/Exception"]) (ik := 79) (is := 103) (ic := 83) hx hb htr ctr_IAE_0 ctr_IAE_1 ctr_IAE_2 ctr_IAE_5 hown (by decide) (by decide) (hts _ (wg_t kw_501)) (hts _ (wg_t kw_18)) (hX.2.2.2.2.2.1 3 ("LatticeKeys", 103, "no such set, or a seed of another length") rfl) (hat_IAE hts hX.2) hS.1 (hl.1.trans hml.symm) dK_keys_18 dK_keys_21 dK_keys_22 dK_keys_24 dK_keys_27 htab (Nat.le_of_ble_eq_true rfl) (Nat.le_of_ble_eq_true rfl) (Nat.le_of_ble_eq_true rfl) (Nat.le_of_ble_eq_true rfl) hlk (Nat.le_of_ble_eq_true rfl) (Nat.le_of_ble_eq_true rfl) (xls_at 0 (congrArg Prod.fst hR) (by decide) rfl) hS.2.2 (thr_st hX.2) (fun t hz9 hk9 => ⟨⟨(((nI 1, nI 0, q43.2), T), pl), ⟨⟨hR.symm, hF, ⟨tl, hf90, by omega⟩, ⟨al, hf91, by omega⟩, ⟨pn, hf92, by omega⟩, trivial, hXT, hU, ⟨pn, hf92, by omega, (lowT_up hlow (by omega))⟩⟩, hO⟩, lc_P hP hk9, hD⟩, (lc_S hS hz9 hk9).F rfl⟩)
    replace hR := hR.trans (if_neg hs24)
    by_cases hs25 : z21 = 4
    · replace hR := hR.trans (if_pos hs25)
      subst hs25
      refine lv_aload_n hx hb dK_keys_7 rfl (lv_at hl 0 rfl) ?_
      refine nw_get (C := "LatticeKeys") (TT := T_K) (N := 11) hx hb hts (wg_ft i_K) hown hK hO k_h0 (kn := 0) (ci := 0) (fl := [(3, 1), (0, 0), (3, 2), (0, 0), (3, 3), (0, 0), (3, 4), (3, 8), (3, 12), (3, 24), (3, 39)]) rfl hP rfl 1 (by decide) (hts _ (wg_t kw_375)) (fun _ h9 => h9) (cd := (0, 0)) rfl dK_keys_8 (fun v41 hv42 => ?_)
      obtain rfl := (show v41 = .int (q21.2.1 0 1) from hv42)
      obtain ⟨z42, ez42, hz62, hz63⟩ := cl_of (b := 2147483648) hf21 (by omega) (by decide)
      replace hR := bnd_step hR ez42
      refine mi_as hz62 ?_
      refine lv_iload_n hx hb dK_keys_11 rfl (lv_at hl 1 rfl) ?_
      refine mp_i (cx := []) (wr := []) hP hD hS hA [] [] rfl rfl rfl (by decide) (va_runS (As := [.int (nI 4)]) (rest := [.int (nI z42)]) F (N_K_seedLength_4 l g _ T q21.2 pl hO hU ) (va_cwS 1 hts (wg_app (wg_c kw_561 (wg_c kw_562 (wg_c kw_1 wg_n))) kw_563) rfl rfl rfl (by decide +kernel) ⟨by decide, by decide⟩) (pp_S (en_ok g) hP hD hS hA hE [] rfl rfl) rfl rfl hl.1 rfl (lv_room (Nat.le_of_ble_eq_true rfl)) dK_keys_12 ⟨Nat.le_of_ble_eq_true rfl, Nat.le_of_ble_eq_true rfl⟩) (fun r54 u42 H locs hu42 hP hD hS => ?_)
      obtain ⟨q50, pl⟩ := u42
      obtain ⟨⟨eq42, rfl, hFc42, ⟨x54, hx_54, hb_54⟩, hxp42, -⟩, hO⟩ := hu42
      have hO : okn g T q50.2 pl := hO
      have hP : va_P g.1 vcl ([] ++ pl) _ := hP
      have hD : va_D _ ([] ++ pl) := hD
      have hFc42 : frm (M_K_seedLength_4) q21.2 q50.2 := hFc42
      have hb_54 : x54 < 33 := hb_54
      replace hR := bnd_step hR eq42
      have hF := frm_tr hF hFc42 (fun k hk => by unfold M_K_seedLength_4 at hk; unfold M_K_keys; omega)
      have hf112 : q50.2.1 0 1 = nI tl := fc_F hf21 hFc42 (by unfold M_K_seedLength_4; omega)
      have hf113 : q50.2.1 0 3 = nI al := fc_F hf22 hFc42 (by unfold M_K_seedLength_4; omega)
      have hf114 : q50.2.1 0 5 = nI pn := fc_F hf23 hFc42 (by unfold M_K_seedLength_4; omega)
      obtain ⟨z43, ez43, hz64, hz65⟩ := cl_of (b := 2147483648) hx_54 (by omega) (by decide)
      replace hR := bnd_step hR ez43
      refine mi_as hz64 ?_
      have hsz33 : z43 = 32 := (nI_eq (by omega) (by omega)).mp (hz64.symm.trans hxp42)
      subst hsz33
      refine W.widen (k := 0) (n := 0) (by omega) (by omega) ?_
      refine mi_eq (tgt := 28) hx hb dK_keys_15 (by decide) (by omega) (by omega) (fun h34 => ?_) (fun h34 => ?_)
      · replace hR := hR.trans (if_pos h34)
        refine lv_aload_n hx hb dK_keys_28 rfl (lv_at hl 0 rfl) ?_
        refine nw_get (C := "LatticeKeys") (TT := T_K) (N := 11) hx hb hts (wg_ft i_K) hown hK hO k_h0 (kn := 0) (ci := 0) (fl := [(3, 1), (0, 0), (3, 2), (0, 0), (3, 3), (0, 0), (3, 4), (3, 8), (3, 12), (3, 24), (3, 39)]) rfl hP rfl 5 (by decide) (hts _ (wg_t kw_379)) (fun _ h9 => h9) (cd := (0, 0)) rfl dK_keys_29 (fun v42 hv43 => ?_)
        obtain rfl := (show v42 = .int (q50.2.1 0 5) from hv43)
        obtain ⟨z44, ez44, hz66, hz67⟩ := cl_of (b := 2147483648) hf114 (by omega) (by decide)
        replace hR := bnd_step hR ez44
        refine mi_as hz66 ?_
        refine lv_bipush (v := nI 8) hx hb dK_keys_32 (by decide) ?_
        refine mi_lt (tgt := 47) hx hb dK_keys_34 (by decide) (by omega) (by omega) (fun h35 => ?_) (fun h35 => ?_)
        · replace hR := hR.trans (if_pos h35)
          refine lv_aload_n hx hb dK_keys_47 rfl (lv_at hl 0 rfl) ?_
          refine lv_iload_n hx hb dK_keys_48 rfl (lv_at hl 1 rfl) ?_
          refine mp_i (cx := []) (wr := []) hP hD hS hA [] [] rfl rfl rfl (by decide) (va_runV (As := [.int (nI 4)]) (rest := []) F (N_K_publicLength_4 l g _ T q50.2 pl hO hU h0 k_h0) (cwV 1 hts (wg_app (wg_c kw_566 (wg_c kw_568 (wg_c ks_2 (wg_c kw_1 wg_n)))) kw_569) rfl rfl rfl (by decide +kernel) ⟨by decide, by decide⟩) (pn_W "LatticeKeys" (en_ok g) (ci := 0) (kn := 0) (fl := [(3, 1), (0, 0), (3, 2), (0, 0), (3, 3), (0, 0), (3, 4), (3, 8), (3, 12), (3, 24), (3, 39)]) hK hO k_h0 rfl hP hD hS hA hE [] rfl rfl rfl) rfl rfl hl.1 rfl (lv_room (Nat.le_of_ble_eq_true rfl)) dK_keys_49 ⟨Nat.le_of_ble_eq_true rfl, Nat.le_of_ble_eq_true rfl⟩) (fun r55 u43 H locs hu43 hP hD hS => ?_)
          obtain ⟨q51, pl⟩ := u43
          obtain ⟨⟨eq43, rfl, hFc43, ⟨x55, hx_55, hb_55⟩, hxp43, -⟩, hO⟩ := hu43
          have hO : okn g T q51.2 pl := hO
          have hP : va_P g.1 vcl ([] ++ pl) _ := hP
          have hD : va_D _ ([] ++ pl) := hD
          have hFc43 : frm (M_K_publicLength_4) q50.2 q51.2 := hFc43
          have hb_55 : x55 < 1953 := hb_55
          replace hR := bnd_step hR eq43
          have hF := frm_tr hF hFc43 (fun k hk => by unfold M_K_publicLength_4 at hk; unfold M_K_keys; omega)
          have hf115 : q51.2.1 0 1 = nI tl := fc_F hf112 hFc43 (by unfold M_K_publicLength_4; omega)
          have hf116 : q51.2.1 0 3 = nI al := fc_F hf113 hFc43 (by unfold M_K_publicLength_4; omega)
          have hf117 : q51.2.1 0 5 = nI pn := fc_F hf114 hFc43 (by unfold M_K_publicLength_4; omega)
          obtain ⟨z45, ez45, hz68, hz69⟩ := cl_of (b := 2147483648) hx_55 (by omega) (by decide)
          replace hR := bnd_step hR ez45
          refine mi_as hz68 ?_
          have hsz34 : z45 = 1952 := (nI_eq (by omega) (by omega)).mp (hz68.symm.trans hxp43)
          subst hsz34
          refine W.widen (k := 0) (n := 0) (by omega) (by omega) ?_
          have hfr45 : frT T (379 + 36 * pn + 12) := frT_low hlow (by omega)
          have hfr46 : frT T (379 + 36 * pn + 13) := frT_low hlow (by omega)
          have hfr47 : frT T (379 + 36 * pn + 14) := frT_low hlow (by omega)
          have hlw37 : lowT T (379 + 36 * (pn + 1)) := lowT_up hlow (by omega)
          refine ma_newa (ws := [] ++ pl) (atype := .byte) hx hb (hts _ (wg_t kw_72)) rfl hK hP hD hS hA 1 rfl (N' := 1952) (a0 := (1952, .inl (fun _ => 0))) (fun _ => rfl) (nI_pos (by omega)) (nI_clamp (by omega)) (by show (1952) * 1 ≤ 536870912; omega) (Nat.le_of_ble_eq_true rfl) (Nat.le_of_ble_eq_true rfl) dK_keys_52 (fun q52 H hP hD hS => ?_)
          refine W.widen (k := 1) (n := 1952) (by omega) (by omega) ?_
          obtain ⟨T, pl, hxt33, hU, kr89, hO, hP, hD, hnf33, hnl33⟩ := absorbN (sZ q51.2 (379 + 36 * pn + 13)) (379 + 36 * pn + 13) hP hD hO hU hfr46 (fun _ h9 => uA_ne h9) (fun _ _ => rfl) (fun _ _ _ => fitZ (pr_p4 (z := pn) (by omega)))
          have kr90 := hxt33 _ _ k_h0
          have hXT := extN_tr hXT hxt33
          have hfr48 := hnf33 _ (by omega) hfr45
          have hfr49 := hnf33 _ (by omega) hfr47
          have hlw38 := hnl33 _ (by omega) hlw37
          obtain ⟨s37, es33⟩ : ∃ x : Sto, x = sZ q51.2 (379 + 36 * pn + 13) := ⟨_, rfl⟩
          rw [← es33] at hO
          replace hR := bnd_step hR es33
          have hF := frm_sZ hF es33 (by unfold M_K_keys; omega)
          have hf118 : s37.1 0 1 = nI tl := fc_Z hf115 es33 (by omega)
          have hf119 : s37.1 0 3 = nI al := fc_Z hf116 es33 (by omega)
          have hf120 : s37.1 0 5 = nI pn := fc_Z hf117 es33 (by omega)
          refine lv_astore_n (lv' := [(2, .ref q52), (0, .ref h0), (1, .int (nI 4))]) hx hb dK_keys_54 rfl hl (by decide) rfl (fun ls hl => ?_)
          refine lv_aload_n hx hb dK_keys_55 rfl (lv_at hl 1 rfl) ?_
          refine lv_iload_n hx hb dK_keys_56 rfl (lv_at hl 2 rfl) ?_
          refine mp_i (cx := []) (wr := []) hP hD hS hA [] [] rfl rfl rfl (by decide) (va_runV (As := [.int (nI 4)]) (rest := []) F (N_K_secretLength_4 l g _ T s37 pl hO hU h0 kr90) (cwV 1 hts (wg_app (wg_c kw_570 (wg_c kw_572 (wg_c ks_3 (wg_c kw_1 wg_n)))) kw_573) rfl rfl rfl (by decide +kernel) ⟨by decide, by decide⟩) (pn_W "LatticeKeys" (en_ok g) (ci := 0) (kn := 0) (fl := [(3, 1), (0, 0), (3, 2), (0, 0), (3, 3), (0, 0), (3, 4), (3, 8), (3, 12), (3, 24), (3, 39)]) hK hO kr90 rfl hP hD hS hA hE [] rfl rfl rfl) rfl rfl hl.1 rfl (lv_room (Nat.le_of_ble_eq_true rfl)) dK_keys_57 ⟨Nat.le_of_ble_eq_true rfl, Nat.le_of_ble_eq_true rfl⟩) (fun r56 u44 H locs hu44 hP hD hS => ?_)
          obtain ⟨q53, pl⟩ := u44
          obtain ⟨⟨eq44, rfl, hFc44, ⟨x56, hx_56, hb_56⟩, hxp44, -⟩, hO⟩ := hu44
          have hO : okn g T q53.2 pl := hO
          have hP : va_P g.1 vcl ([] ++ pl) _ := hP
          have hD : va_D _ ([] ++ pl) := hD
          have hFc44 : frm (M_K_secretLength_4) s37 q53.2 := hFc44
          have hb_56 : x56 < 4033 := hb_56
          replace hR := bnd_step hR eq44
          have hF := frm_tr hF hFc44 (fun k hk => by unfold M_K_secretLength_4 at hk; unfold M_K_keys; omega)
          have hf121 : q53.2.1 0 1 = nI tl := fc_F hf118 hFc44 (by unfold M_K_secretLength_4; omega)
          have hf122 : q53.2.1 0 3 = nI al := fc_F hf119 hFc44 (by unfold M_K_secretLength_4; omega)
          have hf123 : q53.2.1 0 5 = nI pn := fc_F hf120 hFc44 (by unfold M_K_secretLength_4; omega)
          obtain ⟨z46, ez46, hz70, hz71⟩ := cl_of (b := 2147483648) hx_56 (by omega) (by decide)
          replace hR := bnd_step hR ez46
          refine mi_as hz70 ?_
          have hsz35 : z46 = 4032 := (nI_eq (by omega) (by omega)).mp (hz70.symm.trans hxp44)
          subst hsz35
          refine W.widen (k := 1) (n := 1952) (by omega) (by omega) ?_
          refine ma_newa (ws := [] ++ pl) (atype := .byte) hx hb (hts _ (wg_t kw_72)) rfl hK hP hD hS hA 1 rfl (N' := 4032) (a0 := (4032, .inl (fun _ => 0))) (fun _ => rfl) (nI_pos (by omega)) (nI_clamp (by omega)) (by show (4032) * 1 ≤ 536870912; omega) (Nat.le_of_ble_eq_true rfl) (Nat.le_of_ble_eq_true rfl) dK_keys_60 (fun q54 H hP hD hS => ?_)
          refine W.widen (k := 2) (n := 5984) (by omega) (by omega) ?_
          obtain ⟨T, pl, hxt34, hU, kr91, hO, hP, hD, hnf34, hnl34⟩ := absorbN (sZ q53.2 (379 + 36 * pn + 14)) (379 + 36 * pn + 14) hP hD hO hU hfr49 (fun _ h9 => uA_ne h9) (fun _ _ => rfl) (fun _ _ _ => fitZ (pr_s4 (z := pn) (by omega)))
          have kr92 := hxt34 _ _ kr90
          have kr93 := hxt34 _ _ kr89
          have hXT := extN_tr hXT hxt34
          have hfr50 := hnf34 _ (by omega) hfr48
          have hlw39 := hnl34 _ (by omega) hlw38
          obtain ⟨s38, es34⟩ : ∃ x : Sto, x = sZ q53.2 (379 + 36 * pn + 14) := ⟨_, rfl⟩
          rw [← es34] at hO
          replace hR := bnd_step hR es34
          have hF := frm_sZ hF es34 (by unfold M_K_keys; omega)
          have hf124 : s38.1 0 1 = nI tl := fc_Z hf121 es34 (by omega)
          have hf125 : s38.1 0 3 = nI al := fc_Z hf122 es34 (by omega)
          have hf126 : s38.1 0 5 = nI pn := fc_Z hf123 es34 (by omega)
          refine lv_astore_n (lv' := [(3, .ref q54), (2, .ref q52), (0, .ref h0), (1, .int (nI 4))]) hx hb dK_keys_62 rfl hl (by decide) rfl (fun ls hl => ?_)
          refine lv_iload_n hx hb dK_keys_63 rfl (lv_at hl 3 rfl) ?_
          refine lv_iconst (v := nI 3) hx hb dK_keys_64 (by decide) ?_
          refine mi_ge (tgt := 90) hx hb dK_keys_65 (by decide) (by omega) (by omega) (fun h36 => ?_) (fun h36 => absurd h36 (by omega))
          refine lv_aload_n hx hb dK_keys_90 rfl (lv_at hl 2 rfl) ?_
          refine nw_get (C := "LatticeKeys") (TT := T_K) (N := 11) hx hb hts (wg_ft i_K) hown hK hO kr92 (kn := 0) (ci := 0) (fl := [(3, 1), (0, 0), (3, 2), (0, 0), (3, 3), (0, 0), (3, 4), (3, 8), (3, 12), (3, 24), (3, 39)]) rfl hP rfl 10 (by decide) (hts _ (wg_t kw_384)) (fun _ h9 => h9) (cd := (3, 39)) rfl dK_keys_91 (fun v43 hv44 => ?_)
          obtain ⟨r57, rfl, kr94⟩ := (show ∃ r : Nat, v43 = .ref r ∧ T r = some 39 from hv44)
          refine lv_aload_n hx hb dK_keys_94 rfl (lv_at hl 2 rfl) ?_
          refine nw_get (C := "LatticeKeys") (TT := T_K) (N := 11) hx hb hts (wg_ft i_K) hown hK hO kr92 (kn := 0) (ci := 0) (fl := [(3, 1), (0, 0), (3, 2), (0, 0), (3, 3), (0, 0), (3, 4), (3, 8), (3, 12), (3, 24), (3, 39)]) rfl hP rfl 7 (by decide) (hts _ (wg_t kw_381)) (fun _ h9 => h9) (cd := (3, 8)) rfl dK_keys_95 (fun v44 hv45 => ?_)
          obtain ⟨r58, rfl, kr95⟩ := (show ∃ r : Nat, v44 = .ref r ∧ T r = some 8 from hv45)
          refine lv_iload_n hx hb dK_keys_98 rfl (lv_at hl 3 rfl) ?_
          refine lv_iconst (v := nI 3) hx hb dK_keys_99 (by decide) ?_
          refine mi_isub hx hb dK_keys_100 (by omega) ?_
          refine mi_as (show nI (4 - 3) = nI 1 from rfl) ?_
          refine nw_aald7 hx hb hK hO kr95 (k := 8) (b := 9) rfl hP (by omega) (by omega) dK_keys_101 (fun r59 kr96 => ?_)
          refine lv_aload_n hx hb dK_keys_102 rfl (lv_at hl 2 rfl) ?_
          refine nw_get (C := "LatticeKeys") (TT := T_K) (N := 11) hx hb hts (wg_ft i_K) hown hK hO kr92 (kn := 0) (ci := 0) (fl := [(3, 1), (0, 0), (3, 2), (0, 0), (3, 3), (0, 0), (3, 4), (3, 8), (3, 12), (3, 24), (3, 39)]) rfl hP rfl 0 (by decide) (hts _ (wg_t kw_374)) (fun _ h9 => h9) (cd := (3, 1)) rfl dK_keys_103 (fun v45 hv46 => ?_)
          obtain ⟨r60, rfl, kr97⟩ := (show ∃ r : Nat, v45 = .ref r ∧ T r = some 1 from hv46)
          refine lv_aload_n hx hb dK_keys_106 rfl (lv_at hl 1 rfl) ?_
          refine lv_aload_n hx hb dK_keys_107 rfl (lv_at hl 0 rfl) ?_
          refine mp_v (cx := []) (wr := []) hP hD hS hA [] [] rfl rfl rfl (by decide) (va_runV (As := [.ref r59, .ref r60, .ref q52, .ref q54]) (rest := []) F (N_DA_makePair_1 l g _ T s38 pl hO hU r57 r59 r60 q52 q54 1 16384 (379 + 36 * pn + 13) (379 + 36 * pn + 14) kr94 kr96 kr97 rfl kr93 (pr_p4 (z := pn) (by omega)) kr91 (pr_s4 (z := pn) (by omega)) (by omega) (by omega)) (cwV 4 hts (wg_app (wg_c kw_665 (wg_c kw_666 (wg_c kw_667 (wg_c kw_5 wg_n)))) kw_668) rfl rfl rfl (by decide +kernel) ⟨by decide, by decide⟩) (pn_W "LatticeKeys$Dsa" (en_ok g) (ci := 6) (kn := 39) (fl := [(3, 16), (3, 22), (3, 37), (3, 40), (3, 97), (3, 105), (3, 114), (3, 123), (3, 131), (3, 140), (3, 141), (3, 142), (3, 143), (3, 144), (3, 145), (3, 146), (3, 147)]) hK hO kr94 rfl hP hD hS hA hE [] rfl rfl rfl) rfl rfl hl.1 rfl (lv_room (Nat.le_of_ble_eq_true rfl)) dK_keys_108 ⟨Nat.le_of_ble_eq_true rfl, Nat.le_of_ble_eq_true rfl⟩) (fun  u45 H locs hu45 hP hD hS => ?_)
          obtain ⟨s39, pl⟩ := u45
          obtain ⟨⟨eq45, hFc45, -⟩, hO⟩ := hu45
          have hO : okn g T s39 pl := hO
          have hP : va_P g.1 vcl ([] ++ pl) _ := hP
          have hD : va_D _ ([] ++ pl) := hD
          have hFc45 : frm (M_DA_makePair_1 (379 + 36 * pn + 13) (379 + 36 * pn + 14)) s38 s39 := hFc45
          replace hR := bnd_step hR eq45
          have hF := frm_tr hF hFc45 (fun k hk => by unfold M_DA_makePair_1 at hk; unfold M_K_keys; omega)
          have hf127 : s39.1 0 1 = nI tl := fc_F hf124 hFc45 (by unfold M_DA_makePair_1; omega)
          have hf128 : s39.1 0 3 = nI al := fc_F hf125 hFc45 (by unfold M_DA_makePair_1; omega)
          have hf129 : s39.1 0 5 = nI pn := fc_F hf126 hFc45 (by unfold M_DA_makePair_1; omega)
          refine W.widen (k := 2) (n := 5984) (by omega) (by omega) ?_
          refine lv_aload_n hx hb dK_keys_111 rfl (lv_at hl 2 rfl) ?_
          refine lv_iconst (v := nI 0) hx hb dK_keys_112 (by decide) ?_
          refine nw_put (C := "LatticeKeys") (TT := T_K) (N := 11) hx hb hts (wg_ft i_K) ty_K k_K n_K hown hK hO hU kr92 (kn := 0) (ci := 0) (fl := [(3, 1), (0, 0), (3, 2), (0, 0), (3, 3), (0, 0), (3, 4), (3, 8), (3, 12), (3, 24), (3, 39)]) rfl hP hD hS rfl 1 (by decide) (hts _ (wg_t kw_375)) (fun _ h9 => h9) rfl (by decide +kernel) rfl dK_keys_113 (fun s40 pl H locs es35 hO hP hD hS => ?_)
          replace hR := bnd_step hR es35
          have hF := frm_sI hF es35 (by unfold M_K_keys; omega)
          have hf131 : s40.1 0 3 = nI al := fc_ne hf128 es35 (by omega)
          have hf132 : s40.1 0 5 = nI pn := fc_ne hf129 es35 (by omega)
          have hf133 : s40.1 0 1 = nI 0 := fc_eq es35
          refine lv_aload_n hx hb dK_keys_116 rfl (lv_at hl 2 rfl) ?_
          refine va_new (ws := [] ++ pl) (ci := 13) (fs := [.int 0, .null, .null]) (C := "LatticeKeys$KeyPair") (T := T_KP) (N := 3) hx hb hts (wg_ft i_KP) ty_KP k_KP hown (hts _ (wg_t kw_43)) (hts _ (wg_t kw_740)) (hts _ (wg_t kw_24)) hK hP hD hS hA rfl z_KP (Nat.le_of_ble_eq_true rfl) (Nat.le_of_ble_eq_true rfl) dK_keys_117 (fun q55 H hP hD hS => ?_)
          obtain ⟨hP, hD⟩ := mv_first hP hD
          have hP : va_P g.1 vcl ([(q55, .inr (13, [.int 0, .null, .null]))] ++ pl) _ := hP
          have hD : va_D _ ([(q55, .inr (13, [.int 0, .null, .null]))] ++ pl) := hD
          refine W.widen (k := 3) (n := 5987) (by omega) (by omega) ?_
          refine lv_dup hx hb dK_keys_120 rfl ?_
          refine lv_iload_n hx hb dK_keys_121 rfl (lv_at hl 3 rfl) ?_
          refine lv_aload_n hx hb dK_keys_122 rfl (lv_at hl 1 rfl) ?_
          refine lv_aload_n hx hb dK_keys_123 rfl (lv_at hl 0 rfl) ?_
          refine mq_v (cx := [(q55, .inr (13, [.int 0, .null, .null]))]) (wr := []) hP hD hS hA [0] [] rfl rfl rfl (by decide) (va_runI (As := [.int (nI 4), .ref q52, .ref q54]) (rest := [.ref q55, .ref h0]) F (m_KP_init_s l g _ q55 q52 q54 (nI 4)) (cwI 3 hts (wg_in kw_743) rfl rfl rfl (hts _ (wg_t kw_24)) (hts _ (wg_t kw_741)) (hts _ (wg_t kw_742)) rfl (by decide +kernel) ⟨by decide, by decide⟩) (pr_S (en_ok g) hP hD hS hA hE [0] rfl rfl) rfl rfl hl.1 rfl (lv_room (Nat.le_of_ble_eq_true rfl)) dK_keys_124 ⟨Nat.le_of_ble_eq_true rfl, Nat.le_of_ble_eq_true rfl⟩) (fun _ H locs _ hP hD hS => ?_)
          obtain ⟨hP, hD⟩ := mv_last (X := []) (c := (q55, .inr (13, [.int (nI 4), .ref q52, .ref q54]))) hP hD
          refine W.widen (k := 3) (n := 5987) (by omega) (by omega) ?_
          obtain ⟨T, pl, hxt35, hU, kr98, hO, hP, hD, hnf35, hnl35⟩ := absorbN (s40) (379 + 36 * pn + 12) hP hD hO hU hfr50 (fun _ _ => rfl) (fun _ _ => rfl) (fun _ h9 _ => fitP (pr_o4 (z := pn) (by omega)) (h9 _ _ kr93) (h9 _ _ kr91))
          have kr99 := hxt35 _ _ kr92
          have kr100 := hxt35 _ _ kr93
          have kr101 := hxt35 _ _ kr91
          have kr102 := hxt35 _ _ kr94
          have kr103 := hxt35 _ _ kr95
          have kr104 := hxt35 _ _ kr96
          have kr105 := hxt35 _ _ kr97
          have hXT := extN_tr hXT hxt35
          have hlw40 := hnl35 _ (by omega) hlw39
          refine mp_i (cx := []) (wr := []) hP hD hS hA [] [] rfl rfl rfl (by decide) (va_runV (As := [.ref q55]) (rest := []) F (N_K_keep l g _ T s40 pl hO hU h0 q55 4 0 al pn kr99 kr98 hf133 hf131 hf132 (by omega) (by omega) (by omega) (by omega)) (cwV 1 hts (wg_app (wg_c kw_760 (wg_c kw_762 (wg_c ks_19 (wg_c kw_1 wg_n)))) kw_763) rfl rfl rfl (by decide +kernel) ⟨by decide, by decide⟩) (pn_W "LatticeKeys" (en_ok g) (ci := 0) (kn := 0) (fl := [(3, 1), (0, 0), (3, 2), (0, 0), (3, 3), (0, 0), (3, 4), (3, 8), (3, 12), (3, 24), (3, 39)]) hK hO kr99 rfl hP hD hS hA hE [] rfl rfl rfl) rfl rfl hl.1 rfl (lv_room (Nat.le_of_ble_eq_true rfl)) dK_keys_127 ⟨Nat.le_of_ble_eq_true rfl, Nat.le_of_ble_eq_true rfl⟩) (fun r61 u46 H locs hu46 hP hD hS => ?_)
          obtain ⟨q56, pl⟩ := u46
          obtain ⟨⟨eq46, rfl, hFc46, ⟨x58, hx_58, hb_58⟩, ⟨x59, hx_59, hb_59⟩, ⟨x60, hx_60, hb_60⟩, -⟩, hO⟩ := hu46
          have hO : okn g T q56.2 pl := hO
          have hP : va_P g.1 vcl ([] ++ pl) _ := hP
          have hD : va_D _ ([] ++ pl) := hD
          have hFc46 : frm (M_K_keep) s40 q56.2 := hFc46
          have hb_58 : x58 = 0 := hb_58
          have hb_59 : x59 = al := hb_59
          have hb_60 : x60 = pn + 1 := hb_60
          replace hR := bnd_step hR eq46
          have hF := frm_tr hF hFc46 (fun k hk => by unfold M_K_keep at hk; unfold M_K_keys; omega)
          refine W.widen (k := 3) (n := 5987) (by omega) (by omega) ?_
          refine et_ret ?_
          exact mp_iret hx hb hr hlk hP hD hS (((nI 0, q56.1, q56.2), T), pl) ⟨⟨hR.symm, rfl, rfl, hF, ⟨x58, hx_58, by omega⟩, ⟨x59, hx_59, by omega⟩, ⟨x60, hx_60, by omega⟩, trivial, hXT, hU, ⟨x60, hx_60, by omega, (lowT_up hlw40 (by omega))⟩⟩, hO⟩ [] rfl rfl rfl (by omega) (by omega) dK_keys_130
        · replace hR := hR.trans (if_neg (Nat.not_lt.mpr h35))
          exact et_throw (own := "LatticeKeys") (cls := "java/lang/IllegalStateException") (text := "no room for more keys") (names := ["java/lang/RuntimeException", "java/lang/Exception"]) (ik := 69) (is := 105) (ic := 73) hx hb htr ctr_ISE_0 ctr_ISE_1 ctr_ISE_2 ctr_ISE_5 hown (by decide) (by decide) (hts _ (wg_t kw_420)) (hts _ (wg_t kw_17)) (hX.2.2.2.2.2.1 4 ("LatticeKeys", 105, "no room for more keys") rfl) (hat_ISE hts hX.2) hS.1 (hl.1.trans hml.symm) dK_keys_37 dK_keys_40 dK_keys_41 dK_keys_43 dK_keys_46 htab (Nat.le_of_ble_eq_true rfl) (Nat.le_of_ble_eq_true rfl) (Nat.le_of_ble_eq_true rfl) (Nat.le_of_ble_eq_true rfl) hlk (Nat.le_of_ble_eq_true rfl) (Nat.le_of_ble_eq_true rfl) (xls_at 1 (congrArg Prod.fst hR) (by decide) rfl) hS.2.2 (thr_st hX.2) (fun t hz9 hk9 => ⟨⟨(((nI 2, nI 0, q50.2), T), pl), ⟨⟨hR.symm, hF, ⟨tl, hf112, by omega⟩, ⟨al, hf113, by omega⟩, ⟨pn, hf114, by omega⟩, trivial, hXT, hU, ⟨pn, hf114, by omega, (lowT_up hlow (by omega))⟩⟩, hO⟩, lc_P hP hk9, hD⟩, (lc_S hS hz9 hk9).F rfl⟩)
      · replace hR := hR.trans (if_neg h34)
        exact et_throw (own := "LatticeKeys") (cls := "java/lang/IllegalArgumentException") (text := "no such set, or a seed of another length") (names := ["java/lang/RuntimeException", "java/lang/Exception"]) (ik := 79) (is := 103) (ic := 83) hx hb htr ctr_IAE_0 ctr_IAE_1 ctr_IAE_2 ctr_IAE_5 hown (by decide) (by decide) (hts _ (wg_t kw_501)) (hts _ (wg_t kw_18)) (hX.2.2.2.2.2.1 3 ("LatticeKeys", 103, "no such set, or a seed of another length") rfl) (hat_IAE hts hX.2) hS.1 (hl.1.trans hml.symm) dK_keys_18 dK_keys_21 dK_keys_22 dK_keys_24 dK_keys_27 htab (Nat.le_of_ble_eq_true rfl) (Nat.le_of_ble_eq_true rfl) (Nat.le_of_ble_eq_true rfl) (Nat.le_of_ble_eq_true rfl) hlk (Nat.le_of_ble_eq_true rfl) (Nat.le_of_ble_eq_true rfl) (xls_at 0 (congrArg Prod.fst hR) (by decide) rfl) hS.2.2 (thr_st hX.2) (fun t hz9 hk9 => ⟨⟨(((nI 1, nI 0, q50.2), T), pl), ⟨⟨hR.symm, hF, ⟨tl, hf112, by omega⟩, ⟨al, hf113, by omega⟩, ⟨pn, hf114, by omega⟩, trivial, hXT, hU, ⟨pn, hf114, by omega, (lowT_up hlow (by omega))⟩⟩, hO⟩, lc_P hP hk9, hD⟩, (lc_S hS hz9 hk9).F rfl⟩)
    replace hR := hR.trans (if_neg hs25)
    have hs26 : z21 = 5 := by omega
    subst hs26
    refine lv_aload_n hx hb dK_keys_7 rfl (lv_at hl 0 rfl) ?_
    refine nw_get (C := "LatticeKeys") (TT := T_K) (N := 11) hx hb hts (wg_ft i_K) hown hK hO k_h0 (kn := 0) (ci := 0) (fl := [(3, 1), (0, 0), (3, 2), (0, 0), (3, 3), (0, 0), (3, 4), (3, 8), (3, 12), (3, 24), (3, 39)]) rfl hP rfl 1 (by decide) (hts _ (wg_t kw_375)) (fun _ h9 => h9) (cd := (0, 0)) rfl dK_keys_8 (fun v46 hv47 => ?_)
    obtain rfl := (show v46 = .int (q21.2.1 0 1) from hv47)
    obtain ⟨z47, ez47, hz72, hz73⟩ := cl_of (b := 2147483648) hf21 (by omega) (by decide)
    replace hR := bnd_step hR ez47
    refine mi_as hz72 ?_
    refine lv_iload_n hx hb dK_keys_11 rfl (lv_at hl 1 rfl) ?_
    refine mp_i (cx := []) (wr := []) hP hD hS hA [] [] rfl rfl rfl (by decide) (va_runS (As := [.int (nI 5)]) (rest := [.int (nI z47)]) F (N_K_seedLength_5 l g _ T q21.2 pl hO hU ) (va_cwS 1 hts (wg_app (wg_c kw_561 (wg_c kw_562 (wg_c kw_1 wg_n))) kw_563) rfl rfl rfl (by decide +kernel) ⟨by decide, by decide⟩) (pp_S (en_ok g) hP hD hS hA hE [] rfl rfl) rfl rfl hl.1 rfl (lv_room (Nat.le_of_ble_eq_true rfl)) dK_keys_12 ⟨Nat.le_of_ble_eq_true rfl, Nat.le_of_ble_eq_true rfl⟩) (fun r62 u47 H locs hu47 hP hD hS => ?_)
    obtain ⟨q57, pl⟩ := u47
    obtain ⟨⟨eq47, rfl, hFc47, ⟨x62, hx_62, hb_62⟩, hxp47, -⟩, hO⟩ := hu47
    have hO : okn g T q57.2 pl := hO
    have hP : va_P g.1 vcl ([] ++ pl) _ := hP
    have hD : va_D _ ([] ++ pl) := hD
    have hFc47 : frm (M_K_seedLength_5) q21.2 q57.2 := hFc47
    have hb_62 : x62 < 33 := hb_62
    replace hR := bnd_step hR eq47
    have hF := frm_tr hF hFc47 (fun k hk => by unfold M_K_seedLength_5 at hk; unfold M_K_keys; omega)
    have hf134 : q57.2.1 0 1 = nI tl := fc_F hf21 hFc47 (by unfold M_K_seedLength_5; omega)
    have hf135 : q57.2.1 0 3 = nI al := fc_F hf22 hFc47 (by unfold M_K_seedLength_5; omega)
    have hf136 : q57.2.1 0 5 = nI pn := fc_F hf23 hFc47 (by unfold M_K_seedLength_5; omega)
    obtain ⟨z48, ez48, hz74, hz75⟩ := cl_of (b := 2147483648) hx_62 (by omega) (by decide)
    replace hR := bnd_step hR ez48
    refine mi_as hz74 ?_
    have hsz36 : z48 = 32 := (nI_eq (by omega) (by omega)).mp (hz74.symm.trans hxp47)
    subst hsz36
    refine W.widen (k := 0) (n := 0) (by omega) (by omega) ?_
    refine mi_eq (tgt := 28) hx hb dK_keys_15 (by decide) (by omega) (by omega) (fun h37 => ?_) (fun h37 => ?_)
    · replace hR := hR.trans (if_pos h37)
      refine lv_aload_n hx hb dK_keys_28 rfl (lv_at hl 0 rfl) ?_
      refine nw_get (C := "LatticeKeys") (TT := T_K) (N := 11) hx hb hts (wg_ft i_K) hown hK hO k_h0 (kn := 0) (ci := 0) (fl := [(3, 1), (0, 0), (3, 2), (0, 0), (3, 3), (0, 0), (3, 4), (3, 8), (3, 12), (3, 24), (3, 39)]) rfl hP rfl 5 (by decide) (hts _ (wg_t kw_379)) (fun _ h9 => h9) (cd := (0, 0)) rfl dK_keys_29 (fun v47 hv48 => ?_)
      obtain rfl := (show v47 = .int (q57.2.1 0 5) from hv48)
      obtain ⟨z49, ez49, hz76, hz77⟩ := cl_of (b := 2147483648) hf136 (by omega) (by decide)
      replace hR := bnd_step hR ez49
      refine mi_as hz76 ?_
      refine lv_bipush (v := nI 8) hx hb dK_keys_32 (by decide) ?_
      refine mi_lt (tgt := 47) hx hb dK_keys_34 (by decide) (by omega) (by omega) (fun h38 => ?_) (fun h38 => ?_)
      · replace hR := hR.trans (if_pos h38)
        refine lv_aload_n hx hb dK_keys_47 rfl (lv_at hl 0 rfl) ?_
        refine lv_iload_n hx hb dK_keys_48 rfl (lv_at hl 1 rfl) ?_
        refine mp_i (cx := []) (wr := []) hP hD hS hA [] [] rfl rfl rfl (by decide) (va_runV (As := [.int (nI 5)]) (rest := []) F (N_K_publicLength_5 l g _ T q57.2 pl hO hU h0 k_h0) (cwV 1 hts (wg_app (wg_c kw_566 (wg_c kw_568 (wg_c ks_2 (wg_c kw_1 wg_n)))) kw_569) rfl rfl rfl (by decide +kernel) ⟨by decide, by decide⟩) (pn_W "LatticeKeys" (en_ok g) (ci := 0) (kn := 0) (fl := [(3, 1), (0, 0), (3, 2), (0, 0), (3, 3), (0, 0), (3, 4), (3, 8), (3, 12), (3, 24), (3, 39)]) hK hO k_h0 rfl hP hD hS hA hE [] rfl rfl rfl) rfl rfl hl.1 rfl (lv_room (Nat.le_of_ble_eq_true rfl)) dK_keys_49 ⟨Nat.le_of_ble_eq_true rfl, Nat.le_of_ble_eq_true rfl⟩) (fun r63 u48 H locs hu48 hP hD hS => ?_)
        obtain ⟨q58, pl⟩ := u48
        obtain ⟨⟨eq48, rfl, hFc48, ⟨x63, hx_63, hb_63⟩, hxp48, -⟩, hO⟩ := hu48
        have hO : okn g T q58.2 pl := hO
        have hP : va_P g.1 vcl ([] ++ pl) _ := hP
        have hD : va_D _ ([] ++ pl) := hD
        have hFc48 : frm (M_K_publicLength_5) q57.2 q58.2 := hFc48
        have hb_63 : x63 < 2593 := hb_63
        replace hR := bnd_step hR eq48
        have hF := frm_tr hF hFc48 (fun k hk => by unfold M_K_publicLength_5 at hk; unfold M_K_keys; omega)
        have hf137 : q58.2.1 0 1 = nI tl := fc_F hf134 hFc48 (by unfold M_K_publicLength_5; omega)
        have hf138 : q58.2.1 0 3 = nI al := fc_F hf135 hFc48 (by unfold M_K_publicLength_5; omega)
        have hf139 : q58.2.1 0 5 = nI pn := fc_F hf136 hFc48 (by unfold M_K_publicLength_5; omega)
        obtain ⟨z50, ez50, hz78, hz79⟩ := cl_of (b := 2147483648) hx_63 (by omega) (by decide)
        replace hR := bnd_step hR ez50
        refine mi_as hz78 ?_
        have hsz37 : z50 = 2592 := (nI_eq (by omega) (by omega)).mp (hz78.symm.trans hxp48)
        subst hsz37
        refine W.widen (k := 0) (n := 0) (by omega) (by omega) ?_
        have hfr51 : frT T (379 + 36 * pn + 15) := frT_low hlow (by omega)
        have hfr52 : frT T (379 + 36 * pn + 16) := frT_low hlow (by omega)
        have hfr53 : frT T (379 + 36 * pn + 17) := frT_low hlow (by omega)
        have hlw41 : lowT T (379 + 36 * (pn + 1)) := lowT_up hlow (by omega)
        refine ma_newa (ws := [] ++ pl) (atype := .byte) hx hb (hts _ (wg_t kw_72)) rfl hK hP hD hS hA 1 rfl (N' := 2592) (a0 := (2592, .inl (fun _ => 0))) (fun _ => rfl) (nI_pos (by omega)) (nI_clamp (by omega)) (by show (2592) * 1 ≤ 536870912; omega) (Nat.le_of_ble_eq_true rfl) (Nat.le_of_ble_eq_true rfl) dK_keys_52 (fun q59 H hP hD hS => ?_)
        refine W.widen (k := 1) (n := 2592) (by omega) (by omega) ?_
        obtain ⟨T, pl, hxt36, hU, kr106, hO, hP, hD, hnf36, hnl36⟩ := absorbN (sZ q58.2 (379 + 36 * pn + 16)) (379 + 36 * pn + 16) hP hD hO hU hfr52 (fun _ h9 => uA_ne h9) (fun _ _ => rfl) (fun _ _ _ => fitZ (pr_p5 (z := pn) (by omega)))
        have kr107 := hxt36 _ _ k_h0
        have hXT := extN_tr hXT hxt36
        have hfr54 := hnf36 _ (by omega) hfr51
        have hfr55 := hnf36 _ (by omega) hfr53
        have hlw42 := hnl36 _ (by omega) hlw41
        obtain ⟨s41, es36⟩ : ∃ x : Sto, x = sZ q58.2 (379 + 36 * pn + 16) := ⟨_, rfl⟩
        rw [← es36] at hO
        replace hR := bnd_step hR es36
        have hF := frm_sZ hF es36 (by unfold M_K_keys; omega)
        have hf140 : s41.1 0 1 = nI tl := fc_Z hf137 es36 (by omega)
        have hf141 : s41.1 0 3 = nI al := fc_Z hf138 es36 (by omega)
        have hf142 : s41.1 0 5 = nI pn := fc_Z hf139 es36 (by omega)
        refine lv_astore_n (lv' := [(2, .ref q59), (0, .ref h0), (1, .int (nI 5))]) hx hb dK_keys_54 rfl hl (by decide) rfl (fun ls hl => ?_)
        refine lv_aload_n hx hb dK_keys_55 rfl (lv_at hl 1 rfl) ?_
        refine lv_iload_n hx hb dK_keys_56 rfl (lv_at hl 2 rfl) ?_
        refine mp_i (cx := []) (wr := []) hP hD hS hA [] [] rfl rfl rfl (by decide) (va_runV (As := [.int (nI 5)]) (rest := []) F (N_K_secretLength_5 l g _ T s41 pl hO hU h0 kr107) (cwV 1 hts (wg_app (wg_c kw_570 (wg_c kw_572 (wg_c ks_3 (wg_c kw_1 wg_n)))) kw_573) rfl rfl rfl (by decide +kernel) ⟨by decide, by decide⟩) (pn_W "LatticeKeys" (en_ok g) (ci := 0) (kn := 0) (fl := [(3, 1), (0, 0), (3, 2), (0, 0), (3, 3), (0, 0), (3, 4), (3, 8), (3, 12), (3, 24), (3, 39)]) hK hO kr107 rfl hP hD hS hA hE [] rfl rfl rfl) rfl rfl hl.1 rfl (lv_room (Nat.le_of_ble_eq_true rfl)) dK_keys_57 ⟨Nat.le_of_ble_eq_true rfl, Nat.le_of_ble_eq_true rfl⟩) (fun r64 u49 H locs hu49 hP hD hS => ?_)
        obtain ⟨q60, pl⟩ := u49
        obtain ⟨⟨eq49, rfl, hFc49, ⟨x64, hx_64, hb_64⟩, hxp49, -⟩, hO⟩ := hu49
        have hO : okn g T q60.2 pl := hO
        have hP : va_P g.1 vcl ([] ++ pl) _ := hP
        have hD : va_D _ ([] ++ pl) := hD
        have hFc49 : frm (M_K_secretLength_5) s41 q60.2 := hFc49
        have hb_64 : x64 < 4897 := hb_64
        replace hR := bnd_step hR eq49
        have hF := frm_tr hF hFc49 (fun k hk => by unfold M_K_secretLength_5 at hk; unfold M_K_keys; omega)
        have hf143 : q60.2.1 0 1 = nI tl := fc_F hf140 hFc49 (by unfold M_K_secretLength_5; omega)
        have hf144 : q60.2.1 0 3 = nI al := fc_F hf141 hFc49 (by unfold M_K_secretLength_5; omega)
        have hf145 : q60.2.1 0 5 = nI pn := fc_F hf142 hFc49 (by unfold M_K_secretLength_5; omega)
        obtain ⟨z51, ez51, hz80, hz81⟩ := cl_of (b := 2147483648) hx_64 (by omega) (by decide)
        replace hR := bnd_step hR ez51
        refine mi_as hz80 ?_
        have hsz38 : z51 = 4896 := (nI_eq (by omega) (by omega)).mp (hz80.symm.trans hxp49)
        subst hsz38
        refine W.widen (k := 1) (n := 2592) (by omega) (by omega) ?_
        refine ma_newa (ws := [] ++ pl) (atype := .byte) hx hb (hts _ (wg_t kw_72)) rfl hK hP hD hS hA 1 rfl (N' := 4896) (a0 := (4896, .inl (fun _ => 0))) (fun _ => rfl) (nI_pos (by omega)) (nI_clamp (by omega)) (by show (4896) * 1 ≤ 536870912; omega) (Nat.le_of_ble_eq_true rfl) (Nat.le_of_ble_eq_true rfl) dK_keys_60 (fun q61 H hP hD hS => ?_)
        refine W.widen (k := 2) (n := 7488) (by omega) (by omega) ?_
        obtain ⟨T, pl, hxt37, hU, kr108, hO, hP, hD, hnf37, hnl37⟩ := absorbN (sZ q60.2 (379 + 36 * pn + 17)) (379 + 36 * pn + 17) hP hD hO hU hfr55 (fun _ h9 => uA_ne h9) (fun _ _ => rfl) (fun _ _ _ => fitZ (pr_s5 (z := pn) (by omega)))
        have kr109 := hxt37 _ _ kr107
        have kr110 := hxt37 _ _ kr106
        have hXT := extN_tr hXT hxt37
        have hfr56 := hnf37 _ (by omega) hfr54
        have hlw43 := hnl37 _ (by omega) hlw42
        obtain ⟨s42, es37⟩ : ∃ x : Sto, x = sZ q60.2 (379 + 36 * pn + 17) := ⟨_, rfl⟩
        rw [← es37] at hO
        replace hR := bnd_step hR es37
        have hF := frm_sZ hF es37 (by unfold M_K_keys; omega)
        have hf146 : s42.1 0 1 = nI tl := fc_Z hf143 es37 (by omega)
        have hf147 : s42.1 0 3 = nI al := fc_Z hf144 es37 (by omega)
        have hf148 : s42.1 0 5 = nI pn := fc_Z hf145 es37 (by omega)
        refine lv_astore_n (lv' := [(3, .ref q61), (2, .ref q59), (0, .ref h0), (1, .int (nI 5))]) hx hb dK_keys_62 rfl hl (by decide) rfl (fun ls hl => ?_)
        refine lv_iload_n hx hb dK_keys_63 rfl (lv_at hl 3 rfl) ?_
        refine lv_iconst (v := nI 3) hx hb dK_keys_64 (by decide) ?_
        refine mi_ge (tgt := 90) hx hb dK_keys_65 (by decide) (by omega) (by omega) (fun h39 => ?_) (fun h39 => absurd h39 (by omega))
        refine lv_aload_n hx hb dK_keys_90 rfl (lv_at hl 2 rfl) ?_
        refine nw_get (C := "LatticeKeys") (TT := T_K) (N := 11) hx hb hts (wg_ft i_K) hown hK hO kr109 (kn := 0) (ci := 0) (fl := [(3, 1), (0, 0), (3, 2), (0, 0), (3, 3), (0, 0), (3, 4), (3, 8), (3, 12), (3, 24), (3, 39)]) rfl hP rfl 10 (by decide) (hts _ (wg_t kw_384)) (fun _ h9 => h9) (cd := (3, 39)) rfl dK_keys_91 (fun v48 hv49 => ?_)
        obtain ⟨r65, rfl, kr111⟩ := (show ∃ r : Nat, v48 = .ref r ∧ T r = some 39 from hv49)
        refine lv_aload_n hx hb dK_keys_94 rfl (lv_at hl 2 rfl) ?_
        refine nw_get (C := "LatticeKeys") (TT := T_K) (N := 11) hx hb hts (wg_ft i_K) hown hK hO kr109 (kn := 0) (ci := 0) (fl := [(3, 1), (0, 0), (3, 2), (0, 0), (3, 3), (0, 0), (3, 4), (3, 8), (3, 12), (3, 24), (3, 39)]) rfl hP rfl 7 (by decide) (hts _ (wg_t kw_381)) (fun _ h9 => h9) (cd := (3, 8)) rfl dK_keys_95 (fun v49 hv50 => ?_)
        obtain ⟨r66, rfl, kr112⟩ := (show ∃ r : Nat, v49 = .ref r ∧ T r = some 8 from hv50)
        refine lv_iload_n hx hb dK_keys_98 rfl (lv_at hl 3 rfl) ?_
        refine lv_iconst (v := nI 3) hx hb dK_keys_99 (by decide) ?_
        refine mi_isub hx hb dK_keys_100 (by omega) ?_
        refine mi_as (show nI (5 - 3) = nI 2 from rfl) ?_
        refine nw_aald7 hx hb hK hO kr112 (k := 8) (b := 9) rfl hP (by omega) (by omega) dK_keys_101 (fun r67 kr113 => ?_)
        refine lv_aload_n hx hb dK_keys_102 rfl (lv_at hl 2 rfl) ?_
        refine nw_get (C := "LatticeKeys") (TT := T_K) (N := 11) hx hb hts (wg_ft i_K) hown hK hO kr109 (kn := 0) (ci := 0) (fl := [(3, 1), (0, 0), (3, 2), (0, 0), (3, 3), (0, 0), (3, 4), (3, 8), (3, 12), (3, 24), (3, 39)]) rfl hP rfl 0 (by decide) (hts _ (wg_t kw_374)) (fun _ h9 => h9) (cd := (3, 1)) rfl dK_keys_103 (fun v50 hv51 => ?_)
        obtain ⟨r68, rfl, kr114⟩ := (show ∃ r : Nat, v50 = .ref r ∧ T r = some 1 from hv51)
        refine lv_aload_n hx hb dK_keys_106 rfl (lv_at hl 1 rfl) ?_
        refine lv_aload_n hx hb dK_keys_107 rfl (lv_at hl 0 rfl) ?_
        refine mp_v (cx := []) (wr := []) hP hD hS hA [] [] rfl rfl rfl (by decide) (va_runV (As := [.ref r67, .ref r68, .ref q59, .ref q61]) (rest := []) F (N_DA_makePair_2 l g _ T s42 pl hO hU r65 r67 r68 q59 q61 1 16384 (379 + 36 * pn + 16) (379 + 36 * pn + 17) kr111 kr113 kr114 rfl kr110 (pr_p5 (z := pn) (by omega)) kr108 (pr_s5 (z := pn) (by omega)) (by omega) (by omega)) (cwV 4 hts (wg_app (wg_c kw_665 (wg_c kw_666 (wg_c kw_667 (wg_c kw_5 wg_n)))) kw_668) rfl rfl rfl (by decide +kernel) ⟨by decide, by decide⟩) (pn_W "LatticeKeys$Dsa" (en_ok g) (ci := 6) (kn := 39) (fl := [(3, 16), (3, 22), (3, 37), (3, 40), (3, 97), (3, 105), (3, 114), (3, 123), (3, 131), (3, 140), (3, 141), (3, 142), (3, 143), (3, 144), (3, 145), (3, 146), (3, 147)]) hK hO kr111 rfl hP hD hS hA hE [] rfl rfl rfl) rfl rfl hl.1 rfl (lv_room (Nat.le_of_ble_eq_true rfl)) dK_keys_108 ⟨Nat.le_of_ble_eq_true rfl, Nat.le_of_ble_eq_true rfl⟩) (fun  u50 H locs hu50 hP hD hS => ?_)
        obtain ⟨s43, pl⟩ := u50
        obtain ⟨⟨eq50, hFc50, -⟩, hO⟩ := hu50
        have hO : okn g T s43 pl := hO
        have hP : va_P g.1 vcl ([] ++ pl) _ := hP
        have hD : va_D _ ([] ++ pl) := hD
        have hFc50 : frm (M_DA_makePair_2 (379 + 36 * pn + 16) (379 + 36 * pn + 17)) s42 s43 := hFc50
        replace hR := bnd_step hR eq50
        have hF := frm_tr hF hFc50 (fun k hk => by unfold M_DA_makePair_2 at hk; unfold M_K_keys; omega)
        have hf149 : s43.1 0 1 = nI tl := fc_F hf146 hFc50 (by unfold M_DA_makePair_2; omega)
        have hf150 : s43.1 0 3 = nI al := fc_F hf147 hFc50 (by unfold M_DA_makePair_2; omega)
        have hf151 : s43.1 0 5 = nI pn := fc_F hf148 hFc50 (by unfold M_DA_makePair_2; omega)
        refine W.widen (k := 2) (n := 7488) (by omega) (by omega) ?_
        refine lv_aload_n hx hb dK_keys_111 rfl (lv_at hl 2 rfl) ?_
        refine lv_iconst (v := nI 0) hx hb dK_keys_112 (by decide) ?_
        refine nw_put (C := "LatticeKeys") (TT := T_K) (N := 11) hx hb hts (wg_ft i_K) ty_K k_K n_K hown hK hO hU kr109 (kn := 0) (ci := 0) (fl := [(3, 1), (0, 0), (3, 2), (0, 0), (3, 3), (0, 0), (3, 4), (3, 8), (3, 12), (3, 24), (3, 39)]) rfl hP hD hS rfl 1 (by decide) (hts _ (wg_t kw_375)) (fun _ h9 => h9) rfl (by decide +kernel) rfl dK_keys_113 (fun s44 pl H locs es38 hO hP hD hS => ?_)
        replace hR := bnd_step hR es38
        have hF := frm_sI hF es38 (by unfold M_K_keys; omega)
        have hf153 : s44.1 0 3 = nI al := fc_ne hf150 es38 (by omega)
        have hf154 : s44.1 0 5 = nI pn := fc_ne hf151 es38 (by omega)
        have hf155 : s44.1 0 1 = nI 0 := fc_eq es38
        refine lv_aload_n hx hb dK_keys_116 rfl (lv_at hl 2 rfl) ?_
        refine va_new (ws := [] ++ pl) (ci := 13) (fs := [.int 0, .null, .null]) (C := "LatticeKeys$KeyPair") (T := T_KP) (N := 3) hx hb hts (wg_ft i_KP) ty_KP k_KP hown (hts _ (wg_t kw_43)) (hts _ (wg_t kw_740)) (hts _ (wg_t kw_24)) hK hP hD hS hA rfl z_KP (Nat.le_of_ble_eq_true rfl) (Nat.le_of_ble_eq_true rfl) dK_keys_117 (fun q62 H hP hD hS => ?_)
        obtain ⟨hP, hD⟩ := mv_first hP hD
        have hP : va_P g.1 vcl ([(q62, .inr (13, [.int 0, .null, .null]))] ++ pl) _ := hP
        have hD : va_D _ ([(q62, .inr (13, [.int 0, .null, .null]))] ++ pl) := hD
        refine W.widen (k := 3) (n := 7491) (by omega) (by omega) ?_
        refine lv_dup hx hb dK_keys_120 rfl ?_
        refine lv_iload_n hx hb dK_keys_121 rfl (lv_at hl 3 rfl) ?_
        refine lv_aload_n hx hb dK_keys_122 rfl (lv_at hl 1 rfl) ?_
        refine lv_aload_n hx hb dK_keys_123 rfl (lv_at hl 0 rfl) ?_
        refine mq_v (cx := [(q62, .inr (13, [.int 0, .null, .null]))]) (wr := []) hP hD hS hA [0] [] rfl rfl rfl (by decide) (va_runI (As := [.int (nI 5), .ref q59, .ref q61]) (rest := [.ref q62, .ref h0]) F (m_KP_init_s l g _ q62 q59 q61 (nI 5)) (cwI 3 hts (wg_in kw_743) rfl rfl rfl (hts _ (wg_t kw_24)) (hts _ (wg_t kw_741)) (hts _ (wg_t kw_742)) rfl (by decide +kernel) ⟨by decide, by decide⟩) (pr_S (en_ok g) hP hD hS hA hE [0] rfl rfl) rfl rfl hl.1 rfl (lv_room (Nat.le_of_ble_eq_true rfl)) dK_keys_124 ⟨Nat.le_of_ble_eq_true rfl, Nat.le_of_ble_eq_true rfl⟩) (fun _ H locs _ hP hD hS => ?_)
        obtain ⟨hP, hD⟩ := mv_last (X := []) (c := (q62, .inr (13, [.int (nI 5), .ref q59, .ref q61]))) hP hD
        refine W.widen (k := 3) (n := 7491) (by omega) (by omega) ?_
        obtain ⟨T, pl, hxt38, hU, kr115, hO, hP, hD, hnf38, hnl38⟩ := absorbN (s44) (379 + 36 * pn + 15) hP hD hO hU hfr56 (fun _ _ => rfl) (fun _ _ => rfl) (fun _ h9 _ => fitP (pr_o5 (z := pn) (by omega)) (h9 _ _ kr110) (h9 _ _ kr108))
        have kr116 := hxt38 _ _ kr109
        have kr117 := hxt38 _ _ kr110
        have kr118 := hxt38 _ _ kr108
        have kr119 := hxt38 _ _ kr111
        have kr120 := hxt38 _ _ kr112
        have kr121 := hxt38 _ _ kr113
        have kr122 := hxt38 _ _ kr114
        have hXT := extN_tr hXT hxt38
        have hlw44 := hnl38 _ (by omega) hlw43
        refine mp_i (cx := []) (wr := []) hP hD hS hA [] [] rfl rfl rfl (by decide) (va_runV (As := [.ref q62]) (rest := []) F (N_K_keep l g _ T s44 pl hO hU h0 q62 5 0 al pn kr116 kr115 hf155 hf153 hf154 (by omega) (by omega) (by omega) (by omega)) (cwV 1 hts (wg_app (wg_c kw_760 (wg_c kw_762 (wg_c ks_19 (wg_c kw_1 wg_n)))) kw_763) rfl rfl rfl (by decide +kernel) ⟨by decide, by decide⟩) (pn_W "LatticeKeys" (en_ok g) (ci := 0) (kn := 0) (fl := [(3, 1), (0, 0), (3, 2), (0, 0), (3, 3), (0, 0), (3, 4), (3, 8), (3, 12), (3, 24), (3, 39)]) hK hO kr116 rfl hP hD hS hA hE [] rfl rfl rfl) rfl rfl hl.1 rfl (lv_room (Nat.le_of_ble_eq_true rfl)) dK_keys_127 ⟨Nat.le_of_ble_eq_true rfl, Nat.le_of_ble_eq_true rfl⟩) (fun r69 u51 H locs hu51 hP hD hS => ?_)
        obtain ⟨q63, pl⟩ := u51
        obtain ⟨⟨eq51, rfl, hFc51, ⟨x66, hx_66, hb_66⟩, ⟨x67, hx_67, hb_67⟩, ⟨x68, hx_68, hb_68⟩, -⟩, hO⟩ := hu51
        have hO : okn g T q63.2 pl := hO
        have hP : va_P g.1 vcl ([] ++ pl) _ := hP
        have hD : va_D _ ([] ++ pl) := hD
        have hFc51 : frm (M_K_keep) s44 q63.2 := hFc51
        have hb_66 : x66 = 0 := hb_66
        have hb_67 : x67 = al := hb_67
        have hb_68 : x68 = pn + 1 := hb_68
        replace hR := bnd_step hR eq51
        have hF := frm_tr hF hFc51 (fun k hk => by unfold M_K_keep at hk; unfold M_K_keys; omega)
        refine W.widen (k := 3) (n := 7491) (by omega) (by omega) ?_
        refine et_ret ?_
        exact mp_iret hx hb hr hlk hP hD hS (((nI 0, q63.1, q63.2), T), pl) ⟨⟨hR.symm, rfl, rfl, hF, ⟨x66, hx_66, by omega⟩, ⟨x67, hx_67, by omega⟩, ⟨x68, hx_68, by omega⟩, trivial, hXT, hU, ⟨x68, hx_68, by omega, (lowT_up hlw44 (by omega))⟩⟩, hO⟩ [] rfl rfl rfl (by omega) (by omega) dK_keys_130
      · replace hR := hR.trans (if_neg (Nat.not_lt.mpr h38))
        exact et_throw (own := "LatticeKeys") (cls := "java/lang/IllegalStateException") (text := "no room for more keys") (names := ["java/lang/RuntimeException", "java/lang/Exception"]) (ik := 69) (is := 105) (ic := 73) hx hb htr ctr_ISE_0 ctr_ISE_1 ctr_ISE_2 ctr_ISE_5 hown (by decide) (by decide) (hts _ (wg_t kw_420)) (hts _ (wg_t kw_17)) (hX.2.2.2.2.2.1 4 ("LatticeKeys", 105, "no room for more keys") rfl) (hat_ISE hts hX.2) hS.1 (hl.1.trans hml.symm) dK_keys_37 dK_keys_40 dK_keys_41 dK_keys_43 dK_keys_46 htab (Nat.le_of_ble_eq_true rfl) (Nat.le_of_ble_eq_true rfl) (Nat.le_of_ble_eq_true rfl) (Nat.le_of_ble_eq_true rfl) hlk (Nat.le_of_ble_eq_true rfl) (Nat.le_of_ble_eq_true rfl) (xls_at 1 (congrArg Prod.fst hR) (by decide) rfl) hS.2.2 (thr_st hX.2) (fun t hz9 hk9 => ⟨⟨(((nI 2, nI 0, q57.2), T), pl), ⟨⟨hR.symm, hF, ⟨tl, hf134, by omega⟩, ⟨al, hf135, by omega⟩, ⟨pn, hf136, by omega⟩, trivial, hXT, hU, ⟨pn, hf136, by omega, (lowT_up hlow (by omega))⟩⟩, hO⟩, lc_P hP hk9, hD⟩, (lc_S hS hz9 hk9).F rfl⟩)
    · replace hR := hR.trans (if_neg h37)
      exact et_throw (own := "LatticeKeys") (cls := "java/lang/IllegalArgumentException") (text := "no such set, or a seed of another length") (names := ["java/lang/RuntimeException", "java/lang/Exception"]) (ik := 79) (is := 103) (ic := 83) hx hb htr ctr_IAE_0 ctr_IAE_1 ctr_IAE_2 ctr_IAE_5 hown (by decide) (by decide) (hts _ (wg_t kw_501)) (hts _ (wg_t kw_18)) (hX.2.2.2.2.2.1 3 ("LatticeKeys", 103, "no such set, or a seed of another length") rfl) (hat_IAE hts hX.2) hS.1 (hl.1.trans hml.symm) dK_keys_18 dK_keys_21 dK_keys_22 dK_keys_24 dK_keys_27 htab (Nat.le_of_ble_eq_true rfl) (Nat.le_of_ble_eq_true rfl) (Nat.le_of_ble_eq_true rfl) (Nat.le_of_ble_eq_true rfl) hlk (Nat.le_of_ble_eq_true rfl) (Nat.le_of_ble_eq_true rfl) (xls_at 0 (congrArg Prod.fst hR) (by decide) rfl) hS.2.2 (thr_st hX.2) (fun t hz9 hk9 => ⟨⟨(((nI 1, nI 0, q57.2), T), pl), ⟨⟨hR.symm, hF, ⟨tl, hf134, by omega⟩, ⟨al, hf135, by omega⟩, ⟨pn, hf136, by omega⟩, trivial, hXT, hU, ⟨pn, hf136, by omega, (lowT_up hlow (by omega))⟩⟩, hO⟩, lc_P hP hk9, hD⟩, (lc_S hS hz9 hk9).F rfl⟩)
