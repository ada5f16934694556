set_option linter.all false
abbrev c_K_hash : ByteArray := prog_1_method_15_code
abbrev y_K_hash : MethodName := ⟨"LatticeKeys", "hash", "(II)I"⟩
abbrev w_K_hash : List Cond := Cond.code y_K_hash c_K_hash 3 (some .int) :: WG
theorem dK_hash_0 : decode c_K_hash 0 = .ok (.iload_n 1, 1) := by decide +kernel
theorem dK_hash_1 : decode c_K_hash 1 = .ok (.ifCond .lt 19, 3) := by decide +kernel
theorem dK_hash_4 : decode c_K_hash 4 = .ok (.iload_n 1, 1) := by decide +kernel
theorem dK_hash_5 : decode c_K_hash 5 = .ok (.iconst 3, 1) := by decide +kernel
theorem dK_hash_6 : decode c_K_hash 6 = .ok (.if_icmp .gt 14, 3) := by decide +kernel
theorem dK_hash_9 : decode c_K_hash 9 = .ok (.iload_n 2, 1) := by decide +kernel
theorem dK_hash_10 : decode c_K_hash 10 = .ok (.ifCond .lt 10, 3) := by decide +kernel
theorem dK_hash_13 : decode c_K_hash 13 = .ok (.iload_n 2, 1) := by decide +kernel
theorem dK_hash_14 : decode c_K_hash 14 = .ok (.sipush 8192, 3) := by decide +kernel
theorem dK_hash_17 : decode c_K_hash 17 = .ok (.if_icmp .le 13, 3) := by decide +kernel
theorem dK_hash_20 : decode c_K_hash 20 = .ok (.new 79, 3) := by decide +kernel
theorem dK_hash_23 : decode c_K_hash 23 = .ok (.dup, 1) := by decide +kernel
theorem dK_hash_24 : decode c_K_hash 24 = .ok (.ldc 226, 2) := by decide +kernel
theorem dK_hash_26 : decode c_K_hash 26 = .ok (.invokespecial 83, 3) := by decide +kernel
theorem dK_hash_29 : decode c_K_hash 29 = .ok (.athrow, 1) := by decide +kernel
theorem dK_hash_30 : decode c_K_hash 30 = .ok (.aload_n 0, 1) := by decide +kernel
theorem dK_hash_31 : decode c_K_hash 31 = .ok (.iload_n 1, 1) := by decide +kernel
theorem dK_hash_32 : decode c_K_hash 32 = .ok (.ifCond .ne 8, 3) := by decide +kernel
theorem dK_hash_35 : decode c_K_hash 35 = .ok (.bipush 32, 2) := by decide +kernel
theorem dK_hash_37 : decode c_K_hash 37 = .ok (.goto 14, 3) := by decide +kernel
theorem dK_hash_40 : decode c_K_hash 40 = .ok (.iload_n 1, 1) := by decide +kernel
theorem dK_hash_41 : decode c_K_hash 41 = .ok (.iconst 1, 1) := by decide +kernel
theorem dK_hash_42 : decode c_K_hash 42 = .ok (.if_icmp .ne 8, 3) := by decide +kernel
theorem dK_hash_45 : decode c_K_hash 45 = .ok (.bipush 64, 2) := by decide +kernel
theorem dK_hash_47 : decode c_K_hash 47 = .ok (.goto 4, 3) := by decide +kernel
theorem dK_hash_50 : decode c_K_hash 50 = .ok (.iload_n 2, 1) := by decide +kernel
theorem dK_hash_51 : decode c_K_hash 51 = .ok (.putfield 20, 3) := by decide +kernel
theorem dK_hash_54 : decode c_K_hash 54 = .ok (.aload_n 0, 1) := by decide +kernel
theorem dK_hash_55 : decode c_K_hash 55 = .ok (.getfield 47, 3) := by decide +kernel
theorem dK_hash_58 : decode c_K_hash 58 = .ok (.iload_n 1, 1) := by decide +kernel
theorem dK_hash_59 : decode c_K_hash 59 = .ok (.invokevirtual 228, 3) := by decide +kernel
theorem dK_hash_62 : decode c_K_hash 62 = .ok (.aload_n 0, 1) := by decide +kernel
theorem dK_hash_63 : decode c_K_hash 63 = .ok (.getfield 47, 3) := by decide +kernel
theorem dK_hash_66 : decode c_K_hash 66 = .ok (.aload_n 0, 1) := by decide +kernel
theorem dK_hash_67 : decode c_K_hash 67 = .ok (.getfield 9, 3) := by decide +kernel
theorem dK_hash_70 : decode c_K_hash 70 = .ok (.iconst 0, 1) := by decide +kernel
theorem dK_hash_71 : decode c_K_hash 71 = .ok (.aload_n 0, 1) := by decide +kernel
theorem dK_hash_72 : decode c_K_hash 72 = .ok (.getfield 13, 3) := by decide +kernel
theorem dK_hash_75 : decode c_K_hash 75 = .ok (.invokevirtual 231, 3) := by decide +kernel
theorem dK_hash_78 : decode c_K_hash 78 = .ok (.aload_n 0, 1) := by decide +kernel
theorem dK_hash_79 : decode c_K_hash 79 = .ok (.getfield 47, 3) := by decide +kernel
theorem dK_hash_82 : decode c_K_hash 82 = .ok (.invokevirtual 235, 3) := by decide +kernel
theorem dK_hash_85 : decode c_K_hash 85 = .ok (.aload_n 0, 1) := by decide +kernel
theorem dK_hash_86 : decode c_K_hash 86 = .ok (.getfield 47, 3) := by decide +kernel
theorem dK_hash_89 : decode c_K_hash 89 = .ok (.aload_n 0, 1) := by decide +kernel
theorem dK_hash_90 : decode c_K_hash 90 = .ok (.getfield 17, 3) := by decide +kernel
theorem dK_hash_93 : decode c_K_hash 93 = .ok (.iconst 0, 1) := by decide +kernel
theorem dK_hash_94 : decode c_K_hash 94 = .ok (.aload_n 0, 1) := by decide +kernel
theorem dK_hash_95 : decode c_K_hash 95 = .ok (.getfield 20, 3) := by decide +kernel
theorem dK_hash_98 : decode c_K_hash 98 = .ok (.invokevirtual 238, 3) := by decide +kernel
theorem dK_hash_101 : decode c_K_hash 101 = .ok (.aload_n 0, 1) := by decide +kernel
theorem dK_hash_102 : decode c_K_hash 102 = .ok (.iconst 0, 1) := by decide +kernel
theorem dK_hash_103 : decode c_K_hash 103 = .ok (.putfield 13, 3) := by decide +kernel
theorem dK_hash_106 : decode c_K_hash 106 = .ok (.aload_n 0, 1) := by decide +kernel
theorem dK_hash_107 : decode c_K_hash 107 = .ok (.getfield 20, 3) := by decide +kernel
theorem dK_hash_110 : decode c_K_hash 110 = .ok (.ireturn, 1) := by decide +kernel
def M_K_hash (k : Nat) : Prop := k = 0 ∨ k = 12 ∨ k = 2 ∨ (0 : Nat) = 1
noncomputable def F_K_hash (v : Int32) (v2 : Int32) (s : Sto) : Int32 × Int32 × Sto := if v < 0 then (nI 1, nI 0, s) else if (nI 3) < v then (nI 1, nI 0, s) else bnd (v.toNatClampNeg) fun z21 => if v2 < 0 then (nI 1, nI 0, s) else if v2 ≤ (nI 8192) then bnd (v2.toNatClampNeg) fun z22 => if z21 = 0 then bnd (sI s 0 3 (nI 32)) fun s21 => bnd (F_SP_start_0 12 13 s21) fun s22 => bnd ((s22.1 0 1).toNatClampNeg) fun z23 => bnd (F_SP_absorb 12 13 1 16384 0 z23 s22) fun s23 => bnd (F_SP_finish 12 13 s23) fun s24 => bnd ((s24.1 0 3).toNatClampNeg) fun z24 => bnd (F_SP_squeeze 12 13 2 8192 0 z24 s24) fun s25 => bnd (sI s25 0 1 (nI 0)) fun s26 => bnd ((s26.1 0 3).toNatClampNeg) fun z25 => (nI 0, nI z25, s26) else if z21 = 1 then bnd (sI s 0 3 (nI 64)) fun s27 => bnd (F_SP_start_1 12 13 s27) fun s28 => bnd ((s28.1 0 1).toNatClampNeg) fun z26 => bnd (F_SP_absorb 12 13 1 16384 0 z26 s28) fun s29 => bnd (F_SP_finish 12 13 s29) fun s30 => bnd ((s30.1 0 3).toNatClampNeg) fun z27 => bnd (F_SP_squeeze 12 13 2 8192 0 z27 s30) fun s31 => bnd (sI s31 0 1 (nI 0)) fun s32 => bnd ((s32.1 0 3).toNatClampNeg) fun z28 => (nI 0, nI z28, s32) else if z21 = 2 then bnd (sI s 0 3 (nI z22)) fun s33 => bnd (F_SP_start_2 12 13 s33) fun s34 => bnd ((s34.1 0 1).toNatClampNeg) fun z29 => bnd (F_SP_absorb 12 13 1 16384 0 z29 s34) fun s35 => bnd (F_SP_finish 12 13 s35) fun s36 => bnd ((s36.1 0 3).toNatClampNeg) fun z30 => bnd (F_SP_squeeze 12 13 2 8192 0 z30 s36) fun s37 => bnd (sI s37 0 1 (nI 0)) fun s38 => bnd ((s38.1 0 3).toNatClampNeg) fun z31 => (nI 0, nI z31, s38) else bnd (sI s 0 3 (nI z22)) fun s39 => bnd (F_SP_start_3 12 13 s39) fun s40 => bnd ((s40.1 0 1).toNatClampNeg) fun z32 => bnd (F_SP_absorb 12 13 1 16384 0 z32 s40) fun s41 => bnd (F_SP_finish 12 13 s41) fun s42 => bnd ((s42.1 0 3).toNatClampNeg) fun z33 => bnd (F_SP_squeeze 12 13 2 8192 0 z33 s42) fun s43 => bnd (sI s43 0 1 (nI 0)) fun s44 => bnd ((s44.1 0 3).toNatClampNeg) fun z34 => (nI 0, nI z34, s44) else (nI 1, nI 0, s)
set_option maxHeartbeats 2000000 in
set_option maxRecDepth 100000 in
theorem N_K_hash (l : Launch) (htr : l.stackTraces = false) (g : Gd) (sz : Nat) (T : TyN) (s : Sto) (pl : va_W) (hO : okn g T s pl) (hU : inj T) (h0 : Nat) (v : Int32) (v2 : Int32) (tl : Nat) (al : Nat) (pn : Nat) (k_h0 : T h0 = some 0) (e_tl : s.1 0 1 = nI tl) (e_al : s.1 0 3 = nI al) (e_pn : s.1 0 5 = nI pn) (h1 : tl ≤ 16384) (h2 : al ≤ 8192) (h3 : pn ≤ 8)  : etMet l y_K_hash w_K_hash ({ frames := 6, cells := 1, slots := 6, locals := 100 } : Room) (va_Pc [.ref h0, .int v, .int v2] (pr (ex g) g.1 vcl sz ([] ++ pl))) (xls ["java/lang/IllegalArgumentException"] (F_K_hash v v2 s).1) (va_Qi (fun (r : Int32) (u : (Int32 × Int32 × Sto) × va_W) => (u.1 = F_K_hash v v2 s ∧ r = u.1.2.1 ∧ u.1.1 = nI 0 ∧ frm (M_K_hash) s u.1.2.2 ∧ (∃ x : Nat, u.1.2.2.1 0 1 = nI x ∧ x ≤ 16384) ∧ (∃ x : Nat, u.1.2.2.1 0 3 = nI x ∧ x ≤ 8192) ∧ (∃ x : Nat, u.1.2.2.1 0 5 = nI x ∧ x = pn) ∧ True) ∧ okn g T u.1.2.2 u.2) (po g.1 vcl (va_A ([] ++ pl) sz) (fun (u : (Int32 × Int32 × Sto) × va_W) => [] ++ u.2)) (va_A ([] ++ pl) sz)) (xtP (fun (u : (Int32 × Int32 × Sto) × va_W) => (u.1 = F_K_hash v v2 s ∧ frm (M_K_hash) s u.1.2.2 ∧ (∃ x : Nat, u.1.2.2.1 0 1 = nI x ∧ x ≤ 16384) ∧ (∃ x : Nat, u.1.2.2.1 0 3 = nI x ∧ x ≤ 8192) ∧ (∃ x : Nat, u.1.2.2.1 0 5 = nI x ∧ x = pn) ∧ True) ∧ okn g T u.1.2.2 u.2) (po g.1 vcl (va_A ([] ++ pl) sz) (fun (u : (Int32 × Int32 × Sto) × va_W) => [] ++ u.2)) (va_A ([] ++ pl) sz)) 1 6 (va_A ([] ++ pl) sz) := by
  refine et_entry (cc := c_K_hash) (maxL := 3) (ret := (some .int)) (by decide) rfl (Nat.le_of_ble_eq_true rfl) ?_
  intro p e s0 m args below meth c ls F hr hlk htab hsz hP hD hX hA hl
  obtain ⟨hx, hb, hml, hown, hts⟩ := id F
  have hE := hX.1
  have hK := hE.1
  generalize va_A ([] ++ pl) sz = A at hD hX hE hA ⊢
  have hS : va_S A s0.heap s0.heap [] := va_S.rf
  have hl : lv_has ls 3 [(0, .ref h0), (1, .int v), (2, .int v2)] := hl
  have hR : F_K_hash v v2 s = F_K_hash v v2 s := rfl
  have hF : frm (M_K_hash) s s := frm_rf
  refine lv_iload_n hx hb dK_hash_0 rfl (lv_at hl 1 rfl) ?_
  refine lv_if_lt (tgt := 20) hx hb dK_hash_1 (by decide) (fun h21 => ?_) (fun h21 => ?_)
  · replace hR := hR.trans (if_pos h21)
    exact et_throw (own := "LatticeKeys") (cls := "java/lang/IllegalArgumentException") (text := "no such hash or length") (names := ["java/lang/RuntimeException", "java/lang/Exception"]) (ik := 79) (is := 226) (ic := 83) hx hb htr ctr_IAE_0 ctr_IAE_1 ctr_IAE_2 ctr_IAE_5 hown (by decide) (by decide) (hts _ (wg_t kw_501)) (hts _ (wg_t kw_18)) (hX.2.2.2.2.2.1 19 ("LatticeKeys", 226, "no such hash or length") rfl) (hat_IAE hts hX.2) hS.1 (hl.1.trans hml.symm) dK_hash_20 dK_hash_23 dK_hash_24 dK_hash_26 dK_hash_29 htab (Nat.le_of_ble_eq_true rfl) (Nat.le_of_ble_eq_true rfl) (Nat.le_of_ble_eq_true rfl) (Nat.le_of_ble_eq_true rfl) hlk (Nat.le_of_ble_eq_true rfl) (Nat.le_of_ble_eq_true rfl) (xls_at 0 (congrArg Prod.fst hR) (by decide) rfl) hS.2.2 (thr_st hX.2) (fun t hz9 hk9 => ⟨⟨((nI 1, nI 0, s), pl), ⟨⟨hR.symm, hF, ⟨tl, e_tl, by omega⟩, ⟨al, e_al, by omega⟩, ⟨pn, e_pn, by omega⟩, trivial⟩, hO⟩, lc_P hP hk9, hD⟩, (lc_S hS hz9 hk9).F rfl⟩)
  · replace hR := hR.trans (if_neg h21)
    refine lv_iload_n hx hb dK_hash_4 rfl (lv_at hl 1 rfl) ?_
    refine lv_iconst (v := nI 3) hx hb dK_hash_5 (by decide) ?_
    refine lv_icmp_gt (tgt := 20) hx hb dK_hash_6 (by decide) (fun h22 => ?_) (fun h22 => ?_)
    · replace hR := hR.trans (if_pos h22)
      exact et_throw (own := "LatticeKeys") (cls := "java/lang/IllegalArgumentException") (text := "no such hash or length") (names := ["java/lang/RuntimeException", "java/lang/Exception"]) (ik := 79) (is := 226) (ic := 83) hx hb htr ctr_IAE_0 ctr_IAE_1 ctr_IAE_2 ctr_IAE_5 hown (by decide) (by decide) (hts _ (wg_t kw_501)) (hts _ (wg_t kw_18)) (hX.2.2.2.2.2.1 19 ("LatticeKeys", 226, "no such hash or length") rfl) (hat_IAE hts hX.2) hS.1 (hl.1.trans hml.symm) dK_hash_20 dK_hash_23 dK_hash_24 dK_hash_26 dK_hash_29 htab (Nat.le_of_ble_eq_true rfl) (Nat.le_of_ble_eq_true rfl) (Nat.le_of_ble_eq_true rfl) (Nat.le_of_ble_eq_true rfl) hlk (Nat.le_of_ble_eq_true rfl) (Nat.le_of_ble_eq_true rfl) (xls_at 0 (congrArg Prod.fst hR) (by decide) rfl) hS.2.2 (thr_st hX.2) (fun t hz9 hk9 => ⟨⟨((nI 1, nI 0, s), pl), ⟨⟨hR.symm, hF, ⟨tl, e_tl, by omega⟩, ⟨al, e_al, by omega⟩, ⟨pn, e_pn, by omega⟩, trivial⟩, hO⟩, lc_P hP hk9, hD⟩, (lc_S hS hz9 hk9).F rfl⟩)
    · replace hR := hR.trans (if_neg h22)
      obtain ⟨z21, hz21, hv21⟩ := i32_lex h21 (by omega) h22
      have ez21 : z21 = v.toNatClampNeg := by rw [hv21]; exact (nI_clamp (by omega)).symm
      replace hR := bnd_step hR ez21
      rw [hv21] at hl
      refine lv_iload_n hx hb dK_hash_9 rfl (lv_at hl 2 rfl) ?_
      refine lv_if_lt (tgt := 20) hx hb dK_hash_10 (by decide) (fun h23 => ?_) (fun h23 => ?_)
      · replace hR := hR.trans (if_pos h23)
        exact et_throw (own := "LatticeKeys") (cls := "java/lang/IllegalArgumentException") (text := "no such hash or length") (names := ["java/lang/RuntimeException", "java/lang/Exception"]) (ik := 79) (is := 226) (ic := 83) hx hb htr ctr_IAE_0 ctr_IAE_1 ctr_IAE_2 ctr_IAE_5 hown (by decide) (by decide) (hts _ (wg_t kw_501)) (hts _ (wg_t kw_18)) (hX.2.2.2.2.2.1 19 ("LatticeKeys", 226, "no such hash or length") rfl) (hat_IAE hts hX.2) hS.1 (hl.1.trans hml.symm) dK_hash_20 dK_hash_23 dK_hash_24 dK_hash_26 dK_hash_29 htab (Nat.le_of_ble_eq_true rfl) (Nat.le_of_ble_eq_true rfl) (Nat.le_of_ble_eq_true rfl) (Nat.le_of_ble_eq_true rfl) hlk (Nat.le_of_ble_eq_true rfl) (Nat.le_of_ble_eq_true rfl) (xls_at 0 (congrArg Prod.fst hR) (by decide) rfl) hS.2.2 (thr_st hX.2) (fun t hz9 hk9 => ⟨⟨((nI 1, nI 0, s), pl), ⟨⟨hR.symm, hF, ⟨tl, e_tl, by omega⟩, ⟨al, e_al, by omega⟩, ⟨pn, e_pn, by omega⟩, trivial⟩, hO⟩, lc_P hP hk9, hD⟩, (lc_S hS hz9 hk9).F rfl⟩)
      · replace hR := hR.trans (if_neg h23)
        refine lv_iload_n hx hb dK_hash_13 rfl (lv_at hl 2 rfl) ?_
        refine lv_sipush (v := nI 8192) hx hb dK_hash_14 (by decide) ?_
        refine lv_icmp_le (tgt := 30) hx hb dK_hash_17 (by decide) (fun h24 => ?_) (fun h24 => ?_)
        · replace hR := hR.trans (if_pos h24)
          obtain ⟨z22, hz22, hv22⟩ := i32_le h23 (by omega) h24
          have ez22 : z22 = v2.toNatClampNeg := by rw [hv22]; exact (nI_clamp (by omega)).symm
          replace hR := bnd_step hR ez22
          rw [hv22] at hl
          by_cases hs21 : z21 = 0
          · replace hR := hR.trans (if_pos hs21)
            subst hs21
            refine lv_aload_n hx hb dK_hash_30 rfl (lv_at hl 0 rfl) ?_
            refine lv_iload_n hx hb dK_hash_31 rfl (lv_at hl 1 rfl) ?_
            refine lv_if_ne (tgt := 40) hx hb dK_hash_32 (by decide) (fun h25 => absurd h25 (by decide)) (fun h25 => ?_)
            refine lv_bipush (v := nI 32) hx hb dK_hash_35 (by decide) ?_
            refine lv_goto (tgt := 51) hx hb dK_hash_37 (by decide) ?_
            refine nw_put (C := "LatticeKeys") (TT := T_K) (N := 11) hx hb hts (wg_ft i_K) ty_K k_K n_K hown hK hO hU k_h0 (kn := 0) (ci := 0) (fl := [(3, 1), (0, 0), (3, 2), (0, 0), (3, 3), (0, 0), (3, 4), (3, 8), (3, 12), (3, 24), (3, 39)]) rfl hP hD hS rfl 3 (by decide) (hts _ (wg_t kw_377)) (fun _ h9 => h9) rfl (by decide +kernel) rfl dK_hash_51 (fun s21 pl H locs es21 hO hP hD hS => ?_)
            replace hR := bnd_step hR es21
            have hF := frm_sI hF es21 (by unfold M_K_hash; omega)
            have hf21 : s21.1 0 1 = nI tl := fc_ne e_tl es21 (by omega)
            have hf23 : s21.1 0 5 = nI pn := fc_ne e_pn es21 (by omega)
            have hf24 : s21.1 0 3 = nI 32 := fc_eq es21
            refine lv_aload_n hx hb dK_hash_54 rfl (lv_at hl 0 rfl) ?_
            refine nw_get (C := "LatticeKeys") (TT := T_K) (N := 11) hx hb hts (wg_ft i_K) hown hK hO k_h0 (kn := 0) (ci := 0) (fl := [(3, 1), (0, 0), (3, 2), (0, 0), (3, 3), (0, 0), (3, 4), (3, 8), (3, 12), (3, 24), (3, 39)]) rfl hP rfl 8 (by decide) (hts _ (wg_t kw_382)) (fun _ h9 => h9) (cd := (3, 12)) rfl dK_hash_55 (fun v21 hv23 => ?_)
            obtain ⟨r21, rfl, kr21⟩ := (show ∃ r : Nat, v21 = .ref r ∧ T r = some 12 from hv23)
            refine lv_iload_n hx hb dK_hash_58 rfl (lv_at hl 1 rfl) ?_
            refine mp_v (cx := []) (wr := []) hP hD hS hA [] [] rfl rfl rfl (by decide) (va_runV (As := [.int (nI 0)]) (rest := []) F (N_SP_start_0 l g _ T s21 pl hO hU r21 12 13 kr21 rfl rfl) (cwV 1 hts (wg_app (wg_c kw_1299 (wg_c kw_579 (wg_c kw_580 (wg_c kw_2 wg_n)))) kw_581) rfl rfl rfl (by decide +kernel) ⟨by decide, by decide⟩) (pn_W "LatticeKeys$Sponge" (en_ok g) (ci := 3) (kn := 12) (fl := [(3, 13), (0, 0), (0, 0), (0, 0)]) hK hO kr21 rfl hP hD hS hA hE [] rfl rfl rfl) rfl rfl hl.1 rfl (lv_room (Nat.le_of_ble_eq_true rfl)) dK_hash_59 ⟨Nat.le_of_ble_eq_true rfl, Nat.le_of_ble_eq_true rfl⟩) (fun  u21 H locs hu21 hP hD hS => ?_)
            obtain ⟨s22, pl⟩ := u21
            obtain ⟨⟨eq21, hFc21, ⟨x21, hx_21, hb_21⟩, ⟨x22, hx_22, hb_22⟩, -⟩, hO⟩ := hu21
            have hO : okn g T s22 pl := hO
            have hP : va_P g.1 vcl ([] ++ pl) _ := hP
            have hD : va_D _ ([] ++ pl) := hD
            have hFc21 : frm (M_SP_start_0 12) s21 s22 := hFc21
            have hb_21 : x21 = 0 := hb_21
            have hb_22 : x22 = 136 := hb_22
            replace hR := bnd_step hR eq21
            have hF := frm_tr hF hFc21 (fun k hk => by unfold M_SP_start_0 at hk; unfold M_K_hash; omega)
            have hf25 : s22.1 0 1 = nI tl := fc_F hf21 hFc21 (by unfold M_SP_start_0; omega)
            have hf26 : s22.1 0 5 = nI pn := fc_F hf23 hFc21 (by unfold M_SP_start_0; omega)
            have hf27 : s22.1 0 3 = nI 32 := fc_F hf24 hFc21 (by unfold M_SP_start_0; omega)
            refine W.widen (k := 0) (n := 0) (by omega) (by omega) ?_
            refine lv_aload_n hx hb dK_hash_62 rfl (lv_at hl 0 rfl) ?_
            refine nw_get (C := "LatticeKeys") (TT := T_K) (N := 11) hx hb hts (wg_ft i_K) hown hK hO k_h0 (kn := 0) (ci := 0) (fl := [(3, 1), (0, 0), (3, 2), (0, 0), (3, 3), (0, 0), (3, 4), (3, 8), (3, 12), (3, 24), (3, 39)]) rfl hP rfl 8 (by decide) (hts _ (wg_t kw_382)) (fun _ h9 => h9) (cd := (3, 12)) rfl dK_hash_63 (fun v22 hv24 => ?_)
            obtain ⟨r22, rfl, kr22⟩ := (show ∃ r : Nat, v22 = .ref r ∧ T r = some 12 from hv24)
            refine lv_aload_n hx hb dK_hash_66 rfl (lv_at hl 0 rfl) ?_
            refine nw_get (C := "LatticeKeys") (TT := T_K) (N := 11) hx hb hts (wg_ft i_K) hown hK hO k_h0 (kn := 0) (ci := 0) (fl := [(3, 1), (0, 0), (3, 2), (0, 0), (3, 3), (0, 0), (3, 4), (3, 8), (3, 12), (3, 24), (3, 39)]) rfl hP rfl 0 (by decide) (hts _ (wg_t kw_374)) (fun _ h9 => h9) (cd := (3, 1)) rfl dK_hash_67 (fun v23 hv25 => ?_)
            obtain ⟨r23, rfl, kr23⟩ := (show ∃ r : Nat, v23 = .ref r ∧ T r = some 1 from hv25)
            refine lv_iconst (v := nI 0) hx hb dK_hash_70 (by decide) ?_
            refine lv_aload_n hx hb dK_hash_71 rfl (lv_at hl 0 rfl) ?_
            refine nw_get (C := "LatticeKeys") (TT := T_K) (N := 11) hx hb hts (wg_ft i_K) hown hK hO k_h0 (kn := 0) (ci := 0) (fl := [(3, 1), (0, 0), (3, 2), (0, 0), (3, 3), (0, 0), (3, 4), (3, 8), (3, 12), (3, 24), (3, 39)]) rfl hP rfl 1 (by decide) (hts _ (wg_t kw_375)) (fun _ h9 => h9) (cd := (0, 0)) rfl dK_hash_72 (fun v24 hv26 => ?_)
            obtain rfl := (show v24 = .int (s22.1 0 1) from hv26)
            obtain ⟨z23, ez23, hz23, hz24⟩ := cl_of (b := 2147483648) hf25 (by omega) (by decide)
            replace hR := bnd_step hR ez23
            refine mi_as hz23 ?_
            refine mp_v (cx := []) (wr := []) hP hD hS hA [] [] rfl rfl rfl (by decide) (va_runV (As := [.ref r23, .int (nI 0), .int (nI z23)]) (rest := []) F (N_SP_absorb l g _ T s22 pl hO hU r22 r23 12 13 1 16384 0 z23 x21 x22 kr22 rfl rfl kr23 rfl hx_21 hx_22 (by omega) (by omega) (by omega) (by omega)) (cwV 3 hts (wg_app (wg_c kw_1300 (wg_c kw_586 (wg_c kw_587 (wg_c kw_2 wg_n)))) kw_588) rfl rfl rfl (by decide +kernel) ⟨by decide, by decide⟩) (pn_W "LatticeKeys$Sponge" (en_ok g) (ci := 3) (kn := 12) (fl := [(3, 13), (0, 0), (0, 0), (0, 0)]) hK hO kr22 rfl hP hD hS hA hE [] rfl rfl rfl) rfl rfl hl.1 rfl (lv_room (Nat.le_of_ble_eq_true rfl)) dK_hash_75 ⟨Nat.le_of_ble_eq_true rfl, Nat.le_of_ble_eq_true rfl⟩) (fun  u22 H locs hu22 hP hD hS => ?_)
            obtain ⟨s23, pl⟩ := u22
            obtain ⟨⟨eq22, hFc22, ⟨x24, hx_24, hb_24⟩, ⟨x25, hx_25, hb_25⟩, -⟩, hO⟩ := hu22
            have hO : okn g T s23 pl := hO
            have hP : va_P g.1 vcl ([] ++ pl) _ := hP
            have hD : va_D _ ([] ++ pl) := hD
            have hFc22 : frm (M_SP_absorb 12) s22 s23 := hFc22
            have hb_24 : x24 < x22 := hb_24
            have hb_25 : x25 = x22 := hb_25
            replace hR := bnd_step hR eq22
            have hF := frm_tr hF hFc22 (fun k hk => by unfold M_SP_absorb at hk; unfold M_K_hash; omega)
            have hf28 : s23.1 0 1 = nI tl := fc_F hf25 hFc22 (by unfold M_SP_absorb; omega)
            have hf29 : s23.1 0 5 = nI pn := fc_F hf26 hFc22 (by unfold M_SP_absorb; omega)
            have hf30 : s23.1 0 3 = nI 32 := fc_F hf27 hFc22 (by unfold M_SP_absorb; omega)
            refine W.widen (k := 0) (n := 0) (by omega) (by omega) ?_
            refine lv_aload_n hx hb dK_hash_78 rfl (lv_at hl 0 rfl) ?_
            refine nw_get (C := "LatticeKeys") (TT := T_K) (N := 11) hx hb hts (wg_ft i_K) hown hK hO k_h0 (kn := 0) (ci := 0) (fl := [(3, 1), (0, 0), (3, 2), (0, 0), (3, 3), (0, 0), (3, 4), (3, 8), (3, 12), (3, 24), (3, 39)]) rfl hP rfl 8 (by decide) (hts _ (wg_t kw_382)) (fun _ h9 => h9) (cd := (3, 12)) rfl dK_hash_79 (fun v25 hv27 => ?_)
            obtain ⟨r24, rfl, kr24⟩ := (show ∃ r : Nat, v25 = .ref r ∧ T r = some 12 from hv27)
            refine mp_v (cx := []) (wr := []) hP hD hS hA [] [] rfl rfl rfl (by decide) (va_runV (As := []) (rest := []) F (N_SP_finish l g _ T s23 pl hO hU r24 12 13 x24 x25 kr24 rfl rfl hx_24 hx_25 (by omega) (by omega)) (cwV 0 hts (wg_app (wg_c kw_1301 (wg_c kw_611 (wg_c kw_612 (wg_c kw_2 wg_n)))) kw_613) rfl rfl rfl (by decide +kernel) ⟨by decide, by decide⟩) (pn_W "LatticeKeys$Sponge" (en_ok g) (ci := 3) (kn := 12) (fl := [(3, 13), (0, 0), (0, 0), (0, 0)]) hK hO kr24 rfl hP hD hS hA hE [] rfl rfl rfl) rfl rfl hl.1 rfl (lv_room (Nat.le_of_ble_eq_true rfl)) dK_hash_82 ⟨Nat.le_of_ble_eq_true rfl, Nat.le_of_ble_eq_true rfl⟩) (fun  u23 H locs hu23 hP hD hS => ?_)
            obtain ⟨s24, pl⟩ := u23
            obtain ⟨⟨eq23, hFc23, ⟨x27, hx_27, hb_27⟩, ⟨x28, hx_28, hb_28⟩, -⟩, hO⟩ := hu23
            have hO : okn g T s24 pl := hO
            have hP : va_P g.1 vcl ([] ++ pl) _ := hP
            have hD : va_D _ ([] ++ pl) := hD
            have hFc23 : frm (M_SP_finish 12) s23 s24 := hFc23
            have hb_27 : x27 = x25 := hb_27
            have hb_28 : x28 = x25 := hb_28
            replace hR := bnd_step hR eq23
            have hF := frm_tr hF hFc23 (fun k hk => by unfold M_SP_finish at hk; unfold M_K_hash; omega)
            have hf31 : s24.1 0 1 = nI tl := fc_F hf28 hFc23 (by unfold M_SP_finish; omega)
            have hf32 : s24.1 0 5 = nI pn := fc_F hf29 hFc23 (by unfold M_SP_finish; omega)
            have hf33 : s24.1 0 3 = nI 32 := fc_F hf30 hFc23 (by unfold M_SP_finish; omega)
            refine W.widen (k := 0) (n := 0) (by omega) (by omega) ?_
            refine lv_aload_n hx hb dK_hash_85 rfl (lv_at hl 0 rfl) ?_
            refine nw_get (C := "LatticeKeys") (TT := T_K) (N := 11) hx hb hts (wg_ft i_K) hown hK hO k_h0 (kn := 0) (ci := 0) (fl := [(3, 1), (0, 0), (3, 2), (0, 0), (3, 3), (0, 0), (3, 4), (3, 8), (3, 12), (3, 24), (3, 39)]) rfl hP rfl 8 (by decide) (hts _ (wg_t kw_382)) (fun _ h9 => h9) (cd := (3, 12)) rfl dK_hash_86 (fun v26 hv28 => ?_)
            obtain ⟨r25, rfl, kr25⟩ := (show ∃ r : Nat, v26 = .ref r ∧ T r = some 12 from hv28)
            refine lv_aload_n hx hb dK_hash_89 rfl (lv_at hl 0 rfl) ?_
            refine nw_get (C := "LatticeKeys") (TT := T_K) (N := 11) hx hb hts (wg_ft i_K) hown hK hO k_h0 (kn := 0) (ci := 0) (fl := [(3, 1), (0, 0), (3, 2), (0, 0), (3, 3), (0, 0), (3, 4), (3, 8), (3, 12), (3, 24), (3, 39)]) rfl hP rfl 2 (by decide) (hts _ (wg_t kw_376)) (fun _ h9 => h9) (cd := (3, 2)) rfl dK_hash_90 (fun v27 hv29 => ?_)
            obtain ⟨r26, rfl, kr26⟩ := (show ∃ r : Nat, v27 = .ref r ∧ T r = some 2 from hv29)
            refine lv_iconst (v := nI 0) hx hb dK_hash_93 (by decide) ?_
            refine lv_aload_n hx hb dK_hash_94 rfl (lv_at hl 0 rfl) ?_
            refine nw_get (C := "LatticeKeys") (TT := T_K) (N := 11) hx hb hts (wg_ft i_K) hown hK hO k_h0 (kn := 0) (ci := 0) (fl := [(3, 1), (0, 0), (3, 2), (0, 0), (3, 3), (0, 0), (3, 4), (3, 8), (3, 12), (3, 24), (3, 39)]) rfl hP rfl 3 (by decide) (hts _ (wg_t kw_377)) (fun _ h9 => h9) (cd := (0, 0)) rfl dK_hash_95 (fun v28 hv30 => ?_)
            obtain rfl := (show v28 = .int (s24.1 0 3) from hv30)
            obtain ⟨z24, ez24, hz25, hz26⟩ := cl_of (b := 2147483648) hf33 (by omega) (by decide)
            replace hR := bnd_step hR ez24
            refine mi_as hz25 ?_
            refine mp_v (cx := []) (wr := []) hP hD hS hA [] [] rfl rfl rfl (by decide) (va_runV (As := [.ref r26, .int (nI 0), .int (nI z24)]) (rest := []) F (N_SP_squeeze l g _ T s24 pl hO hU r25 r26 12 13 2 8192 0 z24 x27 x28 kr25 rfl rfl kr26 rfl hx_27 hx_28 (by omega) (by omega) (by omega) (by omega)) (cwV 3 hts (wg_app (wg_c kw_1302 (wg_c kw_615 (wg_c kw_616 (wg_c kw_2 wg_n)))) kw_617) rfl rfl rfl (by decide +kernel) ⟨by decide, by decide⟩) (pn_W "LatticeKeys$Sponge" (en_ok g) (ci := 3) (kn := 12) (fl := [(3, 13), (0, 0), (0, 0), (0, 0)]) hK hO kr25 rfl hP hD hS hA hE [] rfl rfl rfl) rfl rfl hl.1 rfl (lv_room (Nat.le_of_ble_eq_true rfl)) dK_hash_98 ⟨Nat.le_of_ble_eq_true rfl, Nat.le_of_ble_eq_true rfl⟩) (fun  u24 H locs hu24 hP hD hS => ?_)
            obtain ⟨s25, pl⟩ := u24
            obtain ⟨⟨eq24, hFc24, ⟨x30, hx_30, hb_30⟩, ⟨x31, hx_31, hb_31⟩, -⟩, hO⟩ := hu24
            have hO : okn g T s25 pl := hO
            have hP : va_P g.1 vcl ([] ++ pl) _ := hP
            have hD : va_D _ ([] ++ pl) := hD
            have hFc24 : frm (M_SP_squeeze 12 2) s24 s25 := hFc24
            have hb_30 : x30 ≤ x28 := hb_30
            have hb_31 : x31 = x28 := hb_31
            replace hR := bnd_step hR eq24
            have hF := frm_tr hF hFc24 (fun k hk => by unfold M_SP_squeeze at hk; unfold M_K_hash; omega)
            have hf34 : s25.1 0 1 = nI tl := fc_F hf31 hFc24 (by unfold M_SP_squeeze; omega)
            have hf35 : s25.1 0 5 = nI pn := fc_F hf32 hFc24 (by unfold M_SP_squeeze; omega)
            have hf36 : s25.1 0 3 = nI 32 := fc_F hf33 hFc24 (by unfold M_SP_squeeze; omega)
            refine W.widen (k := 0) (n := 0) (by omega) (by omega) ?_
            refine lv_aload_n hx hb dK_hash_101 rfl (lv_at hl 0 rfl) ?_
            refine lv_iconst (v := nI 0) hx hb dK_hash_102 (by decide) ?_
            refine nw_put (C := "LatticeKeys") (TT := T_K) (N := 11) hx hb hts (wg_ft i_K) ty_K k_K n_K hown hK hO hU k_h0 (kn := 0) (ci := 0) (fl := [(3, 1), (0, 0), (3, 2), (0, 0), (3, 3), (0, 0), (3, 4), (3, 8), (3, 12), (3, 24), (3, 39)]) rfl hP hD hS rfl 1 (by decide) (hts _ (wg_t kw_375)) (fun _ h9 => h9) rfl (by decide +kernel) rfl dK_hash_103 (fun s26 pl H locs es22 hO hP hD hS => ?_)
            replace hR := bnd_step hR es22
            have hF := frm_sI hF es22 (by unfold M_K_hash; omega)
            have hf38 : s26.1 0 5 = nI pn := fc_ne hf35 es22 (by omega)
            have hf39 : s26.1 0 3 = nI 32 := fc_ne hf36 es22 (by omega)
            have hf40 : s26.1 12 3 = nI x30 := fc_ne hx_30 es22 (by omega)
            have hf41 : s26.1 12 1 = nI x31 := fc_ne hx_31 es22 (by omega)
            have hf42 : s26.1 0 1 = nI 0 := fc_eq es22
            refine lv_aload_n hx hb dK_hash_106 rfl (lv_at hl 0 rfl) ?_
            refine nw_get (C := "LatticeKeys") (TT := T_K) (N := 11) hx hb hts (wg_ft i_K) hown hK hO k_h0 (kn := 0) (ci := 0) (fl := [(3, 1), (0, 0), (3, 2), (0, 0), (3, 3), (0, 0), (3, 4), (3, 8), (3, 12), (3, 24), (3, 39)]) rfl hP rfl 3 (by decide) (hts _ (wg_t kw_377)) (fun _ h9 => h9) (cd := (0, 0)) rfl dK_hash_107 (fun v29 hv31 => ?_)
            obtain rfl := (show v29 = .int (s26.1 0 3) from hv31)
            obtain ⟨z25, ez25, hz27, hz28⟩ := cl_of (b := 2147483648) hf39 (by omega) (by decide)
            replace hR := bnd_step hR ez25
            refine mi_as hz27 ?_
            refine et_ret ?_
            exact mp_iret hx hb hr hlk hP hD hS ((nI 0, nI z25, s26), pl) ⟨⟨hR.symm, rfl, rfl, hF, ⟨0, hf42, by omega⟩, ⟨32, hf39, by omega⟩, ⟨pn, hf38, by omega⟩, trivial⟩, hO⟩ [] rfl rfl rfl (by omega) (by omega) dK_hash_110
          replace hR := hR.trans (if_neg hs21)
          by_cases hs22 : z21 = 1
          · replace hR := hR.trans (if_pos hs22)
            subst hs22
            refine lv_aload_n hx hb dK_hash_30 rfl (lv_at hl 0 rfl) ?_
            refine lv_iload_n hx hb dK_hash_31 rfl (lv_at hl 1 rfl) ?_
            refine lv_if_ne (tgt := 40) hx hb dK_hash_32 (by decide) (fun h26 => ?_) (fun h26 => absurd h26 (by decide))
            refine lv_iload_n hx hb dK_hash_40 rfl (lv_at hl 1 rfl) ?_
            refine lv_iconst (v := nI 1) hx hb dK_hash_41 (by decide) ?_
            refine mi_ne (tgt := 50) hx hb dK_hash_42 (by decide) (by omega) (by omega) (fun h27 => absurd h27 (by omega)) (fun h27 => ?_)
            refine lv_bipush (v := nI 64) hx hb dK_hash_45 (by decide) ?_
            refine lv_goto (tgt := 51) hx hb dK_hash_47 (by decide) ?_
            refine nw_put (C := "LatticeKeys") (TT := T_K) (N := 11) hx hb hts (wg_ft i_K) ty_K k_K n_K hown hK hO hU k_h0 (kn := 0) (ci := 0) (fl := [(3, 1), (0, 0), (3, 2), (0, 0), (3, 3), (0, 0), (3, 4), (3, 8), (3, 12), (3, 24), (3, 39)]) rfl hP hD hS rfl 3 (by decide) (hts _ (wg_t kw_377)) (fun _ h9 => h9) rfl (by decide +kernel) rfl dK_hash_51 (fun s27 pl H locs es23 hO hP hD hS => ?_)
            replace hR := bnd_step hR es23
            have hF := frm_sI hF es23 (by unfold M_K_hash; omega)
            have hf43 : s27.1 0 1 = nI tl := fc_ne e_tl es23 (by omega)
            have hf45 : s27.1 0 5 = nI pn := fc_ne e_pn es23 (by omega)
            have hf46 : s27.1 0 3 = nI 64 := fc_eq es23
            refine lv_aload_n hx hb dK_hash_54 rfl (lv_at hl 0 rfl) ?_
            refine nw_get (C := "LatticeKeys") (TT := T_K) (N := 11) hx hb hts (wg_ft i_K) hown hK hO k_h0 (kn := 0) (ci := 0) (fl := [(3, 1), (0, 0), (3, 2), (0, 0), (3, 3), (0, 0), (3, 4), (3, 8), (3, 12), (3, 24), (3, 39)]) rfl hP rfl 8 (by decide) (hts _ (wg_t kw_382)) (fun _ h9 => h9) (cd := (3, 12)) rfl dK_hash_55 (fun v30 hv32 => ?_)
            obtain ⟨r27, rfl, kr27⟩ := (show ∃ r : Nat, v30 = .ref r ∧ T r = some 12 from hv32)
            refine lv_iload_n hx hb dK_hash_58 rfl (lv_at hl 1 rfl) ?_
            refine mp_v (cx := []) (wr := []) hP hD hS hA [] [] rfl rfl rfl (by decide) (va_runV (As := [.int (nI 1)]) (rest := []) F (N_SP_start_1 l g _ T s27 pl hO hU r27 12 13 kr27 rfl rfl) (cwV 1 hts (wg_app (wg_c kw_1299 (wg_c kw_579 (wg_c kw_580 (wg_c kw_2 wg_n)))) kw_581) rfl rfl rfl (by decide +kernel) ⟨by decide, by decide⟩) (pn_W "LatticeKeys$Sponge" (en_ok g) (ci := 3) (kn := 12) (fl := [(3, 13), (0, 0), (0, 0), (0, 0)]) hK hO kr27 rfl hP hD hS hA hE [] rfl rfl rfl) rfl rfl hl.1 rfl (lv_room (Nat.le_of_ble_eq_true rfl)) dK_hash_59 ⟨Nat.le_of_ble_eq_true rfl, Nat.le_of_ble_eq_true rfl⟩) (fun  u25 H locs hu25 hP hD hS => ?_)
            obtain ⟨s28, pl⟩ := u25
            obtain ⟨⟨eq25, hFc25, ⟨x33, hx_33, hb_33⟩, ⟨x34, hx_34, hb_34⟩, -⟩, hO⟩ := hu25
            have hO : okn g T s28 pl := hO
            have hP : va_P g.1 vcl ([] ++ pl) _ := hP
            have hD : va_D _ ([] ++ pl) := hD
            have hFc25 : frm (M_SP_start_1 12) s27 s28 := hFc25
            have hb_33 : x33 = 0 := hb_33
            have hb_34 : x34 = 72 := hb_34
            replace hR := bnd_step hR eq25
            have hF := frm_tr hF hFc25 (fun k hk => by unfold M_SP_start_1 at hk; unfold M_K_hash; omega)
            have hf47 : s28.1 0 1 = nI tl := fc_F hf43 hFc25 (by unfold M_SP_start_1; omega)
            have hf48 : s28.1 0 5 = nI pn := fc_F hf45 hFc25 (by unfold M_SP_start_1; omega)
            have hf49 : s28.1 0 3 = nI 64 := fc_F hf46 hFc25 (by unfold M_SP_start_1; omega)
            refine W.widen (k := 0) (n := 0) (by omega) (by omega) ?_
            refine lv_aload_n hx hb dK_hash_62 rfl (lv_at hl 0 rfl) ?_
            refine nw_get (C := "LatticeKeys") (TT := T_K) (N := 11) hx hb hts (wg_ft i_K) hown hK hO k_h0 (kn := 0) (ci := 0) (fl := [(3, 1), (0, 0), (3, 2), (0, 0), (3, 3), (0, 0), (3, 4), (3, 8), (3, 12), (3, 24), (3, 39)]) rfl hP rfl 8 (by decide) (hts _ (wg_t kw_382)) (fun _ h9 => h9) (cd := (3, 12)) rfl dK_hash_63 (fun v31 hv33 => ?_)
            obtain ⟨r28, rfl, kr28⟩ := (show ∃ r : Nat, v31 = .ref r ∧ T r = some 12 from hv33)
            refine lv_aload_n hx hb dK_hash_66 rfl (lv_at hl 0 rfl) ?_
            refine nw_get (C := "LatticeKeys") (TT := T_K) (N := 11) hx hb hts (wg_ft i_K) hown hK hO k_h0 (kn := 0) (ci := 0) (fl := [(3, 1), (0, 0), (3, 2), (0, 0), (3, 3), (0, 0), (3, 4), (3, 8), (3, 12), (3, 24), (3, 39)]) rfl hP rfl 0 (by decide) (hts _ (wg_t kw_374)) (fun _ h9 => h9) (cd := (3, 1)) rfl dK_hash_67 (fun v32 hv34 => ?_)
            obtain ⟨r29, rfl, kr29⟩ := (show ∃ r : Nat, v32 = .ref r ∧ T r = some 1 from hv34)
            refine lv_iconst (v := nI 0) hx hb dK_hash_70 (by decide) ?_
            refine lv_aload_n hx hb dK_hash_71 rfl (lv_at hl 0 rfl) ?_
            refine nw_get (C := "LatticeKeys") (TT := T_K) (N := 11) hx hb hts (wg_ft i_K) hown hK hO k_h0 (kn := 0) (ci := 0) (fl := [(3, 1), (0, 0), (3, 2), (0, 0), (3, 3), (0, 0), (3, 4), (3, 8), (3, 12), (3, 24), (3, 39)]) rfl hP rfl 1 (by decide) (hts _ (wg_t kw_375)) (fun _ h9 => h9) (cd := (0, 0)) rfl dK_hash_72 (fun v33 hv35 => ?_)
            obtain rfl := (show v33 = .int (s28.1 0 1) from hv35)
            obtain ⟨z26, ez26, hz29, hz30⟩ := cl_of (b := 2147483648) hf47 (by omega) (by decide)
            replace hR := bnd_step hR ez26
            refine mi_as hz29 ?_
            refine mp_v (cx := []) (wr := []) hP hD hS hA [] [] rfl rfl rfl (by decide) (va_runV (As := [.ref r29, .int (nI 0), .int (nI z26)]) (rest := []) F (N_SP_absorb l g _ T s28 pl hO hU r28 r29 12 13 1 16384 0 z26 x33 x34 kr28 rfl rfl kr29 rfl hx_33 hx_34 (by omega) (by omega) (by omega) (by omega)) (cwV 3 hts (wg_app (wg_c kw_1300 (wg_c kw_586 (wg_c kw_587 (wg_c kw_2 wg_n)))) kw_588) rfl rfl rfl (by decide +kernel) ⟨by decide, by decide⟩) (pn_W "LatticeKeys$Sponge" (en_ok g) (ci := 3) (kn := 12) (fl := [(3, 13), (0, 0), (0, 0), (0, 0)]) hK hO kr28 rfl hP hD hS hA hE [] rfl rfl rfl) rfl rfl hl.1 rfl (lv_room (Nat.le_of_ble_eq_true rfl)) dK_hash_75 ⟨Nat.le_of_ble_eq_true rfl, Nat.le_of_ble_eq_true rfl⟩) (fun  u26 H locs hu26 hP hD hS => ?_)
            obtain ⟨s29, pl⟩ := u26
            obtain ⟨⟨eq26, hFc26, ⟨x36, hx_36, hb_36⟩, ⟨x37, hx_37, hb_37⟩, -⟩, hO⟩ := hu26
            have hO : okn g T s29 pl := hO
            have hP : va_P g.1 vcl ([] ++ pl) _ := hP
            have hD : va_D _ ([] ++ pl) := hD
            have hFc26 : frm (M_SP_absorb 12) s28 s29 := hFc26
            have hb_36 : x36 < x34 := hb_36
            have hb_37 : x37 = x34 := hb_37
            replace hR := bnd_step hR eq26
            have hF := frm_tr hF hFc26 (fun k hk => by unfold M_SP_absorb at hk; unfold M_K_hash; omega)
            have hf50 : s29.1 0 1 = nI tl := fc_F hf47 hFc26 (by unfold M_SP_absorb; omega)
            have hf51 : s29.1 0 5 = nI pn := fc_F hf48 hFc26 (by unfold M_SP_absorb; omega)
            have hf52 : s29.1 0 3 = nI 64 := fc_F hf49 hFc26 (by unfold M_SP_absorb; omega)
            refine W.widen (k := 0) (n := 0) (by omega) (by omega) ?_
            refine lv_aload_n hx hb dK_hash_78 rfl (lv_at hl 0 rfl) ?_
            refine nw_get (C := "LatticeKeys") (TT := T_K) (N := 11) hx hb hts (wg_ft i_K) hown hK hO k_h0 (kn := 0) (ci := 0) (fl := [(3, 1), (0, 0), (3, 2), (0, 0), (3, 3), (0, 0), (3, 4), (3, 8), (3, 12), (3, 24), (3, 39)]) rfl hP rfl 8 (by decide) (hts _ (wg_t kw_382)) (fun _ h9 => h9) (cd := (3, 12)) rfl dK_hash_79 (fun v34 hv36 => ?_)
            obtain ⟨r30, rfl, kr30⟩ := (show ∃ r : Nat, v34 = .ref r ∧ T r = some 12 from hv36)
            refine mp_v (cx := []) (wr := []) hP hD hS hA [] [] rfl rfl rfl (by decide) (va_runV (As := []) (rest := []) F (N_SP_finish l g _ T s29 pl hO hU r30 12 13 x36 x37 kr30 rfl rfl hx_36 hx_37 (by omega) (by omega)) (cwV 0 hts (wg_app (wg_c kw_1301 (wg_c kw_611 (wg_c kw_612 (wg_c kw_2 wg_n)))) kw_613) rfl rfl rfl (by decide +kernel) ⟨by decide, by decide⟩) (pn_W "LatticeKeys$Sponge" (en_ok g) (ci := 3) (kn := 12) (fl := [(3, 13), (0, 0), (0, 0), (0, 0)]) hK hO kr30 rfl hP hD hS hA hE [] rfl rfl rfl) rfl rfl hl.1 rfl (lv_room (Nat.le_of_ble_eq_true rfl)) dK_hash_82 ⟨Nat.le_of_ble_eq_true rfl, Nat.le_of_ble_eq_true rfl⟩) (fun  u27 H locs hu27 hP hD hS => ?_)
            obtain ⟨s30, pl⟩ := u27
            obtain ⟨⟨eq27, hFc27, ⟨x39, hx_39, hb_39⟩, ⟨x40, hx_40, hb_40⟩, -⟩, hO⟩ := hu27
            have hO : okn g T s30 pl := hO
            have hP : va_P g.1 vcl ([] ++ pl) _ := hP
            have hD : va_D _ ([] ++ pl) := hD
            have hFc27 : frm (M_SP_finish 12) s29 s30 := hFc27
            have hb_39 : x39 = x37 := hb_39
            have hb_40 : x40 = x37 := hb_40
            replace hR := bnd_step hR eq27
            have hF := frm_tr hF hFc27 (fun k hk => by unfold M_SP_finish at hk; unfold M_K_hash; omega)
            have hf53 : s30.1 0 1 = nI tl := fc_F hf50 hFc27 (by unfold M_SP_finish; omega)
            have hf54 : s30.1 0 5 = nI pn := fc_F hf51 hFc27 (by unfold M_SP_finish; omega)
            have hf55 : s30.1 0 3 = nI 64 := fc_F hf52 hFc27 (by unfold M_SP_finish; omega)
            refine W.widen (k := 0) (n := 0) (by omega) (by omega) ?_
            refine lv_aload_n hx hb dK_hash_85 rfl (lv_at hl 0 rfl) ?_
            refine nw_get (C := "LatticeKeys") (TT := T_K) (N := 11) hx hb hts (wg_ft i_K) hown hK hO k_h0 (kn := 0) (ci := 0) (fl := [(3, 1), (0, 0), (3, 2), (0, 0), (3, 3), (0, 0), (3, 4), (3, 8), (3, 12), (3, 24), (3, 39)]) rfl hP rfl 8 (by decide) (hts _ (wg_t kw_382)) (fun _ h9 => h9) (cd := (3, 12)) rfl dK_hash_86 (fun v35 hv37 => ?_)
            obtain ⟨r31, rfl, kr31⟩ := (show ∃ r : Nat, v35 = .ref r ∧ T r = some 12 from hv37)
            refine lv_aload_n hx hb dK_hash_89 rfl (lv_at hl 0 rfl) ?_
            refine nw_get (C := "LatticeKeys") (TT := T_K) (N := 11) hx hb hts (wg_ft i_K) hown hK hO k_h0 (kn := 0) (ci := 0) (fl := [(3, 1), (0, 0), (3, 2), (0, 0), (3, 3), (0, 0), (3, 4), (3, 8), (3, 12), (3, 24), (3, 39)]) rfl hP rfl 2 (by decide) (hts _ (wg_t kw_376)) (fun _ h9 => h9) (cd := (3, 2)) rfl dK_hash_90 (fun v36 hv38 => ?_)
            obtain ⟨r32, rfl, kr32⟩ := (show ∃ r : Nat, v36 = .ref r ∧ T r = some 2 from hv38)
            refine lv_iconst (v := nI 0) hx hb dK_hash_93 (by decide) ?_
            refine lv_aload_n hx hb dK_hash_94 rfl (lv_at hl 0 rfl) ?_
            refine nw_get (C := "LatticeKeys") (TT := T_K) (N := 11) hx hb hts (wg_ft i_K) hown hK hO k_h0 (kn := 0) (ci := 0) (fl := [(3, 1), (0, 0), (3, 2), (0, 0), (3, 3), (0, 0), (3, 4), (3, 8), (3, 12), (3, 24), (3, 39)]) rfl hP rfl 3 (by decide) (hts _ (wg_t kw_377)) (fun _ h9 => h9) (cd := (0, 0)) rfl dK_hash_95 (fun v37 hv39 => ?_)
            obtain rfl := (show v37 = .int (s30.1 0 3) from hv39)
            obtain ⟨z27, ez27, hz31, hz32⟩ := cl_of (b := 2147483648) hf55 (by omega) (by decide)
            replace hR := bnd_step hR ez27
            refine mi_as hz31 ?_
            refine mp_v (cx := []) (wr := []) hP hD hS hA [] [] rfl rfl rfl (by decide) (va_runV (As := [.ref r32, .int (nI 0), .int (nI z27)]) (rest := []) F (N_SP_squeeze l g _ T s30 pl hO hU r31 r32 12 13 2 8192 0 z27 x39 x40 kr31 rfl rfl kr32 rfl hx_39 hx_40 (by omega) (by omega) (by omega) (by omega)) (cwV 3 hts (wg_app (wg_c kw_1302 (wg_c kw_615 (wg_c kw_616 (wg_c kw_2 wg_n)))) kw_617) rfl rfl rfl (by decide +kernel) ⟨by decide, by decide⟩) (pn_W "LatticeKeys$Sponge" (en_ok g) (ci := 3) (kn := 12) (fl := [(3, 13), (0, 0), (0, 0), (0, 0)]) hK hO kr31 rfl hP hD hS hA hE [] rfl rfl rfl) rfl rfl hl.1 rfl (lv_room (Nat.le_of_ble_eq_true rfl)) dK_hash_98 ⟨Nat.le_of_ble_eq_true rfl, Nat.le_of_ble_eq_true rfl⟩) (fun  u28 H locs hu28 hP hD hS => ?_)
            obtain ⟨s31, pl⟩ := u28
            obtain ⟨⟨eq28, hFc28, ⟨x42, hx_42, hb_42⟩, ⟨x43, hx_43, hb_43⟩, -⟩, hO⟩ := hu28
            have hO : okn g T s31 pl := hO
            have hP : va_P g.1 vcl ([] ++ pl) _ := hP
            have hD : va_D _ ([] ++ pl) := hD
            have hFc28 : frm (M_SP_squeeze 12 2) s30 s31 := hFc28
            have hb_42 : x42 ≤ x40 := hb_42
            have hb_43 : x43 = x40 := hb_43
            replace hR := bnd_step hR eq28
            have hF := frm_tr hF hFc28 (fun k hk => by unfold M_SP_squeeze at hk; unfold M_K_hash; omega)
            have hf56 : s31.1 0 1 = nI tl := fc_F hf53 hFc28 (by unfold M_SP_squeeze; omega)
            have hf57 : s31.1 0 5 = nI pn := fc_F hf54 hFc28 (by unfold M_SP_squeeze; omega)
            have hf58 : s31.1 0 3 = nI 64 := fc_F hf55 hFc28 (by unfold M_SP_squeeze; omega)
            refine W.widen (k := 0) (n := 0) (by omega) (by omega) ?_
            refine lv_aload_n hx hb dK_hash_101 rfl (lv_at hl 0 rfl) ?_
            refine lv_iconst (v := nI 0) hx hb dK_hash_102 (by decide) ?_
            refine nw_put (C := "LatticeKeys") (TT := T_K) (N := 11) hx hb hts (wg_ft i_K) ty_K k_K n_K hown hK hO hU k_h0 (kn := 0) (ci := 0) (fl := [(3, 1), (0, 0), (3, 2), (0, 0), (3, 3), (0, 0), (3, 4), (3, 8), (3, 12), (3, 24), (3, 39)]) rfl hP hD hS rfl 1 (by decide) (hts _ (wg_t kw_375)) (fun _ h9 => h9) rfl (by decide +kernel) rfl dK_hash_103 (fun s32 pl H locs es24 hO hP hD hS => ?_)
            replace hR := bnd_step hR es24
            have hF := frm_sI hF es24 (by unfold M_K_hash; omega)
            have hf60 : s32.1 0 5 = nI pn := fc_ne hf57 es24 (by omega)
            have hf61 : s32.1 0 3 = nI 64 := fc_ne hf58 es24 (by omega)
            have hf62 : s32.1 12 3 = nI x42 := fc_ne hx_42 es24 (by omega)
            have hf63 : s32.1 12 1 = nI x43 := fc_ne hx_43 es24 (by omega)
            have hf64 : s32.1 0 1 = nI 0 := fc_eq es24
            refine lv_aload_n hx hb dK_hash_106 rfl (lv_at hl 0 rfl) ?_
            refine nw_get (C := "LatticeKeys") (TT := T_K) (N := 11) hx hb hts (wg_ft i_K) hown hK hO k_h0 (kn := 0) (ci := 0) (fl := [(3, 1), (0, 0), (3, 2), (0, 0), (3, 3), (0, 0), (3, 4), (3, 8), (3, 12), (3, 24), (3, 39)]) rfl hP rfl 3 (by decide) (hts _ (wg_t kw_377)) (fun _ h9 => h9) (cd := (0, 0)) rfl dK_hash_107 (fun v38 hv40 => ?_)
            obtain rfl := (show v38 = .int (s32.1 0 3) from hv40)
            obtain ⟨z28, ez28, hz33, hz34⟩ := cl_of (b := 2147483648) hf61 (by omega) (by decide)
            replace hR := bnd_step hR ez28
            refine mi_as hz33 ?_
            refine et_ret ?_
            exact mp_iret hx hb hr hlk hP hD hS ((nI 0, nI z28, s32), pl) ⟨⟨hR.symm, rfl, rfl, hF, ⟨0, hf64, by omega⟩, ⟨64, hf61, by omega⟩, ⟨pn, hf60, by omega⟩, trivial⟩, hO⟩ [] rfl rfl rfl (by omega) (by omega) dK_hash_110
          replace hR := hR.trans (if_neg hs22)
          by_cases hs23 : z21 = 2
          · replace hR := hR.trans (if_pos hs23)
            subst hs23
            refine lv_aload_n hx hb dK_hash_30 rfl (lv_at hl 0 rfl) ?_
            refine lv_iload_n hx hb dK_hash_31 rfl (lv_at hl 1 rfl) ?_
            refine lv_if_ne (tgt := 40) hx hb dK_hash_32 (by decide) (fun h28 => ?_) (fun h28 => absurd h28 (by decide))
            refine lv_iload_n hx hb dK_hash_40 rfl (lv_at hl 1 rfl) ?_
            refine lv_iconst (v := nI 1) hx hb dK_hash_41 (by decide) ?_
            refine mi_ne (tgt := 50) hx hb dK_hash_42 (by decide) (by omega) (by omega) (fun h29 => ?_) (fun h29 => absurd h29 (by omega))
            refine lv_iload_n hx hb dK_hash_50 rfl (lv_at hl 2 rfl) ?_
            refine nw_put (C := "LatticeKeys") (TT := T_K) (N := 11) hx hb hts (wg_ft i_K) ty_K k_K n_K hown hK hO hU k_h0 (kn := 0) (ci := 0) (fl := [(3, 1), (0, 0), (3, 2), (0, 0), (3, 3), (0, 0), (3, 4), (3, 8), (3, 12), (3, 24), (3, 39)]) rfl hP hD hS rfl 3 (by decide) (hts _ (wg_t kw_377)) (fun _ h9 => h9) rfl (by decide +kernel) rfl dK_hash_51 (fun s33 pl H locs es25 hO hP hD hS => ?_)
            replace hR := bnd_step hR es25
            have hF := frm_sI hF es25 (by unfold M_K_hash; omega)
            have hf65 : s33.1 0 1 = nI tl := fc_ne e_tl es25 (by omega)
            have hf67 : s33.1 0 5 = nI pn := fc_ne e_pn es25 (by omega)
            have hf68 : s33.1 0 3 = nI z22 := fc_eq es25
            refine lv_aload_n hx hb dK_hash_54 rfl (lv_at hl 0 rfl) ?_
            refine nw_get (C := "LatticeKeys") (TT := T_K) (N := 11) hx hb hts (wg_ft i_K) hown hK hO k_h0 (kn := 0) (ci := 0) (fl := [(3, 1), (0, 0), (3, 2), (0, 0), (3, 3), (0, 0), (3, 4), (3, 8), (3, 12), (3, 24), (3, 39)]) rfl hP rfl 8 (by decide) (hts _ (wg_t kw_382)) (fun _ h9 => h9) (cd := (3, 12)) rfl dK_hash_55 (fun v39 hv41 => ?_)
            obtain ⟨r33, rfl, kr33⟩ := (show ∃ r : Nat, v39 = .ref r ∧ T r = some 12 from hv41)
            refine lv_iload_n hx hb dK_hash_58 rfl (lv_at hl 1 rfl) ?_
            refine mp_v (cx := []) (wr := []) hP hD hS hA [] [] rfl rfl rfl (by decide) (va_runV (As := [.int (nI 2)]) (rest := []) F (N_SP_start_2 l g _ T s33 pl hO hU r33 12 13 kr33 rfl rfl) (cwV 1 hts (wg_app (wg_c kw_1299 (wg_c kw_579 (wg_c kw_580 (wg_c kw_2 wg_n)))) kw_581) rfl rfl rfl (by decide +kernel) ⟨by decide, by decide⟩) (pn_W "LatticeKeys$Sponge" (en_ok g) (ci := 3) (kn := 12) (fl := [(3, 13), (0, 0), (0, 0), (0, 0)]) hK hO kr33 rfl hP hD hS hA hE [] rfl rfl rfl) rfl rfl hl.1 rfl (lv_room (Nat.le_of_ble_eq_true rfl)) dK_hash_59 ⟨Nat.le_of_ble_eq_true rfl, Nat.le_of_ble_eq_true rfl⟩) (fun  u29 H locs hu29 hP hD hS => ?_)
            obtain ⟨s34, pl⟩ := u29
            obtain ⟨⟨eq29, hFc29, ⟨x45, hx_45, hb_45⟩, ⟨x46, hx_46, hb_46⟩, -⟩, hO⟩ := hu29
            have hO : okn g T s34 pl := hO
            have hP : va_P g.1 vcl ([] ++ pl) _ := hP
            have hD : va_D _ ([] ++ pl) := hD
            have hFc29 : frm (M_SP_start_2 12) s33 s34 := hFc29
            have hb_45 : x45 = 0 := hb_45
            have hb_46 : x46 = 168 := hb_46
            replace hR := bnd_step hR eq29
            have hF := frm_tr hF hFc29 (fun k hk => by unfold M_SP_start_2 at hk; unfold M_K_hash; omega)
            have hf69 : s34.1 0 1 = nI tl := fc_F hf65 hFc29 (by unfold M_SP_start_2; omega)
            have hf70 : s34.1 0 5 = nI pn := fc_F hf67 hFc29 (by unfold M_SP_start_2; omega)
            have hf71 : s34.1 0 3 = nI z22 := fc_F hf68 hFc29 (by unfold M_SP_start_2; omega)
            refine W.widen (k := 0) (n := 0) (by omega) (by omega) ?_
            refine lv_aload_n hx hb dK_hash_62 rfl (lv_at hl 0 rfl) ?_
            refine nw_get (C := "LatticeKeys") (TT := T_K) (N := 11) hx hb hts (wg_ft i_K) hown hK hO k_h0 (kn := 0) (ci := 0) (fl := [(3, 1), (0, 0), (3, 2), (0, 0), (3, 3), (0, 0), (3, 4), (3, 8), (3, 12), (3, 24), (3, 39)]) rfl hP rfl 8 (by decide) (hts _ (wg_t kw_382)) (fun _ h9 => h9) (cd := (3, 12)) rfl dK_hash_63 (fun v40 hv42 => ?_)
            obtain ⟨r34, rfl, kr34⟩ := (show ∃ r : Nat, v40 = .ref r ∧ T r = some 12 from hv42)
            refine lv_aload_n hx hb dK_hash_66 rfl (lv_at hl 0 rfl) ?_
            refine nw_get (C := "LatticeKeys") (TT := T_K) (N := 11) hx hb hts (wg_ft i_K) hown hK hO k_h0 (kn := 0) (ci := 0) (fl := [(3, 1), (0, 0), (3, 2), (0, 0), (3, 3), (0, 0), (3, 4), (3, 8), (3, 12), (3, 24), (3, 39)]) rfl hP rfl 0 (by decide) (hts _ (wg_t kw_374)) (fun _ h9 => h9) (cd := (3, 1)) rfl dK_hash_67 (fun v41 hv43 => ?_)
            obtain ⟨r35, rfl, kr35⟩ := (show ∃ r : Nat, v41 = .ref r ∧ T r = some 1 from hv43)
            refine lv_iconst (v := nI 0) hx hb dK_hash_70 (by decide) ?_
            refine lv_aload_n hx hb dK_hash_71 rfl (lv_at hl 0 rfl) ?_
            refine nw_get (C := "LatticeKeys") (TT := T_K) (N := 11) hx hb hts (wg_ft i_K) hown hK hO k_h0 (kn := 0) (ci := 0) (fl := [(3, 1), (0, 0), (3, 2), (0, 0), (3, 3), (0, 0), (3, 4), (3, 8), (3, 12), (3, 24), (3, 39)]) rfl hP rfl 1 (by decide) (hts _ (wg_t kw_375)) (fun _ h9 => h9) (cd := (0, 0)) rfl dK_hash_72 (fun v42 hv44 => ?_)
            obtain rfl := (show v42 = .int (s34.1 0 1) from hv44)
            obtain ⟨z29, ez29, hz35, hz36⟩ := cl_of (b := 2147483648) hf69 (by omega) (by decide)
            replace hR := bnd_step hR ez29
            refine mi_as hz35 ?_
            refine mp_v (cx := []) (wr := []) hP hD hS hA [] [] rfl rfl rfl (by decide) (va_runV (As := [.ref r35, .int (nI 0), .int (nI z29)]) (rest := []) F (N_SP_absorb l g _ T s34 pl hO hU r34 r35 12 13 1 16384 0 z29 x45 x46 kr34 rfl rfl kr35 rfl hx_45 hx_46 (by omega) (by omega) (by omega) (by omega)) (cwV 3 hts (wg_app (wg_c kw_1300 (wg_c kw_586 (wg_c kw_587 (wg_c kw_2 wg_n)))) kw_588) rfl rfl rfl (by decide +kernel) ⟨by decide, by decide⟩) (pn_W "LatticeKeys$Sponge" (en_ok g) (ci := 3) (kn := 12) (fl := [(3, 13), (0, 0), (0, 0), (0, 0)]) hK hO kr34 rfl hP hD hS hA hE [] rfl rfl rfl) rfl rfl hl.1 rfl (lv_room (Nat.le_of_ble_eq_true rfl)) dK_hash_75 ⟨Nat.le_of_ble_eq_true rfl, Nat.le_of_ble_eq_true rfl⟩) (fun  u30 H locs hu30 hP hD hS => ?_)
            obtain ⟨s35, pl⟩ := u30
            obtain ⟨⟨eq30, hFc30, ⟨x48, hx_48, hb_48⟩, ⟨x49, hx_49, hb_49⟩, -⟩, hO⟩ := hu30
            have hO : okn g T s35 pl := hO
            have hP : va_P g.1 vcl ([] ++ pl) _ := hP
            have hD : va_D _ ([] ++ pl) := hD
            have hFc30 : frm (M_SP_absorb 12) s34 s35 := hFc30
            have hb_48 : x48 < x46 := hb_48
            have hb_49 : x49 = x46 := hb_49
            replace hR := bnd_step hR eq30
            have hF := frm_tr hF hFc30 (fun k hk => by unfold M_SP_absorb at hk; unfold M_K_hash; omega)
            have hf72 : s35.1 0 1 = nI tl := fc_F hf69 hFc30 (by unfold M_SP_absorb; omega)
            have hf73 : s35.1 0 5 = nI pn := fc_F hf70 hFc30 (by unfold M_SP_absorb; omega)
            have hf74 : s35.1 0 3 = nI z22 := fc_F hf71 hFc30 (by unfold M_SP_absorb; omega)
            refine W.widen (k := 0) (n := 0) (by omega) (by omega) ?_
            refine lv_aload_n hx hb dK_hash_78 rfl (lv_at hl 0 rfl) ?_
            refine nw_get (C := "LatticeKeys") (TT := T_K) (N := 11) hx hb hts (wg_ft i_K) hown hK hO k_h0 (kn := 0) (ci := 0) (fl := [(3, 1), (0, 0), (3, 2), (0, 0), (3, 3), (0, 0), (3, 4), (3, 8), (3, 12), (3, 24), (3, 39)]) rfl hP rfl 8 (by decide) (hts _ (wg_t kw_382)) (fun _ h9 => h9) (cd := (3, 12)) rfl dK_hash_79 (fun v43 hv45 => ?_)
            obtain ⟨r36, rfl, kr36⟩ := (show ∃ r : Nat, v43 = .ref r ∧ T r = some 12 from hv45)
            refine mp_v (cx := []) (wr := []) hP hD hS hA [] [] rfl rfl rfl (by decide) (va_runV (As := []) (rest := []) F (N_SP_finish l g _ T s35 pl hO hU r36 12 13 x48 x49 kr36 rfl rfl hx_48 hx_49 (by omega) (by omega)) (cwV 0 hts (wg_app (wg_c kw_1301 (wg_c kw_611 (wg_c kw_612 (wg_c kw_2 wg_n)))) kw_613) rfl rfl rfl (by decide +kernel) ⟨by decide, by decide⟩) (pn_W "LatticeKeys$Sponge" (en_ok g) (ci := 3) (kn := 12) (fl := [(3, 13), (0, 0), (0, 0), (0, 0)]) hK hO kr36 rfl hP hD hS hA hE [] rfl rfl rfl) rfl rfl hl.1 rfl (lv_room (Nat.le_of_ble_eq_true rfl)) dK_hash_82 ⟨Nat.le_of_ble_eq_true rfl, Nat.le_of_ble_eq_true rfl⟩) (fun  u31 H locs hu31 hP hD hS => ?_)
            obtain ⟨s36, pl⟩ := u31
            obtain ⟨⟨eq31, hFc31, ⟨x51, hx_51, hb_51⟩, ⟨x52, hx_52, hb_52⟩, -⟩, hO⟩ := hu31
            have hO : okn g T s36 pl := hO
            have hP : va_P g.1 vcl ([] ++ pl) _ := hP
            have hD : va_D _ ([] ++ pl) := hD
            have hFc31 : frm (M_SP_finish 12) s35 s36 := hFc31
            have hb_51 : x51 = x49 := hb_51
            have hb_52 : x52 = x49 := hb_52
            replace hR := bnd_step hR eq31
            have hF := frm_tr hF hFc31 (fun k hk => by unfold M_SP_finish at hk; unfold M_K_hash; omega)
            have hf75 : s36.1 0 1 = nI tl := fc_F hf72 hFc31 (by unfold M_SP_finish; omega)
            have hf76 : s36.1 0 5 = nI pn := fc_F hf73 hFc31 (by unfold M_SP_finish; omega)
            have hf77 : s36.1 0 3 = nI z22 := fc_F hf74 hFc31 (by unfold M_SP_finish; omega)
            refine W.widen (k := 0) (n := 0) (by omega) (by omega) ?_
            refine lv_aload_n hx hb dK_hash_85 rfl (lv_at hl 0 rfl) ?_
            refine nw_get (C := "LatticeKeys") (TT := T_K) (N := 11) hx hb hts (wg_ft i_K) hown hK hO k_h0 (kn := 0) (ci := 0) (fl := [(3, 1), (0, 0), (3, 2), (0, 0), (3, 3), (0, 0), (3, 4), (3, 8), (3, 12), (3, 24), (3, 39)]) rfl hP rfl 8 (by decide) (hts _ (wg_t kw_382)) (fun _ h9 => h9) (cd := (3, 12)) rfl dK_hash_86 (fun v44 hv46 => ?_)
            obtain ⟨r37, rfl, kr37⟩ := (show ∃ r : Nat, v44 = .ref r ∧ T r = some 12 from hv46)
            refine lv_aload_n hx hb dK_hash_89 rfl (lv_at hl 0 rfl) ?_
            refine nw_get (C := "LatticeKeys") (TT := T_K) (N := 11) hx hb hts (wg_ft i_K) hown hK hO k_h0 (kn := 0) (ci := 0) (fl := [(3, 1), (0, 0), (3, 2), (0, 0), (3, 3), (0, 0), (3, 4), (3, 8), (3, 12), (3, 24), (3, 39)]) rfl hP rfl 2 (by decide) (hts _ (wg_t kw_376)) (fun _ h9 => h9) (cd := (3, 2)) rfl dK_hash_90 (fun v45 hv47 => ?_)
            obtain ⟨r38, rfl, kr38⟩ := (show ∃ r : Nat, v45 = .ref r ∧ T r = some 2 from hv47)
            refine lv_iconst (v := nI 0) hx hb dK_hash_93 (by decide) ?_
            refine lv_aload_n hx hb dK_hash_94 rfl (lv_at hl 0 rfl) ?_
            refine nw_get (C := "LatticeKeys") (TT := T_K) (N := 11) hx hb hts (wg_ft i_K) hown hK hO k_h0 (kn := 0) (ci := 0) (fl := [(3, 1), (0, 0), (3, 2), (0, 0), (3, 3), (0, 0), (3, 4), (3, 8), (3, 12), (3, 24), (3, 39)]) rfl hP rfl 3 (by decide) (hts _ (wg_t kw_377)) (fun _ h9 => h9) (cd := (0, 0)) rfl dK_hash_95 (fun v46 hv48 => ?_)
            obtain rfl := (show v46 = .int (s36.1 0 3) from hv48)
            obtain ⟨z30, ez30, hz37, hz38⟩ := cl_of (b := 2147483648) hf77 (by omega) (by decide)
            replace hR := bnd_step hR ez30
            refine mi_as hz37 ?_
            refine mp_v (cx := []) (wr := []) hP hD hS hA [] [] rfl rfl rfl (by decide) (va_runV (As := [.ref r38, .int (nI 0), .int (nI z30)]) (rest := []) F (N_SP_squeeze l g _ T s36 pl hO hU r37 r38 12 13 2 8192 0 z30 x51 x52 kr37 rfl rfl kr38 rfl hx_51 hx_52 (by omega) (by omega) (by omega) (by omega)) (cwV 3 hts (wg_app (wg_c kw_1302 (wg_c kw_615 (wg_c kw_616 (wg_c kw_2 wg_n)))) kw_617) rfl rfl rfl (by decide +kernel) ⟨by decide, by decide⟩) (pn_W "LatticeKeys$Sponge" (en_ok g) (ci := 3) (kn := 12) (fl := [(3, 13), (0, 0), (0, 0), (0, 0)]) hK hO kr37 rfl hP hD hS hA hE [] rfl rfl rfl) rfl rfl hl.1 rfl (lv_room (Nat.le_of_ble_eq_true rfl)) dK_hash_98 ⟨Nat.le_of_ble_eq_true rfl, Nat.le_of_ble_eq_true rfl⟩) (fun  u32 H locs hu32 hP hD hS => ?_)
            obtain ⟨s37, pl⟩ := u32
            obtain ⟨⟨eq32, hFc32, ⟨x54, hx_54, hb_54⟩, ⟨x55, hx_55, hb_55⟩, -⟩, hO⟩ := hu32
            have hO : okn g T s37 pl := hO
            have hP : va_P g.1 vcl ([] ++ pl) _ := hP
            have hD : va_D _ ([] ++ pl) := hD
            have hFc32 : frm (M_SP_squeeze 12 2) s36 s37 := hFc32
            have hb_54 : x54 ≤ x52 := hb_54
            have hb_55 : x55 = x52 := hb_55
            replace hR := bnd_step hR eq32
            have hF := frm_tr hF hFc32 (fun k hk => by unfold M_SP_squeeze at hk; unfold M_K_hash; omega)
            have hf78 : s37.1 0 1 = nI tl := fc_F hf75 hFc32 (by unfold M_SP_squeeze; omega)
            have hf79 : s37.1 0 5 = nI pn := fc_F hf76 hFc32 (by unfold M_SP_squeeze; omega)
            have hf80 : s37.1 0 3 = nI z22 := fc_F hf77 hFc32 (by unfold M_SP_squeeze; omega)
            refine W.widen (k := 0) (n := 0) (by omega) (by omega) ?_
            refine lv_aload_n hx hb dK_hash_101 rfl (lv_at hl 0 rfl) ?_
            refine lv_iconst (v := nI 0) hx hb dK_hash_102 (by decide) ?_
            refine nw_put (C := "LatticeKeys") (TT := T_K) (N := 11) hx hb hts (wg_ft i_K) ty_K k_K n_K hown hK hO hU k_h0 (kn := 0) (ci := 0) (fl := [(3, 1), (0, 0), (3, 2), (0, 0), (3, 3), (0, 0), (3, 4), (3, 8), (3, 12), (3, 24), (3, 39)]) rfl hP hD hS rfl 1 (by decide) (hts _ (wg_t kw_375)) (fun _ h9 => h9) rfl (by decide +kernel) rfl dK_hash_103 (fun s38 pl H locs es26 hO hP hD hS => ?_)
            replace hR := bnd_step hR es26
            have hF := frm_sI hF es26 (by unfold M_K_hash; omega)
            have hf82 : s38.1 0 5 = nI pn := fc_ne hf79 es26 (by omega)
            have hf83 : s38.1 0 3 = nI z22 := fc_ne hf80 es26 (by omega)
            have hf84 : s38.1 12 3 = nI x54 := fc_ne hx_54 es26 (by omega)
            have hf85 : s38.1 12 1 = nI x55 := fc_ne hx_55 es26 (by omega)
            have hf86 : s38.1 0 1 = nI 0 := fc_eq es26
            refine lv_aload_n hx hb dK_hash_106 rfl (lv_at hl 0 rfl) ?_
            refine nw_get (C := "LatticeKeys") (TT := T_K) (N := 11) hx hb hts (wg_ft i_K) hown hK hO k_h0 (kn := 0) (ci := 0) (fl := [(3, 1), (0, 0), (3, 2), (0, 0), (3, 3), (0, 0), (3, 4), (3, 8), (3, 12), (3, 24), (3, 39)]) rfl hP rfl 3 (by decide) (hts _ (wg_t kw_377)) (fun _ h9 => h9) (cd := (0, 0)) rfl dK_hash_107 (fun v47 hv49 => ?_)
            obtain rfl := (show v47 = .int (s38.1 0 3) from hv49)
            obtain ⟨z31, ez31, hz39, hz40⟩ := cl_of (b := 2147483648) hf83 (by omega) (by decide)
            replace hR := bnd_step hR ez31
            refine mi_as hz39 ?_
            refine et_ret ?_
            exact mp_iret hx hb hr hlk hP hD hS ((nI 0, nI z31, s38), pl) ⟨⟨hR.symm, rfl, rfl, hF, ⟨0, hf86, by omega⟩, ⟨z22, hf83, by omega⟩, ⟨pn, hf82, by omega⟩, trivial⟩, hO⟩ [] rfl rfl rfl (by omega) (by omega) dK_hash_110
          replace hR := hR.trans (if_neg hs23)
          have hs24 : z21 = 3 := by omega
          subst hs24
          refine lv_aload_n hx hb dK_hash_30 rfl (lv_at hl 0 rfl) ?_
          refine lv_iload_n hx hb dK_hash_31 rfl (lv_at hl 1 rfl) ?_
          refine lv_if_ne (tgt := 40) hx hb dK_hash_32 (by decide) (fun h30 => ?_) (fun h30 => absurd h30 (by decide))
          refine lv_iload_n hx hb dK_hash_40 rfl (lv_at hl 1 rfl) ?_
          refine lv_iconst (v := nI 1) hx hb dK_hash_41 (by decide) ?_
          refine mi_ne (tgt := 50) hx hb dK_hash_42 (by decide) (by omega) (by omega) (fun h31 => ?_) (fun h31 => absurd h31 (by omega))
          refine lv_iload_n hx hb dK_hash_50 rfl (lv_at hl 2 rfl) ?_
          refine nw_put (C := "LatticeKeys") (TT := T_K) (N := 11) hx hb hts (wg_ft i_K) ty_K k_K n_K hown hK hO hU k_h0 (kn := 0) (ci := 0) (fl := [(3, 1), (0, 0), (3, 2), (0, 0), (3, 3), (0, 0), (3, 4), (3, 8), (3, 12), (3, 24), (3, 39)]) rfl hP hD hS rfl 3 (by decide) (hts _ (wg_t kw_377)) (fun _ h9 => h9) rfl (by decide +kernel) rfl dK_hash_51 (fun s39 pl H locs es27 hO hP hD hS => ?_)
          replace hR := bnd_step hR es27
          have hF := frm_sI hF es27 (by unfold M_K_hash; omega)
          have hf87 : s39.1 0 1 = nI tl := fc_ne e_tl es27 (by omega)
          have hf89 : s39.1 0 5 = nI pn := fc_ne e_pn es27 (by omega)
          have hf90 : s39.1 0 3 = nI z22 := fc_eq es27
          refine lv_aload_n hx hb dK_hash_54 rfl (lv_at hl 0 rfl) ?_
          refine nw_get (C := "LatticeKeys") (TT := T_K) (N := 11) hx hb hts (wg_ft i_K) hown hK hO k_h0 (kn := 0) (ci := 0) (fl := [(3, 1), (0, 0), (3, 2), (0, 0), (3, 3), (0, 0), (3, 4), (3, 8), (3, 12), (3, 24), (3, 39)]) rfl hP rfl 8 (by decide) (hts _ (wg_t kw_382)) (fun _ h9 => h9) (cd := (3, 12)) rfl dK_hash_55 (fun v48 hv50 => ?_)
          obtain ⟨r39, rfl, kr39⟩ := (show ∃ r : Nat, v48 = .ref r ∧ T r = some 12 from hv50)
          refine lv_iload_n hx hb dK_hash_58 rfl (lv_at hl 1 rfl) ?_
          refine mp_v (cx := []) (wr := []) hP hD hS hA [] [] rfl rfl rfl (by decide) (va_runV (As := [.int (nI 3)]) (rest := []) F (N_SP_start_3 l g _ T s39 pl hO hU r39 12 13 kr39 rfl rfl) (cwV 1 hts (wg_app (wg_c kw_1299 (wg_c kw_579 (wg_c kw_580 (wg_c kw_2 wg_n)))) kw_581) rfl rfl rfl (by decide +kernel) ⟨by decide, by decide⟩) (pn_W "LatticeKeys$Sponge" (en_ok g) (ci := 3) (kn := 12) (fl := [(3, 13), (0, 0), (0, 0), (0, 0)]) hK hO kr39 rfl hP hD hS hA hE [] rfl rfl rfl) rfl rfl hl.1 rfl (lv_room (Nat.le_of_ble_eq_true rfl)) dK_hash_59 ⟨Nat.le_of_ble_eq_true rfl, Nat.le_of_ble_eq_true rfl⟩) (fun  u33 H locs hu33 hP hD hS => ?_)
          obtain ⟨s40, pl⟩ := u33
          obtain ⟨⟨eq33, hFc33, ⟨x57, hx_57, hb_57⟩, ⟨x58, hx_58, hb_58⟩, -⟩, hO⟩ := hu33
          have hO : okn g T s40 pl := hO
          have hP : va_P g.1 vcl ([] ++ pl) _ := hP
          have hD : va_D _ ([] ++ pl) := hD
          have hFc33 : frm (M_SP_start_3 12) s39 s40 := hFc33
          have hb_57 : x57 = 0 := hb_57
          have hb_58 : x58 = 136 := hb_58
          replace hR := bnd_step hR eq33
          have hF := frm_tr hF hFc33 (fun k hk => by unfold M_SP_start_3 at hk; unfold M_K_hash; omega)
          have hf91 : s40.1 0 1 = nI tl := fc_F hf87 hFc33 (by unfold M_SP_start_3; omega)
          have hf92 : s40.1 0 5 = nI pn := fc_F hf89 hFc33 (by unfold M_SP_start_3; omega)
          have hf93 : s40.1 0 3 = nI z22 := fc_F hf90 hFc33 (by unfold M_SP_start_3; omega)
          refine W.widen (k := 0) (n := 0) (by omega) (by omega) ?_
          refine lv_aload_n hx hb dK_hash_62 rfl (lv_at hl 0 rfl) ?_
          refine nw_get (C := "LatticeKeys") (TT := T_K) (N := 11) hx hb hts (wg_ft i_K) hown hK hO k_h0 (kn := 0) (ci := 0) (fl := [(3, 1), (0, 0), (3, 2), (0, 0), (3, 3), (0, 0), (3, 4), (3, 8), (3, 12), (3, 24), (3, 39)]) rfl hP rfl 8 (by decide) (hts _ (wg_t kw_382)) (fun _ h9 => h9) (cd := (3, 12)) rfl dK_hash_63 (fun v49 hv51 => ?_)
          obtain ⟨r40, rfl, kr40⟩ := (show ∃ r : Nat, v49 = .ref r ∧ T r = some 12 from hv51)
          refine lv_aload_n hx hb dK_hash_66 rfl (lv_at hl 0 rfl) ?_
          refine nw_get (C := "LatticeKeys") (TT := T_K) (N := 11) hx hb hts (wg_ft i_K) hown hK hO k_h0 (kn := 0) (ci := 0) (fl := [(3, 1), (0, 0), (3, 2), (0, 0), (3, 3), (0, 0), (3, 4), (3, 8), (3, 12), (3, 24), (3, 39)]) rfl hP rfl 0 (by decide) (hts _ (wg_t kw_374)) (fun _ h9 => h9) (cd := (3, 1)) rfl dK_hash_67 (fun v50 hv52 => ?_)
          obtain ⟨r41, rfl, kr41⟩ := (show ∃ r : Nat, v50 = .ref r ∧ T r = some 1 from hv52)
          refine lv_iconst (v := nI 0) hx hb dK_hash_70 (by decide) ?_
          refine lv_aload_n hx hb dK_hash_71 rfl (lv_at hl 0 rfl) ?_
          refine nw_get (C := "LatticeKeys") (TT := T_K) (N := 11) hx hb hts (wg_ft i_K) hown hK hO k_h0 (kn := 0) (ci := 0) (fl := [(3, 1), (0, 0), (3, 2), (0, 0), (3, 3), (0, 0), (3, 4), (3, 8), (3, 12), (3, 24), (3, 39)]) rfl hP rfl 1 (by decide) (hts _ (wg_t kw_375)) (fun _ h9 => h9) (cd := (0, 0)) rfl dK_hash_72 (fun v51 hv53 => ?_)
          obtain rfl := (show v51 = .int (s40.1 0 1) from hv53)
          obtain ⟨z32, ez32, hz41, hz42⟩ := cl_of (b := 2147483648) hf91 (by omega) (by decide)
          replace hR := bnd_step hR ez32
          refine mi_as hz41 ?_
          refine mp_v (cx := []) (wr := []) hP hD hS hA [] [] rfl rfl rfl (by decide) (va_runV (As := [.ref r41, .int (nI 0), .int (nI z32)]) (rest := []) F (N_SP_absorb l g _ T s40 pl hO hU r40 r41 12 13 1 16384 0 z32 x57 x58 kr40 rfl rfl kr41 rfl hx_57 hx_58 (by omega) (by omega) (by omega) (by omega)) (cwV 3 hts (wg_app (wg_c kw_1300 (wg_c kw_586 (wg_c kw_587 (wg_c kw_2 wg_n)))) kw_588) rfl rfl rfl (by decide +kernel) ⟨by decide, by decide⟩) (pn_W "LatticeKeys$Sponge" (en_ok g) (ci := 3) (kn := 12) (fl := [(3, 13), (0, 0), (0, 0), (0, 0)]) hK hO kr40 rfl hP hD hS hA hE [] rfl rfl rfl) rfl rfl hl.1 rfl (lv_room (Nat.le_of_ble_eq_true rfl)) dK_hash_75 ⟨Nat.le_of_ble_eq_true rfl, Nat.le_of_ble_eq_true rfl⟩) (fun  u34 H locs hu34 hP hD hS => ?_)
          obtain ⟨s41, pl⟩ := u34
          obtain ⟨⟨eq34, hFc34, ⟨x60, hx_60, hb_60⟩, ⟨x61, hx_61, hb_61⟩, -⟩, hO⟩ := hu34
          have hO : okn g T s41 pl := hO
          have hP : va_P g.1 vcl ([] ++ pl) _ := hP
          have hD : va_D _ ([] ++ pl) := hD
          have hFc34 : frm (M_SP_absorb 12) s40 s41 := hFc34
          have hb_60 : x60 < x58 := hb_60
          have hb_61 : x61 = x58 := hb_61
          replace hR := bnd_step hR eq34
          have hF := frm_tr hF hFc34 (fun k hk => by unfold M_SP_absorb at hk; unfold M_K_hash; omega)
          have hf94 : s41.1 0 1 = nI tl := fc_F hf91 hFc34 (by unfold M_SP_absorb; omega)
          have hf95 : s41.1 0 5 = nI pn := fc_F hf92 hFc34 (by unfold M_SP_absorb; omega)
          have hf96 : s41.1 0 3 = nI z22 := fc_F hf93 hFc34 (by unfold M_SP_absorb; omega)
          refine W.widen (k := 0) (n := 0) (by omega) (by omega) ?_
          refine lv_aload_n hx hb dK_hash_78 rfl (lv_at hl 0 rfl) ?_
          refine nw_get (C := "LatticeKeys") (TT := T_K) (N := 11) hx hb hts (wg_ft i_K) hown hK hO k_h0 (kn := 0) (ci := 0) (fl := [(3, 1), (0, 0), (3, 2), (0, 0), (3, 3), (0, 0), (3, 4), (3, 8), (3, 12), (3, 24), (3, 39)]) rfl hP rfl 8 (by decide) (hts _ (wg_t kw_382)) (fun _ h9 => h9) (cd := (3, 12)) rfl dK_hash_79 (fun v52 hv54 => ?_)
          obtain ⟨r42, rfl, kr42⟩ := (show ∃ r : Nat, v52 = .ref r ∧ T r = some 12 from hv54)
          refine mp_v (cx := []) (wr := []) hP hD hS hA [] [] rfl rfl rfl (by decide) (va_runV (As := []) (rest := []) F (N_SP_finish l g _ T s41 pl hO hU r42 12 13 x60 x61 kr42 rfl rfl hx_60 hx_61 (by omega) (by omega)) (cwV 0 hts (wg_app (wg_c kw_1301 (wg_c kw_611 (wg_c kw_612 (wg_c kw_2 wg_n)))) kw_613) rfl rfl rfl (by decide +kernel) ⟨by decide, by decide⟩) (pn_W "LatticeKeys$Sponge" (en_ok g) (ci := 3) (kn := 12) (fl := [(3, 13), (0, 0), (0, 0), (0, 0)]) hK hO kr42 rfl hP hD hS hA hE [] rfl rfl rfl) rfl rfl hl.1 rfl (lv_room (Nat.le_of_ble_eq_true rfl)) dK_hash_82 ⟨Nat.le_of_ble_eq_true rfl, Nat.le_of_ble_eq_true rfl⟩) (fun  u35 H locs hu35 hP hD hS => ?_)
          obtain ⟨s42, pl⟩ := u35
          obtain ⟨⟨eq35, hFc35, ⟨x63, hx_63, hb_63⟩, ⟨x64, hx_64, hb_64⟩, -⟩, hO⟩ := hu35
          have hO : okn g T s42 pl := hO
          have hP : va_P g.1 vcl ([] ++ pl) _ := hP
          have hD : va_D _ ([] ++ pl) := hD
          have hFc35 : frm (M_SP_finish 12) s41 s42 := hFc35
          have hb_63 : x63 = x61 := hb_63
          have hb_64 : x64 = x61 := hb_64
          replace hR := bnd_step hR eq35
          have hF := frm_tr hF hFc35 (fun k hk => by unfold M_SP_finish at hk; unfold M_K_hash; omega)
          have hf97 : s42.1 0 1 = nI tl := fc_F hf94 hFc35 (by unfold M_SP_finish; omega)
          have hf98 : s42.1 0 5 = nI pn := fc_F hf95 hFc35 (by unfold M_SP_finish; omega)
          have hf99 : s42.1 0 3 = nI z22 := fc_F hf96 hFc35 (by unfold M_SP_finish; omega)
          refine W.widen (k := 0) (n := 0) (by omega) (by omega) ?_
          refine lv_aload_n hx hb dK_hash_85 rfl (lv_at hl 0 rfl) ?_
          refine nw_get (C := "LatticeKeys") (TT := T_K) (N := 11) hx hb hts (wg_ft i_K) hown hK hO k_h0 (kn := 0) (ci := 0) (fl := [(3, 1), (0, 0), (3, 2), (0, 0), (3, 3), (0, 0), (3, 4), (3, 8), (3, 12), (3, 24), (3, 39)]) rfl hP rfl 8 (by decide) (hts _ (wg_t kw_382)) (fun _ h9 => h9) (cd := (3, 12)) rfl dK_hash_86 (fun v53 hv55 => ?_)
          obtain ⟨r43, rfl, kr43⟩ := (show ∃ r : Nat, v53 = .ref r ∧ T r = some 12 from hv55)
          refine lv_aload_n hx hb dK_hash_89 rfl (lv_at hl 0 rfl) ?_
          refine nw_get (C := "LatticeKeys") (TT := T_K) (N := 11) hx hb hts (wg_ft i_K) hown hK hO k_h0 (kn := 0) (ci := 0) (fl := [(3, 1), (0, 0), (3, 2), (0, 0), (3, 3), (0, 0), (3, 4), (3, 8), (3, 12), (3, 24), (3, 39)]) rfl hP rfl 2 (by decide) (hts _ (wg_t kw_376)) (fun _ h9 => h9) (cd := (3, 2)) rfl dK_hash_90 (fun v54 hv56 => ?_)
          obtain ⟨r44, rfl, kr44⟩ := (show ∃ r : Nat, v54 = .ref r ∧ T r = some 2 from hv56)
          refine lv_iconst (v := nI 0) hx hb dK_hash_93 (by decide) ?_
          refine lv_aload_n hx hb dK_hash_94 rfl (lv_at hl 0 rfl) ?_
          refine nw_get (C := "LatticeKeys") (TT := T_K) (N := 11) hx hb hts (wg_ft i_K) hown hK hO k_h0 (kn := 0) (ci := 0) (fl := [(3, 1), (0, 0), (3, 2), (0, 0), (3, 3), (0, 0), (3, 4), (3, 8), (3, 12), (3, 24), (3, 39)]) rfl hP rfl 3 (by decide) (hts _ (wg_t kw_377)) (fun _ h9 => h9) (cd := (0, 0)) rfl dK_hash_95 (fun v55 hv57 => ?_)
          obtain rfl := (show v55 = .int (s42.1 0 3) from hv57)
          obtain ⟨z33, ez33, hz43, hz44⟩ := cl_of (b := 2147483648) hf99 (by omega) (by decide)
          replace hR := bnd_step hR ez33
          refine mi_as hz43 ?_
          refine mp_v (cx := []) (wr := []) hP hD hS hA [] [] rfl rfl rfl (by decide) (va_runV (As := [.ref r44, .int (nI 0), .int (nI z33)]) (rest := []) F (N_SP_squeeze l g _ T s42 pl hO hU r43 r44 12 13 2 8192 0 z33 x63 x64 kr43 rfl rfl kr44 rfl hx_63 hx_64 (by omega) (by omega) (by omega) (by omega)) (cwV 3 hts (wg_app (wg_c kw_1302 (wg_c kw_615 (wg_c kw_616 (wg_c kw_2 wg_n)))) kw_617) rfl rfl rfl (by decide +kernel) ⟨by decide, by decide⟩) (pn_W "LatticeKeys$Sponge" (en_ok g) (ci := 3) (kn := 12) (fl := [(3, 13), (0, 0), (0, 0), (0, 0)]) hK hO kr43 rfl hP hD hS hA hE [] rfl rfl rfl) rfl rfl hl.1 rfl (lv_room (Nat.le_of_ble_eq_true rfl)) dK_hash_98 ⟨Nat.le_of_ble_eq_true rfl, Nat.le_of_ble_eq_true rfl⟩) (fun  u36 H locs hu36 hP hD hS => ?_)
          obtain ⟨s43, pl⟩ := u36
          obtain ⟨⟨eq36, hFc36, ⟨x66, hx_66, hb_66⟩, ⟨x67, hx_67, hb_67⟩, -⟩, hO⟩ := hu36
          have hO : okn g T s43 pl := hO
          have hP : va_P g.1 vcl ([] ++ pl) _ := hP
          have hD : va_D _ ([] ++ pl) := hD
          have hFc36 : frm (M_SP_squeeze 12 2) s42 s43 := hFc36
          have hb_66 : x66 ≤ x64 := hb_66
          have hb_67 : x67 = x64 := hb_67
          replace hR := bnd_step hR eq36
          have hF := frm_tr hF hFc36 (fun k hk => by unfold M_SP_squeeze at hk; unfold M_K_hash; omega)
          have hf100 : s43.1 0 1 = nI tl := fc_F hf97 hFc36 (by unfold M_SP_squeeze; omega)
          have hf101 : s43.1 0 5 = nI pn := fc_F hf98 hFc36 (by unfold M_SP_squeeze; omega)
          have hf102 : s43.1 0 3 = nI z22 := fc_F hf99 hFc36 (by unfold M_SP_squeeze; omega)
          refine W.widen (k := 0) (n := 0) (by omega) (by omega) ?_
          refine lv_aload_n hx hb dK_hash_101 rfl (lv_at hl 0 rfl) ?_
          refine lv_iconst (v := nI 0) hx hb dK_hash_102 (by decide) ?_
          refine nw_put (C := "LatticeKeys") (TT := T_K) (N := 11) hx hb hts (wg_ft i_K) ty_K k_K n_K hown hK hO hU k_h0 (kn := 0) (ci := 0) (fl := [(3, 1), (0, 0), (3, 2), (0, 0), (3, 3), (0, 0), (3, 4), (3, 8), (3, 12), (3, 24), (3, 39)]) rfl hP hD hS rfl 1 (by decide) (hts _ (wg_t kw_375)) (fun _ h9 => h9) rfl (by decide +kernel) rfl dK_hash_103 (fun s44 pl H locs es28 hO hP hD hS => ?_)
          replace hR := bnd_step hR es28
          have hF := frm_sI hF es28 (by unfold M_K_hash; omega)
          have hf104 : s44.1 0 5 = nI pn := fc_ne hf101 es28 (by omega)
          have hf105 : s44.1 0 3 = nI z22 := fc_ne hf102 es28 (by omega)
          have hf106 : s44.1 12 3 = nI x66 := fc_ne hx_66 es28 (by omega)
          have hf107 : s44.1 12 1 = nI x67 := fc_ne hx_67 es28 (by omega)
          have hf108 : s44.1 0 1 = nI 0 := fc_eq es28
          refine lv_aload_n hx hb dK_hash_106 rfl (lv_at hl 0 rfl) ?_
          refine nw_get (C := "LatticeKeys") (TT := T_K) (N := 11) hx hb hts (wg_ft i_K) hown hK hO k_h0 (kn := 0) (ci := 0) (fl := [(3, 1), (0, 0), (3, 2), (0, 0), (3, 3), (0, 0), (3, 4), (3, 8), (3, 12), (3, 24), (3, 39)]) rfl hP rfl 3 (by decide) (hts _ (wg_t kw_377)) (fun _ h9 => h9) (cd := (0, 0)) rfl dK_hash_107 (fun v56 hv58 => ?_)
          obtain rfl := (show v56 = .int (s44.1 0 3) from hv58)
          obtain ⟨z34, ez34, hz45, hz46⟩ := cl_of (b := 2147483648) hf105 (by omega) (by decide)
          replace hR := bnd_step hR ez34
          refine mi_as hz45 ?_
          refine et_ret ?_
          exact mp_iret hx hb hr hlk hP hD hS ((nI 0, nI z34, s44), pl) ⟨⟨hR.symm, rfl, rfl, hF, ⟨0, hf108, by omega⟩, ⟨z22, hf105, by omega⟩, ⟨pn, hf104, by omega⟩, trivial⟩, hO⟩ [] rfl rfl rfl (by omega) (by omega) dK_hash_110
        · replace hR := hR.trans (if_neg h24)
          exact et_throw (own := "LatticeKeys") (cls := "java/lang/IllegalArgumentException") (text := "no such hash or length") (names := ["java/lang/RuntimeException", "java/lang/Exception"]) (ik := 79) (is := 226) (ic := 83) hx hb htr ctr_IAE_0 ctr_IAE_1 ctr_IAE_2 ctr_IAE_5 hown (by decide) (by decide) (hts _ (wg_t kw_501)) (hts _ (wg_t kw_18)) (hX.2.2.2.2.2.1 19 ("LatticeKeys", 226, "no such hash or length") rfl) (hat_IAE hts hX.2) hS.1 (hl.1.trans hml.symm) dK_hash_20 dK_hash_23 dK_hash_24 dK_hash_26 dK_hash_29 htab (Nat.le_of_ble_eq_true rfl) (Nat.le_of_ble_eq_true rfl) (Nat.le_of_ble_eq_true rfl) (Nat.le_of_ble_eq_true rfl) hlk (Nat.le_of_ble_eq_true rfl) (Nat.le_of_ble_eq_true rfl) (xls_at 0 (congrArg Prod.fst hR) (by decide) rfl) hS.2.2 (thr_st hX.2) (fun t hz9 hk9 => ⟨⟨((nI 1, nI 0, s), pl), ⟨⟨hR.symm, hF, ⟨tl, e_tl, by omega⟩, ⟨al, e_al, by omega⟩, ⟨pn, e_pn, by omega⟩, trivial⟩, hO⟩, lc_P hP hk9, hD⟩, (lc_S hS hz9 hk9).F rfl⟩)
