set_option linter.all false
abbrev c_K_find : ByteArray := prog_1_method_27_code
abbrev y_K_find : MethodName := ⟨"LatticeKeys", "find", "(I)LLatticeKeys$KeyPair;"⟩
abbrev w_K_find : List Cond := Cond.code y_K_find c_K_find 2 (Option.some (Jvm.ClassFile.FieldType.object "LatticeKeys$KeyPair")) :: WG
theorem dK_find_0 : decode c_K_find 0 = .ok (.iload_n 1, 1) := by decide +kernel
theorem dK_find_1 : decode c_K_find 1 = .ok (.ifCond .lt 11, 3) := by decide +kernel
theorem dK_find_4 : decode c_K_find 4 = .ok (.iload_n 1, 1) := by decide +kernel
theorem dK_find_5 : decode c_K_find 5 = .ok (.aload_n 0, 1) := by decide +kernel
theorem dK_find_6 : decode c_K_find 6 = .ok (.getfield 29, 3) := by decide +kernel
theorem dK_find_9 : decode c_K_find 9 = .ok (.if_icmp .lt 7, 3) := by decide +kernel
theorem dK_find_12 : decode c_K_find 12 = .ok (.aconst_null, 1) := by decide +kernel
theorem dK_find_13 : decode c_K_find 13 = .ok (.goto 9, 3) := by decide +kernel
theorem dK_find_16 : decode c_K_find 16 = .ok (.aload_n 0, 1) := by decide +kernel
theorem dK_find_17 : decode c_K_find 17 = .ok (.getfield 25, 3) := by decide +kernel
theorem dK_find_20 : decode c_K_find 20 = .ok (.iload_n 1, 1) := by decide +kernel
theorem dK_find_21 : decode c_K_find 21 = .ok (.aaload, 1) := by decide +kernel
theorem dK_find_22 : decode c_K_find 22 = .ok (.areturn, 1) := by decide +kernel
abbrev c_K_findKem : ByteArray := prog_1_method_28_code
abbrev y_K_findKem : MethodName := ⟨"LatticeKeys", "findKem", "(I)LLatticeKeys$KeyPair;"⟩
abbrev w_K_findKem : List Cond := Cond.code y_K_findKem c_K_findKem 3 (Option.some (Jvm.ClassFile.FieldType.object "LatticeKeys$KeyPair")) :: WG
theorem dK_findKem_0 : decode c_K_findKem 0 = .ok (.aload_n 0, 1) := by decide +kernel
theorem dK_findKem_1 : decode c_K_findKem 1 = .ok (.iload_n 1, 1) := by decide +kernel
theorem dK_findKem_2 : decode c_K_findKem 2 = .ok (.invokevirtual 163, 3) := by decide +kernel
theorem dK_findKem_5 : decode c_K_findKem 5 = .ok (.astore_n 2, 1) := by decide +kernel
theorem dK_findKem_6 : decode c_K_findKem 6 = .ok (.aload_n 2, 1) := by decide +kernel
theorem dK_findKem_7 : decode c_K_findKem 7 = .ok (.ifnull 11, 3) := by decide +kernel
theorem dK_findKem_10 : decode c_K_findKem 10 = .ok (.aload_n 2, 1) := by decide +kernel
theorem dK_findKem_11 : decode c_K_findKem 11 = .ok (.getfield 168, 3) := by decide +kernel
theorem dK_findKem_14 : decode c_K_findKem 14 = .ok (.iconst 3, 1) := by decide +kernel
theorem dK_findKem_15 : decode c_K_findKem 15 = .ok (.if_icmp .lt 7, 3) := by decide +kernel
theorem dK_findKem_18 : decode c_K_findKem 18 = .ok (.aconst_null, 1) := by decide +kernel
theorem dK_findKem_19 : decode c_K_findKem 19 = .ok (.goto 4, 3) := by decide +kernel
theorem dK_findKem_22 : decode c_K_findKem 22 = .ok (.aload_n 2, 1) := by decide +kernel
theorem dK_findKem_23 : decode c_K_findKem 23 = .ok (.areturn, 1) := by decide +kernel
abbrev c_K_findDsa : ByteArray := prog_1_method_29_code
abbrev y_K_findDsa : MethodName := ⟨"LatticeKeys", "findDsa", "(I)LLatticeKeys$KeyPair;"⟩
abbrev w_K_findDsa : List Cond := Cond.code y_K_findDsa c_K_findDsa 3 (Option.some (Jvm.ClassFile.FieldType.object "LatticeKeys$KeyPair")) :: WG
theorem dK_findDsa_0 : decode c_K_findDsa 0 = .ok (.aload_n 0, 1) := by decide +kernel
theorem dK_findDsa_1 : decode c_K_findDsa 1 = .ok (.iload_n 1, 1) := by decide +kernel
theorem dK_findDsa_2 : decode c_K_findDsa 2 = .ok (.invokevirtual 163, 3) := by decide +kernel
theorem dK_findDsa_5 : decode c_K_findDsa 5 = .ok (.astore_n 2, 1) := by decide +kernel
theorem dK_findDsa_6 : decode c_K_findDsa 6 = .ok (.aload_n 2, 1) := by decide +kernel
theorem dK_findDsa_7 : decode c_K_findDsa 7 = .ok (.ifnull 11, 3) := by decide +kernel
theorem dK_findDsa_10 : decode c_K_findDsa 10 = .ok (.aload_n 2, 1) := by decide +kernel
theorem dK_findDsa_11 : decode c_K_findDsa 11 = .ok (.getfield 168, 3) := by decide +kernel
theorem dK_findDsa_14 : decode c_K_findDsa 14 = .ok (.iconst 3, 1) := by decide +kernel
theorem dK_findDsa_15 : decode c_K_findDsa 15 = .ok (.if_icmp .ge 7, 3) := by decide +kernel
theorem dK_findDsa_18 : decode c_K_findDsa 18 = .ok (.aconst_null, 1) := by decide +kernel
theorem dK_findDsa_19 : decode c_K_findDsa 19 = .ok (.goto 4, 3) := by decide +kernel
theorem dK_findDsa_22 : decode c_K_findDsa 22 = .ok (.aload_n 2, 1) := by decide +kernel
theorem dK_findDsa_23 : decode c_K_findDsa 23 = .ok (.areturn, 1) := by decide +kernel
abbrev c_K_partOf : ByteArray := prog_1_method_30_code
abbrev y_K_partOf : MethodName := ⟨"LatticeKeys", "partOf", "(IZ)[B"⟩
abbrev w_K_partOf : List Cond := Cond.code y_K_partOf c_K_partOf 4 (Option.some (Jvm.ClassFile.FieldType.array Jvm.ClassFile.FieldType.byte)) :: WG
theorem dK_partOf_0 : decode c_K_partOf 0 = .ok (.aload_n 0, 1) := by decide +kernel
theorem dK_partOf_1 : decode c_K_partOf 1 = .ok (.iload_n 1, 1) := by decide +kernel
theorem dK_partOf_2 : decode c_K_partOf 2 = .ok (.invokevirtual 163, 3) := by decide +kernel
theorem dK_partOf_5 : decode c_K_partOf 5 = .ok (.astore_n 3, 1) := by decide +kernel
theorem dK_partOf_6 : decode c_K_partOf 6 = .ok (.aload_n 3, 1) := by decide +kernel
theorem dK_partOf_7 : decode c_K_partOf 7 = .ok (.ifnonnull 5, 3) := by decide +kernel
theorem dK_partOf_10 : decode c_K_partOf 10 = .ok (.aconst_null, 1) := by decide +kernel
theorem dK_partOf_11 : decode c_K_partOf 11 = .ok (.areturn, 1) := by decide +kernel
theorem dK_partOf_12 : decode c_K_partOf 12 = .ok (.iload_n 2, 1) := by decide +kernel
theorem dK_partOf_13 : decode c_K_partOf 13 = .ok (.ifCond .eq 10, 3) := by decide +kernel
theorem dK_partOf_16 : decode c_K_partOf 16 = .ok (.aload_n 3, 1) := by decide +kernel
theorem dK_partOf_17 : decode c_K_partOf 17 = .ok (.getfield 174, 3) := by decide +kernel
theorem dK_partOf_20 : decode c_K_partOf 20 = .ok (.goto 7, 3) := by decide +kernel
theorem dK_partOf_23 : decode c_K_partOf 23 = .ok (.aload_n 3, 1) := by decide +kernel
theorem dK_partOf_24 : decode c_K_partOf 24 = .ok (.getfield 171, 3) := by decide +kernel
theorem dK_partOf_27 : decode c_K_partOf 27 = .ok (.areturn, 1) := by decide +kernel
def M_K_find (k : Nat) : Prop := (0 : Nat) = 1
noncomputable def F_K_find (v : Int32) (s : Sto) : Int32 × Sto := if v < 0 then (nI 0, s) else bnd ((s.1 0 5).toNatClampNeg) fun z21 => if v < (nI z21) then bnd (v.toNatClampNeg) fun z22 => ((s.1 3 z22), s) else (nI 0, s)
set_option maxHeartbeats 2000000 in
set_option maxRecDepth 100000 in
theorem N_K_find (l : Launch) (g : Gd) (sz : Nat) (T : TyN) (s : Sto) (pl : va_W) (hO : okn g T s pl) (hU : inj T) (h0 : Nat) (v : Int32) (tl : Nat) (al : Nat) (pn : Nat) (k_h0 : T h0 = some 0) (e_tl : s.1 0 1 = nI tl) (e_al : s.1 0 3 = nI al) (e_pn : s.1 0 5 = nI pn) (h3 : pn ≤ 8)  : Met l y_K_find w_K_find ({ frames := 0, cells := 0, slots := 0, locals := 0 } : Room) (va_Pc [.ref h0, .int v] (pr (en g) g.1 vcl sz ([] ++ pl))) (va_Qq (fun (r : Option Nat) (u : (Int32 × Sto) × va_W) => (u.1 = F_K_find v s ∧ (pfd T pn 0 [0, 1, 2, 3, 4, 5, 6, 7, 8, 9, 10, 11] v u.1.1 r) ∧ frm (M_K_find) s u.1.2 ∧ True) ∧ okn g T u.1.2 u.2) (po g.1 vcl (va_A ([] ++ pl) sz) (fun (u : (Int32 × Sto) × va_W) => [] ++ u.2)) (va_A ([] ++ pl) sz)) 0 0 (va_A ([] ++ pl) sz) := by
  refine mc_entry (cc := c_K_find) (maxL := 2) (ret := (Option.some (Jvm.ClassFile.FieldType.object "LatticeKeys$KeyPair"))) (by decide) rfl (Nat.le_of_ble_eq_true rfl) ?_
  intro p e s0 m args below meth c ls F hr hlk hnm hsz hP hD hE hA hl
  obtain ⟨hx, hb, hml, hown, hts⟩ := id F
  have hK := hE.1
  generalize va_A ([] ++ pl) sz = A at hD hE hA ⊢
  have hS : va_S A s0.heap s0.heap [] := va_S.rf
  have hl : lv_has ls 2 [(0, .ref h0), (1, .int v)] := hl
  have hR : F_K_find v s = F_K_find v s := rfl
  have hF : frm (M_K_find) s s := frm_rf
  refine lv_iload_n hx hb dK_find_0 rfl (lv_at hl 1 rfl) ?_
  refine lv_if_lt (tgt := 12) hx hb dK_find_1 (by decide) (fun h21 => ?_) (fun h21 => ?_)
  · replace hR := hR.trans (if_pos h21)
    refine lv_null hx hb dK_find_12 ?_
    refine lv_goto (tgt := 22) hx hb dK_find_13 (by decide) ?_
    exact mp_qret (v := none) hx hb hr (Or.inl ⟨_, rfl⟩) hlk hP hD hS ((nI 0, s), pl) ⟨⟨hR.symm, (Or.inl ⟨rfl, rfl⟩), hF, trivial⟩, hO⟩ [] rfl rfl rfl (by omega) (by omega) dK_find_22
  · replace hR := hR.trans (if_neg h21)
    refine lv_iload_n hx hb dK_find_4 rfl (lv_at hl 1 rfl) ?_
    refine lv_aload_n hx hb dK_find_5 rfl (lv_at hl 0 rfl) ?_
    refine nw_get (C := "LatticeKeys") (TT := T_K) (N := 11) hx hb hts (wg_ft i_K) hown hK hO k_h0 (kn := 0) (ci := 0) (fl := [(3, 1), (0, 0), (3, 2), (0, 0), (3, 3), (0, 0), (3, 4), (3, 8), (3, 12), (3, 24), (3, 39)]) rfl hP rfl 5 (by decide) (hts _ (wg_t kw_379)) (fun _ h9 => h9) (cd := (0, 0)) rfl dK_find_6 (fun v21 hv21 => ?_)
    obtain rfl := (show v21 = .int (s.1 0 5) from hv21)
    obtain ⟨z21, ez21, hz21, hz22⟩ := cl_of (b := 2147483648) e_pn (by omega) (by decide)
    replace hR := bnd_step hR ez21
    refine mi_as hz21 ?_
    refine lv_icmp_lt (tgt := 16) hx hb dK_find_9 (by decide) (fun h22 => ?_) (fun h22 => ?_)
    · replace hR := hR.trans (if_pos h22)
      obtain ⟨z22, hz23, hv22⟩ := i32_ltc h21 (by omega) h22
      have ez22 : z22 = v.toNatClampNeg := by rw [hv22]; exact (nI_clamp (by omega)).symm
      replace hR := bnd_step hR ez22
      rw [hv22] at hl
      refine lv_aload_n hx hb dK_find_16 rfl (lv_at hl 0 rfl) ?_
      refine nw_get (C := "LatticeKeys") (TT := T_K) (N := 11) hx hb hts (wg_ft i_K) hown hK hO k_h0 (kn := 0) (ci := 0) (fl := [(3, 1), (0, 0), (3, 2), (0, 0), (3, 3), (0, 0), (3, 4), (3, 8), (3, 12), (3, 24), (3, 39)]) rfl hP rfl 4 (by decide) (hts _ (wg_t kw_378)) (fun _ h9 => h9) (cd := (3, 3)) rfl dK_find_17 (fun v22 hv23 => ?_)
      obtain ⟨r21, rfl, kr21⟩ := (show ∃ r : Nat, v22 = .ref r ∧ T r = some 3 from hv23)
      refine lv_iload_n hx hb dK_find_20 rfl (lv_at hl 1 rfl) ?_
      refine nw_aald8 hx hb hK hO kr21 (k := 3) (b := 379) rfl hP (by omega) (by omega) dK_find_21 (fun o21 hq21 => ?_)
      exact mp_qret (v := o21) hx hb hr (Or.inl ⟨_, rfl⟩) hlk hP hD hS (((s.1 3 z22), s), pl) ⟨⟨hR.symm, (npr_pfd hq21 (by omega) hv22), hF, trivial⟩, hO⟩ [] rfl rfl rfl (by omega) (by omega) dK_find_22
    · replace hR := hR.trans (if_neg h22)
      refine lv_null hx hb dK_find_12 ?_
      refine lv_goto (tgt := 22) hx hb dK_find_13 (by decide) ?_
      exact mp_qret (v := none) hx hb hr (Or.inl ⟨_, rfl⟩) hlk hP hD hS ((nI 0, s), pl) ⟨⟨hR.symm, (Or.inl ⟨rfl, rfl⟩), hF, trivial⟩, hO⟩ [] rfl rfl rfl (by omega) (by omega) dK_find_22
def M_K_findKem (k : Nat) : Prop := (0 : Nat) = 1
noncomputable def F_K_findKem (v : Int32) (s : Sto) : Int32 × Sto := bnd (F_K_find v s) fun q21 => if q21.1 = nI 0 then (nI 0, q21.2) else if q21.1 = nI 1 then bnd (v.toNatClampNeg) fun z21 => (nI 1, q21.2) else if q21.1 = nI 2 then bnd (v.toNatClampNeg) fun z22 => (nI 2, q21.2) else if q21.1 = nI 3 then bnd (v.toNatClampNeg) fun z23 => (nI 3, q21.2) else if q21.1 = nI 4 then bnd (v.toNatClampNeg) fun z24 => (nI 0, q21.2) else if q21.1 = nI 5 then bnd (v.toNatClampNeg) fun z25 => (nI 0, q21.2) else if q21.1 = nI 6 then bnd (v.toNatClampNeg) fun z26 => (nI 0, q21.2) else if q21.1 = nI 7 then bnd (v.toNatClampNeg) fun z27 => (nI 7, q21.2) else if q21.1 = nI 8 then bnd (v.toNatClampNeg) fun z28 => (nI 8, q21.2) else if q21.1 = nI 9 then bnd (v.toNatClampNeg) fun z29 => (nI 9, q21.2) else if q21.1 = nI 10 then bnd (v.toNatClampNeg) fun z30 => (nI 0, q21.2) else if q21.1 = nI 11 then bnd (v.toNatClampNeg) fun z31 => (nI 0, q21.2) else if q21.1 = nI 12 then bnd (v.toNatClampNeg) fun z32 => (nI 0, q21.2) else (nI 0, q21.2)
set_option maxHeartbeats 2000000 in
set_option maxRecDepth 100000 in
theorem N_K_findKem (l : Launch) (g : Gd) (sz : Nat) (T : TyN) (s : Sto) (pl : va_W) (hO : okn g T s pl) (hU : inj T) (h0 : Nat) (v : Int32) (tl : Nat) (al : Nat) (pn : Nat) (k_h0 : T h0 = some 0) (e_tl : s.1 0 1 = nI tl) (e_al : s.1 0 3 = nI al) (e_pn : s.1 0 5 = nI pn) (h3 : pn ≤ 8)  : Met l y_K_findKem w_K_findKem ({ frames := 1, cells := 0, slots := 0, locals := 21 } : Room) (va_Pc [.ref h0, .int v] (pr (en g) g.1 vcl sz ([] ++ pl))) (va_Qq (fun (r : Option Nat) (u : (Int32 × Sto) × va_W) => (u.1 = F_K_findKem v s ∧ (pfd T pn 0 [0, 1, 2, 6, 7, 8] v u.1.1 r) ∧ frm (M_K_findKem) s u.1.2 ∧ True) ∧ okn g T u.1.2 u.2) (po g.1 vcl (va_A ([] ++ pl) sz) (fun (u : (Int32 × Sto) × va_W) => [] ++ u.2)) (va_A ([] ++ pl) sz)) 0 0 (va_A ([] ++ pl) sz) := by
  refine mc_entry (cc := c_K_findKem) (maxL := 3) (ret := (Option.some (Jvm.ClassFile.FieldType.object "LatticeKeys$KeyPair"))) (by decide) rfl (Nat.le_of_ble_eq_true rfl) ?_
  intro p e s0 m args below meth c ls F hr hlk hnm hsz hP hD hE hA hl
  obtain ⟨hx, hb, hml, hown, hts⟩ := id F
  have hK := hE.1
  generalize va_A ([] ++ pl) sz = A at hD hE hA ⊢
  have hS : va_S A s0.heap s0.heap [] := va_S.rf
  have hl : lv_has ls 3 [(0, .ref h0), (1, .int v)] := hl
  have hR : F_K_findKem v s = F_K_findKem v s := rfl
  have hF : frm (M_K_findKem) s s := frm_rf
  refine lv_aload_n hx hb dK_findKem_0 rfl (lv_at hl 0 rfl) ?_
  refine lv_iload_n hx hb dK_findKem_1 rfl (lv_at hl 1 rfl) ?_
  refine mp_q (cx := []) (wr := []) hP hD hS hA [] [] rfl rfl rfl (by decide) (va_runV (As := [.int v]) (rest := []) F (N_K_find l g _ T s pl hO hU h0 v tl al pn k_h0 e_tl e_al e_pn (by omega)) (cwV 1 hts (wg_app (wg_c kw_1060 (wg_c kw_1062 (wg_c ks_24 (wg_c kw_1 wg_n)))) kw_1063) rfl rfl rfl (by decide +kernel) ⟨by decide, by decide⟩) (pn_W "LatticeKeys" (en_ok g) (ci := 0) (kn := 0) (fl := [(3, 1), (0, 0), (3, 2), (0, 0), (3, 3), (0, 0), (3, 4), (3, 8), (3, 12), (3, 24), (3, 39)]) hK hO k_h0 rfl hP hD hS hA hE [] rfl rfl rfl) rfl rfl hl.1 rfl (lv_room (Nat.le_of_ble_eq_true rfl)) dK_findKem_2 ⟨by omega, by omega⟩) (fun r21 u21 H locs hu21 hP hD hS => ?_)
  obtain ⟨q21, pl⟩ := u21
  obtain ⟨⟨eq21, hq21, hFc21, -⟩, hO⟩ := hu21
  have hO : okn g T q21.2 pl := hO
  have hP : va_P g.1 vcl ([] ++ pl) _ := hP
  have hD : va_D _ ([] ++ pl) := hD
  have hFc21 : frm (M_K_find) s q21.2 := hFc21
  replace hR := bnd_step hR eq21
  have hF := frm_tr hF hFc21 (fun k hk => by unfold M_K_find at hk; unfold M_K_findKem; omega)
  have hf21 : q21.2.1 0 1 = nI tl := fc_F e_tl hFc21 (by unfold M_K_find; omega)
  have hf22 : q21.2.1 0 3 = nI al := fc_F e_al hFc21 (by unfold M_K_find; omega)
  have hf23 : q21.2.1 0 5 = nI pn := fc_F e_pn hFc21 (by unfold M_K_find; omega)
  refine W.widen (k := 0) (n := 0) (by omega) (by omega) ?_
  by_cases hs21 : q21.1 = nI 0
  · replace hR := hR.trans (if_pos hs21)
    obtain rfl : r21 = none := pfd_none hq21 hs21
    refine lv_astore_nN (lv' := [(2, .null), (0, .ref h0), (1, .int v)]) hx hb dK_findKem_5 rfl hl (by decide) rfl (fun ls hl => ?_)
    refine lv_aload_nN hx hb dK_findKem_6 rfl (lv_at hl 0 rfl) ?_
    refine lv_ifnullN (tgt := 18) hx hb dK_findKem_7 (by decide) ?_
    refine lv_null hx hb dK_findKem_18 ?_
    refine lv_goto (tgt := 23) hx hb dK_findKem_19 (by decide) ?_
    exact mp_qret (v := none) hx hb hr (Or.inl ⟨_, rfl⟩) hlk hP hD hS ((nI 0, q21.2), pl) ⟨⟨hR.symm, (Or.inl ⟨rfl, rfl⟩), hF, trivial⟩, hO⟩ [] rfl rfl rfl (by omega) (by omega) dK_findKem_23
  replace hR := hR.trans (if_neg hs21)
  by_cases hs22 : q21.1 = nI 1
  · replace hR := hR.trans (if_pos hs22)
    obtain ⟨z21, q22, hz21, hv21, rfl, kr21⟩ := pfd_at (c := 0) hq21 (by decide) hs22
    have kr21 : T q22 = some (379 + 36 * z21 + 0) := kr21
    have ez21 : z21 = v.toNatClampNeg := by rw [hv21]; exact (nI_clamp (by omega)).symm
    replace hR := bnd_step hR ez21
    refine lv_astore_n (lv' := [(2, .ref q22), (0, .ref h0), (1, .int v)]) hx hb dK_findKem_5 rfl hl (by decide) rfl (fun ls hl => ?_)
    refine lv_aload_n hx hb dK_findKem_6 rfl (lv_at hl 0 rfl) ?_
    refine lv_ifnull hx hb dK_findKem_7 ?_
    refine lv_aload_n hx hb dK_findKem_10 rfl (lv_at hl 0 rfl) ?_
    refine nw_get (C := "LatticeKeys$KeyPair") (TT := T_KP) (N := 3) hx hb hts (wg_ft i_KP) hown hK hO kr21 (kn := (379 + 36 * z21 + 0)) (ci := 13) (fl := [(1, 0), (3, (379 + 36 * z21 + 1)), (3, (379 + 36 * z21 + 2))]) (pr_o0 (z := z21) (by omega)) hP rfl 0 (by decide) (hts _ (wg_t kw_746)) (fun _ h9 => h9) (cd := (1, 0)) rfl dK_findKem_11 (fun v21 hv22 => ?_)
    obtain rfl := (show v21 = .int (nI 0) from hv22)
    refine lv_iconst (v := nI 3) hx hb dK_findKem_14 (by decide) ?_
    refine mi_lt (tgt := 22) hx hb dK_findKem_15 (by decide) (by omega) (by omega) (fun h21 => ?_) (fun h21 => absurd h21 (by omega))
    refine lv_aload_n hx hb dK_findKem_22 rfl (lv_at hl 0 rfl) ?_
    exact mp_qret (v := (some q22)) hx hb hr (Or.inl ⟨_, rfl⟩) hlk hP hD hS ((nI 1, q21.2), pl) ⟨⟨hR.symm, (Or.inr ⟨z21, 0, _, by omega, hv21, by decide, by decide, rfl, rfl, kr21⟩), hF, trivial⟩, hO⟩ [] rfl rfl rfl (by omega) (by omega) dK_findKem_23
  replace hR := hR.trans (if_neg hs22)
  by_cases hs23 : q21.1 = nI 2
  · replace hR := hR.trans (if_pos hs23)
    obtain ⟨z22, q23, hz22, hv23, rfl, kr22⟩ := pfd_at (c := 1) hq21 (by decide) hs23
    have kr22 : T q23 = some (379 + 36 * z22 + 3) := kr22
    have ez22 : z22 = v.toNatClampNeg := by rw [hv23]; exact (nI_clamp (by omega)).symm
    replace hR := bnd_step hR ez22
    refine lv_astore_n (lv' := [(2, .ref q23), (0, .ref h0), (1, .int v)]) hx hb dK_findKem_5 rfl hl (by decide) rfl (fun ls hl => ?_)
    refine lv_aload_n hx hb dK_findKem_6 rfl (lv_at hl 0 rfl) ?_
    refine lv_ifnull hx hb dK_findKem_7 ?_
    refine lv_aload_n hx hb dK_findKem_10 rfl (lv_at hl 0 rfl) ?_
    refine nw_get (C := "LatticeKeys$KeyPair") (TT := T_KP) (N := 3) hx hb hts (wg_ft i_KP) hown hK hO kr22 (kn := (379 + 36 * z22 + 3)) (ci := 13) (fl := [(1, 1), (3, (379 + 36 * z22 + 4)), (3, (379 + 36 * z22 + 5))]) (pr_o1 (z := z22) (by omega)) hP rfl 0 (by decide) (hts _ (wg_t kw_746)) (fun _ h9 => h9) (cd := (1, 1)) rfl dK_findKem_11 (fun v22 hv24 => ?_)
    obtain rfl := (show v22 = .int (nI 1) from hv24)
    refine lv_iconst (v := nI 3) hx hb dK_findKem_14 (by decide) ?_
    refine mi_lt (tgt := 22) hx hb dK_findKem_15 (by decide) (by omega) (by omega) (fun h22 => ?_) (fun h22 => absurd h22 (by omega))
    refine lv_aload_n hx hb dK_findKem_22 rfl (lv_at hl 0 rfl) ?_
    exact mp_qret (v := (some q23)) hx hb hr (Or.inl ⟨_, rfl⟩) hlk hP hD hS ((nI 2, q21.2), pl) ⟨⟨hR.symm, (Or.inr ⟨z22, 1, _, by omega, hv23, by decide, by decide, rfl, rfl, kr22⟩), hF, trivial⟩, hO⟩ [] rfl rfl rfl (by omega) (by omega) dK_findKem_23
  replace hR := hR.trans (if_neg hs23)
  by_cases hs24 : q21.1 = nI 3
  · replace hR := hR.trans (if_pos hs24)
    obtain ⟨z23, q24, hz23, hv25, rfl, kr23⟩ := pfd_at (c := 2) hq21 (by decide) hs24
    have kr23 : T q24 = some (379 + 36 * z23 + 6) := kr23
    have ez23 : z23 = v.toNatClampNeg := by rw [hv25]; exact (nI_clamp (by omega)).symm
    replace hR := bnd_step hR ez23
    refine lv_astore_n (lv' := [(2, .ref q24), (0, .ref h0), (1, .int v)]) hx hb dK_findKem_5 rfl hl (by decide) rfl (fun ls hl => ?_)
    refine lv_aload_n hx hb dK_findKem_6 rfl (lv_at hl 0 rfl) ?_
    refine lv_ifnull hx hb dK_findKem_7 ?_
    refine lv_aload_n hx hb dK_findKem_10 rfl (lv_at hl 0 rfl) ?_
    refine nw_get (C := "LatticeKeys$KeyPair") (TT := T_KP) (N := 3) hx hb hts (wg_ft i_KP) hown hK hO kr23 (kn := (379 + 36 * z23 + 6)) (ci := 13) (fl := [(1, 2), (3, (379 + 36 * z23 + 7)), (3, (379 + 36 * z23 + 8))]) (pr_o2 (z := z23) (by omega)) hP rfl 0 (by decide) (hts _ (wg_t kw_746)) (fun _ h9 => h9) (cd := (1, 2)) rfl dK_findKem_11 (fun v23 hv26 => ?_)
    obtain rfl := (show v23 = .int (nI 2) from hv26)
    refine lv_iconst (v := nI 3) hx hb dK_findKem_14 (by decide) ?_
    refine mi_lt (tgt := 22) hx hb dK_findKem_15 (by decide) (by omega) (by omega) (fun h23 => ?_) (fun h23 => absurd h23 (by omega))
    refine lv_aload_n hx hb dK_findKem_22 rfl (lv_at hl 0 rfl) ?_
    exact mp_qret (v := (some q24)) hx hb hr (Or.inl ⟨_, rfl⟩) hlk hP hD hS ((nI 3, q21.2), pl) ⟨⟨hR.symm, (Or.inr ⟨z23, 2, _, by omega, hv25, by decide, by decide, rfl, rfl, kr23⟩), hF, trivial⟩, hO⟩ [] rfl rfl rfl (by omega) (by omega) dK_findKem_23
  replace hR := hR.trans (if_neg hs24)
  by_cases hs25 : q21.1 = nI 4
  · replace hR := hR.trans (if_pos hs25)
    obtain ⟨z24, q25, hz24, hv27, rfl, kr24⟩ := pfd_at (c := 3) hq21 (by decide) hs25
    have kr24 : T q25 = some (379 + 36 * z24 + 9) := kr24
    have ez24 : z24 = v.toNatClampNeg := by rw [hv27]; exact (nI_clamp (by omega)).symm
    replace hR := bnd_step hR ez24
    refine lv_astore_n (lv' := [(2, .ref q25), (0, .ref h0), (1, .int v)]) hx hb dK_findKem_5 rfl hl (by decide) rfl (fun ls hl => ?_)
    refine lv_aload_n hx hb dK_findKem_6 rfl (lv_at hl 0 rfl) ?_
    refine lv_ifnull hx hb dK_findKem_7 ?_
    refine lv_aload_n hx hb dK_findKem_10 rfl (lv_at hl 0 rfl) ?_
    refine nw_get (C := "LatticeKeys$KeyPair") (TT := T_KP) (N := 3) hx hb hts (wg_ft i_KP) hown hK hO kr24 (kn := (379 + 36 * z24 + 9)) (ci := 13) (fl := [(1, 3), (3, (379 + 36 * z24 + 10)), (3, (379 + 36 * z24 + 11))]) (pr_o3 (z := z24) (by omega)) hP rfl 0 (by decide) (hts _ (wg_t kw_746)) (fun _ h9 => h9) (cd := (1, 3)) rfl dK_findKem_11 (fun v24 hv28 => ?_)
    obtain rfl := (show v24 = .int (nI 3) from hv28)
    refine lv_iconst (v := nI 3) hx hb dK_findKem_14 (by decide) ?_
    refine mi_lt (tgt := 22) hx hb dK_findKem_15 (by decide) (by omega) (by omega) (fun h24 => absurd h24 (by omega)) (fun h24 => ?_)
    refine lv_null hx hb dK_findKem_18 ?_
    refine lv_goto (tgt := 23) hx hb dK_findKem_19 (by decide) ?_
    exact mp_qret (v := none) hx hb hr (Or.inl ⟨_, rfl⟩) hlk hP hD hS ((nI 0, q21.2), pl) ⟨⟨hR.symm, (Or.inl ⟨rfl, rfl⟩), hF, trivial⟩, hO⟩ [] rfl rfl rfl (by omega) (by omega) dK_findKem_23
  replace hR := hR.trans (if_neg hs25)
  by_cases hs26 : q21.1 = nI 5
  · replace hR := hR.trans (if_pos hs26)
    obtain ⟨z25, q26, hz25, hv29, rfl, kr25⟩ := pfd_at (c := 4) hq21 (by decide) hs26
    have kr25 : T q26 = some (379 + 36 * z25 + 12) := kr25
    have ez25 : z25 = v.toNatClampNeg := by rw [hv29]; exact (nI_clamp (by omega)).symm
    replace hR := bnd_step hR ez25
    refine lv_astore_n (lv' := [(2, .ref q26), (0, .ref h0), (1, .int v)]) hx hb dK_findKem_5 rfl hl (by decide) rfl (fun ls hl => ?_)
    refine lv_aload_n hx hb dK_findKem_6 rfl (lv_at hl 0 rfl) ?_
    refine lv_ifnull hx hb dK_findKem_7 ?_
    refine lv_aload_n hx hb dK_findKem_10 rfl (lv_at hl 0 rfl) ?_
    refine nw_get (C := "LatticeKeys$KeyPair") (TT := T_KP) (N := 3) hx hb hts (wg_ft i_KP) hown hK hO kr25 (kn := (379 + 36 * z25 + 12)) (ci := 13) (fl := [(1, 4), (3, (379 + 36 * z25 + 13)), (3, (379 + 36 * z25 + 14))]) (pr_o4 (z := z25) (by omega)) hP rfl 0 (by decide) (hts _ (wg_t kw_746)) (fun _ h9 => h9) (cd := (1, 4)) rfl dK_findKem_11 (fun v25 hv30 => ?_)
    obtain rfl := (show v25 = .int (nI 4) from hv30)
    refine lv_iconst (v := nI 3) hx hb dK_findKem_14 (by decide) ?_
    refine mi_lt (tgt := 22) hx hb dK_findKem_15 (by decide) (by omega) (by omega) (fun h25 => absurd h25 (by omega)) (fun h25 => ?_)
    refine lv_null hx hb dK_findKem_18 ?_
    refine lv_goto (tgt := 23) hx hb dK_findKem_19 (by decide) ?_
    exact mp_qret (v := none) hx hb hr (Or.inl ⟨_, rfl⟩) hlk hP hD hS ((nI 0, q21.2), pl) ⟨⟨hR.symm, (Or.inl ⟨rfl, rfl⟩), hF, trivial⟩, hO⟩ [] rfl rfl rfl (by omega) (by omega) dK_findKem_23
  replace hR := hR.trans (if_neg hs26)
  by_cases hs27 : q21.1 = nI 6
  · replace hR := hR.trans (if_pos hs27)
    obtain ⟨z26, q27, hz26, hv31, rfl, kr26⟩ := pfd_at (c := 5) hq21 (by decide) hs27
    have kr26 : T q27 = some (379 + 36 * z26 + 15) := kr26
    have ez26 : z26 = v.toNatClampNeg := by rw [hv31]; exact (nI_clamp (by omega)).symm
    replace hR := bnd_step hR ez26
    refine lv_astore_n (lv' := [(2, .ref q27), (0, .ref h0), (1, .int v)]) hx hb dK_findKem_5 rfl hl (by decide) rfl (fun ls hl => ?_)
    refine lv_aload_n hx hb dK_findKem_6 rfl (lv_at hl 0 rfl) ?_
    refine lv_ifnull hx hb dK_findKem_7 ?_
    refine lv_aload_n hx hb dK_findKem_10 rfl (lv_at hl 0 rfl) ?_
    refine nw_get (C := "LatticeKeys$KeyPair") (TT := T_KP) (N := 3) hx hb hts (wg_ft i_KP) hown hK hO kr26 (kn := (379 + 36 * z26 + 15)) (ci := 13) (fl := [(1, 5), (3, (379 + 36 * z26 + 16)), (3, (379 + 36 * z26 + 17))]) (pr_o5 (z := z26) (by omega)) hP rfl 0 (by decide) (hts _ (wg_t kw_746)) (fun _ h9 => h9) (cd := (1, 5)) rfl dK_findKem_11 (fun v26 hv32 => ?_)
    obtain rfl := (show v26 = .int (nI 5) from hv32)
    refine lv_iconst (v := nI 3) hx hb dK_findKem_14 (by decide) ?_
    refine mi_lt (tgt := 22) hx hb dK_findKem_15 (by decide) (by omega) (by omega) (fun h26 => absurd h26 (by omega)) (fun h26 => ?_)
    refine lv_null hx hb dK_findKem_18 ?_
    refine lv_goto (tgt := 23) hx hb dK_findKem_19 (by decide) ?_
    exact mp_qret (v := none) hx hb hr (Or.inl ⟨_, rfl⟩) hlk hP hD hS ((nI 0, q21.2), pl) ⟨⟨hR.symm, (Or.inl ⟨rfl, rfl⟩), hF, trivial⟩, hO⟩ [] rfl rfl rfl (by omega) (by omega) dK_findKem_23
  replace hR := hR.trans (if_neg hs27)
  by_cases hs28 : q21.1 = nI 7
  · replace hR := hR.trans (if_pos hs28)
    obtain ⟨z27, q28, hz27, hv33, rfl, kr27⟩ := pfd_at (c := 6) hq21 (by decide) hs28
    have kr27 : T q28 = some (379 + 36 * z27 + 18) := kr27
    have ez27 : z27 = v.toNatClampNeg := by rw [hv33]; exact (nI_clamp (by omega)).symm
    replace hR := bnd_step hR ez27
    refine lv_astore_n (lv' := [(2, .ref q28), (0, .ref h0), (1, .int v)]) hx hb dK_findKem_5 rfl hl (by decide) rfl (fun ls hl => ?_)
    refine lv_aload_n hx hb dK_findKem_6 rfl (lv_at hl 0 rfl) ?_
    refine lv_ifnull hx hb dK_findKem_7 ?_
    refine lv_aload_n hx hb dK_findKem_10 rfl (lv_at hl 0 rfl) ?_
    refine nw_get (C := "LatticeKeys$KeyPair") (TT := T_KP) (N := 3) hx hb hts (wg_ft i_KP) hown hK hO kr27 (kn := (379 + 36 * z27 + 18)) (ci := 13) (fl := [(1, 0), (3, (379 + 36 * z27 + 19)), (5, 0)]) (pr_o6 (z := z27) (by omega)) hP rfl 0 (by decide) (hts _ (wg_t kw_746)) (fun _ h9 => h9) (cd := (1, 0)) rfl dK_findKem_11 (fun v27 hv34 => ?_)
    obtain rfl := (show v27 = .int (nI 0) from hv34)
    refine lv_iconst (v := nI 3) hx hb dK_findKem_14 (by decide) ?_
    refine mi_lt (tgt := 22) hx hb dK_findKem_15 (by decide) (by omega) (by omega) (fun h27 => ?_) (fun h27 => absurd h27 (by omega))
    refine lv_aload_n hx hb dK_findKem_22 rfl (lv_at hl 0 rfl) ?_
    exact mp_qret (v := (some q28)) hx hb hr (Or.inl ⟨_, rfl⟩) hlk hP hD hS ((nI 7, q21.2), pl) ⟨⟨hR.symm, (Or.inr ⟨z27, 6, _, by omega, hv33, by decide, by decide, rfl, rfl, kr27⟩), hF, trivial⟩, hO⟩ [] rfl rfl rfl (by omega) (by omega) dK_findKem_23
  replace hR := hR.trans (if_neg hs28)
  by_cases hs29 : q21.1 = nI 8
  · replace hR := hR.trans (if_pos hs29)
    obtain ⟨z28, q29, hz28, hv35, rfl, kr28⟩ := pfd_at (c := 7) hq21 (by decide) hs29
    have kr28 : T q29 = some (379 + 36 * z28 + 21) := kr28
    have ez28 : z28 = v.toNatClampNeg := by rw [hv35]; exact (nI_clamp (by omega)).symm
    replace hR := bnd_step hR ez28
    refine lv_astore_n (lv' := [(2, .ref q29), (0, .ref h0), (1, .int v)]) hx hb dK_findKem_5 rfl hl (by decide) rfl (fun ls hl => ?_)
    refine lv_aload_n hx hb dK_findKem_6 rfl (lv_at hl 0 rfl) ?_
    refine lv_ifnull hx hb dK_findKem_7 ?_
    refine lv_aload_n hx hb dK_findKem_10 rfl (lv_at hl 0 rfl) ?_
    refine nw_get (C := "LatticeKeys$KeyPair") (TT := T_KP) (N := 3) hx hb hts (wg_ft i_KP) hown hK hO kr28 (kn := (379 + 36 * z28 + 21)) (ci := 13) (fl := [(1, 1), (3, (379 + 36 * z28 + 22)), (5, 0)]) (pr_o7 (z := z28) (by omega)) hP rfl 0 (by decide) (hts _ (wg_t kw_746)) (fun _ h9 => h9) (cd := (1, 1)) rfl dK_findKem_11 (fun v28 hv36 => ?_)
    obtain rfl := (show v28 = .int (nI 1) from hv36)
    refine lv_iconst (v := nI 3) hx hb dK_findKem_14 (by decide) ?_
    refine mi_lt (tgt := 22) hx hb dK_findKem_15 (by decide) (by omega) (by omega) (fun h28 => ?_) (fun h28 => absurd h28 (by omega))
    refine lv_aload_n hx hb dK_findKem_22 rfl (lv_at hl 0 rfl) ?_
    exact mp_qret (v := (some q29)) hx hb hr (Or.inl ⟨_, rfl⟩) hlk hP hD hS ((nI 8, q21.2), pl) ⟨⟨hR.symm, (Or.inr ⟨z28, 7, _, by omega, hv35, by decide, by decide, rfl, rfl, kr28⟩), hF, trivial⟩, hO⟩ [] rfl rfl rfl (by omega) (by omega) dK_findKem_23
  replace hR := hR.trans (if_neg hs29)
  by_cases hs30 : q21.1 = nI 9
  · replace hR := hR.trans (if_pos hs30)
    obtain ⟨z29, q30, hz29, hv37, rfl, kr29⟩ := pfd_at (c := 8) hq21 (by decide) hs30
    have kr29 : T q30 = some (379 + 36 * z29 + 24) := kr29
    have ez29 : z29 = v.toNatClampNeg := by rw [hv37]; exact (nI_clamp (by omega)).symm
    replace hR := bnd_step hR ez29
    refine lv_astore_n (lv' := [(2, .ref q30), (0, .ref h0), (1, .int v)]) hx hb dK_findKem_5 rfl hl (by decide) rfl (fun ls hl => ?_)
    refine lv_aload_n hx hb dK_findKem_6 rfl (lv_at hl 0 rfl) ?_
    refine lv_ifnull hx hb dK_findKem_7 ?_
    refine lv_aload_n hx hb dK_findKem_10 rfl (lv_at hl 0 rfl) ?_
    refine nw_get (C := "LatticeKeys$KeyPair") (TT := T_KP) (N := 3) hx hb hts (wg_ft i_KP) hown hK hO kr29 (kn := (379 + 36 * z29 + 24)) (ci := 13) (fl := [(1, 2), (3, (379 + 36 * z29 + 25)), (5, 0)]) (pr_o8 (z := z29) (by omega)) hP rfl 0 (by decide) (hts _ (wg_t kw_746)) (fun _ h9 => h9) (cd := (1, 2)) rfl dK_findKem_11 (fun v29 hv38 => ?_)
    obtain rfl := (show v29 = .int (nI 2) from hv38)
    refine lv_iconst (v := nI 3) hx hb dK_findKem_14 (by decide) ?_
    refine mi_lt (tgt := 22) hx hb dK_findKem_15 (by decide) (by omega) (by omega) (fun h29 => ?_) (fun h29 => absurd h29 (by omega))
    refine lv_aload_n hx hb dK_findKem_22 rfl (lv_at hl 0 rfl) ?_
    exact mp_qret (v := (some q30)) hx hb hr (Or.inl ⟨_, rfl⟩) hlk hP hD hS ((nI 9, q21.2), pl) ⟨⟨hR.symm, (Or.inr ⟨z29, 8, _, by omega, hv37, by decide, by decide, rfl, rfl, kr29⟩), hF, trivial⟩, hO⟩ [] rfl rfl rfl (by omega) (by omega) dK_findKem_23
  replace hR := hR.trans (if_neg hs30)
  by_cases hs31 : q21.1 = nI 10
  · replace hR := hR.trans (if_pos hs31)
    obtain ⟨z30, q31, hz30, hv39, rfl, kr30⟩ := pfd_at (c := 9) hq21 (by decide) hs31
    have kr30 : T q31 = some (379 + 36 * z30 + 27) := kr30
    have ez30 : z30 = v.toNatClampNeg := by rw [hv39]; exact (nI_clamp (by omega)).symm
    replace hR := bnd_step hR ez30
    refine lv_astore_n (lv' := [(2, .ref q31), (0, .ref h0), (1, .int v)]) hx hb dK_findKem_5 rfl hl (by decide) rfl (fun ls hl => ?_)
    refine lv_aload_n hx hb dK_findKem_6 rfl (lv_at hl 0 rfl) ?_
    refine lv_ifnull hx hb dK_findKem_7 ?_
    refine lv_aload_n hx hb dK_findKem_10 rfl (lv_at hl 0 rfl) ?_
    refine nw_get (C := "LatticeKeys$KeyPair") (TT := T_KP) (N := 3) hx hb hts (wg_ft i_KP) hown hK hO kr30 (kn := (379 + 36 * z30 + 27)) (ci := 13) (fl := [(1, 3), (3, (379 + 36 * z30 + 28)), (5, 0)]) (pr_o9 (z := z30) (by omega)) hP rfl 0 (by decide) (hts _ (wg_t kw_746)) (fun _ h9 => h9) (cd := (1, 3)) rfl dK_findKem_11 (fun v30 hv40 => ?_)
    obtain rfl := (show v30 = .int (nI 3) from hv40)
    refine lv_iconst (v := nI 3) hx hb dK_findKem_14 (by decide) ?_
    refine mi_lt (tgt := 22) hx hb dK_findKem_15 (by decide) (by omega) (by omega) (fun h30 => absurd h30 (by omega)) (fun h30 => ?_)
    refine lv_null hx hb dK_findKem_18 ?_
    refine lv_goto (tgt := 23) hx hb dK_findKem_19 (by decide) ?_
    exact mp_qret (v := none) hx hb hr (Or.inl ⟨_, rfl⟩) hlk hP hD hS ((nI 0, q21.2), pl) ⟨⟨hR.symm, (Or.inl ⟨rfl, rfl⟩), hF, trivial⟩, hO⟩ [] rfl rfl rfl (by omega) (by omega) dK_findKem_23
  replace hR := hR.trans (if_neg hs31)
  by_cases hs32 : q21.1 = nI 11
  · replace hR := hR.trans (if_pos hs32)
    obtain ⟨z31, q32, hz31, hv41, rfl, kr31⟩ := pfd_at (c := 10) hq21 (by decide) hs32
    have kr31 : T q32 = some (379 + 36 * z31 + 30) := kr31
    have ez31 : z31 = v.toNatClampNeg := by rw [hv41]; exact (nI_clamp (by omega)).symm
    replace hR := bnd_step hR ez31
    refine lv_astore_n (lv' := [(2, .ref q32), (0, .ref h0), (1, .int v)]) hx hb dK_findKem_5 rfl hl (by decide) rfl (fun ls hl => ?_)
    refine lv_aload_n hx hb dK_findKem_6 rfl (lv_at hl 0 rfl) ?_
    refine lv_ifnull hx hb dK_findKem_7 ?_
    refine lv_aload_n hx hb dK_findKem_10 rfl (lv_at hl 0 rfl) ?_
    refine nw_get (C := "LatticeKeys$KeyPair") (TT := T_KP) (N := 3) hx hb hts (wg_ft i_KP) hown hK hO kr31 (kn := (379 + 36 * z31 + 30)) (ci := 13) (fl := [(1, 4), (3, (379 + 36 * z31 + 31)), (5, 0)]) (pr_o10 (z := z31) (by omega)) hP rfl 0 (by decide) (hts _ (wg_t kw_746)) (fun _ h9 => h9) (cd := (1, 4)) rfl dK_findKem_11 (fun v31 hv42 => ?_)
    obtain rfl := (show v31 = .int (nI 4) from hv42)
    refine lv_iconst (v := nI 3) hx hb dK_findKem_14 (by decide) ?_
    refine mi_lt (tgt := 22) hx hb dK_findKem_15 (by decide) (by omega) (by omega) (fun h31 => absurd h31 (by omega)) (fun h31 => ?_)
    refine lv_null hx hb dK_findKem_18 ?_
    refine lv_goto (tgt := 23) hx hb dK_findKem_19 (by decide) ?_
    exact mp_qret (v := none) hx hb hr (Or.inl ⟨_, rfl⟩) hlk hP hD hS ((nI 0, q21.2), pl) ⟨⟨hR.symm, (Or.inl ⟨rfl, rfl⟩), hF, trivial⟩, hO⟩ [] rfl rfl rfl (by omega) (by omega) dK_findKem_23
  replace hR := hR.trans (if_neg hs32)
  by_cases hs33 : q21.1 = nI 12
  · replace hR := hR.trans (if_pos hs33)
    obtain ⟨z32, q33, hz32, hv43, rfl, kr32⟩ := pfd_at (c := 11) hq21 (by decide) hs33
    have kr32 : T q33 = some (379 + 36 * z32 + 33) := kr32
    have ez32 : z32 = v.toNatClampNeg := by rw [hv43]; exact (nI_clamp (by omega)).symm
    replace hR := bnd_step hR ez32
    refine lv_astore_n (lv' := [(2, .ref q33), (0, .ref h0), (1, .int v)]) hx hb dK_findKem_5 rfl hl (by decide) rfl (fun ls hl => ?_)
    refine lv_aload_n hx hb dK_findKem_6 rfl (lv_at hl 0 rfl) ?_
    refine lv_ifnull hx hb dK_findKem_7 ?_
    refine lv_aload_n hx hb dK_findKem_10 rfl (lv_at hl 0 rfl) ?_
    refine nw_get (C := "LatticeKeys$KeyPair") (TT := T_KP) (N := 3) hx hb hts (wg_ft i_KP) hown hK hO kr32 (kn := (379 + 36 * z32 + 33)) (ci := 13) (fl := [(1, 5), (3, (379 + 36 * z32 + 34)), (5, 0)]) (pr_o11 (z := z32) (by omega)) hP rfl 0 (by decide) (hts _ (wg_t kw_746)) (fun _ h9 => h9) (cd := (1, 5)) rfl dK_findKem_11 (fun v32 hv44 => ?_)
    obtain rfl := (show v32 = .int (nI 5) from hv44)
    refine lv_iconst (v := nI 3) hx hb dK_findKem_14 (by decide) ?_
    refine mi_lt (tgt := 22) hx hb dK_findKem_15 (by decide) (by omega) (by omega) (fun h32 => absurd h32 (by omega)) (fun h32 => ?_)
    refine lv_null hx hb dK_findKem_18 ?_
    refine lv_goto (tgt := 23) hx hb dK_findKem_19 (by decide) ?_
    exact mp_qret (v := none) hx hb hr (Or.inl ⟨_, rfl⟩) hlk hP hD hS ((nI 0, q21.2), pl) ⟨⟨hR.symm, (Or.inl ⟨rfl, rfl⟩), hF, trivial⟩, hO⟩ [] rfl rfl rfl (by omega) (by omega) dK_findKem_23
  replace hR := hR.trans (if_neg hs33)
  obtain ⟨c9, hc9, e9⟩ := pfd_mem hq21 hs21
  simp only [List.mem_cons, List.not_mem_nil, or_false] at hc9
  rcases hc9 with rfl | rfl | rfl | rfl | rfl | rfl | rfl | rfl | rfl | rfl | rfl | rfl
  · exact absurd e9 hs22
  · exact absurd e9 hs23
  · exact absurd e9 hs24
  · exact absurd e9 hs25
  · exact absurd e9 hs26
  · exact absurd e9 hs27
  · exact absurd e9 hs28
  · exact absurd e9 hs29
  · exact absurd e9 hs30
  · exact absurd e9 hs31
  · exact absurd e9 hs32
  · exact absurd e9 hs33
def M_K_findDsa (k : Nat) : Prop := (0 : Nat) = 1
noncomputable def F_K_findDsa (v : Int32) (s : Sto) : Int32 × Sto := bnd (F_K_find v s) fun q21 => if q21.1 = nI 0 then (nI 0, q21.2) else if q21.1 = nI 1 then bnd (v.toNatClampNeg) fun z21 => (nI 0, q21.2) else if q21.1 = nI 2 then bnd (v.toNatClampNeg) fun z22 => (nI 0, q21.2) else if q21.1 = nI 3 then bnd (v.toNatClampNeg) fun z23 => (nI 0, q21.2) else if q21.1 = nI 4 then bnd (v.toNatClampNeg) fun z24 => (nI 4, q21.2) else if q21.1 = nI 5 then bnd (v.toNatClampNeg) fun z25 => (nI 5, q21.2) else if q21.1 = nI 6 then bnd (v.toNatClampNeg) fun z26 => (nI 6, q21.2) else if q21.1 = nI 7 then bnd (v.toNatClampNeg) fun z27 => (nI 0, q21.2) else if q21.1 = nI 8 then bnd (v.toNatClampNeg) fun z28 => (nI 0, q21.2) else if q21.1 = nI 9 then bnd (v.toNatClampNeg) fun z29 => (nI 0, q21.2) else if q21.1 = nI 10 then bnd (v.toNatClampNeg) fun z30 => (nI 10, q21.2) else if q21.1 = nI 11 then bnd (v.toNatClampNeg) fun z31 => (nI 11, q21.2) else if q21.1 = nI 12 then bnd (v.toNatClampNeg) fun z32 => (nI 12, q21.2) else (nI 0, q21.2)
set_option maxHeartbeats 2000000 in
set_option maxRecDepth 100000 in
theorem N_K_findDsa (l : Launch) (g : Gd) (sz : Nat) (T : TyN) (s : Sto) (pl : va_W) (hO : okn g T s pl) (hU : inj T) (h0 : Nat) (v : Int32) (tl : Nat) (al : Nat) (pn : Nat) (k_h0 : T h0 = some 0) (e_tl : s.1 0 1 = nI tl) (e_al : s.1 0 3 = nI al) (e_pn : s.1 0 5 = nI pn) (h3 : pn ≤ 8)  : Met l y_K_findDsa w_K_findDsa ({ frames := 1, cells := 0, slots := 0, locals := 21 } : Room) (va_Pc [.ref h0, .int v] (pr (en g) g.1 vcl sz ([] ++ pl))) (va_Qq (fun (r : Option Nat) (u : (Int32 × Sto) × va_W) => (u.1 = F_K_findDsa v s ∧ (pfd T pn 0 [3, 4, 5, 9, 10, 11] v u.1.1 r) ∧ frm (M_K_findDsa) s u.1.2 ∧ True) ∧ okn g T u.1.2 u.2) (po g.1 vcl (va_A ([] ++ pl) sz) (fun (u : (Int32 × Sto) × va_W) => [] ++ u.2)) (va_A ([] ++ pl) sz)) 0 0 (va_A ([] ++ pl) sz) := by
  refine mc_entry (cc := c_K_findDsa) (maxL := 3) (ret := (Option.some (Jvm.ClassFile.FieldType.object "LatticeKeys$KeyPair"))) (by decide) rfl (Nat.le_of_ble_eq_true rfl) ?_
  intro p e s0 m args below meth c ls F hr hlk hnm hsz hP hD hE hA hl
  obtain ⟨hx, hb, hml, hown, hts⟩ := id F
  have hK := hE.1
  generalize va_A ([] ++ pl) sz = A at hD hE hA ⊢
  have hS : va_S A s0.heap s0.heap [] := va_S.rf
  have hl : lv_has ls 3 [(0, .ref h0), (1, .int v)] := hl
  have hR : F_K_findDsa v s = F_K_findDsa v s := rfl
  have hF : frm (M_K_findDsa) s s := frm_rf
  refine lv_aload_n hx hb dK_findDsa_0 rfl (lv_at hl 0 rfl) ?_
  refine lv_iload_n hx hb dK_findDsa_1 rfl (lv_at hl 1 rfl) ?_
  refine mp_q (cx := []) (wr := []) hP hD hS hA [] [] rfl rfl rfl (by decide) (va_runV (As := [.int v]) (rest := []) F (N_K_find l g _ T s pl hO hU h0 v tl al pn k_h0 e_tl e_al e_pn (by omega)) (cwV 1 hts (wg_app (wg_c kw_1060 (wg_c kw_1062 (wg_c ks_24 (wg_c kw_1 wg_n)))) kw_1063) rfl rfl rfl (by decide +kernel) ⟨by decide, by decide⟩) (pn_W "LatticeKeys" (en_ok g) (ci := 0) (kn := 0) (fl := [(3, 1), (0, 0), (3, 2), (0, 0), (3, 3), (0, 0), (3, 4), (3, 8), (3, 12), (3, 24), (3, 39)]) hK hO k_h0 rfl hP hD hS hA hE [] rfl rfl rfl) rfl rfl hl.1 rfl (lv_room (Nat.le_of_ble_eq_true rfl)) dK_findDsa_2 ⟨by omega, by omega⟩) (fun r21 u21 H locs hu21 hP hD hS => ?_)
  obtain ⟨q21, pl⟩ := u21
  obtain ⟨⟨eq21, hq21, hFc21, -⟩, hO⟩ := hu21
  have hO : okn g T q21.2 pl := hO
  have hP : va_P g.1 vcl ([] ++ pl) _ := hP
  have hD : va_D _ ([] ++ pl) := hD
  have hFc21 : frm (M_K_find) s q21.2 := hFc21
  replace hR := bnd_step hR eq21
  have hF := frm_tr hF hFc21 (fun k hk => by unfold M_K_find at hk; unfold M_K_findDsa; omega)
  have hf21 : q21.2.1 0 1 = nI tl := fc_F e_tl hFc21 (by unfold M_K_find; omega)
  have hf22 : q21.2.1 0 3 = nI al := fc_F e_al hFc21 (by unfold M_K_find; omega)
  have hf23 : q21.2.1 0 5 = nI pn := fc_F e_pn hFc21 (by unfold M_K_find; omega)
  refine W.widen (k := 0) (n := 0) (by omega) (by omega) ?_
  by_cases hs21 : q21.1 = nI 0
  · replace hR := hR.trans (if_pos hs21)
    obtain rfl : r21 = none := pfd_none hq21 hs21
    refine lv_astore_nN (lv' := [(2, .null), (0, .ref h0), (1, .int v)]) hx hb dK_findDsa_5 rfl hl (by decide) rfl (fun ls hl => ?_)
    refine lv_aload_nN hx hb dK_findDsa_6 rfl (lv_at hl 0 rfl) ?_
    refine lv_ifnullN (tgt := 18) hx hb dK_findDsa_7 (by decide) ?_
    refine lv_null hx hb dK_findDsa_18 ?_
    refine lv_goto (tgt := 23) hx hb dK_findDsa_19 (by decide) ?_
    exact mp_qret (v := none) hx hb hr (Or.inl ⟨_, rfl⟩) hlk hP hD hS ((nI 0, q21.2), pl) ⟨⟨hR.symm, (Or.inl ⟨rfl, rfl⟩), hF, trivial⟩, hO⟩ [] rfl rfl rfl (by omega) (by omega) dK_findDsa_23
  replace hR := hR.trans (if_neg hs21)
  by_cases hs22 : q21.1 = nI 1
  · replace hR := hR.trans (if_pos hs22)
    obtain ⟨z21, q22, hz21, hv21, rfl, kr21⟩ := pfd_at (c := 0) hq21 (by decide) hs22
    have kr21 : T q22 = some (379 + 36 * z21 + 0) := kr21
    have ez21 : z21 = v.toNatClampNeg := by rw [hv21]; exact (nI_clamp (by omega)).symm
    replace hR := bnd_step hR ez21
    refine lv_astore_n (lv' := [(2, .ref q22), (0, .ref h0), (1, .int v)]) hx hb dK_findDsa_5 rfl hl (by decide) rfl (fun ls hl => ?_)
    refine lv_aload_n hx hb dK_findDsa_6 rfl (lv_at hl 0 rfl) ?_
    refine lv_ifnull hx hb dK_findDsa_7 ?_
    refine lv_aload_n hx hb dK_findDsa_10 rfl (lv_at hl 0 rfl) ?_
    refine nw_get (C := "LatticeKeys$KeyPair") (TT := T_KP) (N := 3) hx hb hts (wg_ft i_KP) hown hK hO kr21 (kn := (379 + 36 * z21 + 0)) (ci := 13) (fl := [(1, 0), (3, (379 + 36 * z21 + 1)), (3, (379 + 36 * z21 + 2))]) (pr_o0 (z := z21) (by omega)) hP rfl 0 (by decide) (hts _ (wg_t kw_746)) (fun _ h9 => h9) (cd := (1, 0)) rfl dK_findDsa_11 (fun v21 hv22 => ?_)
    obtain rfl := (show v21 = .int (nI 0) from hv22)
    refine lv_iconst (v := nI 3) hx hb dK_findDsa_14 (by decide) ?_
    refine mi_ge (tgt := 22) hx hb dK_findDsa_15 (by decide) (by omega) (by omega) (fun h21 => absurd h21 (by omega)) (fun h21 => ?_)
    refine lv_null hx hb dK_findDsa_18 ?_
    refine lv_goto (tgt := 23) hx hb dK_findDsa_19 (by decide) ?_
    exact mp_qret (v := none) hx hb hr (Or.inl ⟨_, rfl⟩) hlk hP hD hS ((nI 0, q21.2), pl) ⟨⟨hR.symm, (Or.inl ⟨rfl, rfl⟩), hF, trivial⟩, hO⟩ [] rfl rfl rfl (by omega) (by omega) dK_findDsa_23
  replace hR := hR.trans (if_neg hs22)
  by_cases hs23 : q21.1 = nI 2
  · replace hR := hR.trans (if_pos hs23)
    obtain ⟨z22, q23, hz22, hv23, rfl, kr22⟩ := pfd_at (c := 1) hq21 (by decide) hs23
    have kr22 : T q23 = some (379 + 36 * z22 + 3) := kr22
    have ez22 : z22 = v.toNatClampNeg := by rw [hv23]; exact (nI_clamp (by omega)).symm
    replace hR := bnd_step hR ez22
    refine lv_astore_n (lv' := [(2, .ref q23), (0, .ref h0), (1, .int v)]) hx hb dK_findDsa_5 rfl hl (by decide) rfl (fun ls hl => ?_)
    refine lv_aload_n hx hb dK_findDsa_6 rfl (lv_at hl 0 rfl) ?_
    refine lv_ifnull hx hb dK_findDsa_7 ?_
    refine lv_aload_n hx hb dK_findDsa_10 rfl (lv_at hl 0 rfl) ?_
    refine nw_get (C := "LatticeKeys$KeyPair") (TT := T_KP) (N := 3) hx hb hts (wg_ft i_KP) hown hK hO kr22 (kn := (379 + 36 * z22 + 3)) (ci := 13) (fl := [(1, 1), (3, (379 + 36 * z22 + 4)), (3, (379 + 36 * z22 + 5))]) (pr_o1 (z := z22) (by omega)) hP rfl 0 (by decide) (hts _ (wg_t kw_746)) (fun _ h9 => h9) (cd := (1, 1)) rfl dK_findDsa_11 (fun v22 hv24 => ?_)
    obtain rfl := (show v22 = .int (nI 1) from hv24)
    refine lv_iconst (v := nI 3) hx hb dK_findDsa_14 (by decide) ?_
    refine mi_ge (tgt := 22) hx hb dK_findDsa_15 (by decide) (by omega) (by omega) (fun h22 => absurd h22 (by omega)) (fun h22 => ?_)
    refine lv_null hx hb dK_findDsa_18 ?_
    refine lv_goto (tgt := 23) hx hb dK_findDsa_19 (by decide) ?_
    exact mp_qret (v := none) hx hb hr (Or.inl ⟨_, rfl⟩) hlk hP hD hS ((nI 0, q21.2), pl) ⟨⟨hR.symm, (Or.inl ⟨rfl, rfl⟩), hF, trivial⟩, hO⟩ [] rfl rfl rfl (by omega) (by omega) dK_findDsa_23
  replace hR := hR.trans (if_neg hs23)
  by_cases hs24 : q21.1 = nI 3
  · replace hR := hR.trans (if_pos hs24)
    obtain ⟨z23, q24, hz23, hv25, rfl, kr23⟩ := pfd_at (c := 2) hq21 (by decide) hs24
    have kr23 : T q24 = some (379 + 36 * z23 + 6) := kr23
    have ez23 : z23 = v.toNatClampNeg := by rw [hv25]; exact (nI_clamp (by omega)).symm
    replace hR := bnd_step hR ez23
    refine lv_astore_n (lv' := [(2, .ref q24), (0, .ref h0), (1, .int v)]) hx hb dK_findDsa_5 rfl hl (by decide) rfl (fun ls hl => ?_)
    refine lv_aload_n hx hb dK_findDsa_6 rfl (lv_at hl 0 rfl) ?_
    refine lv_ifnull hx hb dK_findDsa_7 ?_
    refine lv_aload_n hx hb dK_findDsa_10 rfl (lv_at hl 0 rfl) ?_
    refine nw_get (C := "LatticeKeys$KeyPair") (TT := T_KP) (N := 3) hx hb hts (wg_ft i_KP) hown hK hO kr23 (kn := (379 + 36 * z23 + 6)) (ci := 13) (fl := [(1, 2), (3, (379 + 36 * z23 + 7)), (3, (379 + 36 * z23 + 8))]) (pr_o2 (z := z23) (by omega)) hP rfl 0 (by decide) (hts _ (wg_t kw_746)) (fun _ h9 => h9) (cd := (1, 2)) rfl dK_findDsa_11 (fun v23 hv26 => ?_)
    obtain rfl := (show v23 = .int (nI 2) from hv26)
    refine lv_iconst (v := nI 3) hx hb dK_findDsa_14 (by decide) ?_
    refine mi_ge (tgt := 22) hx hb dK_findDsa_15 (by decide) (by omega) (by omega) (fun h23 => absurd h23 (by omega)) (fun h23 => ?_)
    refine lv_null hx hb dK_findDsa_18 ?_
    refine lv_goto (tgt := 23) hx hb dK_findDsa_19 (by decide) ?_
    exact mp_qret (v := none) hx hb hr (Or.inl ⟨_, rfl⟩) hlk hP hD hS ((nI 0, q21.2), pl) ⟨⟨hR.symm, (Or.inl ⟨rfl, rfl⟩), hF, trivial⟩, hO⟩ [] rfl rfl rfl (by omega) (by omega) dK_findDsa_23
  replace hR := hR.trans (if_neg hs24)
  by_cases hs25 : q21.1 = nI 4
  · replace hR := hR.trans (if_pos hs25)
    obtain ⟨z24, q25, hz24, hv27, rfl, kr24⟩ := pfd_at (c := 3) hq21 (by decide) hs25
    have kr24 : T q25 = some (379 + 36 * z24 + 9) := kr24
    have ez24 : z24 = v.toNatClampNeg := by rw [hv27]; exact (nI_clamp (by omega)).symm
    replace hR := bnd_step hR ez24
    refine lv_astore_n (lv' := [(2, .ref q25), (0, .ref h0), (1, .int v)]) hx hb dK_findDsa_5 rfl hl (by decide) rfl (fun ls hl => ?_)
    refine lv_aload_n hx hb dK_findDsa_6 rfl (lv_at hl 0 rfl) ?_
    refine lv_ifnull hx hb dK_findDsa_7 ?_
    refine lv_aload_n hx hb dK_findDsa_10 rfl (lv_at hl 0 rfl) ?_
    refine nw_get (C := "LatticeKeys$KeyPair") (TT := T_KP) (N := 3) hx hb hts (wg_ft i_KP) hown hK hO kr24 (kn := (379 + 36 * z24 + 9)) (ci := 13) (fl := [(1, 3), (3, (379 + 36 * z24 + 10)), (3, (379 + 36 * z24 + 11))]) (pr_o3 (z := z24) (by omega)) hP rfl 0 (by decide) (hts _ (wg_t kw_746)) (fun _ h9 => h9) (cd := (1, 3)) rfl dK_findDsa_11 (fun v24 hv28 => ?_)
    obtain rfl := (show v24 = .int (nI 3) from hv28)
    refine lv_iconst (v := nI 3) hx hb dK_findDsa_14 (by decide) ?_
    refine mi_ge (tgt := 22) hx hb dK_findDsa_15 (by decide) (by omega) (by omega) (fun h24 => ?_) (fun h24 => absurd h24 (by omega))
    refine lv_aload_n hx hb dK_findDsa_22 rfl (lv_at hl 0 rfl) ?_
    exact mp_qret (v := (some q25)) hx hb hr (Or.inl ⟨_, rfl⟩) hlk hP hD hS ((nI 4, q21.2), pl) ⟨⟨hR.symm, (Or.inr ⟨z24, 3, _, by omega, hv27, by decide, by decide, rfl, rfl, kr24⟩), hF, trivial⟩, hO⟩ [] rfl rfl rfl (by omega) (by omega) dK_findDsa_23
  replace hR := hR.trans (if_neg hs25)
  by_cases hs26 : q21.1 = nI 5
  · replace hR := hR.trans (if_pos hs26)
    obtain ⟨z25, q26, hz25, hv29, rfl, kr25⟩ := pfd_at (c := 4) hq21 (by decide) hs26
    have kr25 : T q26 = some (379 + 36 * z25 + 12) := kr25
    have ez25 : z25 = v.toNatClampNeg := by rw [hv29]; exact (nI_clamp (by omega)).symm
    replace hR := bnd_step hR ez25
    refine lv_astore_n (lv' := [(2, .ref q26), (0, .ref h0), (1, .int v)]) hx hb dK_findDsa_5 rfl hl (by decide) rfl (fun ls hl => ?_)
    refine lv_aload_n hx hb dK_findDsa_6 rfl (lv_at hl 0 rfl) ?_
    refine lv_ifnull hx hb dK_findDsa_7 ?_
    refine lv_aload_n hx hb dK_findDsa_10 rfl (lv_at hl 0 rfl) ?_
    refine nw_get (C := "LatticeKeys$KeyPair") (TT := T_KP) (N := 3) hx hb hts (wg_ft i_KP) hown hK hO kr25 (kn := (379 + 36 * z25 + 12)) (ci := 13) (fl := [(1, 4), (3, (379 + 36 * z25 + 13)), (3, (379 + 36 * z25 + 14))]) (pr_o4 (z := z25) (by omega)) hP rfl 0 (by decide) (hts _ (wg_t kw_746)) (fun _ h9 => h9) (cd := (1, 4)) rfl dK_findDsa_11 (fun v25 hv30 => ?_)
    obtain rfl := (show v25 = .int (nI 4) from hv30)
    refine lv_iconst (v := nI 3) hx hb dK_findDsa_14 (by decide) ?_
    refine mi_ge (tgt := 22) hx hb dK_findDsa_15 (by decide) (by omega) (by omega) (fun h25 => ?_) (fun h25 => absurd h25 (by omega))
    refine lv_aload_n hx hb dK_findDsa_22 rfl (lv_at hl 0 rfl) ?_
    exact mp_qret (v := (some q26)) hx hb hr (Or.inl ⟨_, rfl⟩) hlk hP hD hS ((nI 5, q21.2), pl) ⟨⟨hR.symm, (Or.inr ⟨z25, 4, _, by omega, hv29, by decide, by decide, rfl, rfl, kr25⟩), hF, trivial⟩, hO⟩ [] rfl rfl rfl (by omega) (by omega) dK_findDsa_23
  replace hR := hR.trans (if_neg hs26)
  by_cases hs27 : q21.1 = nI 6
  · replace hR := hR.trans (if_pos hs27)
    obtain ⟨z26, q27, hz26, hv31, rfl, kr26⟩ := pfd_at (c := 5) hq21 (by decide) hs27
    have kr26 : T q27 = some (379 + 36 * z26 + 15) := kr26
    have ez26 : z26 = v.toNatClampNeg := by rw [hv31]; exact (nI_clamp (by omega)).symm
    replace hR := bnd_step hR ez26
    refine lv_astore_n (lv' := [(2, .ref q27), (0, .ref h0), (1, .int v)]) hx hb dK_findDsa_5 rfl hl (by decide) rfl (fun ls hl => ?_)
    refine lv_aload_n hx hb dK_findDsa_6 rfl (lv_at hl 0 rfl) ?_
    refine lv_ifnull hx hb dK_findDsa_7 ?_
    refine lv_aload_n hx hb dK_findDsa_10 rfl (lv_at hl 0 rfl) ?_
    refine nw_get (C := "LatticeKeys$KeyPair") (TT := T_KP) (N := 3) hx hb hts (wg_ft i_KP) hown hK hO kr26 (kn := (379 + 36 * z26 + 15)) (ci := 13) (fl := [(1, 5), (3, (379 + 36 * z26 + 16)), (3, (379 + 36 * z26 + 17))]) (pr_o5 (z := z26) (by omega)) hP rfl 0 (by decide) (hts _ (wg_t kw_746)) (fun _ h9 => h9) (cd := (1, 5)) rfl dK_findDsa_11 (fun v26 hv32 => ?_)
    obtain rfl := (show v26 = .int (nI 5) from hv32)
    refine lv_iconst (v := nI 3) hx hb dK_findDsa_14 (by decide) ?_
    refine mi_ge (tgt := 22) hx hb dK_findDsa_15 (by decide) (by omega) (by omega) (fun h26 => ?_) (fun h26 => absurd h26 (by omega))
    refine lv_aload_n hx hb dK_findDsa_22 rfl (lv_at hl 0 rfl) ?_
    exact mp_qret (v := (some q27)) hx hb hr (Or.inl ⟨_, rfl⟩) hlk hP hD hS ((nI 6, q21.2), pl) ⟨⟨hR.symm, (Or.inr ⟨z26, 5, _, by omega, hv31, by decide, by decide, rfl, rfl, kr26⟩), hF, trivial⟩, hO⟩ [] rfl rfl rfl (by omega) (by omega) dK_findDsa_23
  replace hR := hR.trans (if_neg hs27)
  by_cases hs28 : q21.1 = nI 7
  · replace hR := hR.trans (if_pos hs28)
    obtain ⟨z27, q28, hz27, hv33, rfl, kr27⟩ := pfd_at (c := 6) hq21 (by decide) hs28
    have kr27 : T q28 = some (379 + 36 * z27 + 18) := kr27
    have ez27 : z27 = v.toNatClampNeg := by rw [hv33]; exact (nI_clamp (by omega)).symm
    replace hR := bnd_step hR ez27
    refine lv_astore_n (lv' := [(2, .ref q28), (0, .ref h0), (1, .int v)]) hx hb dK_findDsa_5 rfl hl (by decide) rfl (fun ls hl => ?_)
    refine lv_aload_n hx hb dK_findDsa_6 rfl (lv_at hl 0 rfl) ?_
    refine lv_ifnull hx hb dK_findDsa_7 ?_
    refine lv_aload_n hx hb dK_findDsa_10 rfl (lv_at hl 0 rfl) ?_
    refine nw_get (C := "LatticeKeys$KeyPair") (TT := T_KP) (N := 3) hx hb hts (wg_ft i_KP) hown hK hO kr27 (kn := (379 + 36 * z27 + 18)) (ci := 13) (fl := [(1, 0), (3, (379 + 36 * z27 + 19)), (5, 0)]) (pr_o6 (z := z27) (by omega)) hP rfl 0 (by decide) (hts _ (wg_t kw_746)) (fun _ h9 => h9) (cd := (1, 0)) rfl dK_findDsa_11 (fun v27 hv34 => ?_)
    obtain rfl := (show v27 = .int (nI 0) from hv34)
    refine lv_iconst (v := nI 3) hx hb dK_findDsa_14 (by decide) ?_
    refine mi_ge (tgt := 22) hx hb dK_findDsa_15 (by decide) (by omega) (by omega) (fun h27 => absurd h27 (by omega)) (fun h27 => ?_)
    refine lv_null hx hb dK_findDsa_18 ?_
    refine lv_goto (tgt := 23) hx hb dK_findDsa_19 (by decide) ?_
    exact mp_qret (v := none) hx hb hr (Or.inl ⟨_, rfl⟩) hlk hP hD hS ((nI 0, q21.2), pl) ⟨⟨hR.symm, (Or.inl ⟨rfl, rfl⟩), hF, trivial⟩, hO⟩ [] rfl rfl rfl (by omega) (by omega) dK_findDsa_23
  replace hR := hR.trans (if_neg hs28)
  by_cases hs29 : q21.1 = nI 8
  · replace hR := hR.trans (if_pos hs29)
    obtain ⟨z28, q29, hz28, hv35, rfl, kr28⟩ := pfd_at (c := 7) hq21 (by decide) hs29
    have kr28 : T q29 = some (379 + 36 * z28 + 21) := kr28
    have ez28 : z28 = v.toNatClampNeg := by rw [hv35]; exact (nI_clamp (by omega)).symm
    replace hR := bnd_step hR ez28
    refine lv_astore_n (lv' := [(2, .ref q29), (0, .ref h0), (1, .int v)]) hx hb dK_findDsa_5 rfl hl (by decide) rfl (fun ls hl => ?_)
    refine lv_aload_n hx hb dK_findDsa_6 rfl (lv_at hl 0 rfl) ?_
    refine lv_ifnull hx hb dK_findDsa_7 ?_
    refine lv_aload_n hx hb dK_findDsa_10 rfl (lv_at hl 0 rfl) ?_
    refine nw_get (C := "LatticeKeys$KeyPair") (TT := T_KP) (N := 3) hx hb hts (wg_ft i_KP) hown hK hO kr28 (kn := (379 + 36 * z28 + 21)) (ci := 13) (fl := [(1, 1), (3, (379 + 36 * z28 + 22)), (5, 0)]) (pr_o7 (z := z28) (by omega)) hP rfl 0 (by decide) (hts _ (wg_t kw_746)) (fun _ h9 => h9) (cd := (1, 1)) rfl dK_findDsa_11 (fun v28 hv36 => ?_)
    obtain rfl := (show v28 = .int (nI 1) from hv36)
    refine lv_iconst (v := nI 3) hx hb dK_findDsa_14 (by decide) ?_
    refine mi_ge (tgt := 22) hx hb dK_findDsa_15 (by decide) (by omega) (by omega) (fun h28 => absurd h28 (by omega)) (fun h28 => ?_)
    refine lv_null hx hb dK_findDsa_18 ?_
    refine lv_goto (tgt := 23) hx hb dK_findDsa_19 (by decide) ?_
    exact mp_qret (v := none) hx hb hr (Or.inl ⟨_, rfl⟩) hlk hP hD hS ((nI 0, q21.2), pl) ⟨⟨hR.symm, (Or.inl ⟨rfl, rfl⟩), hF, trivial⟩, hO⟩ [] rfl rfl rfl (by omega) (by omega) dK_findDsa_23
  replace hR := hR.trans (if_neg hs29)
  by_cases hs30 : q21.1 = nI 9
  · replace hR := hR.trans (if_pos hs30)
    obtain ⟨z29, q30, hz29, hv37, rfl, kr29⟩ := pfd_at (c := 8) hq21 (by decide) hs30
    have kr29 : T q30 = some (379 + 36 * z29 + 24) := kr29
    have ez29 : z29 = v.toNatClampNeg := by rw [hv37]; exact (nI_clamp (by omega)).symm
    replace hR := bnd_step hR ez29
    refine lv_astore_n (lv' := [(2, .ref q30), (0, .ref h0), (1, .int v)]) hx hb dK_findDsa_5 rfl hl (by decide) rfl (fun ls hl => ?_)
    refine lv_aload_n hx hb dK_findDsa_6 rfl (lv_at hl 0 rfl) ?_
    refine lv_ifnull hx hb dK_findDsa_7 ?_
    refine lv_aload_n hx hb dK_findDsa_10 rfl (lv_at hl 0 rfl) ?_
    refine nw_get (C := "LatticeKeys$KeyPair") (TT := T_KP) (N := 3) hx hb hts (wg_ft i_KP) hown hK hO kr29 (kn := (379 + 36 * z29 + 24)) (ci := 13) (fl := [(1, 2), (3, (379 + 36 * z29 + 25)), (5, 0)]) (pr_o8 (z := z29) (by omega)) hP rfl 0 (by decide) (hts _ (wg_t kw_746)) (fun _ h9 => h9) (cd := (1, 2)) rfl dK_findDsa_11 (fun v29 hv38 => ?_)
    obtain rfl := (show v29 = .int (nI 2) from hv38)
    refine lv_iconst (v := nI 3) hx hb dK_findDsa_14 (by decide) ?_
    refine mi_ge (tgt := 22) hx hb dK_findDsa_15 (by decide) (by omega) (by omega) (fun h29 => absurd h29 (by omega)) (fun h29 => ?_)
    refine lv_null hx hb dK_findDsa_18 ?_
    refine lv_goto (tgt := 23) hx hb dK_findDsa_19 (by decide) ?_
    exact mp_qret (v := none) hx hb hr (Or.inl ⟨_, rfl⟩) hlk hP hD hS ((nI 0, q21.2), pl) ⟨⟨hR.symm, (Or.inl ⟨rfl, rfl⟩), hF, trivial⟩, hO⟩ [] rfl rfl rfl (by omega) (by omega) dK_findDsa_23
  replace hR := hR.trans (if_neg hs30)
  by_cases hs31 : q21.1 = nI 10
  · replace hR := hR.trans (if_pos hs31)
    obtain ⟨z30, q31, hz30, hv39, rfl, kr30⟩ := pfd_at (c := 9) hq21 (by decide) hs31
    have kr30 : T q31 = some (379 + 36 * z30 + 27) := kr30
    have ez30 : z30 = v.toNatClampNeg := by rw [hv39]; exact (nI_clamp (by omega)).symm
    replace hR := bnd_step hR ez30
    refine lv_astore_n (lv' := [(2, .ref q31), (0, .ref h0), (1, .int v)]) hx hb dK_findDsa_5 rfl hl (by decide) rfl (fun ls hl => ?_)
    refine lv_aload_n hx hb dK_findDsa_6 rfl (lv_at hl 0 rfl) ?_
    refine lv_ifnull hx hb dK_findDsa_7 ?_
    refine lv_aload_n hx hb dK_findDsa_10 rfl (lv_at hl 0 rfl) ?_
    refine nw_get (C := "LatticeKeys$KeyPair") (TT := T_KP) (N := 3) hx hb hts (wg_ft i_KP) hown hK hO kr30 (kn := (379 + 36 * z30 + 27)) (ci := 13) (fl := [(1, 3), (3, (379 + 36 * z30 + 28)), (5, 0)]) (pr_o9 (z := z30) (by omega)) hP rfl 0 (by decide) (hts _ (wg_t kw_746)) (fun _ h9 => h9) (cd := (1, 3)) rfl dK_findDsa_11 (fun v30 hv40 => ?_)
    obtain rfl := (show v30 = .int (nI 3) from hv40)
    refine lv_iconst (v := nI 3) hx hb dK_findDsa_14 (by decide) ?_
    refine mi_ge (tgt := 22) hx hb dK_findDsa_15 (by decide) (by omega) (by omega) (fun h30 => ?_) (fun h30 => absurd h30 (by omega))
    refine lv_aload_n hx hb dK_findDsa_22 rfl (lv_at hl 0 rfl) ?_
    exact mp_qret (v := (some q31)) hx hb hr (Or.inl ⟨_, rfl⟩) hlk hP hD hS ((nI 10, q21.2), pl) ⟨⟨hR.symm, (Or.inr ⟨z30, 9, _, by omega, hv39, by decide, by decide, rfl, rfl, kr30⟩), hF, trivial⟩, hO⟩ [] rfl rfl rfl (by omega) (by omega) dK_findDsa_23
  replace hR := hR.trans (if_neg hs31)
  by_cases hs32 : q21.1 = nI 11
  · replace hR := hR.trans (if_pos hs32)
    obtain ⟨z31, q32, hz31, hv41, rfl, kr31⟩ := pfd_at (c := 10) hq21 (by decide) hs32
    have kr31 : T q32 = some (379 + 36 * z31 + 30) := kr31
    have ez31 : z31 = v.toNatClampNeg := by rw [hv41]; exact (nI_clamp (by omega)).symm
    replace hR := bnd_step hR ez31
    refine lv_astore_n (lv' := [(2, .ref q32), (0, .ref h0), (1, .int v)]) hx hb dK_findDsa_5 rfl hl (by decide) rfl (fun ls hl => ?_)
    refine lv_aload_n hx hb dK_findDsa_6 rfl (lv_at hl 0 rfl) ?_
    refine lv_ifnull hx hb dK_findDsa_7 ?_
    refine lv_aload_n hx hb dK_findDsa_10 rfl (lv_at hl 0 rfl) ?_
    refine nw_get (C := "LatticeKeys$KeyPair") (TT := T_KP) (N := 3) hx hb hts (wg_ft i_KP) hown hK hO kr31 (kn := (379 + 36 * z31 + 30)) (ci := 13) (fl := [(1, 4), (3, (379 + 36 * z31 + 31)), (5, 0)]) (pr_o10 (z := z31) (by omega)) hP rfl 0 (by decide) (hts _ (wg_t kw_746)) (fun _ h9 => h9) (cd := (1, 4)) rfl dK_findDsa_11 (fun v31 hv42 => ?_)
    obtain rfl := (show v31 = .int (nI 4) from hv42)
    refine lv_iconst (v := nI 3) hx hb dK_findDsa_14 (by decide) ?_
    refine mi_ge (tgt := 22) hx hb dK_findDsa_15 (by decide) (by omega) (by omega) (fun h31 => ?_) (fun h31 => absurd h31 (by omega))
    refine lv_aload_n hx hb dK_findDsa_22 rfl (lv_at hl 0 rfl) ?_
    exact mp_qret (v := (some q32)) hx hb hr (Or.inl ⟨_, rfl⟩) hlk hP hD hS ((nI 11, q21.2), pl) ⟨⟨hR.symm, (Or.inr ⟨z31, 10, _, by omega, hv41, by decide, by decide, rfl, rfl, kr31⟩), hF, trivial⟩, hO⟩ [] rfl rfl rfl (by omega) (by omega) dK_findDsa_23
  replace hR := hR.trans (if_neg hs32)
  by_cases hs33 : q21.1 = nI 12
  · replace hR := hR.trans (if_pos hs33)
    obtain ⟨z32, q33, hz32, hv43, rfl, kr32⟩ := pfd_at (c := 11) hq21 (by decide) hs33
    have kr32 : T q33 = some (379 + 36 * z32 + 33) := kr32
    have ez32 : z32 = v.toNatClampNeg := by rw [hv43]; exact (nI_clamp (by omega)).symm
    replace hR := bnd_step hR ez32
    refine lv_astore_n (lv' := [(2, .ref q33), (0, .ref h0), (1, .int v)]) hx hb dK_findDsa_5 rfl hl (by decide) rfl (fun ls hl => ?_)
    refine lv_aload_n hx hb dK_findDsa_6 rfl (lv_at hl 0 rfl) ?_
    refine lv_ifnull hx hb dK_findDsa_7 ?_
    refine lv_aload_n hx hb dK_findDsa_10 rfl (lv_at hl 0 rfl) ?_
    refine nw_get (C := "LatticeKeys$KeyPair") (TT := T_KP) (N := 3) hx hb hts (wg_ft i_KP) hown hK hO kr32 (kn := (379 + 36 * z32 + 33)) (ci := 13) (fl := [(1, 5), (3, (379 + 36 * z32 + 34)), (5, 0)]) (pr_o11 (z := z32) (by omega)) hP rfl 0 (by decide) (hts _ (wg_t kw_746)) (fun _ h9 => h9) (cd := (1, 5)) rfl dK_findDsa_11 (fun v32 hv44 => ?_)
    obtain rfl := (show v32 = .int (nI 5) from hv44)
    refine lv_iconst (v := nI 3) hx hb dK_findDsa_14 (by decide) ?_
    refine mi_ge (tgt := 22) hx hb dK_findDsa_15 (by decide) (by omega) (by omega) (fun h32 => ?_) (fun h32 => absurd h32 (by omega))
    refine lv_aload_n hx hb dK_findDsa_22 rfl (lv_at hl 0 rfl) ?_
    exact mp_qret (v := (some q33)) hx hb hr (Or.inl ⟨_, rfl⟩) hlk hP hD hS ((nI 12, q21.2), pl) ⟨⟨hR.symm, (Or.inr ⟨z32, 11, _, by omega, hv43, by decide, by decide, rfl, rfl, kr32⟩), hF, trivial⟩, hO⟩ [] rfl rfl rfl (by omega) (by omega) dK_findDsa_23
  replace hR := hR.trans (if_neg hs33)
  obtain ⟨c9, hc9, e9⟩ := pfd_mem hq21 hs21
  simp only [List.mem_cons, List.not_mem_nil, or_false] at hc9
  rcases hc9 with rfl | rfl | rfl | rfl | rfl | rfl | rfl | rfl | rfl | rfl | rfl | rfl
  · exact absurd e9 hs22
  · exact absurd e9 hs23
  · exact absurd e9 hs24
  · exact absurd e9 hs25
  · exact absurd e9 hs26
  · exact absurd e9 hs27
  · exact absurd e9 hs28
  · exact absurd e9 hs29
  · exact absurd e9 hs30
  · exact absurd e9 hs31
  · exact absurd e9 hs32
  · exact absurd e9 hs33
def M_K_partOf (k : Nat) : Prop := (0 : Nat) = 1
noncomputable def F_K_partOf (v : Int32) (sc : Int32) (s : Sto) : Int32 × Sto := bnd (F_K_find v s) fun q21 => if q21.1 = nI 0 then (nI 0, q21.2) else if q21.1 = nI 1 then bnd (v.toNatClampNeg) fun z21 => if sc = 0 then (nI 1, q21.2) else (nI 1, q21.2) else if q21.1 = nI 2 then bnd (v.toNatClampNeg) fun z22 => if sc = 0 then (nI 2, q21.2) else (nI 2, q21.2) else if q21.1 = nI 3 then bnd (v.toNatClampNeg) fun z23 => if sc = 0 then (nI 3, q21.2) else (nI 3, q21.2) else if q21.1 = nI 4 then bnd (v.toNatClampNeg) fun z24 => if sc = 0 then (nI 4, q21.2) else (nI 4, q21.2) else if q21.1 = nI 5 then bnd (v.toNatClampNeg) fun z25 => if sc = 0 then (nI 5, q21.2) else (nI 5, q21.2) else if q21.1 = nI 6 then bnd (v.toNatClampNeg) fun z26 => if sc = 0 then (nI 6, q21.2) else (nI 6, q21.2) else if q21.1 = nI 7 then bnd (v.toNatClampNeg) fun z27 => if sc = 0 then (nI 7, q21.2) else (nI 0, q21.2) else if q21.1 = nI 8 then bnd (v.toNatClampNeg) fun z28 => if sc = 0 then (nI 8, q21.2) else (nI 0, q21.2) else if q21.1 = nI 9 then bnd (v.toNatClampNeg) fun z29 => if sc = 0 then (nI 9, q21.2) else (nI 0, q21.2) else if q21.1 = nI 10 then bnd (v.toNatClampNeg) fun z30 => if sc = 0 then (nI 10, q21.2) else (nI 0, q21.2) else if q21.1 = nI 11 then bnd (v.toNatClampNeg) fun z31 => if sc = 0 then (nI 11, q21.2) else (nI 0, q21.2) else if q21.1 = nI 12 then bnd (v.toNatClampNeg) fun z32 => if sc = 0 then (nI 12, q21.2) else (nI 0, q21.2) else (nI 0, q21.2)
set_option maxHeartbeats 2000000 in
set_option maxRecDepth 100000 in
theorem N_K_partOf (l : Launch) (g : Gd) (sz : Nat) (T : TyN) (s : Sto) (pl : va_W) (hO : okn g T s pl) (hU : inj T) (h0 : Nat) (v : Int32) (sc : Int32) (tl : Nat) (al : Nat) (pn : Nat) (k_h0 : T h0 = some 0) (e_tl : s.1 0 1 = nI tl) (e_al : s.1 0 3 = nI al) (e_pn : s.1 0 5 = nI pn) (h3 : pn ≤ 8)  : Met l y_K_partOf w_K_partOf ({ frames := 1, cells := 0, slots := 0, locals := 21 } : Room) (va_Pc [.ref h0, .int v, .int sc] (pr (en g) g.1 vcl sz ([] ++ pl))) (va_Qq (fun (r : Option Nat) (u : (Int32 × Sto) × va_W) => (u.1 = F_K_partOf v sc s ∧ ((sc = 0 → pfd T pn 1 [0, 1, 2, 3, 4, 5, 6, 7, 8, 9, 10, 11] v u.1.1 r) ∧ (¬ sc = 0 → pfd T pn 2 [0, 1, 2, 3, 4, 5] v u.1.1 r)) ∧ frm (M_K_partOf) s u.1.2 ∧ True) ∧ okn g T u.1.2 u.2) (po g.1 vcl (va_A ([] ++ pl) sz) (fun (u : (Int32 × Sto) × va_W) => [] ++ u.2)) (va_A ([] ++ pl) sz)) 0 0 (va_A ([] ++ pl) sz) := by
  refine mc_entry (cc := c_K_partOf) (maxL := 4) (ret := (Option.some (Jvm.ClassFile.FieldType.array Jvm.ClassFile.FieldType.byte))) (by decide) rfl (Nat.le_of_ble_eq_true rfl) ?_
  intro p e s0 m args below meth c ls F hr hlk hnm hsz hP hD hE hA hl
  obtain ⟨hx, hb, hml, hown, hts⟩ := id F
  have hK := hE.1
  generalize va_A ([] ++ pl) sz = A at hD hE hA ⊢
  have hS : va_S A s0.heap s0.heap [] := va_S.rf
  have hl : lv_has ls 4 [(0, .ref h0), (1, .int v), (2, .int sc)] := hl
  have hR : F_K_partOf v sc s = F_K_partOf v sc s := rfl
  have hF : frm (M_K_partOf) s s := frm_rf
  refine lv_aload_n hx hb dK_partOf_0 rfl (lv_at hl 0 rfl) ?_
  refine lv_iload_n hx hb dK_partOf_1 rfl (lv_at hl 1 rfl) ?_
  refine mp_q (cx := []) (wr := []) hP hD hS hA [] [] rfl rfl rfl (by decide) (va_runV (As := [.int v]) (rest := []) F (N_K_find l g _ T s pl hO hU h0 v tl al pn k_h0 e_tl e_al e_pn (by omega)) (cwV 1 hts (wg_app (wg_c kw_1060 (wg_c kw_1062 (wg_c ks_24 (wg_c kw_1 wg_n)))) kw_1063) rfl rfl rfl (by decide +kernel) ⟨by decide, by decide⟩) (pn_W "LatticeKeys" (en_ok g) (ci := 0) (kn := 0) (fl := [(3, 1), (0, 0), (3, 2), (0, 0), (3, 3), (0, 0), (3, 4), (3, 8), (3, 12), (3, 24), (3, 39)]) hK hO k_h0 rfl hP hD hS hA hE [] rfl rfl rfl) rfl rfl hl.1 rfl (lv_room (Nat.le_of_ble_eq_true rfl)) dK_partOf_2 ⟨by omega, by omega⟩) (fun r21 u21 H locs hu21 hP hD hS => ?_)
  obtain ⟨q21, pl⟩ := u21
  obtain ⟨⟨eq21, hq21, hFc21, -⟩, hO⟩ := hu21
  have hO : okn g T q21.2 pl := hO
  have hP : va_P g.1 vcl ([] ++ pl) _ := hP
  have hD : va_D _ ([] ++ pl) := hD
  have hFc21 : frm (M_K_find) s q21.2 := hFc21
  replace hR := bnd_step hR eq21
  have hF := frm_tr hF hFc21 (fun k hk => by unfold M_K_find at hk; unfold M_K_partOf; omega)
  have hf21 : q21.2.1 0 1 = nI tl := fc_F e_tl hFc21 (by unfold M_K_find; omega)
  have hf22 : q21.2.1 0 3 = nI al := fc_F e_al hFc21 (by unfold M_K_find; omega)
  have hf23 : q21.2.1 0 5 = nI pn := fc_F e_pn hFc21 (by unfold M_K_find; omega)
  refine W.widen (k := 0) (n := 0) (by omega) (by omega) ?_
  by_cases hs21 : q21.1 = nI 0
  · replace hR := hR.trans (if_pos hs21)
    obtain rfl : r21 = none := pfd_none hq21 hs21
    refine lv_astore_nN (lv' := [(3, .null), (0, .ref h0), (1, .int v), (2, .int sc)]) hx hb dK_partOf_5 rfl hl (by decide) rfl (fun ls hl => ?_)
    refine lv_aload_nN hx hb dK_partOf_6 rfl (lv_at hl 0 rfl) ?_
    refine lv_ifnonnullN hx hb dK_partOf_7 ?_
    refine lv_null hx hb dK_partOf_10 ?_
    exact mp_qret (v := none) hx hb hr (Or.inr ⟨_, rfl⟩) hlk hP hD hS ((nI 0, q21.2), pl) ⟨⟨hR.symm, ⟨fun _ => Or.inl ⟨rfl, rfl⟩, fun _ => Or.inl ⟨rfl, rfl⟩⟩, hF, trivial⟩, hO⟩ [] rfl rfl rfl (by omega) (by omega) dK_partOf_11
  replace hR := hR.trans (if_neg hs21)
  by_cases hs22 : q21.1 = nI 1
  · replace hR := hR.trans (if_pos hs22)
    obtain ⟨z21, q22, hz21, hv21, rfl, kr21⟩ := pfd_at (c := 0) hq21 (by decide) hs22
    have kr21 : T q22 = some (379 + 36 * z21 + 0) := kr21
    have ez21 : z21 = v.toNatClampNeg := by rw [hv21]; exact (nI_clamp (by omega)).symm
    replace hR := bnd_step hR ez21
    refine lv_astore_n (lv' := [(3, .ref q22), (0, .ref h0), (1, .int v), (2, .int sc)]) hx hb dK_partOf_5 rfl hl (by decide) rfl (fun ls hl => ?_)
    refine lv_aload_n hx hb dK_partOf_6 rfl (lv_at hl 0 rfl) ?_
    refine lv_ifnonnull (tgt := 12) hx hb dK_partOf_7 (by decide) ?_
    refine lv_iload_n hx hb dK_partOf_12 rfl (lv_at hl 3 rfl) ?_
    refine lv_if_eq (tgt := 23) hx hb dK_partOf_13 (by decide) (fun h21 => ?_) (fun h21 => ?_)
    · replace hR := hR.trans (if_pos h21)
      refine lv_aload_n hx hb dK_partOf_23 rfl (lv_at hl 0 rfl) ?_
      refine nw_get (C := "LatticeKeys$KeyPair") (TT := T_KP) (N := 3) hx hb hts (wg_ft i_KP) hown hK hO kr21 (kn := (379 + 36 * z21 + 0)) (ci := 13) (fl := [(1, 0), (3, (379 + 36 * z21 + 1)), (3, (379 + 36 * z21 + 2))]) (pr_o0 (z := z21) (by omega)) hP rfl 1 (by decide) (hts _ (wg_t kw_749)) (fun _ h9 => h9) (cd := (3, (379 + 36 * z21 + 1))) rfl dK_partOf_24 (fun v21 hv22 => ?_)
      obtain ⟨r22, rfl, kr22⟩ := (show ∃ r : Nat, v21 = .ref r ∧ T r = some (379 + 36 * z21 + 1) from hv22)
      exact mp_qret (v := (some r22)) hx hb hr (Or.inr ⟨_, rfl⟩) hlk hP hD hS ((nI 1, q21.2), pl) ⟨⟨hR.symm, ⟨fun _ => (Or.inr ⟨z21, 0, _, by omega, hv21, by decide, by decide, rfl, rfl, kr22⟩), fun h9 => absurd h21 h9⟩, hF, trivial⟩, hO⟩ [] rfl rfl rfl (by omega) (by omega) dK_partOf_27
    · replace hR := hR.trans (if_neg h21)
      refine lv_aload_n hx hb dK_partOf_16 rfl (lv_at hl 0 rfl) ?_
      refine nw_get (C := "LatticeKeys$KeyPair") (TT := T_KP) (N := 3) hx hb hts (wg_ft i_KP) hown hK hO kr21 (kn := (379 + 36 * z21 + 0)) (ci := 13) (fl := [(1, 0), (3, (379 + 36 * z21 + 1)), (3, (379 + 36 * z21 + 2))]) (pr_o0 (z := z21) (by omega)) hP rfl 2 (by decide) (hts _ (wg_t kw_752)) (fun _ h9 => h9) (cd := (3, (379 + 36 * z21 + 2))) rfl dK_partOf_17 (fun v22 hv23 => ?_)
      obtain ⟨r23, rfl, kr23⟩ := (show ∃ r : Nat, v22 = .ref r ∧ T r = some (379 + 36 * z21 + 2) from hv23)
      refine lv_goto (tgt := 27) hx hb dK_partOf_20 (by decide) ?_
      exact mp_qret (v := (some r23)) hx hb hr (Or.inr ⟨_, rfl⟩) hlk hP hD hS ((nI 1, q21.2), pl) ⟨⟨hR.symm, ⟨fun h9 => absurd h9 h21, fun _ => (Or.inr ⟨z21, 0, _, by omega, hv21, by decide, by decide, rfl, rfl, kr23⟩)⟩, hF, trivial⟩, hO⟩ [] rfl rfl rfl (by omega) (by omega) dK_partOf_27
  replace hR := hR.trans (if_neg hs22)
  by_cases hs23 : q21.1 = nI 2
  · replace hR := hR.trans (if_pos hs23)
    obtain ⟨z22, q23, hz22, hv24, rfl, kr24⟩ := pfd_at (c := 1) hq21 (by decide) hs23
    have kr24 : T q23 = some (379 + 36 * z22 + 3) := kr24
    have ez22 : z22 = v.toNatClampNeg := by rw [hv24]; exact (nI_clamp (by omega)).symm
    replace hR := bnd_step hR ez22
    refine lv_astore_n (lv' := [(3, .ref q23), (0, .ref h0), (1, .int v), (2, .int sc)]) hx hb dK_partOf_5 rfl hl (by decide) rfl (fun ls hl => ?_)
    refine lv_aload_n hx hb dK_partOf_6 rfl (lv_at hl 0 rfl) ?_
    refine lv_ifnonnull (tgt := 12) hx hb dK_partOf_7 (by decide) ?_
    refine lv_iload_n hx hb dK_partOf_12 rfl (lv_at hl 3 rfl) ?_
    refine lv_if_eq (tgt := 23) hx hb dK_partOf_13 (by decide) (fun h22 => ?_) (fun h22 => ?_)
    · replace hR := hR.trans (if_pos h22)
      refine lv_aload_n hx hb dK_partOf_23 rfl (lv_at hl 0 rfl) ?_
      refine nw_get (C := "LatticeKeys$KeyPair") (TT := T_KP) (N := 3) hx hb hts (wg_ft i_KP) hown hK hO kr24 (kn := (379 + 36 * z22 + 3)) (ci := 13) (fl := [(1, 1), (3, (379 + 36 * z22 + 4)), (3, (379 + 36 * z22 + 5))]) (pr_o1 (z := z22) (by omega)) hP rfl 1 (by decide) (hts _ (wg_t kw_749)) (fun _ h9 => h9) (cd := (3, (379 + 36 * z22 + 4))) rfl dK_partOf_24 (fun v23 hv25 => ?_)
      obtain ⟨r24, rfl, kr25⟩ := (show ∃ r : Nat, v23 = .ref r ∧ T r = some (379 + 36 * z22 + 4) from hv25)
      exact mp_qret (v := (some r24)) hx hb hr (Or.inr ⟨_, rfl⟩) hlk hP hD hS ((nI 2, q21.2), pl) ⟨⟨hR.symm, ⟨fun _ => (Or.inr ⟨z22, 1, _, by omega, hv24, by decide, by decide, rfl, rfl, kr25⟩), fun h9 => absurd h22 h9⟩, hF, trivial⟩, hO⟩ [] rfl rfl rfl (by omega) (by omega) dK_partOf_27
    · replace hR := hR.trans (if_neg h22)
      refine lv_aload_n hx hb dK_partOf_16 rfl (lv_at hl 0 rfl) ?_
      refine nw_get (C := "LatticeKeys$KeyPair") (TT := T_KP) (N := 3) hx hb hts (wg_ft i_KP) hown hK hO kr24 (kn := (379 + 36 * z22 + 3)) (ci := 13) (fl := [(1, 1), (3, (379 + 36 * z22 + 4)), (3, (379 + 36 * z22 + 5))]) (pr_o1 (z := z22) (by omega)) hP rfl 2 (by decide) (hts _ (wg_t kw_752)) (fun _ h9 => h9) (cd := (3, (379 + 36 * z22 + 5))) rfl dK_partOf_17 (fun v24 hv26 => ?_)
      obtain ⟨r25, rfl, kr26⟩ := (show ∃ r : Nat, v24 = .ref r ∧ T r = some (379 + 36 * z22 + 5) from hv26)
      refine lv_goto (tgt := 27) hx hb dK_partOf_20 (by decide) ?_
      exact mp_qret (v := (some r25)) hx hb hr (Or.inr ⟨_, rfl⟩) hlk hP hD hS ((nI 2, q21.2), pl) ⟨⟨hR.symm, ⟨fun h9 => absurd h9 h22, fun _ => (Or.inr ⟨z22, 1, _, by omega, hv24, by decide, by decide, rfl, rfl, kr26⟩)⟩, hF, trivial⟩, hO⟩ [] rfl rfl rfl (by omega) (by omega) dK_partOf_27
  replace hR := hR.trans (if_neg hs23)
  by_cases hs24 : q21.1 = nI 3
  · replace hR := hR.trans (if_pos hs24)
    obtain ⟨z23, q24, hz23, hv27, rfl, kr27⟩ := pfd_at (c := 2) hq21 (by decide) hs24
    have kr27 : T q24 = some (379 + 36 * z23 + 6) := kr27
    have ez23 : z23 = v.toNatClampNeg := by rw [hv27]; exact (nI_clamp (by omega)).symm
    replace hR := bnd_step hR ez23
    refine lv_astore_n (lv' := [(3, .ref q24), (0, .ref h0), (1, .int v), (2, .int sc)]) hx hb dK_partOf_5 rfl hl (by decide) rfl (fun ls hl => ?_)
    refine lv_aload_n hx hb dK_partOf_6 rfl (lv_at hl 0 rfl) ?_
    refine lv_ifnonnull (tgt := 12) hx hb dK_partOf_7 (by decide) ?_
    refine lv_iload_n hx hb dK_partOf_12 rfl (lv_at hl 3 rfl) ?_
    refine lv_if_eq (tgt := 23) hx hb dK_partOf_13 (by decide) (fun h23 => ?_) (fun h23 => ?_)
    · replace hR := hR.trans (if_pos h23)
      refine lv_aload_n hx hb dK_partOf_23 rfl (lv_at hl 0 rfl) ?_
      refine nw_get (C := "LatticeKeys$KeyPair") (TT := T_KP) (N := 3) hx hb hts (wg_ft i_KP) hown hK hO kr27 (kn := (379 + 36 * z23 + 6)) (ci := 13) (fl := [(1, 2), (3, (379 + 36 * z23 + 7)), (3, (379 + 36 * z23 + 8))]) (pr_o2 (z := z23) (by omega)) hP rfl 1 (by decide) (hts _ (wg_t kw_749)) (fun _ h9 => h9) (cd := (3, (379 + 36 * z23 + 7))) rfl dK_partOf_24 (fun v25 hv28 => ?_)
      obtain ⟨r26, rfl, kr28⟩ := (show ∃ r : Nat, v25 = .ref r ∧ T r = some (379 + 36 * z23 + 7) from hv28)
      exact mp_qret (v := (some r26)) hx hb hr (Or.inr ⟨_, rfl⟩) hlk hP hD hS ((nI 3, q21.2), pl) ⟨⟨hR.symm, ⟨fun _ => (Or.inr ⟨z23, 2, _, by omega, hv27, by decide, by decide, rfl, rfl, kr28⟩), fun h9 => absurd h23 h9⟩, hF, trivial⟩, hO⟩ [] rfl rfl rfl (by omega) (by omega) dK_partOf_27
    · replace hR := hR.trans (if_neg h23)
      refine lv_aload_n hx hb dK_partOf_16 rfl (lv_at hl 0 rfl) ?_
      refine nw_get (C := "LatticeKeys$KeyPair") (TT := T_KP) (N := 3) hx hb hts (wg_ft i_KP) hown hK hO kr27 (kn := (379 + 36 * z23 + 6)) (ci := 13) (fl := [(1, 2), (3, (379 + 36 * z23 + 7)), (3, (379 + 36 * z23 + 8))]) (pr_o2 (z := z23) (by omega)) hP rfl 2 (by decide) (hts _ (wg_t kw_752)) (fun _ h9 => h9) (cd := (3, (379 + 36 * z23 + 8))) rfl dK_partOf_17 (fun v26 hv29 => ?_)
      obtain ⟨r27, rfl, kr29⟩ := (show ∃ r : Nat, v26 = .ref r ∧ T r = some (379 + 36 * z23 + 8) from hv29)
      refine lv_goto (tgt := 27) hx hb dK_partOf_20 (by decide) ?_
      exact mp_qret (v := (some r27)) hx hb hr (Or.inr ⟨_, rfl⟩) hlk hP hD hS ((nI 3, q21.2), pl) ⟨⟨hR.symm, ⟨fun h9 => absurd h9 h23, fun _ => (Or.inr ⟨z23, 2, _, by omega, hv27, by decide, by decide, rfl, rfl, kr29⟩)⟩, hF, trivial⟩, hO⟩ [] rfl rfl rfl (by omega) (by omega) dK_partOf_27
  replace hR := hR.trans (if_neg hs24)
  by_cases hs25 : q21.1 = nI 4
  · replace hR := hR.trans (if_pos hs25)
    obtain ⟨z24, q25, hz24, hv30, rfl, kr30⟩ := pfd_at (c := 3) hq21 (by decide) hs25
    have kr30 : T q25 = some (379 + 36 * z24 + 9) := kr30
    have ez24 : z24 = v.toNatClampNeg := by rw [hv30]; exact (nI_clamp (by omega)).symm
    replace hR := bnd_step hR ez24
    refine lv_astore_n (lv' := [(3, .ref q25), (0, .ref h0), (1, .int v), (2, .int sc)]) hx hb dK_partOf_5 rfl hl (by decide) rfl (fun ls hl => ?_)
    refine lv_aload_n hx hb dK_partOf_6 rfl (lv_at hl 0 rfl) ?_
    refine lv_ifnonnull (tgt := 12) hx hb dK_partOf_7 (by decide) ?_
    refine lv_iload_n hx hb dK_partOf_12 rfl (lv_at hl 3 rfl) ?_
    refine lv_if_eq (tgt := 23) hx hb dK_partOf_13 (by decide) (fun h24 => ?_) (fun h24 => ?_)
    · replace hR := hR.trans (if_pos h24)
      refine lv_aload_n hx hb dK_partOf_23 rfl (lv_at hl 0 rfl) ?_
      refine nw_get (C := "LatticeKeys$KeyPair") (TT := T_KP) (N := 3) hx hb hts (wg_ft i_KP) hown hK hO kr30 (kn := (379 + 36 * z24 + 9)) (ci := 13) (fl := [(1, 3), (3, (379 + 36 * z24 + 10)), (3, (379 + 36 * z24 + 11))]) (pr_o3 (z := z24) (by omega)) hP rfl 1 (by decide) (hts _ (wg_t kw_749)) (fun _ h9 => h9) (cd := (3, (379 + 36 * z24 + 10))) rfl dK_partOf_24 (fun v27 hv31 => ?_)
      obtain ⟨r28, rfl, kr31⟩ := (show ∃ r : Nat, v27 = .ref r ∧ T r = some (379 + 36 * z24 + 10) from hv31)
      exact mp_qret (v := (some r28)) hx hb hr (Or.inr ⟨_, rfl⟩) hlk hP hD hS ((nI 4, q21.2), pl) ⟨⟨hR.symm, ⟨fun _ => (Or.inr ⟨z24, 3, _, by omega, hv30, by decide, by decide, rfl, rfl, kr31⟩), fun h9 => absurd h24 h9⟩, hF, trivial⟩, hO⟩ [] rfl rfl rfl (by omega) (by omega) dK_partOf_27
    · replace hR := hR.trans (if_neg h24)
      refine lv_aload_n hx hb dK_partOf_16 rfl (lv_at hl 0 rfl) ?_
      refine nw_get (C := "LatticeKeys$KeyPair") (TT := T_KP) (N := 3) hx hb hts (wg_ft i_KP) hown hK hO kr30 (kn := (379 + 36 * z24 + 9)) (ci := 13) (fl := [(1, 3), (3, (379 + 36 * z24 + 10)), (3, (379 + 36 * z24 + 11))]) (pr_o3 (z := z24) (by omega)) hP rfl 2 (by decide) (hts _ (wg_t kw_752)) (fun _ h9 => h9) (cd := (3, (379 + 36 * z24 + 11))) rfl dK_partOf_17 (fun v28 hv32 => ?_)
      obtain ⟨r29, rfl, kr32⟩ := (show ∃ r : Nat, v28 = .ref r ∧ T r = some (379 + 36 * z24 + 11) from hv32)
      refine lv_goto (tgt := 27) hx hb dK_partOf_20 (by decide) ?_
      exact mp_qret (v := (some r29)) hx hb hr (Or.inr ⟨_, rfl⟩) hlk hP hD hS ((nI 4, q21.2), pl) ⟨⟨hR.symm, ⟨fun h9 => absurd h9 h24, fun _ => (Or.inr ⟨z24, 3, _, by omega, hv30, by decide, by decide, rfl, rfl, kr32⟩)⟩, hF, trivial⟩, hO⟩ [] rfl rfl rfl (by omega) (by omega) dK_partOf_27
  replace hR := hR.trans (if_neg hs25)
  by_cases hs26 : q21.1 = nI 5
  · replace hR := hR.trans (if_pos hs26)
    obtain ⟨z25, q26, hz25, hv33, rfl, kr33⟩ := pfd_at (c := 4) hq21 (by decide) hs26
    have kr33 : T q26 = some (379 + 36 * z25 + 12) := kr33
    have ez25 : z25 = v.toNatClampNeg := by rw [hv33]; exact (nI_clamp (by omega)).symm
    replace hR := bnd_step hR ez25
    refine lv_astore_n (lv' := [(3, .ref q26), (0, .ref h0), (1, .int v), (2, .int sc)]) hx hb dK_partOf_5 rfl hl (by decide) rfl (fun ls hl => ?_)
    refine lv_aload_n hx hb dK_partOf_6 rfl (lv_at hl 0 rfl) ?_
    refine lv_ifnonnull (tgt := 12) hx hb dK_partOf_7 (by decide) ?_
    refine lv_iload_n hx hb dK_partOf_12 rfl (lv_at hl 3 rfl) ?_
    refine lv_if_eq (tgt := 23) hx hb dK_partOf_13 (by decide) (fun h25 => ?_) (fun h25 => ?_)
    · replace hR := hR.trans (if_pos h25)
      refine lv_aload_n hx hb dK_partOf_23 rfl (lv_at hl 0 rfl) ?_
      refine nw_get (C := "LatticeKeys$KeyPair") (TT := T_KP) (N := 3) hx hb hts (wg_ft i_KP) hown hK hO kr33 (kn := (379 + 36 * z25 + 12)) (ci := 13) (fl := [(1, 4), (3, (379 + 36 * z25 + 13)), (3, (379 + 36 * z25 + 14))]) (pr_o4 (z := z25) (by omega)) hP rfl 1 (by decide) (hts _ (wg_t kw_749)) (fun _ h9 => h9) (cd := (3, (379 + 36 * z25 + 13))) rfl dK_partOf_24 (fun v29 hv34 => ?_)
      obtain ⟨r30, rfl, kr34⟩ := (show ∃ r : Nat, v29 = .ref r ∧ T r = some (379 + 36 * z25 + 13) from hv34)
      exact mp_qret (v := (some r30)) hx hb hr (Or.inr ⟨_, rfl⟩) hlk hP hD hS ((nI 5, q21.2), pl) ⟨⟨hR.symm, ⟨fun _ => (Or.inr ⟨z25, 4, _, by omega, hv33, by decide, by decide, rfl, rfl, kr34⟩), fun h9 => absurd h25 h9⟩, hF, trivial⟩, hO⟩ [] rfl rfl rfl (by omega) (by omega) dK_partOf_27
    · replace hR := hR.trans (if_neg h25)
      refine lv_aload_n hx hb dK_partOf_16 rfl (lv_at hl 0 rfl) ?_
      refine nw_get (C := "LatticeKeys$KeyPair") (TT := T_KP) (N := 3) hx hb hts (wg_ft i_KP) hown hK hO kr33 (kn := (379 + 36 * z25 + 12)) (ci := 13) (fl := [(1, 4), (3, (379 + 36 * z25 + 13)), (3, (379 + 36 * z25 + 14))]) (pr_o4 (z := z25) (by omega)) hP rfl 2 (by decide) (hts _ (wg_t kw_752)) (fun _ h9 => h9) (cd := (3, (379 + 36 * z25 + 14))) rfl dK_partOf_17 (fun v30 hv35 => ?_)
      obtain ⟨r31, rfl, kr35⟩ := (show ∃ r : Nat, v30 = .ref r ∧ T r = some (379 + 36 * z25 + 14) from hv35)
      refine lv_goto (tgt := 27) hx hb dK_partOf_20 (by decide) ?_
      exact mp_qret (v := (some r31)) hx hb hr (Or.inr ⟨_, rfl⟩) hlk hP hD hS ((nI 5, q21.2), pl) ⟨⟨hR.symm, ⟨fun h9 => absurd h9 h25, fun _ => (Or.inr ⟨z25, 4, _, by omega, hv33, by decide, by decide, rfl, rfl, kr35⟩)⟩, hF, trivial⟩, hO⟩ [] rfl rfl rfl (by omega) (by omega) dK_partOf_27
  replace hR := hR.trans (if_neg hs26)
  by_cases hs27 : q21.1 = nI 6
  · replace hR := hR.trans (if_pos hs27)
    obtain ⟨z26, q27, hz26, hv36, rfl, kr36⟩ := pfd_at (c := 5) hq21 (by decide) hs27
    have kr36 : T q27 = some (379 + 36 * z26 + 15) := kr36
    have ez26 : z26 = v.toNatClampNeg := by rw [hv36]; exact (nI_clamp (by omega)).symm
    replace hR := bnd_step hR ez26
    refine lv_astore_n (lv' := [(3, .ref q27), (0, .ref h0), (1, .int v), (2, .int sc)]) hx hb dK_partOf_5 rfl hl (by decide) rfl (fun ls hl => ?_)
    refine lv_aload_n hx hb dK_partOf_6 rfl (lv_at hl 0 rfl) ?_
    refine lv_ifnonnull (tgt := 12) hx hb dK_partOf_7 (by decide) ?_
    refine lv_iload_n hx hb dK_partOf_12 rfl (lv_at hl 3 rfl) ?_
    refine lv_if_eq (tgt := 23) hx hb dK_partOf_13 (by decide) (fun h26 => ?_) (fun h26 => ?_)
    · replace hR := hR.trans (if_pos h26)
      refine lv_aload_n hx hb dK_partOf_23 rfl (lv_at hl 0 rfl) ?_
      refine nw_get (C := "LatticeKeys$KeyPair") (TT := T_KP) (N := 3) hx hb hts (wg_ft i_KP) hown hK hO kr36 (kn := (379 + 36 * z26 + 15)) (ci := 13) (fl := [(1, 5), (3, (379 + 36 * z26 + 16)), (3, (379 + 36 * z26 + 17))]) (pr_o5 (z := z26) (by omega)) hP rfl 1 (by decide) (hts _ (wg_t kw_749)) (fun _ h9 => h9) (cd := (3, (379 + 36 * z26 + 16))) rfl dK_partOf_24 (fun v31 hv37 => ?_)
      obtain ⟨r32, rfl, kr37⟩ := (show ∃ r : Nat, v31 = .ref r ∧ T r = some (379 + 36 * z26 + 16) from hv37)
      exact mp_qret (v := (some r32)) hx hb hr (Or.inr ⟨_, rfl⟩) hlk hP hD hS ((nI 6, q21.2), pl) ⟨⟨hR.symm, ⟨fun _ => (Or.inr ⟨z26, 5, _, by omega, hv36, by decide, by decide, rfl, rfl, kr37⟩), fun h9 => absurd h26 h9⟩, hF, trivial⟩, hO⟩ [] rfl rfl rfl (by omega) (by omega) dK_partOf_27
    · replace hR := hR.trans (if_neg h26)
      refine lv_aload_n hx hb dK_partOf_16 rfl (lv_at hl 0 rfl) ?_
      refine nw_get (C := "LatticeKeys$KeyPair") (TT := T_KP) (N := 3) hx hb hts (wg_ft i_KP) hown hK hO kr36 (kn := (379 + 36 * z26 + 15)) (ci := 13) (fl := [(1, 5), (3, (379 + 36 * z26 + 16)), (3, (379 + 36 * z26 + 17))]) (pr_o5 (z := z26) (by omega)) hP rfl 2 (by decide) (hts _ (wg_t kw_752)) (fun _ h9 => h9) (cd := (3, (379 + 36 * z26 + 17))) rfl dK_partOf_17 (fun v32 hv38 => ?_)
      obtain ⟨r33, rfl, kr38⟩ := (show ∃ r : Nat, v32 = .ref r ∧ T r = some (379 + 36 * z26 + 17) from hv38)
      refine lv_goto (tgt := 27) hx hb dK_partOf_20 (by decide) ?_
      exact mp_qret (v := (some r33)) hx hb hr (Or.inr ⟨_, rfl⟩) hlk hP hD hS ((nI 6, q21.2), pl) ⟨⟨hR.symm, ⟨fun h9 => absurd h9 h26, fun _ => (Or.inr ⟨z26, 5, _, by omega, hv36, by decide, by decide, rfl, rfl, kr38⟩)⟩, hF, trivial⟩, hO⟩ [] rfl rfl rfl (by omega) (by omega) dK_partOf_27
  replace hR := hR.trans (if_neg hs27)
  by_cases hs28 : q21.1 = nI 7
  · replace hR := hR.trans (if_pos hs28)
    obtain ⟨z27, q28, hz27, hv39, rfl, kr39⟩ := pfd_at (c := 6) hq21 (by decide) hs28
    have kr39 : T q28 = some (379 + 36 * z27 + 18) := kr39
    have ez27 : z27 = v.toNatClampNeg := by rw [hv39]; exact (nI_clamp (by omega)).symm
    replace hR := bnd_step hR ez27
    refine lv_astore_n (lv' := [(3, .ref q28), (0, .ref h0), (1, .int v), (2, .int sc)]) hx hb dK_partOf_5 rfl hl (by decide) rfl (fun ls hl => ?_)
    refine lv_aload_n hx hb dK_partOf_6 rfl (lv_at hl 0 rfl) ?_
    refine lv_ifnonnull (tgt := 12) hx hb dK_partOf_7 (by decide) ?_
    refine lv_iload_n hx hb dK_partOf_12 rfl (lv_at hl 3 rfl) ?_
    refine lv_if_eq (tgt := 23) hx hb dK_partOf_13 (by decide) (fun h27 => ?_) (fun h27 => ?_)
    · replace hR := hR.trans (if_pos h27)
      refine lv_aload_n hx hb dK_partOf_23 rfl (lv_at hl 0 rfl) ?_
      refine nw_get (C := "LatticeKeys$KeyPair") (TT := T_KP) (N := 3) hx hb hts (wg_ft i_KP) hown hK hO kr39 (kn := (379 + 36 * z27 + 18)) (ci := 13) (fl := [(1, 0), (3, (379 + 36 * z27 + 19)), (5, 0)]) (pr_o6 (z := z27) (by omega)) hP rfl 1 (by decide) (hts _ (wg_t kw_749)) (fun _ h9 => h9) (cd := (3, (379 + 36 * z27 + 19))) rfl dK_partOf_24 (fun v33 hv40 => ?_)
      obtain ⟨r34, rfl, kr40⟩ := (show ∃ r : Nat, v33 = .ref r ∧ T r = some (379 + 36 * z27 + 19) from hv40)
      exact mp_qret (v := (some r34)) hx hb hr (Or.inr ⟨_, rfl⟩) hlk hP hD hS ((nI 7, q21.2), pl) ⟨⟨hR.symm, ⟨fun _ => (Or.inr ⟨z27, 6, _, by omega, hv39, by decide, by decide, rfl, rfl, kr40⟩), fun h9 => absurd h27 h9⟩, hF, trivial⟩, hO⟩ [] rfl rfl rfl (by omega) (by omega) dK_partOf_27
    · replace hR := hR.trans (if_neg h27)
      refine lv_aload_n hx hb dK_partOf_16 rfl (lv_at hl 0 rfl) ?_
      refine nw_get (C := "LatticeKeys$KeyPair") (TT := T_KP) (N := 3) hx hb hts (wg_ft i_KP) hown hK hO kr39 (kn := (379 + 36 * z27 + 18)) (ci := 13) (fl := [(1, 0), (3, (379 + 36 * z27 + 19)), (5, 0)]) (pr_o6 (z := z27) (by omega)) hP rfl 2 (by decide) (hts _ (wg_t kw_752)) (fun _ h9 => h9) (cd := (5, 0)) rfl dK_partOf_17 (fun v34 hv41 => ?_)
      obtain rfl := (show v34 = .null from hv41)
      refine lv_goto (tgt := 27) hx hb dK_partOf_20 (by decide) ?_
      exact mp_qret (v := none) hx hb hr (Or.inr ⟨_, rfl⟩) hlk hP hD hS ((nI 0, q21.2), pl) ⟨⟨hR.symm, ⟨fun h9 => absurd h9 h27, fun _ => Or.inl ⟨rfl, rfl⟩⟩, hF, trivial⟩, hO⟩ [] rfl rfl rfl (by omega) (by omega) dK_partOf_27
  replace hR := hR.trans (if_neg hs28)
  by_cases hs29 : q21.1 = nI 8
  · replace hR := hR.trans (if_pos hs29)
    obtain ⟨z28, q29, hz28, hv42, rfl, kr41⟩ := pfd_at (c := 7) hq21 (by decide) hs29
    have kr41 : T q29 = some (379 + 36 * z28 + 21) := kr41
    have ez28 : z28 = v.toNatClampNeg := by rw [hv42]; exact (nI_clamp (by omega)).symm
    replace hR := bnd_step hR ez28
    refine lv_astore_n (lv' := [(3, .ref q29), (0, .ref h0), (1, .int v), (2, .int sc)]) hx hb dK_partOf_5 rfl hl (by decide) rfl (fun ls hl => ?_)
    refine lv_aload_n hx hb dK_partOf_6 rfl (lv_at hl 0 rfl) ?_
    refine lv_ifnonnull (tgt := 12) hx hb dK_partOf_7 (by decide) ?_
    refine lv_iload_n hx hb dK_partOf_12 rfl (lv_at hl 3 rfl) ?_
    refine lv_if_eq (tgt := 23) hx hb dK_partOf_13 (by decide) (fun h28 => ?_) (fun h28 => ?_)
    · replace hR := hR.trans (if_pos h28)
      refine lv_aload_n hx hb dK_partOf_23 rfl (lv_at hl 0 rfl) ?_
      refine nw_get (C := "LatticeKeys$KeyPair") (TT := T_KP) (N := 3) hx hb hts (wg_ft i_KP) hown hK hO kr41 (kn := (379 + 36 * z28 + 21)) (ci := 13) (fl := [(1, 1), (3, (379 + 36 * z28 + 22)), (5, 0)]) (pr_o7 (z := z28) (by omega)) hP rfl 1 (by decide) (hts _ (wg_t kw_749)) (fun _ h9 => h9) (cd := (3, (379 + 36 * z28 + 22))) rfl dK_partOf_24 (fun v35 hv43 => ?_)
      obtain ⟨r35, rfl, kr42⟩ := (show ∃ r : Nat, v35 = .ref r ∧ T r = some (379 + 36 * z28 + 22) from hv43)
      exact mp_qret (v := (some r35)) hx hb hr (Or.inr ⟨_, rfl⟩) hlk hP hD hS ((nI 8, q21.2), pl) ⟨⟨hR.symm, ⟨fun _ => (Or.inr ⟨z28, 7, _, by omega, hv42, by decide, by decide, rfl, rfl, kr42⟩), fun h9 => absurd h28 h9⟩, hF, trivial⟩, hO⟩ [] rfl rfl rfl (by omega) (by omega) dK_partOf_27
    · replace hR := hR.trans (if_neg h28)
      refine lv_aload_n hx hb dK_partOf_16 rfl (lv_at hl 0 rfl) ?_
      refine nw_get (C := "LatticeKeys$KeyPair") (TT := T_KP) (N := 3) hx hb hts (wg_ft i_KP) hown hK hO kr41 (kn := (379 + 36 * z28 + 21)) (ci := 13) (fl := [(1, 1), (3, (379 + 36 * z28 + 22)), (5, 0)]) (pr_o7 (z := z28) (by omega)) hP rfl 2 (by decide) (hts _ (wg_t kw_752)) (fun _ h9 => h9) (cd := (5, 0)) rfl dK_partOf_17 (fun v36 hv44 => ?_)
      obtain rfl := (show v36 = .null from hv44)
      refine lv_goto (tgt := 27) hx hb dK_partOf_20 (by decide) ?_
      exact mp_qret (v := none) hx hb hr (Or.inr ⟨_, rfl⟩) hlk hP hD hS ((nI 0, q21.2), pl) ⟨⟨hR.symm, ⟨fun h9 => absurd h9 h28, fun _ => Or.inl ⟨rfl, rfl⟩⟩, hF, trivial⟩, hO⟩ [] rfl rfl rfl (by omega) (by omega) dK_partOf_27
  replace hR := hR.trans (if_neg hs29)
  by_cases hs30 : q21.1 = nI 9
  · replace hR := hR.trans (if_pos hs30)
    obtain ⟨z29, q30, hz29, hv45, rfl, kr43⟩ := pfd_at (c := 8) hq21 (by decide) hs30
    have kr43 : T q30 = some (379 + 36 * z29 + 24) := kr43
    have ez29 : z29 = v.toNatClampNeg := by rw [hv45]; exact (nI_clamp (by omega)).symm
    replace hR := bnd_step hR ez29
    refine lv_astore_n (lv' := [(3, .ref q30), (0, .ref h0), (1, .int v), (2, .int sc)]) hx hb dK_partOf_5 rfl hl (by decide) rfl (fun ls hl => ?_)
    refine lv_aload_n hx hb dK_partOf_6 rfl (lv_at hl 0 rfl) ?_
    refine lv_ifnonnull (tgt := 12) hx hb dK_partOf_7 (by decide) ?_
    refine lv_iload_n hx hb dK_partOf_12 rfl (lv_at hl 3 rfl) ?_
    refine lv_if_eq (tgt := 23) hx hb dK_partOf_13 (by decide) (fun h29 => ?_) (fun h29 => ?_)
    · replace hR := hR.trans (if_pos h29)
      refine lv_aload_n hx hb dK_partOf_23 rfl (lv_at hl 0 rfl) ?_
      refine nw_get (C := "LatticeKeys$KeyPair") (TT := T_KP) (N := 3) hx hb hts (wg_ft i_KP) hown hK hO kr43 (kn := (379 + 36 * z29 + 24)) (ci := 13) (fl := [(1, 2), (3, (379 + 36 * z29 + 25)), (5, 0)]) (pr_o8 (z := z29) (by omega)) hP rfl 1 (by decide) (hts _ (wg_t kw_749)) (fun _ h9 => h9) (cd := (3, (379 + 36 * z29 + 25))) rfl dK_partOf_24 (fun v37 hv46 => ?_)
      obtain ⟨r36, rfl, kr44⟩ := (show ∃ r : Nat, v37 = .ref r ∧ T r = some (379 + 36 * z29 + 25) from hv46)
      exact mp_qret (v := (some r36)) hx hb hr (Or.inr ⟨_, rfl⟩) hlk hP hD hS ((nI 9, q21.2), pl) ⟨⟨hR.symm, ⟨fun _ => (Or.inr ⟨z29, 8, _, by omega, hv45, by decide, by decide, rfl, rfl, kr44⟩), fun h9 => absurd h29 h9⟩, hF, trivial⟩, hO⟩ [] rfl rfl rfl (by omega) (by omega) dK_partOf_27
    · replace hR := hR.trans (if_neg h29)
      refine lv_aload_n hx hb dK_partOf_16 rfl (lv_at hl 0 rfl) ?_
      refine nw_get (C := "LatticeKeys$KeyPair") (TT := T_KP) (N := 3) hx hb hts (wg_ft i_KP) hown hK hO kr43 (kn := (379 + 36 * z29 + 24)) (ci := 13) (fl := [(1, 2), (3, (379 + 36 * z29 + 25)), (5, 0)]) (pr_o8 (z := z29) (by omega)) hP rfl 2 (by decide) (hts _ (wg_t kw_752)) (fun _ h9 => h9) (cd := (5, 0)) rfl dK_partOf_17 (fun v38 hv47 => ?_)
      obtain rfl := (show v38 = .null from hv47)
      refine lv_goto (tgt := 27) hx hb dK_partOf_20 (by decide) ?_
      exact mp_qret (v := none) hx hb hr (Or.inr ⟨_, rfl⟩) hlk hP hD hS ((nI 0, q21.2), pl) ⟨⟨hR.symm, ⟨fun h9 => absurd h9 h29, fun _ => Or.inl ⟨rfl, rfl⟩⟩, hF, trivial⟩, hO⟩ [] rfl rfl rfl (by omega) (by omega) dK_partOf_27
  replace hR := hR.trans (if_neg hs30)
  by_cases hs31 : q21.1 = nI 10
  · replace hR := hR.trans (if_pos hs31)
    obtain ⟨z30, q31, hz30, hv48, rfl, kr45⟩ := pfd_at (c := 9) hq21 (by decide) hs31
    have kr45 : T q31 = some (379 + 36 * z30 + 27) := kr45
    have ez30 : z30 = v.toNatClampNeg := by rw [hv48]; exact (nI_clamp (by omega)).symm
    replace hR := bnd_step hR ez30
    refine lv_astore_n (lv' := [(3, .ref q31), (0, .ref h0), (1, .int v), (2, .int sc)]) hx hb dK_partOf_5 rfl hl (by decide) rfl (fun ls hl => ?_)
    refine lv_aload_n hx hb dK_partOf_6 rfl (lv_at hl 0 rfl) ?_
    refine lv_ifnonnull (tgt := 12) hx hb dK_partOf_7 (by decide) ?_
    refine lv_iload_n hx hb dK_partOf_12 rfl (lv_at hl 3 rfl) ?_
    refine lv_if_eq (tgt := 23) hx hb dK_partOf_13 (by decide) (fun h30 => ?_) (fun h30 => ?_)
    · replace hR := hR.trans (if_pos h30)
      refine lv_aload_n hx hb dK_partOf_23 rfl (lv_at hl 0 rfl) ?_
      refine nw_get (C := "LatticeKeys$KeyPair") (TT := T_KP) (N := 3) hx hb hts (wg_ft i_KP) hown hK hO kr45 (kn := (379 + 36 * z30 + 27)) (ci := 13) (fl := [(1, 3), (3, (379 + 36 * z30 + 28)), (5, 0)]) (pr_o9 (z := z30) (by omega)) hP rfl 1 (by decide) (hts _ (wg_t kw_749)) (fun _ h9 => h9) (cd := (3, (379 + 36 * z30 + 28))) rfl dK_partOf_24 (fun v39 hv49 => ?_)
      obtain ⟨r37, rfl, kr46⟩ := (show ∃ r : Nat, v39 = .ref r ∧ T r = some (379 + 36 * z30 + 28) from hv49)
      exact mp_qret (v := (some r37)) hx hb hr (Or.inr ⟨_, rfl⟩) hlk hP hD hS ((nI 10, q21.2), pl) ⟨⟨hR.symm, ⟨fun _ => (Or.inr ⟨z30, 9, _, by omega, hv48, by decide, by decide, rfl, rfl, kr46⟩), fun h9 => absurd h30 h9⟩, hF, trivial⟩, hO⟩ [] rfl rfl rfl (by omega) (by omega) dK_partOf_27
    · replace hR := hR.trans (if_neg h30)
      refine lv_aload_n hx hb dK_partOf_16 rfl (lv_at hl 0 rfl) ?_
      refine nw_get (C := "LatticeKeys$KeyPair") (TT := T_KP) (N := 3) hx hb hts (wg_ft i_KP) hown hK hO kr45 (kn := (379 + 36 * z30 + 27)) (ci := 13) (fl := [(1, 3), (3, (379 + 36 * z30 + 28)), (5, 0)]) (pr_o9 (z := z30) (by omega)) hP rfl 2 (by decide) (hts _ (wg_t kw_752)) (fun _ h9 => h9) (cd := (5, 0)) rfl dK_partOf_17 (fun v40 hv50 => ?_)
      obtain rfl := (show v40 = .null from hv50)
      refine lv_goto (tgt := 27) hx hb dK_partOf_20 (by decide) ?_
      exact mp_qret (v := none) hx hb hr (Or.inr ⟨_, rfl⟩) hlk hP hD hS ((nI 0, q21.2), pl) ⟨⟨hR.symm, ⟨fun h9 => absurd h9 h30, fun _ => Or.inl ⟨rfl, rfl⟩⟩, hF, trivial⟩, hO⟩ [] rfl rfl rfl (by omega) (by omega) dK_partOf_27
  replace hR := hR.trans (if_neg hs31)
  by_cases hs32 : q21.1 = nI 11
  · replace hR := hR.trans (if_pos hs32)
    obtain ⟨z31, q32, hz31, hv51, rfl, kr47⟩ := pfd_at (c := 10) hq21 (by decide) hs32
    have kr47 : T q32 = some (379 + 36 * z31 + 30) := kr47
    have ez31 : z31 = v.toNatClampNeg := by rw [hv51]; exact (nI_clamp (by omega)).symm
    replace hR := bnd_step hR ez31
    refine lv_astore_n (lv' := [(3, .ref q32), (0, .ref h0), (1, .int v), (2, .int sc)]) hx hb dK_partOf_5 rfl hl (by decide) rfl (fun ls hl => ?_)
    refine lv_aload_n hx hb dK_partOf_6 rfl (lv_at hl 0 rfl) ?_
    refine lv_ifnonnull (tgt := 12) hx hb dK_partOf_7 (by decide) ?_
    refine lv_iload_n hx hb dK_partOf_12 rfl (lv_at hl 3 rfl) ?_
    refine lv_if_eq (tgt := 23) hx hb dK_partOf_13 (by decide) (fun h31 => ?_) (fun h31 => ?_)
    · replace hR := hR.trans (if_pos h31)
      refine lv_aload_n hx hb dK_partOf_23 rfl (lv_at hl 0 rfl) ?_
      refine nw_get (C := "LatticeKeys$KeyPair") (TT := T_KP) (N := 3) hx hb hts (wg_ft i_KP) hown hK hO kr47 (kn := (379 + 36 * z31 + 30)) (ci := 13) (fl := [(1, 4), (3, (379 + 36 * z31 + 31)), (5, 0)]) (pr_o10 (z := z31) (by omega)) hP rfl 1 (by decide) (hts _ (wg_t kw_749)) (fun _ h9 => h9) (cd := (3, (379 + 36 * z31 + 31))) rfl dK_partOf_24 (fun v41 hv52 => ?_)
      obtain ⟨r38, rfl, kr48⟩ := (show ∃ r : Nat, v41 = .ref r ∧ T r = some (379 + 36 * z31 + 31) from hv52)
      exact mp_qret (v := (some r38)) hx hb hr (Or.inr ⟨_, rfl⟩) hlk hP hD hS ((nI 11, q21.2), pl) ⟨⟨hR.symm, ⟨fun _ => (Or.inr ⟨z31, 10, _, by omega, hv51, by decide, by decide, rfl, rfl, kr48⟩), fun h9 => absurd h31 h9⟩, hF, trivial⟩, hO⟩ [] rfl rfl rfl (by omega) (by omega) dK_partOf_27
    · replace hR := hR.trans (if_neg h31)
      refine lv_aload_n hx hb dK_partOf_16 rfl (lv_at hl 0 rfl) ?_
      refine nw_get (C := "LatticeKeys$KeyPair") (TT := T_KP) (N := 3) hx hb hts (wg_ft i_KP) hown hK hO kr47 (kn := (379 + 36 * z31 + 30)) (ci := 13) (fl := [(1, 4), (3, (379 + 36 * z31 + 31)), (5, 0)]) (pr_o10 (z := z31) (by omega)) hP rfl 2 (by decide) (hts _ (wg_t kw_752)) (fun _ h9 => h9) (cd := (5, 0)) rfl dK_partOf_17 (fun v42 hv53 => ?_)
      obtain rfl := (show v42 = .null from hv53)
      refine lv_goto (tgt := 27) hx hb dK_partOf_20 (by decide) ?_
      exact mp_qret (v := none) hx hb hr (Or.inr ⟨_, rfl⟩) hlk hP hD hS ((nI 0, q21.2), pl) ⟨⟨hR.symm, ⟨fun h9 => absurd h9 h31, fun _ => Or.inl ⟨rfl, rfl⟩⟩, hF, trivial⟩, hO⟩ [] rfl rfl rfl (by omega) (by omega) dK_partOf_27
  replace hR := hR.trans (if_neg hs32)
  by_cases hs33 : q21.1 = nI 12
  · replace hR := hR.trans (if_pos hs33)
    obtain ⟨z32, q33, hz32, hv54, rfl, kr49⟩ := pfd_at (c := 11) hq21 (by decide) hs33
    have kr49 : T q33 = some (379 + 36 * z32 + 33) := kr49
    have ez32 : z32 = v.toNatClampNeg := by rw [hv54]; exact (nI_clamp (by omega)).symm
    replace hR := bnd_step hR ez32
    refine lv_astore_n (lv' := [(3, .ref q33), (0, .ref h0), (1, .int v), (2, .int sc)]) hx hb dK_partOf_5 rfl hl (by decide) rfl (fun ls hl => ?_)
    refine lv_aload_n hx hb dK_partOf_6 rfl (lv_at hl 0 rfl) ?_
    refine lv_ifnonnull (tgt := 12) hx hb dK_partOf_7 (by decide) ?_
    refine lv_iload_n hx hb dK_partOf_12 rfl (lv_at hl 3 rfl) ?_
    refine lv_if_eq (tgt := 23) hx hb dK_partOf_13 (by decide) (fun h32 => ?_) (fun h32 => ?_)
    · replace hR := hR.trans (if_pos h32)
      refine lv_aload_n hx hb dK_partOf_23 rfl (lv_at hl 0 rfl) ?_
      refine nw_get (C := "LatticeKeys$KeyPair") (TT := T_KP) (N := 3) hx hb hts (wg_ft i_KP) hown hK hO kr49 (kn := (379 + 36 * z32 + 33)) (ci := 13) (fl := [(1, 5), (3, (379 + 36 * z32 + 34)), (5, 0)]) (pr_o11 (z := z32) (by omega)) hP rfl 1 (by decide) (hts _ (wg_t kw_749)) (fun _ h9 => h9) (cd := (3, (379 + 36 * z32 + 34))) rfl dK_partOf_24 (fun v43 hv55 => ?_)
      obtain ⟨r39, rfl, kr50⟩ := (show ∃ r : Nat, v43 = .ref r ∧ T r = some (379 + 36 * z32 + 34) from hv55)
      exact mp_qret (v := (some r39)) hx hb hr (Or.inr ⟨_, rfl⟩) hlk hP hD hS ((nI 12, q21.2), pl) ⟨⟨hR.symm, ⟨fun _ => (Or.inr ⟨z32, 11, _, by omega, hv54, by decide, by decide, rfl, rfl, kr50⟩), fun h9 => absurd h32 h9⟩, hF, trivial⟩, hO⟩ [] rfl rfl rfl (by omega) (by omega) dK_partOf_27
    · replace hR := hR.trans (if_neg h32)
      refine lv_aload_n hx hb dK_partOf_16 rfl (lv_at hl 0 rfl) ?_
      refine nw_get (C := "LatticeKeys$KeyPair") (TT := T_KP) (N := 3) hx hb hts (wg_ft i_KP) hown hK hO kr49 (kn := (379 + 36 * z32 + 33)) (ci := 13) (fl := [(1, 5), (3, (379 + 36 * z32 + 34)), (5, 0)]) (pr_o11 (z := z32) (by omega)) hP rfl 2 (by decide) (hts _ (wg_t kw_752)) (fun _ h9 => h9) (cd := (5, 0)) rfl dK_partOf_17 (fun v44 hv56 => ?_)
      obtain rfl := (show v44 = .null from hv56)
      refine lv_goto (tgt := 27) hx hb dK_partOf_20 (by decide) ?_
      exact mp_qret (v := none) hx hb hr (Or.inr ⟨_, rfl⟩) hlk hP hD hS ((nI 0, q21.2), pl) ⟨⟨hR.symm, ⟨fun h9 => absurd h9 h32, fun _ => Or.inl ⟨rfl, rfl⟩⟩, hF, trivial⟩, hO⟩ [] rfl rfl rfl (by omega) (by omega) dK_partOf_27
  replace hR := hR.trans (if_neg hs33)
  obtain ⟨c9, hc9, e9⟩ := pfd_mem hq21 hs21
  simp only [List.mem_cons, List.not_mem_nil, or_false] at hc9
  rcases hc9 with rfl | rfl | rfl | rfl | rfl | rfl | rfl | rfl | rfl | rfl | rfl | rfl
  · exact absurd e9 hs22
  · exact absurd e9 hs23
  · exact absurd e9 hs24
  · exact absurd e9 hs25
  · exact absurd e9 hs26
  · exact absurd e9 hs27
  · exact absurd e9 hs28
  · exact absurd e9 hs29
  · exact absurd e9 hs30
  · exact absurd e9 hs31
  · exact absurd e9 hs32
  · exact absurd e9 hs33
