abbrev c_K_isSet : ByteArray := prog_1_method_19_code
abbrev y_K_isSet : MethodName := ⟨"LatticeKeys", "isSet", "(I)Z"⟩
abbrev w_K_isSet : List Cond := Cond.code y_K_isSet c_K_isSet 1 (some .boolean) :: WG
theorem dK_isSet_0 : decode c_K_isSet 0 = .ok (.iload_n 0, 1) := by decide +kernel
theorem dK_isSet_1 : decode c_K_isSet 1 = .ok (.ifCond .lt 13, 3) := by decide +kernel
theorem dK_isSet_4 : decode c_K_isSet 4 = .ok (.iload_n 0, 1) := by decide +kernel
theorem dK_isSet_5 : decode c_K_isSet 5 = .ok (.bipush 6, 2) := by decide +kernel
theorem dK_isSet_7 : decode c_K_isSet 7 = .ok (.if_icmp .ge 7, 3) := by decide +kernel
theorem dK_isSet_10 : decode c_K_isSet 10 = .ok (.iconst 1, 1) := by decide +kernel
theorem dK_isSet_11 : decode c_K_isSet 11 = .ok (.goto 4, 3) := by decide +kernel
theorem dK_isSet_14 : decode c_K_isSet 14 = .ok (.iconst 0, 1) := by decide +kernel
theorem dK_isSet_15 : decode c_K_isSet 15 = .ok (.ireturn, 1) := by decide +kernel
abbrev c_K_seedLength : ByteArray := prog_1_method_20_code
abbrev y_K_seedLength : MethodName := ⟨"LatticeKeys", "seedLength", "(I)I"⟩
abbrev w_K_seedLength : List Cond := Cond.code y_K_seedLength c_K_seedLength 1 (some .int) :: WG
theorem dK_seedLength_0 : decode c_K_seedLength 0 = .ok (.iload_n 0, 1) := by decide +kernel
theorem dK_seedLength_1 : decode c_K_seedLength 1 = .ok (.iconst 3, 1) := by decide +kernel
theorem dK_seedLength_2 : decode c_K_seedLength 2 = .ok (.if_icmp .ge 8, 3) := by decide +kernel
theorem dK_seedLength_5 : decode c_K_seedLength 5 = .ok (.bipush 64, 2) := by decide +kernel
theorem dK_seedLength_7 : decode c_K_seedLength 7 = .ok (.goto 5, 3) := by decide +kernel
theorem dK_seedLength_10 : decode c_K_seedLength 10 = .ok (.bipush 32, 2) := by decide +kernel
theorem dK_seedLength_12 : decode c_K_seedLength 12 = .ok (.ireturn, 1) := by decide +kernel
abbrev c_K_find : ByteArray := prog_1_method_27_code
abbrev y_K_find : MethodName := ⟨"LatticeKeys", "find", "(I)LLatticeKeys$KeyPair;"⟩
abbrev w_K_find : List Cond := Cond.code y_K_find c_K_find 2 (Option.some (Jvm.ClassFile.FieldType.object "LatticeKeys$KeyPair")) :: WG
theorem dK_find_0 : decode c_K_find 0 = .ok (.iload_n 1, 1) := by decide +kernel
theorem dK_find_1 : decode c_K_find 1 = .ok (.ifCond .lt 11, 3) := by decide +kernel
theorem dK_find_4 : decode c_K_find 4 = .ok (.iload_n 1, 1) := by decide +kernel
theorem dK_find_5 : decode c_K_find 5 = .ok (.aload_n 0, 1) := by decide +kernel
theorem dK_find_6 : decode c_K_find 6 = .ok (.getfield 29, 3) := by decide +kernel
theorem dK_find_9 : decode c_K_find 9 = .ok (.if_icmp .lt 7, 3) := by decide +kernel
theorem dK_find_12 : decode c_K_find 12 = .ok (.aconst_null, 1) := by decide +kernel
theorem dK_find_13 : decode c_K_find 13 = .ok (.goto 9, 3) := by decide +kernel
theorem dK_find_16 : decode c_K_find 16 = .ok (.aload_n 0, 1) := by decide +kernel
theorem dK_find_17 : decode c_K_find 17 = .ok (.getfield 25, 3) := by decide +kernel
theorem dK_find_20 : decode c_K_find 20 = .ok (.iload_n 1, 1) := by decide +kernel
theorem dK_find_21 : decode c_K_find 21 = .ok (.aaload, 1) := by decide +kernel
theorem dK_find_22 : decode c_K_find 22 = .ok (.areturn, 1) := by decide +kernel
abbrev c_K_findKem : ByteArray := prog_1_method_28_code
abbrev y_K_findKem : MethodName := ⟨"LatticeKeys", "findKem", "(I)LLatticeKeys$KeyPair;"⟩
abbrev w_K_findKem : List Cond := Cond.code y_K_findKem c_K_findKem 3 (Option.some (Jvm.ClassFile.FieldType.object "LatticeKeys$KeyPair")) :: WG
theorem dK_findKem_0 : decode c_K_findKem 0 = .ok (.aload_n 0, 1) := by decide +kernel
theorem dK_findKem_1 : decode c_K_findKem 1 = .ok (.iload_n 1, 1) := by decide +kernel
theorem dK_findKem_2 : decode c_K_findKem 2 = .ok (.invokevirtual 163, 3) := by decide +kernel
theorem dK_findKem_5 : decode c_K_findKem 5 = .ok (.astore_n 2, 1) := by decide +kernel
theorem dK_findKem_6 : decode c_K_findKem 6 = .ok (.aload_n 2, 1) := by decide +kernel
theorem dK_findKem_7 : decode c_K_findKem 7 = .ok (.ifnull 11, 3) := by decide +kernel
theorem dK_findKem_10 : decode c_K_findKem 10 = .ok (.aload_n 2, 1) := by decide +kernel
theorem dK_findKem_11 : decode c_K_findKem 11 = .ok (.getfield 168, 3) := by decide +kernel
theorem dK_findKem_14 : decode c_K_findKem 14 = .ok (.iconst 3, 1) := by decide +kernel
theorem dK_findKem_15 : decode c_K_findKem 15 = .ok (.if_icmp .lt 7, 3) := by decide +kernel
theorem dK_findKem_18 : decode c_K_findKem 18 = .ok (.aconst_null, 1) := by decide +kernel
theorem dK_findKem_19 : decode c_K_findKem 19 = .ok (.goto 4, 3) := by decide +kernel
theorem dK_findKem_22 : decode c_K_findKem 22 = .ok (.aload_n 2, 1) := by decide +kernel
theorem dK_findKem_23 : decode c_K_findKem 23 = .ok (.areturn, 1) := by decide +kernel
abbrev c_K_findDsa : ByteArray := prog_1_method_29_code
abbrev y_K_findDsa : MethodName := ⟨"LatticeKeys", "findDsa", "(I)LLatticeKeys$KeyPair;"⟩
abbrev w_K_findDsa : List Cond := Cond.code y_K_findDsa c_K_findDsa 3 (Option.some (Jvm.ClassFile.FieldType.object "LatticeKeys$KeyPair")) :: WG
theorem dK_findDsa_0 : decode c_K_findDsa 0 = .ok (.aload_n 0, 1) := by decide +kernel
theorem dK_findDsa_1 : decode c_K_findDsa 1 = .ok (.iload_n 1, 1) := by decide +kernel
theorem dK_findDsa_2 : decode c_K_findDsa 2 = .ok (.invokevirtual 163, 3) := by decide +kernel
theorem dK_findDsa_5 : decode c_K_findDsa 5 = .ok (.astore_n 2, 1) := by decide +kernel
theorem dK_findDsa_6 : decode c_K_findDsa 6 = .ok (.aload_n 2, 1) := by decide +kernel
theorem dK_findDsa_7 : decode c_K_findDsa 7 = .ok (.ifnull 11, 3) := by decide +kernel
theorem dK_findDsa_10 : decode c_K_findDsa 10 = .ok (.aload_n 2, 1) := by decide +kernel
theorem dK_findDsa_11 : decode c_K_findDsa 11 = .ok (.getfield 168, 3) := by decide +kernel
theorem dK_findDsa_14 : decode c_K_findDsa 14 = .ok (.iconst 3, 1) := by decide +kernel
theorem dK_findDsa_15 : decode c_K_findDsa 15 = .ok (.if_icmp .ge 7, 3) := by decide +kernel
theorem dK_findDsa_18 : decode c_K_findDsa 18 = .ok (.aconst_null, 1) := by decide +kernel
theorem dK_findDsa_19 : decode c_K_findDsa 19 = .ok (.goto 4, 3) := by decide +kernel
theorem dK_findDsa_22 : decode c_K_findDsa 22 = .ok (.aload_n 2, 1) := by decide +kernel
theorem dK_findDsa_23 : decode c_K_findDsa 23 = .ok (.areturn, 1) := by decide +kernel
abbrev c_K_partOf : ByteArray := prog_1_method_30_code
abbrev y_K_partOf : MethodName := ⟨"LatticeKeys", "partOf", "(IZ)[B"⟩
abbrev w_K_partOf : List Cond := Cond.code y_K_partOf c_K_partOf 4 (Option.some (Jvm.ClassFile.FieldType.array Jvm.ClassFile.FieldType.byte)) :: WG
theorem dK_partOf_0 : decode c_K_partOf 0 = .ok (.aload_n 0, 1) := by decide +kernel
theorem dK_partOf_1 : decode c_K_partOf 1 = .ok (.iload_n 1, 1) := by decide +kernel
theorem dK_partOf_2 : decode c_K_partOf 2 = .ok (.invokevirtual 163, 3) := by decide +kernel
theorem dK_partOf_5 : decode c_K_partOf 5 = .ok (.astore_n 3, 1) := by decide +kernel
theorem dK_partOf_6 : decode c_K_partOf 6 = .ok (.aload_n 3, 1) := by decide +kernel
theorem dK_partOf_7 : decode c_K_partOf 7 = .ok (.ifnonnull 5, 3) := by decide +kernel
theorem dK_partOf_10 : decode c_K_partOf 10 = .ok (.aconst_null, 1) := by decide +kernel
theorem dK_partOf_11 : decode c_K_partOf 11 = .ok (.areturn, 1) := by decide +kernel
theorem dK_partOf_12 : decode c_K_partOf 12 = .ok (.iload_n 2, 1) := by decide +kernel
theorem dK_partOf_13 : decode c_K_partOf 13 = .ok (.ifCond .eq 10, 3) := by decide +kernel
theorem dK_partOf_16 : decode c_K_partOf 16 = .ok (.aload_n 3, 1) := by decide +kernel
theorem dK_partOf_17 : decode c_K_partOf 17 = .ok (.getfield 174, 3) := by decide +kernel
theorem dK_partOf_20 : decode c_K_partOf 20 = .ok (.goto 7, 3) := by decide +kernel
theorem dK_partOf_23 : decode c_K_partOf 23 = .ok (.aload_n 3, 1) := by decide +kernel
theorem dK_partOf_24 : decode c_K_partOf 24 = .ok (.getfield 171, 3) := by decide +kernel
theorem dK_partOf_27 : decode c_K_partOf 27 = .ok (.areturn, 1) := by decide +kernel
theorem int0 {n : Int32} (h : ¬ n < 0) (hn : ¬ n = 0) : ¬ n ≤ nI 0 := fun h2 => hn (by
  have h3 : n ≤ 0 := h2
  rw [Int32.lt_iff_toInt_lt] at h; rw [Int32.le_iff_toInt_le] at h3
  rw [Int32.toInt_zero] at h h3
  exact Int32.toInt_inj.mp (by rw [Int32.toInt_zero]; omega))
set_option maxHeartbeats 400000 in
set_option maxRecDepth 100000 in
theorem m_K_isSet (l : Launch) (g : Gd) (sz : Nat) (v : Int32)  : Met l y_K_isSet w_K_isSet ({ frames := 0, cells := 0, slots := 0, locals := 0 } : Room) (va_Pc [.int v] (pr (en g) g.1 vcl sz [])) (va_Qi (fun (r : Int32) (u : Unit) => r = nI 0 ∨ (r = nI 1 ∧ ∃ j : Nat, j < 6 ∧ v = nI j)) (po g.1 vcl (va_A [] sz) (fun (u : Unit) => [])) (va_A [] sz)) 0 0 (fun _ => False) := by
  refine mc_entry (cc := c_K_isSet) (maxL := 1) (ret := (some .boolean)) (by decide) rfl (Nat.le_of_ble_eq_true rfl) ?_
  intro p e s m args below meth c ls F hr hlk hnm hsz hP hD hE hA hl
  obtain ⟨hx, hb, hml, hown, hts⟩ := id F
  have hK := hE.1
  generalize va_A [] sz = A at hD hE hA ⊢
  have hS : va_S A s.heap s.heap [] := va_S.rf
  have hl : lv_has ls 1 [(0, .int v)] := hl
  refine lv_iload_n hx hb dK_isSet_0 rfl (lv_at hl 0 rfl) ?_
  refine lv_if_lt (tgt := 14) hx hb dK_isSet_1 (by decide) (fun h1 => ?_) (fun h1 => ?_)
  · refine lv_iconst (v := nI 0) hx hb dK_isSet_14 (by decide) ?_
    exact mr_zret hx hb hr hlk rfl hP hD hS () (Or.inl rfl) [] rfl rfl (by omega) (by omega) dK_isSet_15
  · refine lv_iload_n hx hb dK_isSet_4 rfl (lv_at hl 0 rfl) ?_
    refine lv_bipush (v := nI 6) hx hb dK_isSet_5 (by decide) ?_
    refine lv_icmp_ge (tgt := 14) hx hb dK_isSet_7 (by decide) (fun h2 => ?_) (fun h2 => ?_)
    · refine lv_iconst (v := nI 0) hx hb dK_isSet_14 (by decide) ?_
      exact mr_zret hx hb hr hlk rfl hP hD hS () (Or.inl rfl) [] rfl rfl (by omega) (by omega) dK_isSet_15
    · refine lv_iconst (v := nI 1) hx hb dK_isSet_10 (by decide) ?_
      refine lv_goto (tgt := 15) hx hb dK_isSet_11 (by decide) ?_
      exact mr_zret hx hb hr hlk rfl hP hD hS () (Or.inr ⟨rfl, (pk_ix v (n := 6) (by decide)).elim (fun h => absurd h h1) (fun h => h.elim (fun h => absurd h h2) id)⟩) [] rfl rfl (by omega) (by omega) dK_isSet_15
set_option maxHeartbeats 400000 in
set_option maxRecDepth 100000 in
theorem m_K_seedLength (l : Launch) (g : Gd) (sz : Nat) (v : Int32)  : Met l y_K_seedLength w_K_seedLength ({ frames := 0, cells := 0, slots := 0, locals := 0 } : Room) (va_Pc [.int v] (pr (en g) g.1 vcl sz [])) (va_Qi (fun (r : Int32) (u : Unit) => ¬ nI 0 = r) (po g.1 vcl (va_A [] sz) (fun (u : Unit) => [])) (va_A [] sz)) 0 0 (fun _ => False) := by
  refine mc_entry (cc := c_K_seedLength) (maxL := 1) (ret := (some .int)) (by decide) rfl (Nat.le_of_ble_eq_true rfl) ?_
  intro p e s m args below meth c ls F hr hlk hnm hsz hP hD hE hA hl
  obtain ⟨hx, hb, hml, hown, hts⟩ := id F
  have hK := hE.1
  generalize va_A [] sz = A at hD hE hA ⊢
  have hS : va_S A s.heap s.heap [] := va_S.rf
  have hl : lv_has ls 1 [(0, .int v)] := hl
  refine lv_iload_n hx hb dK_seedLength_0 rfl (lv_at hl 0 rfl) ?_
  refine lv_iconst (v := nI 3) hx hb dK_seedLength_1 (by decide) ?_
  refine lv_icmp_ge (tgt := 10) hx hb dK_seedLength_2 (by decide) (fun h1 => ?_) (fun h1 => ?_)
  · refine lv_bipush (v := nI 32) hx hb dK_seedLength_10 (by decide) ?_
    exact mr_iret hx hb hr hlk hP hD hS () (by decide) [] rfl rfl (by omega) (by omega) dK_seedLength_12
  · refine lv_bipush (v := nI 64) hx hb dK_seedLength_5 (by decide) ?_
    refine lv_goto (tgt := 12) hx hb dK_seedLength_7 (by decide) ?_
    exact mr_iret hx hb hr hlk hP hD hS () (by decide) [] rfl rfl (by omega) (by omega) dK_seedLength_12
set_option maxHeartbeats 400000 in
set_option maxRecDepth 100000 in
theorem m_K_find (l : Launch) (g : Gd) (sz : Nat) (h0 : Nat) (u : Nat → Nat) (v : Int32)  : Met l y_K_find w_K_find ({ frames := 0, cells := 0, slots := 0, locals := 0 } : Room) (va_Pc [.ref h0, .int v] (pr (en g) g.1 vcl sz [(h0, .inr (0, [.ref (u 0), .int (nI 0), .ref (u 1), .int (nI 0), .ref (u 12), .int (nI 0), .ref (u 2), .ref (u 3), .ref (u 4), .ref (u 13), .ref (u 14)]))])) (va_Qq (fun (r : Option Nat) (u : Unit) => r = none) (po g.1 vcl (va_A [(h0, .inr (0, [.ref (u 0), .int (nI 0), .ref (u 1), .int (nI 0), .ref (u 12), .int (nI 0), .ref (u 2), .ref (u 3), .ref (u 4), .ref (u 13), .ref (u 14)]))] sz) (fun (u : Unit) => [])) (va_A [(h0, .inr (0, [.ref (u 0), .int (nI 0), .ref (u 1), .int (nI 0), .ref (u 12), .int (nI 0), .ref (u 2), .ref (u 3), .ref (u 4), .ref (u 13), .ref (u 14)]))] sz)) 0 0 (fun _ => False) := by
  refine mc_entry (cc := c_K_find) (maxL := 2) (ret := (Option.some (Jvm.ClassFile.FieldType.object "LatticeKeys$KeyPair"))) (by decide) rfl (Nat.le_of_ble_eq_true rfl) ?_
  intro p e s m args below meth c ls F hr hlk hnm hsz hP hD hE hA hl
  obtain ⟨hx, hb, hml, hown, hts⟩ := id F
  have hK := hE.1
  generalize va_A [(h0, .inr (0, [.ref (u 0), .int (nI 0), .ref (u 1), .int (nI 0), .ref (u 12), .int (nI 0), .ref (u 2), .ref (u 3), .ref (u 4), .ref (u 13), .ref (u 14)]))] sz = A at hD hE hA ⊢
  have hS : va_S A s.heap s.heap [] := va_S.rf
  have hl : lv_has ls 2 [(0, .ref h0), (1, .int v)] := hl
  refine lv_iload_n hx hb dK_find_0 rfl (lv_at hl 1 rfl) ?_
  refine lv_if_lt (tgt := 12) hx hb dK_find_1 (by decide) (fun h1 => ?_) (fun h1 => ?_)
  · refine lv_null hx hb dK_find_12 ?_
    refine lv_goto (tgt := 22) hx hb dK_find_13 (by decide) ?_
    exact mr_nret hx hb hr (Or.inl ⟨_, rfl⟩) hlk hP hD hS () [] rfl rfl (by omega) (by omega) dK_find_22
  · refine lv_iload_n hx hb dK_find_4 rfl (lv_at hl 1 rfl) ?_
    refine lv_aload_n hx hb dK_find_5 rfl (lv_at hl 0 rfl) ?_
    refine va_get (D := g.1) (ci := 0) (C := "LatticeKeys") (T := T_K) (N := 11) hx hb hts (wg_ft i_K) hown hK hP 0 rfl rfl 5 (by decide) (hts _ (wg_t kw_379)) (fun _ h9 => h9) rfl dK_find_6 ?_
    refine lv_icmp_lt (tgt := 16) hx hb dK_find_9 (by decide) (fun h2 => absurd h2 h1) (fun h2 => ?_)
    refine lv_null hx hb dK_find_12 ?_
    refine lv_goto (tgt := 22) hx hb dK_find_13 (by decide) ?_
    exact mr_nret hx hb hr (Or.inl ⟨_, rfl⟩) hlk hP hD hS () [] rfl rfl (by omega) (by omega) dK_find_22
set_option maxHeartbeats 400000 in
set_option maxRecDepth 100000 in
theorem m_K_findKem (l : Launch) (g : Gd) (sz : Nat) (h0 : Nat) (u : Nat → Nat) (v : Int32)  : Met l y_K_findKem w_K_findKem ({ frames := 1, cells := 0, slots := 0, locals := 30 } : Room) (va_Pc [.ref h0, .int v] (pr (en g) g.1 vcl sz [(h0, .inr (0, [.ref (u 0), .int (nI 0), .ref (u 1), .int (nI 0), .ref (u 12), .int (nI 0), .ref (u 2), .ref (u 3), .ref (u 4), .ref (u 13), .ref (u 14)]))])) (va_Qq (fun (r : Option Nat) (u : Unit) => r = none) (po g.1 vcl (va_A [(h0, .inr (0, [.ref (u 0), .int (nI 0), .ref (u 1), .int (nI 0), .ref (u 12), .int (nI 0), .ref (u 2), .ref (u 3), .ref (u 4), .ref (u 13), .ref (u 14)]))] sz) (fun (u : Unit) => [])) (va_A [(h0, .inr (0, [.ref (u 0), .int (nI 0), .ref (u 1), .int (nI 0), .ref (u 12), .int (nI 0), .ref (u 2), .ref (u 3), .ref (u 4), .ref (u 13), .ref (u 14)]))] sz)) 0 0 (fun _ => False) := by
  refine mc_entry (cc := c_K_findKem) (maxL := 3) (ret := (Option.some (Jvm.ClassFile.FieldType.object "LatticeKeys$KeyPair"))) (by decide) rfl (Nat.le_of_ble_eq_true rfl) ?_
  intro p e s m args below meth c ls F hr hlk hnm hsz hP hD hE hA hl
  obtain ⟨hx, hb, hml, hown, hts⟩ := id F
  have hK := hE.1
  generalize va_A [(h0, .inr (0, [.ref (u 0), .int (nI 0), .ref (u 1), .int (nI 0), .ref (u 12), .int (nI 0), .ref (u 2), .ref (u 3), .ref (u 4), .ref (u 13), .ref (u 14)]))] sz = A at hD hE hA ⊢
  have hS : va_S A s.heap s.heap [] := va_S.rf
  have hl : lv_has ls 3 [(0, .ref h0), (1, .int v)] := hl
  refine lv_aload_n hx hb dK_findKem_0 rfl (lv_at hl 0 rfl) ?_
  refine lv_iload_n hx hb dK_findKem_1 rfl (lv_at hl 1 rfl) ?_
  refine mr_n (wc := [(h0, .inr (0, [.ref (u 0), .int (nI 0), .ref (u 1), .int (nI 0), .ref (u 12), .int (nI 0), .ref (u 2), .ref (u 3), .ref (u 4), .ref (u 13), .ref (u 14)]))]) (wr := []) hP hD hS hA [0] [] rfl rfl rfl (by decide) (va_runV (As := [.int v]) (rest := []) F (m_K_find l g _ h0 u v) (cwV 1 hts (wg_app (wg_c kw_1060 (wg_c kw_1062 (wg_c ks_24 (wg_c kw_1 wg_n)))) kw_1063) rfl rfl rfl (by decide +kernel) ⟨by decide, by decide⟩) (pr_V (en_ok g) (q0 := 0) hK hP hD hS hA hE [0] rfl rfl rfl rfl) rfl rfl hl.1 rfl (lv_room (Nat.le_of_ble_eq_true rfl)) dK_findKem_2 ⟨(by decide), (by decide)⟩) (fun u1 H  hP hD hS => ?_)
  have hP : va_P g.1 vcl [] _ := hP
  have hD : va_D _ [] := hD
  refine W.widen (k := 0) (n := 0) (by omega) (by omega) ?_
  refine lv_astore_nN (lv' := [(2, .null), (0, .ref h0), (1, .int v)]) hx hb dK_findKem_5 rfl hl (by decide) rfl (fun ls hl => ?_)
  refine lv_aload_nN hx hb dK_findKem_6 rfl (lv_at hl 0 rfl) ?_
  refine lv_ifnullN (tgt := 18) hx hb dK_findKem_7 (by decide) ?_
  refine lv_null hx hb dK_findKem_18 ?_
  refine lv_goto (tgt := 23) hx hb dK_findKem_19 (by decide) ?_
  exact mr_nret hx hb hr (Or.inl ⟨_, rfl⟩) hlk hP hD hS () [] rfl rfl (by omega) (by omega) dK_findKem_23
set_option maxHeartbeats 400000 in
set_option maxRecDepth 100000 in
theorem m_K_findDsa (l : Launch) (g : Gd) (sz : Nat) (h0 : Nat) (u : Nat → Nat) (v : Int32)  : Met l y_K_findDsa w_K_findDsa ({ frames := 1, cells := 0, slots := 0, locals := 30 } : Room) (va_Pc [.ref h0, .int v] (pr (en g) g.1 vcl sz [(h0, .inr (0, [.ref (u 0), .int (nI 0), .ref (u 1), .int (nI 0), .ref (u 12), .int (nI 0), .ref (u 2), .ref (u 3), .ref (u 4), .ref (u 13), .ref (u 14)]))])) (va_Qq (fun (r : Option Nat) (u : Unit) => r = none) (po g.1 vcl (va_A [(h0, .inr (0, [.ref (u 0), .int (nI 0), .ref (u 1), .int (nI 0), .ref (u 12), .int (nI 0), .ref (u 2), .ref (u 3), .ref (u 4), .ref (u 13), .ref (u 14)]))] sz) (fun (u : Unit) => [])) (va_A [(h0, .inr (0, [.ref (u 0), .int (nI 0), .ref (u 1), .int (nI 0), .ref (u 12), .int (nI 0), .ref (u 2), .ref (u 3), .ref (u 4), .ref (u 13), .ref (u 14)]))] sz)) 0 0 (fun _ => False) := by
  refine mc_entry (cc := c_K_findDsa) (maxL := 3) (ret := (Option.some (Jvm.ClassFile.FieldType.object "LatticeKeys$KeyPair"))) (by decide) rfl (Nat.le_of_ble_eq_true rfl) ?_
  intro p e s m args below meth c ls F hr hlk hnm hsz hP hD hE hA hl
  obtain ⟨hx, hb, hml, hown, hts⟩ := id F
  have hK := hE.1
  generalize va_A [(h0, .inr (0, [.ref (u 0), .int (nI 0), .ref (u 1), .int (nI 0), .ref (u 12), .int (nI 0), .ref (u 2), .ref (u 3), .ref (u 4), .ref (u 13), .ref (u 14)]))] sz = A at hD hE hA ⊢
  have hS : va_S A s.heap s.heap [] := va_S.rf
  have hl : lv_has ls 3 [(0, .ref h0), (1, .int v)] := hl
  refine lv_aload_n hx hb dK_findDsa_0 rfl (lv_at hl 0 rfl) ?_
  refine lv_iload_n hx hb dK_findDsa_1 rfl (lv_at hl 1 rfl) ?_
  refine mr_n (wc := [(h0, .inr (0, [.ref (u 0), .int (nI 0), .ref (u 1), .int (nI 0), .ref (u 12), .int (nI 0), .ref (u 2), .ref (u 3), .ref (u 4), .ref (u 13), .ref (u 14)]))]) (wr := []) hP hD hS hA [0] [] rfl rfl rfl (by decide) (va_runV (As := [.int v]) (rest := []) F (m_K_find l g _ h0 u v) (cwV 1 hts (wg_app (wg_c kw_1060 (wg_c kw_1062 (wg_c ks_24 (wg_c kw_1 wg_n)))) kw_1063) rfl rfl rfl (by decide +kernel) ⟨by decide, by decide⟩) (pr_V (en_ok g) (q0 := 0) hK hP hD hS hA hE [0] rfl rfl rfl rfl) rfl rfl hl.1 rfl (lv_room (Nat.le_of_ble_eq_true rfl)) dK_findDsa_2 ⟨(by decide), (by decide)⟩) (fun u1 H  hP hD hS => ?_)
  have hP : va_P g.1 vcl [] _ := hP
  have hD : va_D _ [] := hD
  refine W.widen (k := 0) (n := 0) (by omega) (by omega) ?_
  refine lv_astore_nN (lv' := [(2, .null), (0, .ref h0), (1, .int v)]) hx hb dK_findDsa_5 rfl hl (by decide) rfl (fun ls hl => ?_)
  refine lv_aload_nN hx hb dK_findDsa_6 rfl (lv_at hl 0 rfl) ?_
  refine lv_ifnullN (tgt := 18) hx hb dK_findDsa_7 (by decide) ?_
  refine lv_null hx hb dK_findDsa_18 ?_
  refine lv_goto (tgt := 23) hx hb dK_findDsa_19 (by decide) ?_
  exact mr_nret hx hb hr (Or.inl ⟨_, rfl⟩) hlk hP hD hS () [] rfl rfl (by omega) (by omega) dK_findDsa_23
set_option maxHeartbeats 400000 in
set_option maxRecDepth 100000 in
theorem m_K_partOf (l : Launch) (g : Gd) (sz : Nat) (h0 : Nat) (u : Nat → Nat) (v v2 : Int32)  : Met l y_K_partOf w_K_partOf ({ frames := 1, cells := 0, slots := 0, locals := 30 } : Room) (va_Pc [.ref h0, .int v, .int v2] (pr (en g) g.1 vcl sz [(h0, .inr (0, [.ref (u 0), .int (nI 0), .ref (u 1), .int (nI 0), .ref (u 12), .int (nI 0), .ref (u 2), .ref (u 3), .ref (u 4), .ref (u 13), .ref (u 14)]))])) (va_Qq (fun (r : Option Nat) (u : Unit) => r = none) (po g.1 vcl (va_A [(h0, .inr (0, [.ref (u 0), .int (nI 0), .ref (u 1), .int (nI 0), .ref (u 12), .int (nI 0), .ref (u 2), .ref (u 3), .ref (u 4), .ref (u 13), .ref (u 14)]))] sz) (fun (u : Unit) => [])) (va_A [(h0, .inr (0, [.ref (u 0), .int (nI 0), .ref (u 1), .int (nI 0), .ref (u 12), .int (nI 0), .ref (u 2), .ref (u 3), .ref (u 4), .ref (u 13), .ref (u 14)]))] sz)) 0 0 (fun _ => False) := by
  refine mc_entry (cc := c_K_partOf) (maxL := 4) (ret := (Option.some (Jvm.ClassFile.FieldType.array Jvm.ClassFile.FieldType.byte))) (by decide) rfl (Nat.le_of_ble_eq_true rfl) ?_
  intro p e s m args below meth c ls F hr hlk hnm hsz hP hD hE hA hl
  obtain ⟨hx, hb, hml, hown, hts⟩ := id F
  have hK := hE.1
  generalize va_A [(h0, .inr (0, [.ref (u 0), .int (nI 0), .ref (u 1), .int (nI 0), .ref (u 12), .int (nI 0), .ref (u 2), .ref (u 3), .ref (u 4), .ref (u 13), .ref (u 14)]))] sz = A at hD hE hA ⊢
  have hS : va_S A s.heap s.heap [] := va_S.rf
  have hl : lv_has ls 4 [(0, .ref h0), (1, .int v), (2, .int v2)] := hl
  refine lv_aload_n hx hb dK_partOf_0 rfl (lv_at hl 0 rfl) ?_
  refine lv_iload_n hx hb dK_partOf_1 rfl (lv_at hl 1 rfl) ?_
  refine mr_n (wc := [(h0, .inr (0, [.ref (u 0), .int (nI 0), .ref (u 1), .int (nI 0), .ref (u 12), .int (nI 0), .ref (u 2), .ref (u 3), .ref (u 4), .ref (u 13), .ref (u 14)]))]) (wr := []) hP hD hS hA [0] [] rfl rfl rfl (by decide) (va_runV (As := [.int v]) (rest := []) F (m_K_find l g _ h0 u v) (cwV 1 hts (wg_app (wg_c kw_1060 (wg_c kw_1062 (wg_c ks_24 (wg_c kw_1 wg_n)))) kw_1063) rfl rfl rfl (by decide +kernel) ⟨by decide, by decide⟩) (pr_V (en_ok g) (q0 := 0) hK hP hD hS hA hE [0] rfl rfl rfl rfl) rfl rfl hl.1 rfl (lv_room (Nat.le_of_ble_eq_true rfl)) dK_partOf_2 ⟨(by decide), (by decide)⟩) (fun u1 H  hP hD hS => ?_)
  have hP : va_P g.1 vcl [] _ := hP
  have hD : va_D _ [] := hD
  refine W.widen (k := 0) (n := 0) (by omega) (by omega) ?_
  refine lv_astore_nN (lv' := [(3, .null), (0, .ref h0), (1, .int v), (2, .int v2)]) hx hb dK_partOf_5 rfl hl (by decide) rfl (fun ls hl => ?_)
  refine lv_aload_nN hx hb dK_partOf_6 rfl (lv_at hl 0 rfl) ?_
  refine lv_ifnonnullN hx hb dK_partOf_7 ?_
  refine lv_null hx hb dK_partOf_10 ?_
  exact mr_nret hx hb hr (Or.inr ⟨_, rfl⟩) hlk hP hD hS () [] rfl rfl (by omega) (by omega) dK_partOf_11
