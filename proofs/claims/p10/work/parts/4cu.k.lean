set_option linter.all false
abbrev c_AR_copyOf : ByteArray := prog_33_method_121_code
abbrev y_AR_copyOf : MethodName := ⟨"java/util/Arrays", "copyOf", "([BI)[B"⟩
abbrev w_AR_copyOf : List Cond := Cond.code y_AR_copyOf c_AR_copyOf 3 (Option.some (Jvm.ClassFile.FieldType.array Jvm.ClassFile.FieldType.byte)) :: WG
theorem dAR_copyOf_0 : decode c_AR_copyOf 0 = .ok (.iload_n 1, 1) := by decide +kernel
theorem dAR_copyOf_1 : decode c_AR_copyOf 1 = .ok (.aload_n 0, 1) := by decide +kernel
theorem dAR_copyOf_2 : decode c_AR_copyOf 2 = .ok (.arraylength, 1) := by decide +kernel
theorem dAR_copyOf_3 : decode c_AR_copyOf 3 = .ok (.if_icmp .ne 11, 3) := by decide +kernel
theorem dAR_copyOf_6 : decode c_AR_copyOf 6 = .ok (.aload_n 0, 1) := by decide +kernel
theorem dAR_copyOf_7 : decode c_AR_copyOf 7 = .ok (.invokevirtual 310, 3) := by decide +kernel
theorem dAR_copyOf_10 : decode c_AR_copyOf 10 = .ok (.checkcast 311, 3) := by decide +kernel
theorem dAR_copyOf_13 : decode c_AR_copyOf 13 = .ok (.areturn, 1) := by decide +kernel
theorem dAR_copyOf_14 : decode c_AR_copyOf 14 = .ok (.iload_n 1, 1) := by decide +kernel
theorem dAR_copyOf_15 : decode c_AR_copyOf 15 = .ok (.newarray .byte, 2) := by decide +kernel
theorem dAR_copyOf_17 : decode c_AR_copyOf 17 = .ok (.astore_n 2, 1) := by decide +kernel
theorem dAR_copyOf_18 : decode c_AR_copyOf 18 = .ok (.aload_n 0, 1) := by decide +kernel
theorem dAR_copyOf_19 : decode c_AR_copyOf 19 = .ok (.iconst 0, 1) := by decide +kernel
theorem dAR_copyOf_20 : decode c_AR_copyOf 20 = .ok (.aload_n 2, 1) := by decide +kernel
theorem dAR_copyOf_21 : decode c_AR_copyOf 21 = .ok (.iconst 0, 1) := by decide +kernel
theorem dAR_copyOf_22 : decode c_AR_copyOf 22 = .ok (.aload_n 0, 1) := by decide +kernel
theorem dAR_copyOf_23 : decode c_AR_copyOf 23 = .ok (.arraylength, 1) := by decide +kernel
theorem dAR_copyOf_24 : decode c_AR_copyOf 24 = .ok (.iload_n 1, 1) := by decide +kernel
theorem dAR_copyOf_25 : decode c_AR_copyOf 25 = .ok (.invokestatic 304, 3) := by decide +kernel
theorem dAR_copyOf_28 : decode c_AR_copyOf 28 = .ok (.invokestatic 150, 3) := by decide +kernel
theorem dAR_copyOf_31 : decode c_AR_copyOf 31 = .ok (.aload_n 2, 1) := by decide +kernel
theorem dAR_copyOf_32 : decode c_AR_copyOf 32 = .ok (.areturn, 1) := by decide +kernel
abbrev c_AR_checkLength : ByteArray := prog_33_method_131_code
abbrev y_AR_checkLength : MethodName := ⟨"java/util/Arrays", "checkLength", "(II)V"⟩
abbrev w_AR_checkLength : List Cond := Cond.code y_AR_checkLength c_AR_checkLength 2 none :: WG
theorem dAR_checkLength_0 : decode c_AR_checkLength 0 = .ok (.iload_n 1, 1) := by decide +kernel
theorem dAR_checkLength_1 : decode c_AR_checkLength 1 = .ok (.iload_n 0, 1) := by decide +kernel
theorem dAR_checkLength_2 : decode c_AR_checkLength 2 = .ok (.if_icmp .ge 35, 3) := by decide +kernel
theorem dAR_checkLength_5 : decode c_AR_checkLength 5 = .ok (.new 43, 3) := by decide +kernel
theorem dAR_checkLength_8 : decode c_AR_checkLength 8 = .ok (.dup, 1) := by decide +kernel
theorem dAR_checkLength_9 : decode c_AR_checkLength 9 = .ok (.new 45, 3) := by decide +kernel
theorem dAR_checkLength_12 : decode c_AR_checkLength 12 = .ok (.dup, 1) := by decide +kernel
theorem dAR_checkLength_13 : decode c_AR_checkLength 13 = .ok (.invokespecial 47, 3) := by decide +kernel
theorem dAR_checkLength_16 : decode c_AR_checkLength 16 = .ok (.iload_n 0, 1) := by decide +kernel
theorem dAR_checkLength_17 : decode c_AR_checkLength 17 = .ok (.invokevirtual 54, 3) := by decide +kernel
theorem dAR_checkLength_20 : decode c_AR_checkLength 20 = .ok (.ldc_w 337, 3) := by decide +kernel
theorem dAR_checkLength_23 : decode c_AR_checkLength 23 = .ok (.invokevirtual 50, 3) := by decide +kernel
theorem dAR_checkLength_26 : decode c_AR_checkLength 26 = .ok (.iload_n 1, 1) := by decide +kernel
theorem dAR_checkLength_27 : decode c_AR_checkLength 27 = .ok (.invokevirtual 54, 3) := by decide +kernel
theorem dAR_checkLength_30 : decode c_AR_checkLength 30 = .ok (.invokevirtual 61, 3) := by decide +kernel
theorem dAR_checkLength_33 : decode c_AR_checkLength 33 = .ok (.invokespecial 65, 3) := by decide +kernel
theorem dAR_checkLength_36 : decode c_AR_checkLength 36 = .ok (.athrow, 1) := by decide +kernel
theorem dAR_checkLength_37 : decode c_AR_checkLength 37 = .ok (.return_, 1) := by decide +kernel
abbrev c_AR_copyOfRangeByte : ByteArray := prog_33_method_133_code
abbrev y_AR_copyOfRangeByte : MethodName := ⟨"java/util/Arrays", "copyOfRangeByte", "([BII)[B"⟩
abbrev w_AR_copyOfRangeByte : List Cond := Cond.code y_AR_copyOfRangeByte c_AR_copyOfRangeByte 5 (Option.some (Jvm.ClassFile.FieldType.array Jvm.ClassFile.FieldType.byte)) :: WG
theorem dAR_copyOfRangeByte_0 : decode c_AR_copyOfRangeByte 0 = .ok (.iload_n 1, 1) := by decide +kernel
theorem dAR_copyOfRangeByte_1 : decode c_AR_copyOfRangeByte 1 = .ok (.iload_n 2, 1) := by decide +kernel
theorem dAR_copyOfRangeByte_2 : decode c_AR_copyOfRangeByte 2 = .ok (.invokestatic 343, 3) := by decide +kernel
theorem dAR_copyOfRangeByte_5 : decode c_AR_copyOfRangeByte 5 = .ok (.iload_n 2, 1) := by decide +kernel
theorem dAR_copyOfRangeByte_6 : decode c_AR_copyOfRangeByte 6 = .ok (.iload_n 1, 1) := by decide +kernel
theorem dAR_copyOfRangeByte_7 : decode c_AR_copyOfRangeByte 7 = .ok (.isub, 1) := by decide +kernel
theorem dAR_copyOfRangeByte_8 : decode c_AR_copyOfRangeByte 8 = .ok (.istore_n 3, 1) := by decide +kernel
theorem dAR_copyOfRangeByte_9 : decode c_AR_copyOfRangeByte 9 = .ok (.iload_n 3, 1) := by decide +kernel
theorem dAR_copyOfRangeByte_10 : decode c_AR_copyOfRangeByte 10 = .ok (.newarray .byte, 2) := by decide +kernel
theorem dAR_copyOfRangeByte_12 : decode c_AR_copyOfRangeByte 12 = .ok (.astore 4, 2) := by decide +kernel
theorem dAR_copyOfRangeByte_14 : decode c_AR_copyOfRangeByte 14 = .ok (.aload_n 0, 1) := by decide +kernel
theorem dAR_copyOfRangeByte_15 : decode c_AR_copyOfRangeByte 15 = .ok (.iload_n 1, 1) := by decide +kernel
theorem dAR_copyOfRangeByte_16 : decode c_AR_copyOfRangeByte 16 = .ok (.aload 4, 2) := by decide +kernel
theorem dAR_copyOfRangeByte_18 : decode c_AR_copyOfRangeByte 18 = .ok (.iconst 0, 1) := by decide +kernel
theorem dAR_copyOfRangeByte_19 : decode c_AR_copyOfRangeByte 19 = .ok (.aload_n 0, 1) := by decide +kernel
theorem dAR_copyOfRangeByte_20 : decode c_AR_copyOfRangeByte 20 = .ok (.arraylength, 1) := by decide +kernel
theorem dAR_copyOfRangeByte_21 : decode c_AR_copyOfRangeByte 21 = .ok (.iload_n 1, 1) := by decide +kernel
theorem dAR_copyOfRangeByte_22 : decode c_AR_copyOfRangeByte 22 = .ok (.isub, 1) := by decide +kernel
theorem dAR_copyOfRangeByte_23 : decode c_AR_copyOfRangeByte 23 = .ok (.iload_n 3, 1) := by decide +kernel
theorem dAR_copyOfRangeByte_24 : decode c_AR_copyOfRangeByte 24 = .ok (.invokestatic 304, 3) := by decide +kernel
theorem dAR_copyOfRangeByte_27 : decode c_AR_copyOfRangeByte 27 = .ok (.invokestatic 150, 3) := by decide +kernel
theorem dAR_copyOfRangeByte_30 : decode c_AR_copyOfRangeByte 30 = .ok (.aload 4, 2) := by decide +kernel
theorem dAR_copyOfRangeByte_32 : decode c_AR_copyOfRangeByte 32 = .ok (.areturn, 1) := by decide +kernel
abbrev c_AR_copyOfRange : ByteArray := prog_33_method_132_code
abbrev y_AR_copyOfRange : MethodName := ⟨"java/util/Arrays", "copyOfRange", "([BII)[B"⟩
abbrev w_AR_copyOfRange : List Cond := Cond.code y_AR_copyOfRange c_AR_copyOfRange 3 (Option.some (Jvm.ClassFile.FieldType.array Jvm.ClassFile.FieldType.byte)) :: WG
theorem dAR_copyOfRange_0 : decode c_AR_copyOfRange 0 = .ok (.iload_n 1, 1) := by decide +kernel
theorem dAR_copyOfRange_1 : decode c_AR_copyOfRange 1 = .ok (.ifCond .ne 9, 3) := by decide +kernel
theorem dAR_copyOfRange_4 : decode c_AR_copyOfRange 4 = .ok (.iload_n 2, 1) := by decide +kernel
theorem dAR_copyOfRange_5 : decode c_AR_copyOfRange 5 = .ok (.aload_n 0, 1) := by decide +kernel
theorem dAR_copyOfRange_6 : decode c_AR_copyOfRange 6 = .ok (.arraylength, 1) := by decide +kernel
theorem dAR_copyOfRange_7 : decode c_AR_copyOfRange 7 = .ok (.if_icmp .eq 10, 3) := by decide +kernel
theorem dAR_copyOfRange_10 : decode c_AR_copyOfRange 10 = .ok (.aload_n 0, 1) := by decide +kernel
theorem dAR_copyOfRange_11 : decode c_AR_copyOfRange 11 = .ok (.iload_n 1, 1) := by decide +kernel
theorem dAR_copyOfRange_12 : decode c_AR_copyOfRange 12 = .ok (.iload_n 2, 1) := by decide +kernel
theorem dAR_copyOfRange_13 : decode c_AR_copyOfRange 13 = .ok (.invokestatic 339, 3) := by decide +kernel
theorem dAR_copyOfRange_16 : decode c_AR_copyOfRange 16 = .ok (.areturn, 1) := by decide +kernel
theorem dAR_copyOfRange_17 : decode c_AR_copyOfRange 17 = .ok (.aload_n 0, 1) := by decide +kernel
theorem dAR_copyOfRange_18 : decode c_AR_copyOfRange 18 = .ok (.invokevirtual 310, 3) := by decide +kernel
theorem dAR_copyOfRange_21 : decode c_AR_copyOfRange 21 = .ok (.checkcast 311, 3) := by decide +kernel
theorem dAR_copyOfRange_24 : decode c_AR_copyOfRange 24 = .ok (.areturn, 1) := by decide +kernel
def M_AR_copyOf (nk : Nat) (k : Nat) : Prop := k = nk ∨ (0 : Nat) = 1
noncomputable def F_AR_copyOf (nl : Nat) (nk : Nat) (s : Sto) : Sto := bnd (sZ s nk) fun s21 => bnd (sC s21 1 nk 0 0 (min 16384 nl)) fun s22 => s22
set_option maxHeartbeats 400000 in
set_option maxRecDepth 100000 in
theorem N_AR_copyOf (l : Launch) (g : Gd) (sz : Nat) (T : TyN) (s : Sto) (pl : va_W) (hO : okn g T s pl) (hU : inj T) (nk : Nat) (f : Nat) (nl : Nat) (k_f : T f = some 1) (h1 : nl < 16384) (h3 : nl ≤ 4896) (n_nk : nsp nk = (1, nl, [])) (hfr : frT T nk) (hnk : 1 < nk)  : Met l y_AR_copyOf w_AR_copyOf ({ frames := 1, cells := 1, slots := 4896, locals := 60 } : Room) (va_Pc [.ref f, .int (nI nl)] (pr (en g) g.1 vcl sz ([] ++ pl))) (va_Qq (fun (r : Option Nat) (u : (Sto × TyN) × va_W) => (u.1.1 = F_AR_copyOf nl nk s ∧ (∃ q, r = some q ∧ u.1.2 q = some nk) ∧ frm (M_AR_copyOf nk) s u.1.1 ∧ extN T u.1.2 ∧ inj u.1.2 ∧ (∀ k' : Nat, k' ≠ nk → frT T k' → frT u.1.2 k') ∧ (∀ b : Nat, nk < b → lowT T b → lowT u.1.2 b)) ∧ okn g u.1.2 u.1.1 u.2) (po g.1 vcl (va_A ([] ++ pl) sz) (fun (u : (Sto × TyN) × va_W) => [] ++ u.2)) (va_A ([] ++ pl) sz)) 1 4896 (va_A ([] ++ pl) sz) := by
  refine mc_entry (cc := c_AR_copyOf) (maxL := 3) (ret := (Option.some (Jvm.ClassFile.FieldType.array Jvm.ClassFile.FieldType.byte))) (by decide) rfl (Nat.le_of_ble_eq_true rfl) ?_
  intro p e s0 m args below meth c ls F hr hlk hnm hsz hP hD hE hA hl
  obtain ⟨hx, hb, hml, hown, hts⟩ := id F
  have hK := hE.1
  generalize va_A ([] ++ pl) sz = A at hD hE hA ⊢
  have hS : va_S A s0.heap s0.heap [] := va_S.rf
  have hl : lv_has ls 3 [(0, .ref f), (1, .int (nI nl))] := hl
  have hR : F_AR_copyOf nl nk s = F_AR_copyOf nl nk s := rfl
  have hF : frm (M_AR_copyOf nk) s s := frm_rf
  have hXT : extN T T := extN_rf
  refine lv_iload_n hx hb dAR_copyOf_0 rfl (lv_at hl 1 rfl) ?_
  refine lv_aload_n hx hb dAR_copyOf_1 rfl (lv_at hl 0 rfl) ?_
  refine nw_alen1 hx hb hK hO k_f (k := 1) rfl hP dAR_copyOf_2 ?_
  refine mi_ne (tgt := 14) hx hb dAR_copyOf_3 (by decide) (by omega) (by omega) (fun h21 => ?_) (fun h21 => absurd h21 (by omega))
  refine lv_iload_n hx hb dAR_copyOf_14 rfl (lv_at hl 1 rfl) ?_
  refine ma_newa (ws := [] ++ pl) (atype := .byte) hx hb (hts _ (wg_t kw_72)) rfl hK hP hD hS hA 1 rfl (N' := nl) (a0 := (nl, .inl (fun _ => 0))) (fun _ => rfl) (nI_pos (by omega)) (nI_clamp (by omega)) (by show (nl) * 1 ≤ 536870912; omega) (Nat.le_of_ble_eq_true rfl) (by show 0 + (nl) ≤ 4896; omega) dAR_copyOf_15 (fun q21 H hP hD hS => ?_)
  refine W.widen (k := 1) (n := 4896) (by omega) (by omega) ?_
  obtain ⟨T, pl, hxt21, hU, kr21, hO, hP, hD, hnf21, hnl21⟩ := absorbN (sZ s nk) nk hP hD hO hU hfr (fun _ h9 => uA_ne h9) (fun _ _ => rfl) (fun _ _ _ => fitZ n_nk)
  have kr22 := hxt21 _ _ k_f
  have hXT := extN_tr hXT hxt21
  obtain ⟨s21, es21⟩ : ∃ x : Sto, x = sZ s nk := ⟨_, rfl⟩
  rw [← es21] at hO
  replace hR := bnd_step hR es21
  have hF := frm_sZ hF es21 (by unfold M_AR_copyOf; omega)
  refine lv_astore_n (lv' := [(2, .ref q21), (0, .ref f), (1, .int (nI nl))]) hx hb dAR_copyOf_17 rfl hl (by decide) rfl (fun ls hl => ?_)
  refine lv_aload_n hx hb dAR_copyOf_18 rfl (lv_at hl 1 rfl) ?_
  refine lv_iconst (v := nI 0) hx hb dAR_copyOf_19 (by decide) ?_
  refine lv_aload_n hx hb dAR_copyOf_20 rfl (lv_at hl 0 rfl) ?_
  refine lv_iconst (v := nI 0) hx hb dAR_copyOf_21 (by decide) ?_
  refine lv_aload_n hx hb dAR_copyOf_22 rfl (lv_at hl 1 rfl) ?_
  refine nw_alen1 hx hb hK hO kr22 (k := 1) rfl hP dAR_copyOf_23 ?_
  refine lv_iload_n hx hb dAR_copyOf_24 rfl (lv_at hl 2 rfl) ?_
  refine va_mmin (own := "java/util/Arrays") (index := 304) hx hb (hml.trans hl.1.symm) hown (hts _ (wg_t kw_889)) (hts _ (wg_t kw_890)) (hts _ (wg_t kw_31)) (hts _ (wg_t kw_891)) (Nat.le_of_ble_eq_true rfl) (Nat.le_of_ble_eq_true rfl) (Nat.le_of_ble_eq_true rfl) (Nat.le_of_ble_eq_true rfl) dAR_copyOf_25 ?_
  refine mi_as (mi_min 16384 nl (by omega) (by omega)) ?_
  refine nw_copyb hx hb (hml.trans hl.1.symm) hown (hts _ (wg_t kw_892)) (hts _ (wg_t kw_526)) (hts _ (wg_t kw_525)) (hts _ (wg_t kw_19)) hK hO hU kr22 (k0 := 1) rfl kr21 (k1 := nk) n_nk hP hD hS (sp := 0) (dp := 0) (n := (min 16384 nl)) (by omega) (by omega) (by omega) (by decide) (Nat.le_of_ble_eq_true rfl) dAR_copyOf_28 (fun s22 pl H locs es22 hO hP hD hS => ?_)
  replace hR := bnd_step hR es22
  have hF := frm_sC hF es22 (by unfold M_AR_copyOf; omega)
  refine lv_aload_n hx hb dAR_copyOf_31 rfl (lv_at hl 0 rfl) ?_
  exact mp_qret (v := some q21) hx hb hr (Or.inr ⟨_, rfl⟩) hlk hP hD hS ((s22, T), pl) ⟨⟨hR.symm, ⟨_, rfl, kr21⟩, hF, hXT, hU, hnf21, hnl21⟩, hO⟩ [] rfl rfl rfl (by omega) (by omega) dAR_copyOf_32
def M_AR_checkLength (k : Nat) : Prop := (0 : Nat) = 1
noncomputable def F_AR_checkLength (v : Nat) (v2 : Nat) (s : Sto) : Sto := s
set_option maxHeartbeats 400000 in
set_option maxRecDepth 100000 in
theorem N_AR_checkLength (l : Launch) (g : Gd) (sz : Nat) (T : TyN) (s : Sto) (pl : va_W) (hO : okn g T s pl) (hU : inj T) (v : Nat) (v2 : Nat)  (h1 : v ≤ v2) (h2 : v2 < 65536)  : Met l y_AR_checkLength w_AR_checkLength ({ frames := 0, cells := 0, slots := 0, locals := 0 } : Room) (va_Pc [.int (nI v), .int (nI v2)] (pr (en g) g.1 vcl sz ([] ++ pl))) (va_Qv (fun (u : (Sto) × va_W) => (u.1 = F_AR_checkLength v v2 s ∧ frm (M_AR_checkLength) s u.1 ∧ True) ∧ okn g T u.1 u.2) (po g.1 vcl (va_A ([] ++ pl) sz) (fun (u : (Sto) × va_W) => [] ++ u.2)) (va_A ([] ++ pl) sz)) 0 0 (va_A ([] ++ pl) sz) := by
  refine mc_entry (cc := c_AR_checkLength) (maxL := 2) (ret := none) (by decide) rfl (Nat.le_of_ble_eq_true rfl) ?_
  intro p e s0 m args below meth c ls F hr hlk hnm hsz hP hD hE hA hl
  obtain ⟨hx, hb, hml, hown, hts⟩ := id F
  have hK := hE.1
  generalize va_A ([] ++ pl) sz = A at hD hE hA ⊢
  have hS : va_S A s0.heap s0.heap [] := va_S.rf
  have hl : lv_has ls 2 [(0, .int (nI v)), (1, .int (nI v2))] := hl
  have hR : F_AR_checkLength v v2 s = F_AR_checkLength v v2 s := rfl
  have hF : frm (M_AR_checkLength) s s := frm_rf
  refine lv_iload_n hx hb dAR_checkLength_0 rfl (lv_at hl 1 rfl) ?_
  refine lv_iload_n hx hb dAR_checkLength_1 rfl (lv_at hl 0 rfl) ?_
  refine mi_ge (tgt := 37) hx hb dAR_checkLength_2 (by decide) (by omega) (by omega) (fun h21 => ?_) (fun h21 => absurd h21 (by omega))
  exact mp_vret hx hb hr hlk hP hD hS (s, pl) ⟨⟨hR.symm, hF, trivial⟩, hO⟩ [] rfl rfl rfl (by omega) (by omega) dAR_checkLength_37
def M_AR_copyOfRangeByte (nk : Nat) (k : Nat) : Prop := k = nk ∨ (0 : Nat) = 1
noncomputable def F_AR_copyOfRangeByte (fr : Nat) (to : Nat) (nk : Nat) (s : Sto) : Sto := bnd (F_AR_checkLength fr to s) fun s21 => bnd (sZ s21 nk) fun s22 => bnd (sC s22 1 nk fr 0 (min (16384 - fr) (to - fr))) fun s23 => s23
set_option maxHeartbeats 400000 in
set_option maxRecDepth 100000 in
theorem N_AR_copyOfRangeByte (l : Launch) (g : Gd) (sz : Nat) (T : TyN) (s : Sto) (pl : va_W) (hO : okn g T s pl) (hU : inj T) (nk : Nat) (f : Nat) (fr : Nat) (to : Nat) (k_f : T f = some 1) (h0_ : fr ≤ to) (h1 : to ≤ 16384) (h3 : to - fr ≤ 2592) (n_nk : nsp nk = (1, to - fr, [])) (hfr : frT T nk) (hnk : 1 < nk)  : Met l y_AR_copyOfRangeByte w_AR_copyOfRangeByte ({ frames := 1, cells := 1, slots := 2592, locals := 60 } : Room) (va_Pc [.ref f, .int (nI fr), .int (nI to)] (pr (en g) g.1 vcl sz ([] ++ pl))) (va_Qq (fun (r : Option Nat) (u : (Sto × TyN) × va_W) => (u.1.1 = F_AR_copyOfRangeByte fr to nk s ∧ (∃ q, r = some q ∧ u.1.2 q = some nk) ∧ frm (M_AR_copyOfRangeByte nk) s u.1.1 ∧ extN T u.1.2 ∧ inj u.1.2 ∧ (∀ k' : Nat, k' ≠ nk → frT T k' → frT u.1.2 k') ∧ (∀ b : Nat, nk < b → lowT T b → lowT u.1.2 b)) ∧ okn g u.1.2 u.1.1 u.2) (po g.1 vcl (va_A ([] ++ pl) sz) (fun (u : (Sto × TyN) × va_W) => [] ++ u.2)) (va_A ([] ++ pl) sz)) 1 2592 (va_A ([] ++ pl) sz) := by
  refine mc_entry (cc := c_AR_copyOfRangeByte) (maxL := 5) (ret := (Option.some (Jvm.ClassFile.FieldType.array Jvm.ClassFile.FieldType.byte))) (by decide) rfl (Nat.le_of_ble_eq_true rfl) ?_
  intro p e s0 m args below meth c ls F hr hlk hnm hsz hP hD hE hA hl
  obtain ⟨hx, hb, hml, hown, hts⟩ := id F
  have hK := hE.1
  generalize va_A ([] ++ pl) sz = A at hD hE hA ⊢
  have hS : va_S A s0.heap s0.heap [] := va_S.rf
  have hl : lv_has ls 5 [(0, .ref f), (1, .int (nI fr)), (2, .int (nI to))] := hl
  have hR : F_AR_copyOfRangeByte fr to nk s = F_AR_copyOfRangeByte fr to nk s := rfl
  have hF : frm (M_AR_copyOfRangeByte nk) s s := frm_rf
  have hXT : extN T T := extN_rf
  refine lv_iload_n hx hb dAR_copyOfRangeByte_0 rfl (lv_at hl 1 rfl) ?_
  refine lv_iload_n hx hb dAR_copyOfRangeByte_1 rfl (lv_at hl 2 rfl) ?_
  refine mp_v (cx := []) (wr := []) hP hD hS hA [] [] rfl rfl rfl (by decide) (va_runS (As := [.int (nI fr), .int (nI to)]) (rest := []) F (N_AR_checkLength l g _ T s pl hO hU fr to (by omega) (by omega)) (va_cwS 2 hts (wg_app (wg_c kw_815 (wg_c kw_816 (wg_c kw_21 wg_n))) kw_817) rfl rfl rfl (by decide +kernel) ⟨by decide, by decide⟩) (pp_S (en_ok g) hP hD hS hA hE [] rfl rfl) rfl rfl hl.1 rfl (lv_room (Nat.le_of_ble_eq_true rfl)) dAR_copyOfRangeByte_2 ⟨Nat.le_of_ble_eq_true rfl, Nat.le_of_ble_eq_true rfl⟩) (fun  u21 H locs hu21 hP hD hS => ?_)
  obtain ⟨s21, pl⟩ := u21
  obtain ⟨⟨eq21, hFc21, -⟩, hO⟩ := hu21
  have hO : okn g T s21 pl := hO
  have hP : va_P g.1 vcl ([] ++ pl) _ := hP
  have hD : va_D _ ([] ++ pl) := hD
  have hFc21 : frm (M_AR_checkLength) s s21 := hFc21
  replace hR := bnd_step hR eq21
  have hF := frm_tr hF hFc21 (fun k hk => by unfold M_AR_checkLength at hk; unfold M_AR_copyOfRangeByte; omega)
  refine W.widen (k := 0) (n := 0) (by omega) (by omega) ?_
  refine lv_iload_n hx hb dAR_copyOfRangeByte_5 rfl (lv_at hl 2 rfl) ?_
  refine lv_iload_n hx hb dAR_copyOfRangeByte_6 rfl (lv_at hl 1 rfl) ?_
  refine mi_isub hx hb dAR_copyOfRangeByte_7 (by omega) ?_
  refine lv_istore_n (lv' := [(3, .int (nI (to - fr))), (0, .ref f), (1, .int (nI fr)), (2, .int (nI to))]) hx hb dAR_copyOfRangeByte_8 rfl hl (by decide) rfl (fun ls hl => ?_)
  refine lv_iload_n hx hb dAR_copyOfRangeByte_9 rfl (lv_at hl 0 rfl) ?_
  refine ma_newa (ws := [] ++ pl) (atype := .byte) hx hb (hts _ (wg_t kw_72)) rfl hK hP hD hS hA 1 rfl (N' := to - fr) (a0 := (to - fr, .inl (fun _ => 0))) (fun _ => rfl) (nI_pos (by omega)) (nI_clamp (by omega)) (by show (to - fr) * 1 ≤ 536870912; omega) (Nat.le_of_ble_eq_true rfl) (by show 0 + (to - fr) ≤ 2592; omega) dAR_copyOfRangeByte_10 (fun q21 H hP hD hS => ?_)
  refine W.widen (k := 1) (n := 2592) (by omega) (by omega) ?_
  obtain ⟨T, pl, hxt21, hU, kr21, hO, hP, hD, hnf21, hnl21⟩ := absorbN (sZ s21 nk) nk hP hD hO hU hfr (fun _ h9 => uA_ne h9) (fun _ _ => rfl) (fun _ _ _ => fitZ n_nk)
  have kr22 := hxt21 _ _ k_f
  have hXT := extN_tr hXT hxt21
  obtain ⟨s22, es21⟩ : ∃ x : Sto, x = sZ s21 nk := ⟨_, rfl⟩
  rw [← es21] at hO
  replace hR := bnd_step hR es21
  have hF := frm_sZ hF es21 (by unfold M_AR_copyOfRangeByte; omega)
  refine lv_astore (lv' := [(4, .ref q21), (3, .int (nI (to - fr))), (0, .ref f), (1, .int (nI fr)), (2, .int (nI to))]) hx hb dAR_copyOfRangeByte_12 hl (by decide) rfl (fun ls hl => ?_)
  refine lv_aload_n hx hb dAR_copyOfRangeByte_14 rfl (lv_at hl 2 rfl) ?_
  refine lv_iload_n hx hb dAR_copyOfRangeByte_15 rfl (lv_at hl 3 rfl) ?_
  refine lv_aload hx hb dAR_copyOfRangeByte_16 (lv_at hl 0 rfl) ?_
  refine lv_iconst (v := nI 0) hx hb dAR_copyOfRangeByte_18 (by decide) ?_
  refine lv_aload_n hx hb dAR_copyOfRangeByte_19 rfl (lv_at hl 2 rfl) ?_
  refine nw_alen1 hx hb hK hO kr22 (k := 1) rfl hP dAR_copyOfRangeByte_20 ?_
  refine lv_iload_n hx hb dAR_copyOfRangeByte_21 rfl (lv_at hl 3 rfl) ?_
  refine mi_isub hx hb dAR_copyOfRangeByte_22 (by omega) ?_
  refine lv_iload_n hx hb dAR_copyOfRangeByte_23 rfl (lv_at hl 1 rfl) ?_
  refine va_mmin (own := "java/util/Arrays") (index := 304) hx hb (hml.trans hl.1.symm) hown (hts _ (wg_t kw_889)) (hts _ (wg_t kw_890)) (hts _ (wg_t kw_31)) (hts _ (wg_t kw_891)) (Nat.le_of_ble_eq_true rfl) (Nat.le_of_ble_eq_true rfl) (Nat.le_of_ble_eq_true rfl) (Nat.le_of_ble_eq_true rfl) dAR_copyOfRangeByte_24 ?_
  refine mi_as (mi_min (16384 - fr) (to - fr) (by omega) (by omega)) ?_
  refine nw_copyb hx hb (hml.trans hl.1.symm) hown (hts _ (wg_t kw_892)) (hts _ (wg_t kw_526)) (hts _ (wg_t kw_525)) (hts _ (wg_t kw_19)) hK hO hU kr22 (k0 := 1) rfl kr21 (k1 := nk) n_nk hP hD hS (sp := fr) (dp := 0) (n := (min (16384 - fr) (to - fr))) (by omega) (by omega) (by omega) (by decide) (Nat.le_of_ble_eq_true rfl) dAR_copyOfRangeByte_27 (fun s23 pl H locs es22 hO hP hD hS => ?_)
  replace hR := bnd_step hR es22
  have hF := frm_sC hF es22 (by unfold M_AR_copyOfRangeByte; omega)
  refine lv_aload hx hb dAR_copyOfRangeByte_30 (lv_at hl 0 rfl) ?_
  exact mp_qret (v := some q21) hx hb hr (Or.inr ⟨_, rfl⟩) hlk hP hD hS ((s23, T), pl) ⟨⟨hR.symm, ⟨_, rfl, kr21⟩, hF, hXT, hU, hnf21, hnl21⟩, hO⟩ [] rfl rfl rfl (by omega) (by omega) dAR_copyOfRangeByte_32
def M_AR_copyOfRange (nk : Nat) (k : Nat) : Prop := k = nk ∨ (0 : Nat) = 1
noncomputable def F_AR_copyOfRange (fr : Nat) (to : Nat) (nk : Nat) (s : Sto) : Sto := bnd (F_AR_copyOfRangeByte fr to nk s) fun s21 => s21
set_option maxHeartbeats 400000 in
set_option maxRecDepth 100000 in
theorem N_AR_copyOfRange (l : Launch) (g : Gd) (sz : Nat) (T : TyN) (s : Sto) (pl : va_W) (hO : okn g T s pl) (hU : inj T) (nk : Nat) (f : Nat) (fr : Nat) (to : Nat) (k_f : T f = some 1) (h9_ : 0 < fr) (h0_ : fr ≤ to) (h1 : to ≤ 16384) (h3 : to - fr ≤ 2592) (n_nk : nsp nk = (1, to - fr, [])) (hfr : frT T nk) (hnk : 1 < nk)  : Met l y_AR_copyOfRange w_AR_copyOfRange ({ frames := 2, cells := 1, slots := 2592, locals := 84 } : Room) (va_Pc [.ref f, .int (nI fr), .int (nI to)] (pr (en g) g.1 vcl sz ([] ++ pl))) (va_Qq (fun (r : Option Nat) (u : (Sto × TyN) × va_W) => (u.1.1 = F_AR_copyOfRange fr to nk s ∧ (∃ q, r = some q ∧ u.1.2 q = some nk) ∧ frm (M_AR_copyOfRange nk) s u.1.1 ∧ extN T u.1.2 ∧ inj u.1.2 ∧ (∀ k' : Nat, k' ≠ nk → frT T k' → frT u.1.2 k') ∧ (∀ b : Nat, nk < b → lowT T b → lowT u.1.2 b)) ∧ okn g u.1.2 u.1.1 u.2) (po g.1 vcl (va_A ([] ++ pl) sz) (fun (u : (Sto × TyN) × va_W) => [] ++ u.2)) (va_A ([] ++ pl) sz)) 1 2592 (va_A ([] ++ pl) sz) := by
  refine mc_entry (cc := c_AR_copyOfRange) (maxL := 3) (ret := (Option.some (Jvm.ClassFile.FieldType.array Jvm.ClassFile.FieldType.byte))) (by decide) rfl (Nat.le_of_ble_eq_true rfl) ?_
  intro p e s0 m args below meth c ls F hr hlk hnm hsz hP hD hE hA hl
  obtain ⟨hx, hb, hml, hown, hts⟩ := id F
  have hK := hE.1
  generalize va_A ([] ++ pl) sz = A at hD hE hA ⊢
  have hS : va_S A s0.heap s0.heap [] := va_S.rf
  have hl : lv_has ls 3 [(0, .ref f), (1, .int (nI fr)), (2, .int (nI to))] := hl
  have hR : F_AR_copyOfRange fr to nk s = F_AR_copyOfRange fr to nk s := rfl
  have hF : frm (M_AR_copyOfRange nk) s s := frm_rf
  have hXT : extN T T := extN_rf
  refine lv_iload_n hx hb dAR_copyOfRange_0 rfl (lv_at hl 1 rfl) ?_
  refine lv_if_ne (tgt := 10) hx hb dAR_copyOfRange_1 (by decide) (fun h21 => ?_) (fun h21 => absurd h21 (nI_ne0 (by omega) (by omega)))
  refine lv_aload_n hx hb dAR_copyOfRange_10 rfl (lv_at hl 0 rfl) ?_
  refine lv_iload_n hx hb dAR_copyOfRange_11 rfl (lv_at hl 1 rfl) ?_
  refine lv_iload_n hx hb dAR_copyOfRange_12 rfl (lv_at hl 2 rfl) ?_
  refine mp_q (cx := []) (wr := []) hP hD hS hA [] [] rfl rfl rfl (by decide) (va_runS (As := [.ref f, .int (nI fr), .int (nI to)]) (rest := []) F (N_AR_copyOfRangeByte l g _ T s pl hO hU nk f fr to k_f (by omega) (by omega) (by omega) n_nk hfr (by omega)) (va_cwS 3 hts (wg_app (wg_c kw_812 (wg_c kw_813 (wg_c kw_21 wg_n))) kw_814) rfl rfl rfl (by decide +kernel) ⟨by decide, by decide⟩) (pp_S (en_ok g) hP hD hS hA hE [] rfl rfl) rfl rfl hl.1 rfl (lv_room (Nat.le_of_ble_eq_true rfl)) dAR_copyOfRange_13 ⟨Nat.le_of_ble_eq_true rfl, Nat.le_of_ble_eq_true rfl⟩) (fun r21 u21 H locs hu21 hP hD hS => ?_)
  obtain ⟨⟨s21, T⟩, pl⟩ := u21
  obtain ⟨⟨eq21, ⟨q21, rfl, kr21⟩, hFc21, hxt21, hU, hnf21, hnl21⟩, hO⟩ := hu21
  have hO : okn g T s21 pl := hO
  have hP : va_P g.1 vcl ([] ++ pl) _ := hP
  have hD : va_D _ ([] ++ pl) := hD
  have hU : inj T := hU
  have eq21 : s21 = F_AR_copyOfRangeByte fr to nk s := eq21
  have hFc21 : frm (M_AR_copyOfRangeByte nk) s s21 := hFc21
  replace hR := bnd_step hR eq21
  have hF := frm_tr hF hFc21 (fun k hk => by unfold M_AR_copyOfRangeByte at hk; unfold M_AR_copyOfRange; omega)
  have hnf21 : ∀ k' : Nat, k' ≠ nk → frT _ k' → frT T k' := hnf21
  have hnl21 : ∀ b : Nat, nk < b → lowT _ b → lowT T b := hnl21
  have kr22 := hxt21 _ _ k_f
  have hXT := extN_tr hXT hxt21
  refine W.widen (k := 1) (n := 2592) (by omega) (by omega) ?_
  exact mp_qret (v := some q21) hx hb hr (Or.inr ⟨_, rfl⟩) hlk hP hD hS ((s21, T), pl) ⟨⟨hR.symm, ⟨_, rfl, kr21⟩, hF, hXT, hU, hnf21, hnl21⟩, hO⟩ [] rfl rfl rfl (by omega) (by omega) dAR_copyOfRange_16
