set_option linter.all false
abbrev c_M_thrown : ByteArray := prog_12_method_4_code
abbrev y_M_thrown : MethodName := ⟨"LatticeKeysModel", "thrown", "()I"⟩
abbrev w_M_thrown : List Cond := Cond.code y_M_thrown c_M_thrown 1 (some .int) :: WG
theorem dM_thrown_0 : decode c_M_thrown 0 = .ok (.aload_n 0, 1) := by decide +kernel
theorem dM_thrown_1 : decode c_M_thrown 1 = .ok (.getfield 57, 3) := by decide +kernel
theorem dM_thrown_4 : decode c_M_thrown 4 = .ok (.ireturn, 1) := by decide +kernel
abbrev c_M_made : ByteArray := prog_12_method_13_code
abbrev y_M_made : MethodName := ⟨"LatticeKeysModel", "made", "(II)I"⟩
abbrev w_M_made : List Cond := Cond.code y_M_made c_M_made 3 (some .int) :: WG
theorem dM_made_0 : decode c_M_made 0 = .ok (.aload_n 0, 1) := by decide +kernel
theorem dM_made_1 : decode c_M_made 1 = .ok (.getfield 27, 3) := by decide +kernel
theorem dM_made_4 : decode c_M_made 4 = .ok (.aload_n 0, 1) := by decide +kernel
theorem dM_made_5 : decode c_M_made 5 = .ok (.getfield 83, 3) := by decide +kernel
theorem dM_made_8 : decode c_M_made 8 = .ok (.iload_n 1, 1) := by decide +kernel
theorem dM_made_9 : decode c_M_made 9 = .ok (.iastore, 1) := by decide +kernel
theorem dM_made_10 : decode c_M_made 10 = .ok (.aload_n 0, 1) := by decide +kernel
theorem dM_made_11 : decode c_M_made 11 = .ok (.getfield 31, 3) := by decide +kernel
theorem dM_made_14 : decode c_M_made 14 = .ok (.aload_n 0, 1) := by decide +kernel
theorem dM_made_15 : decode c_M_made 15 = .ok (.getfield 83, 3) := by decide +kernel
theorem dM_made_18 : decode c_M_made 18 = .ok (.iload_n 2, 1) := by decide +kernel
theorem dM_made_19 : decode c_M_made 19 = .ok (.iastore, 1) := by decide +kernel
theorem dM_made_20 : decode c_M_made 20 = .ok (.aload_n 0, 1) := by decide +kernel
theorem dM_made_21 : decode c_M_made 21 = .ok (.dup, 1) := by decide +kernel
theorem dM_made_22 : decode c_M_made 22 = .ok (.getfield 83, 3) := by decide +kernel
theorem dM_made_25 : decode c_M_made 25 = .ok (.iconst 1, 1) := by decide +kernel
theorem dM_made_26 : decode c_M_made 26 = .ok (.iadd, 1) := by decide +kernel
theorem dM_made_27 : decode c_M_made 27 = .ok (.putfield 83, 3) := by decide +kernel
theorem dM_made_30 : decode c_M_made 30 = .ok (.aload_n 0, 1) := by decide +kernel
theorem dM_made_31 : decode c_M_made 31 = .ok (.iconst 0, 1) := by decide +kernel
theorem dM_made_32 : decode c_M_made 32 = .ok (.putfield 70, 3) := by decide +kernel
theorem dM_made_35 : decode c_M_made 35 = .ok (.aload_n 0, 1) := by decide +kernel
theorem dM_made_36 : decode c_M_made 36 = .ok (.getfield 83, 3) := by decide +kernel
theorem dM_made_39 : decode c_M_made 39 = .ok (.iconst 1, 1) := by decide +kernel
theorem dM_made_40 : decode c_M_made 40 = .ok (.isub, 1) := by decide +kernel
theorem dM_made_41 : decode c_M_made 41 = .ok (.ireturn, 1) := by decide +kernel
abbrev c_M_hash : ByteArray := prog_12_method_25_code
abbrev y_M_hash : MethodName := ⟨"LatticeKeysModel", "hash", "(II)I"⟩
abbrev w_M_hash : List Cond := Cond.code y_M_hash c_M_hash 3 (some .int) :: WG
theorem dM_hash_0 : decode c_M_hash 0 = .ok (.aload_n 0, 1) := by decide +kernel
theorem dM_hash_1 : decode c_M_hash 1 = .ok (.iconst 0, 1) := by decide +kernel
theorem dM_hash_2 : decode c_M_hash 2 = .ok (.putfield 57, 3) := by decide +kernel
theorem dM_hash_5 : decode c_M_hash 5 = .ok (.iload_n 1, 1) := by decide +kernel
theorem dM_hash_6 : decode c_M_hash 6 = .ok (.ifCond .lt 19, 3) := by decide +kernel
theorem dM_hash_9 : decode c_M_hash 9 = .ok (.iload_n 1, 1) := by decide +kernel
theorem dM_hash_10 : decode c_M_hash 10 = .ok (.iconst 3, 1) := by decide +kernel
theorem dM_hash_11 : decode c_M_hash 11 = .ok (.if_icmp .gt 14, 3) := by decide +kernel
theorem dM_hash_14 : decode c_M_hash 14 = .ok (.iload_n 2, 1) := by decide +kernel
theorem dM_hash_15 : decode c_M_hash 15 = .ok (.ifCond .lt 10, 3) := by decide +kernel
theorem dM_hash_18 : decode c_M_hash 18 = .ok (.iload_n 2, 1) := by decide +kernel
theorem dM_hash_19 : decode c_M_hash 19 = .ok (.sipush 8192, 3) := by decide +kernel
theorem dM_hash_22 : decode c_M_hash 22 = .ok (.if_icmp .le 9, 3) := by decide +kernel
theorem dM_hash_25 : decode c_M_hash 25 = .ok (.aload_n 0, 1) := by decide +kernel
theorem dM_hash_26 : decode c_M_hash 26 = .ok (.iconst 1, 1) := by decide +kernel
theorem dM_hash_27 : decode c_M_hash 27 = .ok (.invokevirtual 73, 3) := by decide +kernel
theorem dM_hash_30 : decode c_M_hash 30 = .ok (.ireturn, 1) := by decide +kernel
theorem dM_hash_31 : decode c_M_hash 31 = .ok (.aload_n 0, 1) := by decide +kernel
theorem dM_hash_32 : decode c_M_hash 32 = .ok (.getfield 37, 3) := by decide +kernel
theorem dM_hash_35 : decode c_M_hash 35 = .ok (.iload_n 1, 1) := by decide +kernel
theorem dM_hash_36 : decode c_M_hash 36 = .ok (.iconst 1, 1) := by decide +kernel
theorem dM_hash_37 : decode c_M_hash 37 = .ok (.if_icmp .ne 8, 3) := by decide +kernel
theorem dM_hash_40 : decode c_M_hash 40 = .ok (.bipush 72, 2) := by decide +kernel
theorem dM_hash_42 : decode c_M_hash 42 = .ok (.goto 17, 3) := by decide +kernel
theorem dM_hash_45 : decode c_M_hash 45 = .ok (.iload_n 1, 1) := by decide +kernel
theorem dM_hash_46 : decode c_M_hash 46 = .ok (.iconst 2, 1) := by decide +kernel
theorem dM_hash_47 : decode c_M_hash 47 = .ok (.if_icmp .ne 9, 3) := by decide +kernel
theorem dM_hash_50 : decode c_M_hash 50 = .ok (.sipush 168, 3) := by decide +kernel
theorem dM_hash_53 : decode c_M_hash 53 = .ok (.goto 6, 3) := by decide +kernel
theorem dM_hash_56 : decode c_M_hash 56 = .ok (.sipush 136, 3) := by decide +kernel
theorem dM_hash_59 : decode c_M_hash 59 = .ok (.iload_n 1, 1) := by decide +kernel
theorem dM_hash_60 : decode c_M_hash 60 = .ok (.iconst 2, 1) := by decide +kernel
theorem dM_hash_61 : decode c_M_hash 61 = .ok (.if_icmp .ge 8, 3) := by decide +kernel
theorem dM_hash_64 : decode c_M_hash 64 = .ok (.bipush 6, 2) := by decide +kernel
theorem dM_hash_66 : decode c_M_hash 66 = .ok (.goto 5, 3) := by decide +kernel
theorem dM_hash_69 : decode c_M_hash 69 = .ok (.bipush 31, 2) := by decide +kernel
theorem dM_hash_71 : decode c_M_hash 71 = .ok (.invokevirtual 131, 3) := by decide +kernel
theorem dM_hash_74 : decode c_M_hash 74 = .ok (.aload_n 0, 1) := by decide +kernel
theorem dM_hash_75 : decode c_M_hash 75 = .ok (.getfield 37, 3) := by decide +kernel
theorem dM_hash_78 : decode c_M_hash 78 = .ok (.aload_n 0, 1) := by decide +kernel
theorem dM_hash_79 : decode c_M_hash 79 = .ok (.getfield 7, 3) := by decide +kernel
theorem dM_hash_82 : decode c_M_hash 82 = .ok (.iconst 0, 1) := by decide +kernel
theorem dM_hash_83 : decode c_M_hash 83 = .ok (.aload_n 0, 1) := by decide +kernel
theorem dM_hash_84 : decode c_M_hash 84 = .ok (.getfield 70, 3) := by decide +kernel
theorem dM_hash_87 : decode c_M_hash 87 = .ok (.invokevirtual 135, 3) := by decide +kernel
theorem dM_hash_90 : decode c_M_hash 90 = .ok (.aload_n 0, 1) := by decide +kernel
theorem dM_hash_91 : decode c_M_hash 91 = .ok (.getfield 37, 3) := by decide +kernel
theorem dM_hash_94 : decode c_M_hash 94 = .ok (.invokevirtual 139, 3) := by decide +kernel
theorem dM_hash_97 : decode c_M_hash 97 = .ok (.aload_n 0, 1) := by decide +kernel
theorem dM_hash_98 : decode c_M_hash 98 = .ok (.iload_n 1, 1) := by decide +kernel
theorem dM_hash_99 : decode c_M_hash 99 = .ok (.ifCond .ne 8, 3) := by decide +kernel
theorem dM_hash_102 : decode c_M_hash 102 = .ok (.bipush 32, 2) := by decide +kernel
theorem dM_hash_104 : decode c_M_hash 104 = .ok (.goto 14, 3) := by decide +kernel
theorem dM_hash_107 : decode c_M_hash 107 = .ok (.iload_n 1, 1) := by decide +kernel
theorem dM_hash_108 : decode c_M_hash 108 = .ok (.iconst 1, 1) := by decide +kernel
theorem dM_hash_109 : decode c_M_hash 109 = .ok (.if_icmp .ne 8, 3) := by decide +kernel
theorem dM_hash_112 : decode c_M_hash 112 = .ok (.bipush 64, 2) := by decide +kernel
theorem dM_hash_114 : decode c_M_hash 114 = .ok (.goto 4, 3) := by decide +kernel
theorem dM_hash_117 : decode c_M_hash 117 = .ok (.iload_n 2, 1) := by decide +kernel
theorem dM_hash_118 : decode c_M_hash 118 = .ok (.putfield 80, 3) := by decide +kernel
theorem dM_hash_121 : decode c_M_hash 121 = .ok (.aload_n 0, 1) := by decide +kernel
theorem dM_hash_122 : decode c_M_hash 122 = .ok (.getfield 37, 3) := by decide +kernel
theorem dM_hash_125 : decode c_M_hash 125 = .ok (.aload_n 0, 1) := by decide +kernel
theorem dM_hash_126 : decode c_M_hash 126 = .ok (.getfield 13, 3) := by decide +kernel
theorem dM_hash_129 : decode c_M_hash 129 = .ok (.iconst 0, 1) := by decide +kernel
theorem dM_hash_130 : decode c_M_hash 130 = .ok (.aload_n 0, 1) := by decide +kernel
theorem dM_hash_131 : decode c_M_hash 131 = .ok (.getfield 80, 3) := by decide +kernel
theorem dM_hash_134 : decode c_M_hash 134 = .ok (.invokevirtual 142, 3) := by decide +kernel
theorem dM_hash_137 : decode c_M_hash 137 = .ok (.aload_n 0, 1) := by decide +kernel
theorem dM_hash_138 : decode c_M_hash 138 = .ok (.iconst 0, 1) := by decide +kernel
theorem dM_hash_139 : decode c_M_hash 139 = .ok (.putfield 70, 3) := by decide +kernel
theorem dM_hash_142 : decode c_M_hash 142 = .ok (.aload_n 0, 1) := by decide +kernel
theorem dM_hash_143 : decode c_M_hash 143 = .ok (.getfield 80, 3) := by decide +kernel
theorem dM_hash_146 : decode c_M_hash 146 = .ok (.ireturn, 1) := by decide +kernel
def M_M_thrown (k : Nat) : Prop := (0 : Nat) = 1
noncomputable def F_M_thrown (s : Sto) : Int32 × Sto := ((s.1 148 0), s)
set_option maxHeartbeats 8000000 in
set_option maxRecDepth 100000 in
theorem N_M_thrown (l : Launch) (g : Gd) (sz : Nat) (T : TyN) (s : Sto) (pl : va_W) (hO : okn g T s pl) (hU : inj T) (h0 : Nat) (tp : Nat) (rs : Nat) (ks : Nat) (k_h0 : T h0 = some 148) (e_tp : s.1 148 1 = nI tp) (e_rs : s.1 148 2 = nI rs) (e_ks : s.1 148 3 = nI ks)  : Met l y_M_thrown w_M_thrown ({ frames := 0, cells := 0, slots := 0, locals := 0 } : Room) (va_Pc [.ref h0] (pr (en g) g.1 vcl sz ([] ++ pl))) (va_Qi (fun (r : Int32) (u : (Int32 × Sto) × va_W) => (u.1 = F_M_thrown s ∧ r = u.1.1 ∧ frm (M_M_thrown) s u.1.2 ∧ (∃ x : Nat, u.1.2.1 148 1 = nI x ∧ x = tp) ∧ (∃ x : Nat, u.1.2.1 148 2 = nI x ∧ x = rs) ∧ (∃ x : Nat, u.1.2.1 148 3 = nI x ∧ x = ks) ∧ True) ∧ okn g T u.1.2 u.2) (po g.1 vcl (va_A ([] ++ pl) sz) (fun (u : (Int32 × Sto) × va_W) => [] ++ u.2)) (va_A ([] ++ pl) sz)) 0 0 (va_A ([] ++ pl) sz) := by
  refine mc_entry (cc := c_M_thrown) (maxL := 1) (ret := (some .int)) (by decide) rfl (Nat.le_of_ble_eq_true rfl) ?_
  intro p e s0 m args below meth c ls F hr hlk hnm hsz hP hD hE hA hl
  obtain ⟨hx, hb, hml, hown, hts⟩ := id F
  have hK := hE.1
  generalize va_A ([] ++ pl) sz = A at hD hE hA ⊢
  have hS : va_S A s0.heap s0.heap [] := va_S.rf
  have hl : lv_has ls 1 [(0, .ref h0)] := hl
  have hR : F_M_thrown s = F_M_thrown s := rfl
  have hF : frm (M_M_thrown) s s := frm_rf
  refine lv_aload_n hx hb dM_thrown_0 rfl (lv_at hl 0 rfl) ?_
  refine nw_get (C := "LatticeKeysModel") (TT := T_M) (N := 14) hx hb hts (wg_ft i_M) hown hK hO k_h0 (kn := 148) (ci := 8) (fl := [(0, 0), (0, 0), (0, 0), (0, 0), (3, 149), (3, 150), (3, 151), (3, 152), (3, 161), (3, 170), (3, 171), (3, 172), (3, 184), (3, 225)]) rfl hP rfl 0 (by decide) (hts _ (wg_t kw_1526)) (fun _ h9 => h9) (cd := (0, 0)) rfl dM_thrown_1 (fun v21 hv21 => ?_)
  obtain rfl := (show v21 = .int (s.1 148 0) from hv21)
  exact mp_iret hx hb hr hlk hP hD hS (((s.1 148 0), s), pl) ⟨⟨hR.symm, rfl, hF, ⟨tp, e_tp, by omega⟩, ⟨rs, e_rs, by omega⟩, ⟨ks, e_ks, by omega⟩, trivial⟩, hO⟩ [] rfl rfl rfl (by omega) (by omega) dM_thrown_4
def M_M_made (k : Nat) : Prop := k = 148 ∨ k = 170 ∨ k = 171 ∨ (0 : Nat) = 1
noncomputable def F_M_made (st : Nat) (hb_ : Nat) (s : Sto) : Int32 × Sto := bnd ((s.1 148 3).toNatClampNeg) fun z21 => bnd (sI s 170 z21 (nI st)) fun s21 => bnd ((s21.1 148 3).toNatClampNeg) fun z22 => bnd (sI s21 171 z22 (nI hb_)) fun s22 => bnd ((s22.1 148 3).toNatClampNeg) fun z23 => bnd (sI s22 148 3 (nI (z23 + 1))) fun s23 => bnd (sI s23 148 1 (nI 0)) fun s24 => bnd ((s24.1 148 3).toNatClampNeg) fun z24 => (nI (z24 - 1), s24)
set_option maxHeartbeats 8000000 in
set_option maxRecDepth 100000 in
theorem N_M_made (l : Launch) (g : Gd) (sz : Nat) (T : TyN) (s : Sto) (pl : va_W) (hO : okn g T s pl) (hU : inj T) (h0 : Nat) (st : Nat) (hb_ : Nat) (tp : Nat) (rs : Nat) (ks : Nat) (k_h0 : T h0 = some 148) (e_tp : s.1 148 1 = nI tp) (e_rs : s.1 148 2 = nI rs) (e_ks : s.1 148 3 = nI ks) (h1 : st ≤ 5) (h2 : hb_ ≤ 4896) (h3 : ks < 8)  : Met l y_M_made w_M_made ({ frames := 0, cells := 0, slots := 0, locals := 0 } : Room) (va_Pc [.ref h0, .int (nI st), .int (nI hb_)] (pr (en g) g.1 vcl sz ([] ++ pl))) (va_Qi (fun (r : Int32) (u : (Int32 × Sto) × va_W) => (u.1 = F_M_made st hb_ s ∧ r = u.1.1 ∧ frm (M_M_made) s u.1.2 ∧ (∃ x : Nat, u.1.2.1 148 1 = nI x ∧ x = 0) ∧ (∃ x : Nat, u.1.2.1 148 2 = nI x ∧ x = rs) ∧ (∃ x : Nat, u.1.2.1 148 3 = nI x ∧ x = ks + 1) ∧ True) ∧ okn g T u.1.2 u.2) (po g.1 vcl (va_A ([] ++ pl) sz) (fun (u : (Int32 × Sto) × va_W) => [] ++ u.2)) (va_A ([] ++ pl) sz)) 0 0 (va_A ([] ++ pl) sz) := by
  refine mc_entry (cc := c_M_made) (maxL := 3) (ret := (some .int)) (by decide) rfl (Nat.le_of_ble_eq_true rfl) ?_
  intro p e s0 m args below meth c ls F hr hlk hnm hsz hP hD hE hA hl
  obtain ⟨hx, hb, hml, hown, hts⟩ := id F
  have hK := hE.1
  generalize va_A ([] ++ pl) sz = A at hD hE hA ⊢
  have hS : va_S A s0.heap s0.heap [] := va_S.rf
  have hl : lv_has ls 3 [(0, .ref h0), (1, .int (nI st)), (2, .int (nI hb_))] := hl
  have hR : F_M_made st hb_ s = F_M_made st hb_ s := rfl
  have hF : frm (M_M_made) s s := frm_rf
  refine lv_aload_n hx hb dM_made_0 rfl (lv_at hl 0 rfl) ?_
  refine nw_get (C := "LatticeKeysModel") (TT := T_M) (N := 14) hx hb hts (wg_ft i_M) hown hK hO k_h0 (kn := 148) (ci := 8) (fl := [(0, 0), (0, 0), (0, 0), (0, 0), (3, 149), (3, 150), (3, 151), (3, 152), (3, 161), (3, 170), (3, 171), (3, 172), (3, 184), (3, 225)]) rfl hP rfl 9 (by decide) (hts _ (wg_t kw_1535)) (fun _ h9 => h9) (cd := (3, 170)) rfl dM_made_1 (fun v21 hv21 => ?_)
  obtain ⟨r21, rfl, kr21⟩ := (show ∃ r : Nat, v21 = .ref r ∧ T r = some 170 from hv21)
  refine lv_aload_n hx hb dM_made_4 rfl (lv_at hl 0 rfl) ?_
  refine nw_get (C := "LatticeKeysModel") (TT := T_M) (N := 14) hx hb hts (wg_ft i_M) hown hK hO k_h0 (kn := 148) (ci := 8) (fl := [(0, 0), (0, 0), (0, 0), (0, 0), (3, 149), (3, 150), (3, 151), (3, 152), (3, 161), (3, 170), (3, 171), (3, 172), (3, 184), (3, 225)]) rfl hP rfl 3 (by decide) (hts _ (wg_t kw_1529)) (fun _ h9 => h9) (cd := (0, 0)) rfl dM_made_5 (fun v22 hv22 => ?_)
  obtain rfl := (show v22 = .int (s.1 148 3) from hv22)
  obtain ⟨z21, ez21, hz21, hz22⟩ := cl_of (b := 2147483648) e_ks (by omega) (by decide)
  replace hR := bnd_step hR ez21
  refine mi_as hz21 ?_
  refine lv_iload_n hx hb dM_made_8 rfl (lv_at hl 1 rfl) ?_
  refine nw_iast hx hb hK hO hU kr21 (k := 170) rfl hP hD hS (by omega) (by omega) dM_made_9 (fun s21 pl H locs es21 hO hP hD hS => ?_)
  replace hR := bnd_step hR es21
  have hF := frm_sI hF es21 (by unfold M_M_made; omega)
  have hf21 : s21.1 148 1 = nI tp := fc_ne e_tp es21 (by omega)
  have hf22 : s21.1 148 2 = nI rs := fc_ne e_rs es21 (by omega)
  have hf23 : s21.1 148 3 = nI ks := fc_ne e_ks es21 (by omega)
  refine lv_aload_n hx hb dM_made_10 rfl (lv_at hl 0 rfl) ?_
  refine nw_get (C := "LatticeKeysModel") (TT := T_M) (N := 14) hx hb hts (wg_ft i_M) hown hK hO k_h0 (kn := 148) (ci := 8) (fl := [(0, 0), (0, 0), (0, 0), (0, 0), (3, 149), (3, 150), (3, 151), (3, 152), (3, 161), (3, 170), (3, 171), (3, 172), (3, 184), (3, 225)]) rfl hP rfl 10 (by decide) (hts _ (wg_t kw_1536)) (fun _ h9 => h9) (cd := (3, 171)) rfl dM_made_11 (fun v23 hv23 => ?_)
  obtain ⟨r22, rfl, kr22⟩ := (show ∃ r : Nat, v23 = .ref r ∧ T r = some 171 from hv23)
  refine lv_aload_n hx hb dM_made_14 rfl (lv_at hl 0 rfl) ?_
  refine nw_get (C := "LatticeKeysModel") (TT := T_M) (N := 14) hx hb hts (wg_ft i_M) hown hK hO k_h0 (kn := 148) (ci := 8) (fl := [(0, 0), (0, 0), (0, 0), (0, 0), (3, 149), (3, 150), (3, 151), (3, 152), (3, 161), (3, 170), (3, 171), (3, 172), (3, 184), (3, 225)]) rfl hP rfl 3 (by decide) (hts _ (wg_t kw_1529)) (fun _ h9 => h9) (cd := (0, 0)) rfl dM_made_15 (fun v24 hv24 => ?_)
  obtain rfl := (show v24 = .int (s21.1 148 3) from hv24)
  obtain ⟨z22, ez22, hz23, hz24⟩ := cl_of (b := 2147483648) hf23 (by omega) (by decide)
  replace hR := bnd_step hR ez22
  refine mi_as hz23 ?_
  refine lv_iload_n hx hb dM_made_18 rfl (lv_at hl 2 rfl) ?_
  refine nw_iast hx hb hK hO hU kr22 (k := 171) rfl hP hD hS (by omega) (by omega) dM_made_19 (fun s22 pl H locs es22 hO hP hD hS => ?_)
  replace hR := bnd_step hR es22
  have hF := frm_sI hF es22 (by unfold M_M_made; omega)
  have hf24 : s22.1 148 1 = nI tp := fc_ne hf21 es22 (by omega)
  have hf25 : s22.1 148 2 = nI rs := fc_ne hf22 es22 (by omega)
  have hf26 : s22.1 148 3 = nI ks := fc_ne hf23 es22 (by omega)
  refine lv_aload_n hx hb dM_made_20 rfl (lv_at hl 0 rfl) ?_
  refine lv_dup hx hb dM_made_21 rfl ?_
  refine nw_get (C := "LatticeKeysModel") (TT := T_M) (N := 14) hx hb hts (wg_ft i_M) hown hK hO k_h0 (kn := 148) (ci := 8) (fl := [(0, 0), (0, 0), (0, 0), (0, 0), (3, 149), (3, 150), (3, 151), (3, 152), (3, 161), (3, 170), (3, 171), (3, 172), (3, 184), (3, 225)]) rfl hP rfl 3 (by decide) (hts _ (wg_t kw_1529)) (fun _ h9 => h9) (cd := (0, 0)) rfl dM_made_22 (fun v25 hv25 => ?_)
  obtain rfl := (show v25 = .int (s22.1 148 3) from hv25)
  obtain ⟨z23, ez23, hz25, hz26⟩ := cl_of (b := 2147483648) hf26 (by omega) (by decide)
  replace hR := bnd_step hR ez23
  refine mi_as hz25 ?_
  refine lv_iconst (v := nI 1) hx hb dM_made_25 (by decide) ?_
  refine mi_iadd hx hb dM_made_26 ?_
  refine nw_put (C := "LatticeKeysModel") (TT := T_M) (N := 14) hx hb hts (wg_ft i_M) ty_M k_M n_M hown hK hO hU k_h0 (kn := 148) (ci := 8) (fl := [(0, 0), (0, 0), (0, 0), (0, 0), (3, 149), (3, 150), (3, 151), (3, 152), (3, 161), (3, 170), (3, 171), (3, 172), (3, 184), (3, 225)]) rfl hP hD hS rfl 3 (by decide) (hts _ (wg_t kw_1529)) (fun _ h9 => h9) rfl (by decide +kernel) rfl dM_made_27 (fun s23 pl H locs es23 hO hP hD hS => ?_)
  replace hR := bnd_step hR es23
  have hF := frm_sI hF es23 (by unfold M_M_made; omega)
  have hf27 : s23.1 148 1 = nI tp := fc_ne hf24 es23 (by omega)
  have hf28 : s23.1 148 2 = nI rs := fc_ne hf25 es23 (by omega)
  have hf30 : s23.1 148 3 = nI (z23 + 1) := fc_eq es23
  refine lv_aload_n hx hb dM_made_30 rfl (lv_at hl 0 rfl) ?_
  refine lv_iconst (v := nI 0) hx hb dM_made_31 (by decide) ?_
  refine nw_put (C := "LatticeKeysModel") (TT := T_M) (N := 14) hx hb hts (wg_ft i_M) ty_M k_M n_M hown hK hO hU k_h0 (kn := 148) (ci := 8) (fl := [(0, 0), (0, 0), (0, 0), (0, 0), (3, 149), (3, 150), (3, 151), (3, 152), (3, 161), (3, 170), (3, 171), (3, 172), (3, 184), (3, 225)]) rfl hP hD hS rfl 1 (by decide) (hts _ (wg_t kw_1527)) (fun _ h9 => h9) rfl (by decide +kernel) rfl dM_made_32 (fun s24 pl H locs es24 hO hP hD hS => ?_)
  replace hR := bnd_step hR es24
  have hF := frm_sI hF es24 (by unfold M_M_made; omega)
  have hf32 : s24.1 148 2 = nI rs := fc_ne hf28 es24 (by omega)
  have hf33 : s24.1 148 3 = nI (z23 + 1) := fc_ne hf30 es24 (by omega)
  have hf34 : s24.1 148 1 = nI 0 := fc_eq es24
  refine lv_aload_n hx hb dM_made_35 rfl (lv_at hl 0 rfl) ?_
  refine nw_get (C := "LatticeKeysModel") (TT := T_M) (N := 14) hx hb hts (wg_ft i_M) hown hK hO k_h0 (kn := 148) (ci := 8) (fl := [(0, 0), (0, 0), (0, 0), (0, 0), (3, 149), (3, 150), (3, 151), (3, 152), (3, 161), (3, 170), (3, 171), (3, 172), (3, 184), (3, 225)]) rfl hP rfl 3 (by decide) (hts _ (wg_t kw_1529)) (fun _ h9 => h9) (cd := (0, 0)) rfl dM_made_36 (fun v26 hv26 => ?_)
  obtain rfl := (show v26 = .int (s24.1 148 3) from hv26)
  obtain ⟨z24, ez24, hz27, hz28⟩ := cl_of (b := 2147483648) hf33 (by omega) (by decide)
  replace hR := bnd_step hR ez24
  refine mi_as hz27 ?_
  refine lv_iconst (v := nI 1) hx hb dM_made_39 (by decide) ?_
  refine mi_isub hx hb dM_made_40 (by omega) ?_
  exact mp_iret hx hb hr hlk hP hD hS ((nI (z24 - 1), s24), pl) ⟨⟨hR.symm, rfl, hF, ⟨0, hf34, by omega⟩, ⟨rs, hf32, by omega⟩, ⟨z23 + 1, hf33, by omega⟩, trivial⟩, hO⟩ [] rfl rfl rfl (by omega) (by omega) dM_made_41
def M_M_hash (k : Nat) : Prop := k = 148 ∨ k = 150 ∨ k = 172 ∨ (0 : Nat) = 1
noncomputable def F_M_hash (v : Int32) (v2 : Int32) (s : Sto) : Int32 × Sto := bnd (sI s 148 0 (nI 0)) fun s21 => if v < 0 then bnd (F_M_fail (nI 1) s21) fun q21 => (q21.1, q21.2) else if (nI 3) < v then bnd (F_M_fail (nI 1) s21) fun q22 => (q22.1, q22.2) else if v2 < 0 then bnd (F_M_fail (nI 1) s21) fun q23 => (q23.1, q23.2) else if v2 ≤ (nI 8192) then bnd (v2.toNatClampNeg) fun z21 => if v = (nI 1) then if (nI 2) ≤ v then bnd (F_MS_begin 72 (nI 31) s21) fun s70 => bnd ((s70.1 148 1).toNatClampNeg) fun z50 => bnd (F_MS_puts 149 16384 0 z50 s70) fun s71 => bnd (F_MS_end  s71) fun s72 => if v = 0 then bnd (sI s72 148 2 (nI 32)) fun s79 => bnd ((s79.1 148 2).toNatClampNeg) fun z55 => bnd (F_MS_take 150 8192 0 z55 s79) fun s80 => bnd (sI s80 148 1 (nI 0)) fun s81 => bnd ((s81.1 148 2).toNatClampNeg) fun z56 => (nI z56, s81) else if v = (nI 1) then bnd (sI s72 148 2 (nI 64)) fun s76 => bnd ((s76.1 148 2).toNatClampNeg) fun z53 => bnd (F_MS_take 150 8192 0 z53 s76) fun s77 => bnd (sI s77 148 1 (nI 0)) fun s78 => bnd ((s78.1 148 2).toNatClampNeg) fun z54 => (nI z54, s78) else bnd (sI s72 148 2 (nI z21)) fun s73 => bnd ((s73.1 148 2).toNatClampNeg) fun z51 => bnd (F_MS_take 150 8192 0 z51 s73) fun s74 => bnd (sI s74 148 1 (nI 0)) fun s75 => bnd ((s75.1 148 2).toNatClampNeg) fun z52 => (nI z52, s75) else bnd (F_MS_begin 72 (nI 6) s21) fun s82 => bnd ((s82.1 148 1).toNatClampNeg) fun z57 => bnd (F_MS_puts 149 16384 0 z57 s82) fun s83 => bnd (F_MS_end  s83) fun s84 => if v = 0 then bnd (sI s84 148 2 (nI 32)) fun s91 => bnd ((s91.1 148 2).toNatClampNeg) fun z62 => bnd (F_MS_take 150 8192 0 z62 s91) fun s92 => bnd (sI s92 148 1 (nI 0)) fun s93 => bnd ((s93.1 148 2).toNatClampNeg) fun z63 => (nI z63, s93) else if v = (nI 1) then bnd (sI s84 148 2 (nI 64)) fun s88 => bnd ((s88.1 148 2).toNatClampNeg) fun z60 => bnd (F_MS_take 150 8192 0 z60 s88) fun s89 => bnd (sI s89 148 1 (nI 0)) fun s90 => bnd ((s90.1 148 2).toNatClampNeg) fun z61 => (nI z61, s90) else bnd (sI s84 148 2 (nI z21)) fun s85 => bnd ((s85.1 148 2).toNatClampNeg) fun z58 => bnd (F_MS_take 150 8192 0 z58 s85) fun s86 => bnd (sI s86 148 1 (nI 0)) fun s87 => bnd ((s87.1 148 2).toNatClampNeg) fun z59 => (nI z59, s87) else if v = (nI 2) then if (nI 2) ≤ v then bnd (F_MS_begin 168 (nI 31) s21) fun s46 => bnd ((s46.1 148 1).toNatClampNeg) fun z36 => bnd (F_MS_puts 149 16384 0 z36 s46) fun s47 => bnd (F_MS_end  s47) fun s48 => if v = 0 then bnd (sI s48 148 2 (nI 32)) fun s55 => bnd ((s55.1 148 2).toNatClampNeg) fun z41 => bnd (F_MS_take 150 8192 0 z41 s55) fun s56 => bnd (sI s56 148 1 (nI 0)) fun s57 => bnd ((s57.1 148 2).toNatClampNeg) fun z42 => (nI z42, s57) else if v = (nI 1) then bnd (sI s48 148 2 (nI 64)) fun s52 => bnd ((s52.1 148 2).toNatClampNeg) fun z39 => bnd (F_MS_take 150 8192 0 z39 s52) fun s53 => bnd (sI s53 148 1 (nI 0)) fun s54 => bnd ((s54.1 148 2).toNatClampNeg) fun z40 => (nI z40, s54) else bnd (sI s48 148 2 (nI z21)) fun s49 => bnd ((s49.1 148 2).toNatClampNeg) fun z37 => bnd (F_MS_take 150 8192 0 z37 s49) fun s50 => bnd (sI s50 148 1 (nI 0)) fun s51 => bnd ((s51.1 148 2).toNatClampNeg) fun z38 => (nI z38, s51) else bnd (F_MS_begin 168 (nI 6) s21) fun s58 => bnd ((s58.1 148 1).toNatClampNeg) fun z43 => bnd (F_MS_puts 149 16384 0 z43 s58) fun s59 => bnd (F_MS_end  s59) fun s60 => if v = 0 then bnd (sI s60 148 2 (nI 32)) fun s67 => bnd ((s67.1 148 2).toNatClampNeg) fun z48 => bnd (F_MS_take 150 8192 0 z48 s67) fun s68 => bnd (sI s68 148 1 (nI 0)) fun s69 => bnd ((s69.1 148 2).toNatClampNeg) fun z49 => (nI z49, s69) else if v = (nI 1) then bnd (sI s60 148 2 (nI 64)) fun s64 => bnd ((s64.1 148 2).toNatClampNeg) fun z46 => bnd (F_MS_take 150 8192 0 z46 s64) fun s65 => bnd (sI s65 148 1 (nI 0)) fun s66 => bnd ((s66.1 148 2).toNatClampNeg) fun z47 => (nI z47, s66) else bnd (sI s60 148 2 (nI z21)) fun s61 => bnd ((s61.1 148 2).toNatClampNeg) fun z44 => bnd (F_MS_take 150 8192 0 z44 s61) fun s62 => bnd (sI s62 148 1 (nI 0)) fun s63 => bnd ((s63.1 148 2).toNatClampNeg) fun z45 => (nI z45, s63) else if (nI 2) ≤ v then bnd (F_MS_begin 136 (nI 31) s21) fun s22 => bnd ((s22.1 148 1).toNatClampNeg) fun z22 => bnd (F_MS_puts 149 16384 0 z22 s22) fun s23 => bnd (F_MS_end  s23) fun s24 => if v = 0 then bnd (sI s24 148 2 (nI 32)) fun s31 => bnd ((s31.1 148 2).toNatClampNeg) fun z27 => bnd (F_MS_take 150 8192 0 z27 s31) fun s32 => bnd (sI s32 148 1 (nI 0)) fun s33 => bnd ((s33.1 148 2).toNatClampNeg) fun z28 => (nI z28, s33) else if v = (nI 1) then bnd (sI s24 148 2 (nI 64)) fun s28 => bnd ((s28.1 148 2).toNatClampNeg) fun z25 => bnd (F_MS_take 150 8192 0 z25 s28) fun s29 => bnd (sI s29 148 1 (nI 0)) fun s30 => bnd ((s30.1 148 2).toNatClampNeg) fun z26 => (nI z26, s30) else bnd (sI s24 148 2 (nI z21)) fun s25 => bnd ((s25.1 148 2).toNatClampNeg) fun z23 => bnd (F_MS_take 150 8192 0 z23 s25) fun s26 => bnd (sI s26 148 1 (nI 0)) fun s27 => bnd ((s27.1 148 2).toNatClampNeg) fun z24 => (nI z24, s27) else bnd (F_MS_begin 136 (nI 6) s21) fun s34 => bnd ((s34.1 148 1).toNatClampNeg) fun z29 => bnd (F_MS_puts 149 16384 0 z29 s34) fun s35 => bnd (F_MS_end  s35) fun s36 => if v = 0 then bnd (sI s36 148 2 (nI 32)) fun s43 => bnd ((s43.1 148 2).toNatClampNeg) fun z34 => bnd (F_MS_take 150 8192 0 z34 s43) fun s44 => bnd (sI s44 148 1 (nI 0)) fun s45 => bnd ((s45.1 148 2).toNatClampNeg) fun z35 => (nI z35, s45) else if v = (nI 1) then bnd (sI s36 148 2 (nI 64)) fun s40 => bnd ((s40.1 148 2).toNatClampNeg) fun z32 => bnd (F_MS_take 150 8192 0 z32 s40) fun s41 => bnd (sI s41 148 1 (nI 0)) fun s42 => bnd ((s42.1 148 2).toNatClampNeg) fun z33 => (nI z33, s42) else bnd (sI s36 148 2 (nI z21)) fun s37 => bnd ((s37.1 148 2).toNatClampNeg) fun z30 => bnd (F_MS_take 150 8192 0 z30 s37) fun s38 => bnd (sI s38 148 1 (nI 0)) fun s39 => bnd ((s39.1 148 2).toNatClampNeg) fun z31 => (nI z31, s39) else bnd (F_M_fail (nI 1) s21) fun q24 => (q24.1, q24.2)
set_option maxHeartbeats 8000000 in
set_option maxRecDepth 100000 in
theorem N_M_hash (l : Launch) (g : Gd) (sz : Nat) (T : TyN) (s : Sto) (pl : va_W) (hO : okn g T s pl) (hU : inj T) (h0 : Nat) (v : Int32) (v2 : Int32) (tp : Nat) (rs : Nat) (ks : Nat) (k_h0 : T h0 = some 148) (e_tp : s.1 148 1 = nI tp) (e_rs : s.1 148 2 = nI rs) (e_ks : s.1 148 3 = nI ks) (h1 : tp ≤ 16384) (h2 : rs ≤ 8192) (h3 : ks ≤ 8)  : Met l y_M_hash w_M_hash ({ frames := 4, cells := 0, slots := 0, locals := 90 } : Room) (va_Pc [.ref h0, .int v, .int v2] (pr (en g) g.1 vcl sz ([] ++ pl))) (va_Qi (fun (r : Int32) (u : (Int32 × Sto) × va_W) => (u.1 = F_M_hash v v2 s ∧ r = u.1.1 ∧ frm (M_M_hash) s u.1.2 ∧ (∃ x : Nat, u.1.2.1 148 1 = nI x ∧ x ≤ 16384) ∧ (∃ x : Nat, u.1.2.1 148 2 = nI x ∧ x ≤ 8192) ∧ (∃ x : Nat, u.1.2.1 148 3 = nI x ∧ x ≤ 8) ∧ True) ∧ okn g T u.1.2 u.2) (po g.1 vcl (va_A ([] ++ pl) sz) (fun (u : (Int32 × Sto) × va_W) => [] ++ u.2)) (va_A ([] ++ pl) sz)) 0 0 (va_A ([] ++ pl) sz) := by
  refine mc_entry (cc := c_M_hash) (maxL := 3) (ret := (some .int)) (by decide) rfl (Nat.le_of_ble_eq_true rfl) ?_
  intro p e s0 m args below meth c ls F hr hlk hnm hsz hP hD hE hA hl
  obtain ⟨hx, hb, hml, hown, hts⟩ := id F
  have hK := hE.1
  generalize va_A ([] ++ pl) sz = A at hD hE hA ⊢
  have hS : va_S A s0.heap s0.heap [] := va_S.rf
  have hl : lv_has ls 3 [(0, .ref h0), (1, .int v), (2, .int v2)] := hl
  have hR : F_M_hash v v2 s = F_M_hash v v2 s := rfl
  have hF : frm (M_M_hash) s s := frm_rf
  refine lv_aload_n hx hb dM_hash_0 rfl (lv_at hl 0 rfl) ?_
  refine lv_iconst (v := nI 0) hx hb dM_hash_1 (by decide) ?_
  refine nw_put (C := "LatticeKeysModel") (TT := T_M) (N := 14) hx hb hts (wg_ft i_M) ty_M k_M n_M hown hK hO hU k_h0 (kn := 148) (ci := 8) (fl := [(0, 0), (0, 0), (0, 0), (0, 0), (3, 149), (3, 150), (3, 151), (3, 152), (3, 161), (3, 170), (3, 171), (3, 172), (3, 184), (3, 225)]) rfl hP hD hS rfl 0 (by decide) (hts _ (wg_t kw_1526)) (fun _ h9 => h9) rfl (by decide +kernel) rfl dM_hash_2 (fun s21 pl H locs es21 hO hP hD hS => ?_)
  replace hR := bnd_step hR es21
  have hF := frm_sI hF es21 (by unfold M_M_hash; omega)
  have hf21 : s21.1 148 1 = nI tp := fc_ne e_tp es21 (by omega)
  have hf22 : s21.1 148 2 = nI rs := fc_ne e_rs es21 (by omega)
  have hf23 : s21.1 148 3 = nI ks := fc_ne e_ks es21 (by omega)
  have hf24 : s21.1 148 0 = nI 0 := fc_eq es21
  refine lv_iload_n hx hb dM_hash_5 rfl (lv_at hl 1 rfl) ?_
  refine lv_if_lt (tgt := 25) hx hb dM_hash_6 (by decide) (fun h21 => ?_) (fun h21 => ?_)
  · replace hR := hR.trans (if_pos h21)
    refine lv_aload_n hx hb dM_hash_25 rfl (lv_at hl 0 rfl) ?_
    refine lv_iconst (v := nI 1) hx hb dM_hash_26 (by decide) ?_
    refine mp_i (cx := []) (wr := []) hP hD hS hA [] [] rfl rfl rfl (by decide) (va_runV (As := [.int (nI 1)]) (rest := []) F (N_M_fail l g _ T s21 pl hO hU h0 (nI 1) tp rs ks k_h0 hf21 hf22 hf23) (cwV 1 hts (wg_app (wg_c kw_1577 (wg_c kw_1579 (wg_c ks_50 (wg_c kw_9 wg_n)))) kw_1580) rfl rfl rfl (by decide +kernel) ⟨by decide, by decide⟩) (pn_W "LatticeKeysModel" (en_ok g) (ci := 8) (kn := 148) (fl := [(0, 0), (0, 0), (0, 0), (0, 0), (3, 149), (3, 150), (3, 151), (3, 152), (3, 161), (3, 170), (3, 171), (3, 172), (3, 184), (3, 225)]) hK hO k_h0 rfl hP hD hS hA hE [] rfl rfl rfl) rfl rfl hl.1 rfl (lv_room (Nat.le_of_ble_eq_true rfl)) dM_hash_27 ⟨by omega, by omega⟩) (fun r21 u21 H locs hu21 hP hD hS => ?_)
    obtain ⟨q21, pl⟩ := u21
    obtain ⟨⟨eq21, rfl, hFc21, ⟨x21, hx_21, hb_21⟩, ⟨x22, hx_22, hb_22⟩, ⟨x23, hx_23, hb_23⟩, -⟩, hO⟩ := hu21
    have hO : okn g T q21.2 pl := hO
    have hP : va_P g.1 vcl ([] ++ pl) _ := hP
    have hD : va_D _ ([] ++ pl) := hD
    have hFc21 : frm (M_M_fail) s21 q21.2 := hFc21
    have hb_21 : x21 = tp := hb_21
    have hb_22 : x22 = rs := hb_22
    have hb_23 : x23 = ks := hb_23
    replace hR := bnd_step hR eq21
    have hF := frm_tr hF hFc21 (fun k hk => by unfold M_M_fail at hk; unfold M_M_hash; omega)
    refine W.widen (k := 0) (n := 0) (by omega) (by omega) ?_
    exact mp_iret hx hb hr hlk hP hD hS ((q21.1, q21.2), pl) ⟨⟨hR.symm, rfl, hF, ⟨x21, hx_21, by omega⟩, ⟨x22, hx_22, by omega⟩, ⟨x23, hx_23, by omega⟩, trivial⟩, hO⟩ [] rfl rfl rfl (by omega) (by omega) dM_hash_30
  · replace hR := hR.trans (if_neg h21)
    refine lv_iload_n hx hb dM_hash_9 rfl (lv_at hl 1 rfl) ?_
    refine lv_iconst (v := nI 3) hx hb dM_hash_10 (by decide) ?_
    refine lv_icmp_gt (tgt := 25) hx hb dM_hash_11 (by decide) (fun h22 => ?_) (fun h22 => ?_)
    · replace hR := hR.trans (if_pos h22)
      refine lv_aload_n hx hb dM_hash_25 rfl (lv_at hl 0 rfl) ?_
      refine lv_iconst (v := nI 1) hx hb dM_hash_26 (by decide) ?_
      refine mp_i (cx := []) (wr := []) hP hD hS hA [] [] rfl rfl rfl (by decide) (va_runV (As := [.int (nI 1)]) (rest := []) F (N_M_fail l g _ T s21 pl hO hU h0 (nI 1) tp rs ks k_h0 hf21 hf22 hf23) (cwV 1 hts (wg_app (wg_c kw_1577 (wg_c kw_1579 (wg_c ks_50 (wg_c kw_9 wg_n)))) kw_1580) rfl rfl rfl (by decide +kernel) ⟨by decide, by decide⟩) (pn_W "LatticeKeysModel" (en_ok g) (ci := 8) (kn := 148) (fl := [(0, 0), (0, 0), (0, 0), (0, 0), (3, 149), (3, 150), (3, 151), (3, 152), (3, 161), (3, 170), (3, 171), (3, 172), (3, 184), (3, 225)]) hK hO k_h0 rfl hP hD hS hA hE [] rfl rfl rfl) rfl rfl hl.1 rfl (lv_room (Nat.le_of_ble_eq_true rfl)) dM_hash_27 ⟨by omega, by omega⟩) (fun r22 u22 H locs hu22 hP hD hS => ?_)
      obtain ⟨q22, pl⟩ := u22
      obtain ⟨⟨eq22, rfl, hFc22, ⟨x25, hx_25, hb_25⟩, ⟨x26, hx_26, hb_26⟩, ⟨x27, hx_27, hb_27⟩, -⟩, hO⟩ := hu22
      have hO : okn g T q22.2 pl := hO
      have hP : va_P g.1 vcl ([] ++ pl) _ := hP
      have hD : va_D _ ([] ++ pl) := hD
      have hFc22 : frm (M_M_fail) s21 q22.2 := hFc22
      have hb_25 : x25 = tp := hb_25
      have hb_26 : x26 = rs := hb_26
      have hb_27 : x27 = ks := hb_27
      replace hR := bnd_step hR eq22
      have hF := frm_tr hF hFc22 (fun k hk => by unfold M_M_fail at hk; unfold M_M_hash; omega)
      refine W.widen (k := 0) (n := 0) (by omega) (by omega) ?_
      exact mp_iret hx hb hr hlk hP hD hS ((q22.1, q22.2), pl) ⟨⟨hR.symm, rfl, hF, ⟨x25, hx_25, by omega⟩, ⟨x26, hx_26, by omega⟩, ⟨x27, hx_27, by omega⟩, trivial⟩, hO⟩ [] rfl rfl rfl (by omega) (by omega) dM_hash_30
    · replace hR := hR.trans (if_neg h22)
      refine lv_iload_n hx hb dM_hash_14 rfl (lv_at hl 2 rfl) ?_
      refine lv_if_lt (tgt := 25) hx hb dM_hash_15 (by decide) (fun h23 => ?_) (fun h23 => ?_)
      · replace hR := hR.trans (if_pos h23)
        refine lv_aload_n hx hb dM_hash_25 rfl (lv_at hl 0 rfl) ?_
        refine lv_iconst (v := nI 1) hx hb dM_hash_26 (by decide) ?_
        refine mp_i (cx := []) (wr := []) hP hD hS hA [] [] rfl rfl rfl (by decide) (va_runV (As := [.int (nI 1)]) (rest := []) F (N_M_fail l g _ T s21 pl hO hU h0 (nI 1) tp rs ks k_h0 hf21 hf22 hf23) (cwV 1 hts (wg_app (wg_c kw_1577 (wg_c kw_1579 (wg_c ks_50 (wg_c kw_9 wg_n)))) kw_1580) rfl rfl rfl (by decide +kernel) ⟨by decide, by decide⟩) (pn_W "LatticeKeysModel" (en_ok g) (ci := 8) (kn := 148) (fl := [(0, 0), (0, 0), (0, 0), (0, 0), (3, 149), (3, 150), (3, 151), (3, 152), (3, 161), (3, 170), (3, 171), (3, 172), (3, 184), (3, 225)]) hK hO k_h0 rfl hP hD hS hA hE [] rfl rfl rfl) rfl rfl hl.1 rfl (lv_room (Nat.le_of_ble_eq_true rfl)) dM_hash_27 ⟨by omega, by omega⟩) (fun r23 u23 H locs hu23 hP hD hS => ?_)
        obtain ⟨q23, pl⟩ := u23
        obtain ⟨⟨eq23, rfl, hFc23, ⟨x29, hx_29, hb_29⟩, ⟨x30, hx_30, hb_30⟩, ⟨x31, hx_31, hb_31⟩, -⟩, hO⟩ := hu23
        have hO : okn g T q23.2 pl := hO
        have hP : va_P g.1 vcl ([] ++ pl) _ := hP
        have hD : va_D _ ([] ++ pl) := hD
        have hFc23 : frm (M_M_fail) s21 q23.2 := hFc23
        have hb_29 : x29 = tp := hb_29
        have hb_30 : x30 = rs := hb_30
        have hb_31 : x31 = ks := hb_31
        replace hR := bnd_step hR eq23
        have hF := frm_tr hF hFc23 (fun k hk => by unfold M_M_fail at hk; unfold M_M_hash; omega)
        refine W.widen (k := 0) (n := 0) (by omega) (by omega) ?_
        exact mp_iret hx hb hr hlk hP hD hS ((q23.1, q23.2), pl) ⟨⟨hR.symm, rfl, hF, ⟨x29, hx_29, by omega⟩, ⟨x30, hx_30, by omega⟩, ⟨x31, hx_31, by omega⟩, trivial⟩, hO⟩ [] rfl rfl rfl (by omega) (by omega) dM_hash_30
      · replace hR := hR.trans (if_neg h23)
        refine lv_iload_n hx hb dM_hash_18 rfl (lv_at hl 2 rfl) ?_
        refine lv_sipush (v := nI 8192) hx hb dM_hash_19 (by decide) ?_
        refine lv_icmp_le (tgt := 31) hx hb dM_hash_22 (by decide) (fun h24 => ?_) (fun h24 => ?_)
        · replace hR := hR.trans (if_pos h24)
          obtain ⟨z21, hz21, hv21⟩ := i32_le h23 (by omega) h24
          have ez21 : z21 = v2.toNatClampNeg := by rw [hv21]; exact (nI_clamp (by omega)).symm
          replace hR := bnd_step hR ez21
          rw [hv21] at hl
          refine lv_aload_n hx hb dM_hash_31 rfl (lv_at hl 0 rfl) ?_
          refine nw_get (C := "LatticeKeysModel") (TT := T_M) (N := 14) hx hb hts (wg_ft i_M) hown hK hO k_h0 (kn := 148) (ci := 8) (fl := [(0, 0), (0, 0), (0, 0), (0, 0), (3, 149), (3, 150), (3, 151), (3, 152), (3, 161), (3, 170), (3, 171), (3, 172), (3, 184), (3, 225)]) rfl hP rfl 11 (by decide) (hts _ (wg_t kw_1537)) (fun _ h9 => h9) (cd := (3, 172)) rfl dM_hash_32 (fun v21 hv22 => ?_)
          obtain ⟨r24, rfl, kr21⟩ := (show ∃ r : Nat, v21 = .ref r ∧ T r = some 172 from hv22)
          refine lv_iload_n hx hb dM_hash_35 rfl (lv_at hl 1 rfl) ?_
          refine lv_iconst (v := nI 1) hx hb dM_hash_36 (by decide) ?_
          refine lv_icmp_ne (tgt := 45) hx hb dM_hash_37 (by decide) (fun h25 => ?_) (fun h25 => ?_)
          · replace hR := hR.trans (if_neg h25)
            refine lv_iload_n hx hb dM_hash_45 rfl (lv_at hl 1 rfl) ?_
            refine lv_iconst (v := nI 2) hx hb dM_hash_46 (by decide) ?_
            refine lv_icmp_ne (tgt := 56) hx hb dM_hash_47 (by decide) (fun h26 => ?_) (fun h26 => ?_)
            · replace hR := hR.trans (if_neg h26)
              refine lv_sipush (v := nI 136) hx hb dM_hash_56 (by decide) ?_
              refine lv_iload_n hx hb dM_hash_59 rfl (lv_at hl 1 rfl) ?_
              refine lv_iconst (v := nI 2) hx hb dM_hash_60 (by decide) ?_
              refine lv_icmp_ge (tgt := 69) hx hb dM_hash_61 (by decide) (fun h27 => ?_) (fun h27 => ?_)
              · replace hR := hR.trans (if_pos h27)
                refine lv_bipush (v := nI 31) hx hb dM_hash_69 (by decide) ?_
                refine mp_v (cx := []) (wr := []) hP hD hS hA [] [] rfl rfl rfl (by decide) (va_runV (As := [.int (nI 136), .int (nI 31)]) (rest := []) F (N_MS_begin l g _ T s21 pl hO hU r24 136 (nI 31) kr21 (by omega)) (cwV 2 hts (wg_app (wg_c kw_1938 (wg_c kw_1608 (wg_c kw_1609 (wg_c kw_10 wg_n)))) kw_1610) rfl rfl rfl (by decide +kernel) ⟨by decide, by decide⟩) (pn_W "LatticeKeysModel$Sponge" (en_ok g) (ci := 9) (kn := 172) (fl := [(3, 173), (3, 174), (3, 175), (3, 176), (3, 177), (0, 0), (0, 0), (0, 0)]) hK hO kr21 rfl hP hD hS hA hE [] rfl rfl rfl) rfl rfl hl.1 rfl (lv_room (Nat.le_of_ble_eq_true rfl)) dM_hash_71 ⟨by omega, by omega⟩) (fun  u24 H locs hu24 hP hD hS => ?_)
                obtain ⟨s22, pl⟩ := u24
                obtain ⟨⟨eq24, hFc24, ⟨x33, hx_33, hb_33⟩, ⟨x34, hx_34, hb_34⟩, -⟩, hO⟩ := hu24
                have hO : okn g T s22 pl := hO
                have hP : va_P g.1 vcl ([] ++ pl) _ := hP
                have hD : va_D _ ([] ++ pl) := hD
                have hFc24 : frm (M_MS_begin) s21 s22 := hFc24
                have hb_33 : x33 = 0 := hb_33
                have hb_34 : x34 = 136 := hb_34
                replace hR := bnd_step hR eq24
                have hF := frm_tr hF hFc24 (fun k hk => by unfold M_MS_begin at hk; unfold M_M_hash; omega)
                have hf25 : s22.1 148 1 = nI tp := fc_F hf21 hFc24 (by unfold M_MS_begin; omega)
                have hf26 : s22.1 148 2 = nI rs := fc_F hf22 hFc24 (by unfold M_MS_begin; omega)
                have hf27 : s22.1 148 3 = nI ks := fc_F hf23 hFc24 (by unfold M_MS_begin; omega)
                have hf28 : s22.1 148 0 = nI 0 := fc_F hf24 hFc24 (by unfold M_MS_begin; omega)
                refine W.widen (k := 0) (n := 0) (by omega) (by omega) ?_
                refine lv_aload_n hx hb dM_hash_74 rfl (lv_at hl 0 rfl) ?_
                refine nw_get (C := "LatticeKeysModel") (TT := T_M) (N := 14) hx hb hts (wg_ft i_M) hown hK hO k_h0 (kn := 148) (ci := 8) (fl := [(0, 0), (0, 0), (0, 0), (0, 0), (3, 149), (3, 150), (3, 151), (3, 152), (3, 161), (3, 170), (3, 171), (3, 172), (3, 184), (3, 225)]) rfl hP rfl 11 (by decide) (hts _ (wg_t kw_1537)) (fun _ h9 => h9) (cd := (3, 172)) rfl dM_hash_75 (fun v22 hv23 => ?_)
                obtain ⟨r25, rfl, kr22⟩ := (show ∃ r : Nat, v22 = .ref r ∧ T r = some 172 from hv23)
                refine lv_aload_n hx hb dM_hash_78 rfl (lv_at hl 0 rfl) ?_
                refine nw_get (C := "LatticeKeysModel") (TT := T_M) (N := 14) hx hb hts (wg_ft i_M) hown hK hO k_h0 (kn := 148) (ci := 8) (fl := [(0, 0), (0, 0), (0, 0), (0, 0), (3, 149), (3, 150), (3, 151), (3, 152), (3, 161), (3, 170), (3, 171), (3, 172), (3, 184), (3, 225)]) rfl hP rfl 4 (by decide) (hts _ (wg_t kw_1530)) (fun _ h9 => h9) (cd := (3, 149)) rfl dM_hash_79 (fun v23 hv24 => ?_)
                obtain ⟨r26, rfl, kr23⟩ := (show ∃ r : Nat, v23 = .ref r ∧ T r = some 149 from hv24)
                refine lv_iconst (v := nI 0) hx hb dM_hash_82 (by decide) ?_
                refine lv_aload_n hx hb dM_hash_83 rfl (lv_at hl 0 rfl) ?_
                refine nw_get (C := "LatticeKeysModel") (TT := T_M) (N := 14) hx hb hts (wg_ft i_M) hown hK hO k_h0 (kn := 148) (ci := 8) (fl := [(0, 0), (0, 0), (0, 0), (0, 0), (3, 149), (3, 150), (3, 151), (3, 152), (3, 161), (3, 170), (3, 171), (3, 172), (3, 184), (3, 225)]) rfl hP rfl 1 (by decide) (hts _ (wg_t kw_1527)) (fun _ h9 => h9) (cd := (0, 0)) rfl dM_hash_84 (fun v24 hv25 => ?_)
                obtain rfl := (show v24 = .int (s22.1 148 1) from hv25)
                obtain ⟨z22, ez22, hz22, hz23⟩ := cl_of (b := 2147483648) hf25 (by omega) (by decide)
                replace hR := bnd_step hR ez22
                refine mi_as hz22 ?_
                refine mp_v (cx := []) (wr := []) hP hD hS hA [] [] rfl rfl rfl (by decide) (va_runV (As := [.ref r26, .int (nI 0), .int (nI z22)]) (rest := []) F (N_MS_puts l g _ T s22 pl hO hU r25 r26 149 16384 0 z22 x33 x34 kr22 kr23 rfl hx_33 hx_34 (by omega) (by omega) (by omega) (by omega)) (cwV 3 hts (wg_app (wg_c kw_1939 (wg_c kw_1612 (wg_c kw_1613 (wg_c kw_10 wg_n)))) kw_1614) rfl rfl rfl (by decide +kernel) ⟨by decide, by decide⟩) (pn_W "LatticeKeysModel$Sponge" (en_ok g) (ci := 9) (kn := 172) (fl := [(3, 173), (3, 174), (3, 175), (3, 176), (3, 177), (0, 0), (0, 0), (0, 0)]) hK hO kr22 rfl hP hD hS hA hE [] rfl rfl rfl) rfl rfl hl.1 rfl (lv_room (Nat.le_of_ble_eq_true rfl)) dM_hash_87 ⟨by omega, by omega⟩) (fun  u25 H locs hu25 hP hD hS => ?_)
                obtain ⟨s23, pl⟩ := u25
                obtain ⟨⟨eq25, hFc25, ⟨x36, hx_36, hb_36⟩, ⟨x37, hx_37, hb_37⟩, -⟩, hO⟩ := hu25
                have hO : okn g T s23 pl := hO
                have hP : va_P g.1 vcl ([] ++ pl) _ := hP
                have hD : va_D _ ([] ++ pl) := hD
                have hFc25 : frm (M_MS_puts) s22 s23 := hFc25
                have hb_36 : x36 < x34 := hb_36
                have hb_37 : x37 = x34 := hb_37
                replace hR := bnd_step hR eq25
                have hF := frm_tr hF hFc25 (fun k hk => by unfold M_MS_puts at hk; unfold M_M_hash; omega)
                have hf29 : s23.1 148 1 = nI tp := fc_F hf25 hFc25 (by unfold M_MS_puts; omega)
                have hf30 : s23.1 148 2 = nI rs := fc_F hf26 hFc25 (by unfold M_MS_puts; omega)
                have hf31 : s23.1 148 3 = nI ks := fc_F hf27 hFc25 (by unfold M_MS_puts; omega)
                have hf32 : s23.1 148 0 = nI 0 := fc_F hf28 hFc25 (by unfold M_MS_puts; omega)
                refine W.widen (k := 0) (n := 0) (by omega) (by omega) ?_
                refine lv_aload_n hx hb dM_hash_90 rfl (lv_at hl 0 rfl) ?_
                refine nw_get (C := "LatticeKeysModel") (TT := T_M) (N := 14) hx hb hts (wg_ft i_M) hown hK hO k_h0 (kn := 148) (ci := 8) (fl := [(0, 0), (0, 0), (0, 0), (0, 0), (3, 149), (3, 150), (3, 151), (3, 152), (3, 161), (3, 170), (3, 171), (3, 172), (3, 184), (3, 225)]) rfl hP rfl 11 (by decide) (hts _ (wg_t kw_1537)) (fun _ h9 => h9) (cd := (3, 172)) rfl dM_hash_91 (fun v25 hv26 => ?_)
                obtain ⟨r27, rfl, kr24⟩ := (show ∃ r : Nat, v25 = .ref r ∧ T r = some 172 from hv26)
                refine mp_v (cx := []) (wr := []) hP hD hS hA [] [] rfl rfl rfl (by decide) (va_runV (As := []) (rest := []) F (N_MS_end l g _ T s23 pl hO hU r27 x36 x37 kr24 hx_36 hx_37 (by omega) (by omega)) (cwV 0 hts (wg_app (wg_c kw_1940 (wg_c kw_1634 (wg_c kw_1635 (wg_c kw_10 wg_n)))) kw_1636) rfl rfl rfl (by decide +kernel) ⟨by decide, by decide⟩) (pn_W "LatticeKeysModel$Sponge" (en_ok g) (ci := 9) (kn := 172) (fl := [(3, 173), (3, 174), (3, 175), (3, 176), (3, 177), (0, 0), (0, 0), (0, 0)]) hK hO kr24 rfl hP hD hS hA hE [] rfl rfl rfl) rfl rfl hl.1 rfl (lv_room (Nat.le_of_ble_eq_true rfl)) dM_hash_94 ⟨by omega, by omega⟩) (fun  u26 H locs hu26 hP hD hS => ?_)
                obtain ⟨s24, pl⟩ := u26
                obtain ⟨⟨eq26, hFc26, ⟨x39, hx_39, hb_39⟩, ⟨x40, hx_40, hb_40⟩, -⟩, hO⟩ := hu26
                have hO : okn g T s24 pl := hO
                have hP : va_P g.1 vcl ([] ++ pl) _ := hP
                have hD : va_D _ ([] ++ pl) := hD
                have hFc26 : frm (M_MS_end) s23 s24 := hFc26
                have hb_39 : x39 = 0 := hb_39
                have hb_40 : x40 = x37 := hb_40
                replace hR := bnd_step hR eq26
                have hF := frm_tr hF hFc26 (fun k hk => by unfold M_MS_end at hk; unfold M_M_hash; omega)
                have hf33 : s24.1 148 1 = nI tp := fc_F hf29 hFc26 (by unfold M_MS_end; omega)
                have hf34 : s24.1 148 2 = nI rs := fc_F hf30 hFc26 (by unfold M_MS_end; omega)
                have hf35 : s24.1 148 3 = nI ks := fc_F hf31 hFc26 (by unfold M_MS_end; omega)
                have hf36 : s24.1 148 0 = nI 0 := fc_F hf32 hFc26 (by unfold M_MS_end; omega)
                refine W.widen (k := 0) (n := 0) (by omega) (by omega) ?_
                refine lv_aload_n hx hb dM_hash_97 rfl (lv_at hl 0 rfl) ?_
                refine lv_iload_n hx hb dM_hash_98 rfl (lv_at hl 1 rfl) ?_
                refine lv_if_ne (tgt := 107) hx hb dM_hash_99 (by decide) (fun h28 => ?_) (fun h28 => ?_)
                · replace hR := hR.trans (if_neg h28)
                  refine lv_iload_n hx hb dM_hash_107 rfl (lv_at hl 1 rfl) ?_
                  refine lv_iconst (v := nI 1) hx hb dM_hash_108 (by decide) ?_
                  refine lv_icmp_ne (tgt := 117) hx hb dM_hash_109 (by decide) (fun h29 => ?_) (fun h29 => ?_)
                  · replace hR := hR.trans (if_neg h29)
                    refine lv_iload_n hx hb dM_hash_117 rfl (lv_at hl 2 rfl) ?_
                    refine nw_put (C := "LatticeKeysModel") (TT := T_M) (N := 14) hx hb hts (wg_ft i_M) ty_M k_M n_M hown hK hO hU k_h0 (kn := 148) (ci := 8) (fl := [(0, 0), (0, 0), (0, 0), (0, 0), (3, 149), (3, 150), (3, 151), (3, 152), (3, 161), (3, 170), (3, 171), (3, 172), (3, 184), (3, 225)]) rfl hP hD hS rfl 2 (by decide) (hts _ (wg_t kw_1528)) (fun _ h9 => h9) rfl (by decide +kernel) rfl dM_hash_118 (fun s25 pl H locs es22 hO hP hD hS => ?_)
                    replace hR := bnd_step hR es22
                    have hF := frm_sI hF es22 (by unfold M_M_hash; omega)
                    have hf37 : s25.1 148 1 = nI tp := fc_ne hf33 es22 (by omega)
                    have hf39 : s25.1 148 3 = nI ks := fc_ne hf35 es22 (by omega)
                    have hf40 : s25.1 148 0 = nI 0 := fc_ne hf36 es22 (by omega)
                    have hf41 : s25.1 172 6 = nI x39 := fc_ne hx_39 es22 (by omega)
                    have hf42 : s25.1 172 5 = nI x40 := fc_ne hx_40 es22 (by omega)
                    have hf43 : s25.1 148 2 = nI z21 := fc_eq es22
                    refine lv_aload_n hx hb dM_hash_121 rfl (lv_at hl 0 rfl) ?_
                    refine nw_get (C := "LatticeKeysModel") (TT := T_M) (N := 14) hx hb hts (wg_ft i_M) hown hK hO k_h0 (kn := 148) (ci := 8) (fl := [(0, 0), (0, 0), (0, 0), (0, 0), (3, 149), (3, 150), (3, 151), (3, 152), (3, 161), (3, 170), (3, 171), (3, 172), (3, 184), (3, 225)]) rfl hP rfl 11 (by decide) (hts _ (wg_t kw_1537)) (fun _ h9 => h9) (cd := (3, 172)) rfl dM_hash_122 (fun v26 hv27 => ?_)
                    obtain ⟨r28, rfl, kr25⟩ := (show ∃ r : Nat, v26 = .ref r ∧ T r = some 172 from hv27)
                    refine lv_aload_n hx hb dM_hash_125 rfl (lv_at hl 0 rfl) ?_
                    refine nw_get (C := "LatticeKeysModel") (TT := T_M) (N := 14) hx hb hts (wg_ft i_M) hown hK hO k_h0 (kn := 148) (ci := 8) (fl := [(0, 0), (0, 0), (0, 0), (0, 0), (3, 149), (3, 150), (3, 151), (3, 152), (3, 161), (3, 170), (3, 171), (3, 172), (3, 184), (3, 225)]) rfl hP rfl 5 (by decide) (hts _ (wg_t kw_1531)) (fun _ h9 => h9) (cd := (3, 150)) rfl dM_hash_126 (fun v27 hv28 => ?_)
                    obtain ⟨r29, rfl, kr26⟩ := (show ∃ r : Nat, v27 = .ref r ∧ T r = some 150 from hv28)
                    refine lv_iconst (v := nI 0) hx hb dM_hash_129 (by decide) ?_
                    refine lv_aload_n hx hb dM_hash_130 rfl (lv_at hl 0 rfl) ?_
                    refine nw_get (C := "LatticeKeysModel") (TT := T_M) (N := 14) hx hb hts (wg_ft i_M) hown hK hO k_h0 (kn := 148) (ci := 8) (fl := [(0, 0), (0, 0), (0, 0), (0, 0), (3, 149), (3, 150), (3, 151), (3, 152), (3, 161), (3, 170), (3, 171), (3, 172), (3, 184), (3, 225)]) rfl hP rfl 2 (by decide) (hts _ (wg_t kw_1528)) (fun _ h9 => h9) (cd := (0, 0)) rfl dM_hash_131 (fun v28 hv29 => ?_)
                    obtain rfl := (show v28 = .int (s25.1 148 2) from hv29)
                    obtain ⟨z23, ez23, hz24, hz25⟩ := cl_of (b := 2147483648) hf43 (by omega) (by decide)
                    replace hR := bnd_step hR ez23
                    refine mi_as hz24 ?_
                    refine mp_v (cx := []) (wr := []) hP hD hS hA [] [] rfl rfl rfl (by decide) (va_runV (As := [.ref r29, .int (nI 0), .int (nI z23)]) (rest := []) F (N_MS_take l g _ T s25 pl hO hU r28 r29 150 8192 0 z23 x39 x40 kr25 kr26 rfl hf41 hf42 (by omega) (by omega) (by omega) (by omega)) (cwV 3 hts (wg_app (wg_c kw_1941 (wg_c kw_1638 (wg_c kw_1639 (wg_c kw_10 wg_n)))) kw_1640) rfl rfl rfl (by decide +kernel) ⟨by decide, by decide⟩) (pn_W "LatticeKeysModel$Sponge" (en_ok g) (ci := 9) (kn := 172) (fl := [(3, 173), (3, 174), (3, 175), (3, 176), (3, 177), (0, 0), (0, 0), (0, 0)]) hK hO kr25 rfl hP hD hS hA hE [] rfl rfl rfl) rfl rfl hl.1 rfl (lv_room (Nat.le_of_ble_eq_true rfl)) dM_hash_134 ⟨by omega, by omega⟩) (fun  u27 H locs hu27 hP hD hS => ?_)
                    obtain ⟨s26, pl⟩ := u27
                    obtain ⟨⟨eq27, hFc27, ⟨x42, hx_42, hb_42⟩, ⟨x43, hx_43, hb_43⟩, -⟩, hO⟩ := hu27
                    have hO : okn g T s26 pl := hO
                    have hP : va_P g.1 vcl ([] ++ pl) _ := hP
                    have hD : va_D _ ([] ++ pl) := hD
                    have hFc27 : frm (M_MS_take 150) s25 s26 := hFc27
                    have hb_42 : x42 ≤ x40 := hb_42
                    have hb_43 : x43 = x40 := hb_43
                    replace hR := bnd_step hR eq27
                    have hF := frm_tr hF hFc27 (fun k hk => by unfold M_MS_take at hk; unfold M_M_hash; omega)
                    have hf44 : s26.1 148 1 = nI tp := fc_F hf37 hFc27 (by unfold M_MS_take; omega)
                    have hf45 : s26.1 148 3 = nI ks := fc_F hf39 hFc27 (by unfold M_MS_take; omega)
                    have hf46 : s26.1 148 0 = nI 0 := fc_F hf40 hFc27 (by unfold M_MS_take; omega)
                    have hf47 : s26.1 148 2 = nI z21 := fc_F hf43 hFc27 (by unfold M_MS_take; omega)
                    refine W.widen (k := 0) (n := 0) (by omega) (by omega) ?_
                    refine lv_aload_n hx hb dM_hash_137 rfl (lv_at hl 0 rfl) ?_
                    refine lv_iconst (v := nI 0) hx hb dM_hash_138 (by decide) ?_
                    refine nw_put (C := "LatticeKeysModel") (TT := T_M) (N := 14) hx hb hts (wg_ft i_M) ty_M k_M n_M hown hK hO hU k_h0 (kn := 148) (ci := 8) (fl := [(0, 0), (0, 0), (0, 0), (0, 0), (3, 149), (3, 150), (3, 151), (3, 152), (3, 161), (3, 170), (3, 171), (3, 172), (3, 184), (3, 225)]) rfl hP hD hS rfl 1 (by decide) (hts _ (wg_t kw_1527)) (fun _ h9 => h9) rfl (by decide +kernel) rfl dM_hash_139 (fun s27 pl H locs es23 hO hP hD hS => ?_)
                    replace hR := bnd_step hR es23
                    have hF := frm_sI hF es23 (by unfold M_M_hash; omega)
                    have hf49 : s27.1 148 3 = nI ks := fc_ne hf45 es23 (by omega)
                    have hf50 : s27.1 148 0 = nI 0 := fc_ne hf46 es23 (by omega)
                    have hf51 : s27.1 148 2 = nI z21 := fc_ne hf47 es23 (by omega)
                    have hf52 : s27.1 172 6 = nI x42 := fc_ne hx_42 es23 (by omega)
                    have hf53 : s27.1 172 5 = nI x43 := fc_ne hx_43 es23 (by omega)
                    have hf54 : s27.1 148 1 = nI 0 := fc_eq es23
                    refine lv_aload_n hx hb dM_hash_142 rfl (lv_at hl 0 rfl) ?_
                    refine nw_get (C := "LatticeKeysModel") (TT := T_M) (N := 14) hx hb hts (wg_ft i_M) hown hK hO k_h0 (kn := 148) (ci := 8) (fl := [(0, 0), (0, 0), (0, 0), (0, 0), (3, 149), (3, 150), (3, 151), (3, 152), (3, 161), (3, 170), (3, 171), (3, 172), (3, 184), (3, 225)]) rfl hP rfl 2 (by decide) (hts _ (wg_t kw_1528)) (fun _ h9 => h9) (cd := (0, 0)) rfl dM_hash_143 (fun v29 hv30 => ?_)
                    obtain rfl := (show v29 = .int (s27.1 148 2) from hv30)
                    obtain ⟨z24, ez24, hz26, hz27⟩ := cl_of (b := 2147483648) hf51 (by omega) (by decide)
                    replace hR := bnd_step hR ez24
                    refine mi_as hz26 ?_
                    exact mp_iret hx hb hr hlk hP hD hS ((nI z24, s27), pl) ⟨⟨hR.symm, rfl, hF, ⟨0, hf54, by omega⟩, ⟨z21, hf51, by omega⟩, ⟨ks, hf49, by omega⟩, trivial⟩, hO⟩ [] rfl rfl rfl (by omega) (by omega) dM_hash_146
                  · replace hR := hR.trans (if_pos h29)
                    refine lv_bipush (v := nI 64) hx hb dM_hash_112 (by decide) ?_
                    refine lv_goto (tgt := 118) hx hb dM_hash_114 (by decide) ?_
                    refine nw_put (C := "LatticeKeysModel") (TT := T_M) (N := 14) hx hb hts (wg_ft i_M) ty_M k_M n_M hown hK hO hU k_h0 (kn := 148) (ci := 8) (fl := [(0, 0), (0, 0), (0, 0), (0, 0), (3, 149), (3, 150), (3, 151), (3, 152), (3, 161), (3, 170), (3, 171), (3, 172), (3, 184), (3, 225)]) rfl hP hD hS rfl 2 (by decide) (hts _ (wg_t kw_1528)) (fun _ h9 => h9) rfl (by decide +kernel) rfl dM_hash_118 (fun s28 pl H locs es24 hO hP hD hS => ?_)
                    replace hR := bnd_step hR es24
                    have hF := frm_sI hF es24 (by unfold M_M_hash; omega)
                    have hf55 : s28.1 148 1 = nI tp := fc_ne hf33 es24 (by omega)
                    have hf57 : s28.1 148 3 = nI ks := fc_ne hf35 es24 (by omega)
                    have hf58 : s28.1 148 0 = nI 0 := fc_ne hf36 es24 (by omega)
                    have hf59 : s28.1 172 6 = nI x39 := fc_ne hx_39 es24 (by omega)
                    have hf60 : s28.1 172 5 = nI x40 := fc_ne hx_40 es24 (by omega)
                    have hf61 : s28.1 148 2 = nI 64 := fc_eq es24
                    refine lv_aload_n hx hb dM_hash_121 rfl (lv_at hl 0 rfl) ?_
                    refine nw_get (C := "LatticeKeysModel") (TT := T_M) (N := 14) hx hb hts (wg_ft i_M) hown hK hO k_h0 (kn := 148) (ci := 8) (fl := [(0, 0), (0, 0), (0, 0), (0, 0), (3, 149), (3, 150), (3, 151), (3, 152), (3, 161), (3, 170), (3, 171), (3, 172), (3, 184), (3, 225)]) rfl hP rfl 11 (by decide) (hts _ (wg_t kw_1537)) (fun _ h9 => h9) (cd := (3, 172)) rfl dM_hash_122 (fun v30 hv31 => ?_)
                    obtain ⟨r30, rfl, kr27⟩ := (show ∃ r : Nat, v30 = .ref r ∧ T r = some 172 from hv31)
                    refine lv_aload_n hx hb dM_hash_125 rfl (lv_at hl 0 rfl) ?_
                    refine nw_get (C := "LatticeKeysModel") (TT := T_M) (N := 14) hx hb hts (wg_ft i_M) hown hK hO k_h0 (kn := 148) (ci := 8) (fl := [(0, 0), (0, 0), (0, 0), (0, 0), (3, 149), (3, 150), (3, 151), (3, 152), (3, 161), (3, 170), (3, 171), (3, 172), (3, 184), (3, 225)]) rfl hP rfl 5 (by decide) (hts _ (wg_t kw_1531)) (fun _ h9 => h9) (cd := (3, 150)) rfl dM_hash_126 (fun v31 hv32 => ?_)
                    obtain ⟨r31, rfl, kr28⟩ := (show ∃ r : Nat, v31 = .ref r ∧ T r = some 150 from hv32)
                    refine lv_iconst (v := nI 0) hx hb dM_hash_129 (by decide) ?_
                    refine lv_aload_n hx hb dM_hash_130 rfl (lv_at hl 0 rfl) ?_
                    refine nw_get (C := "LatticeKeysModel") (TT := T_M) (N := 14) hx hb hts (wg_ft i_M) hown hK hO k_h0 (kn := 148) (ci := 8) (fl := [(0, 0), (0, 0), (0, 0), (0, 0), (3, 149), (3, 150), (3, 151), (3, 152), (3, 161), (3, 170), (3, 171), (3, 172), (3, 184), (3, 225)]) rfl hP rfl 2 (by decide) (hts _ (wg_t kw_1528)) (fun _ h9 => h9) (cd := (0, 0)) rfl dM_hash_131 (fun v32 hv33 => ?_)
                    obtain rfl := (show v32 = .int (s28.1 148 2) from hv33)
                    obtain ⟨z25, ez25, hz28, hz29⟩ := cl_of (b := 2147483648) hf61 (by omega) (by decide)
                    replace hR := bnd_step hR ez25
                    refine mi_as hz28 ?_
                    refine mp_v (cx := []) (wr := []) hP hD hS hA [] [] rfl rfl rfl (by decide) (va_runV (As := [.ref r31, .int (nI 0), .int (nI z25)]) (rest := []) F (N_MS_take l g _ T s28 pl hO hU r30 r31 150 8192 0 z25 x39 x40 kr27 kr28 rfl hf59 hf60 (by omega) (by omega) (by omega) (by omega)) (cwV 3 hts (wg_app (wg_c kw_1941 (wg_c kw_1638 (wg_c kw_1639 (wg_c kw_10 wg_n)))) kw_1640) rfl rfl rfl (by decide +kernel) ⟨by decide, by decide⟩) (pn_W "LatticeKeysModel$Sponge" (en_ok g) (ci := 9) (kn := 172) (fl := [(3, 173), (3, 174), (3, 175), (3, 176), (3, 177), (0, 0), (0, 0), (0, 0)]) hK hO kr27 rfl hP hD hS hA hE [] rfl rfl rfl) rfl rfl hl.1 rfl (lv_room (Nat.le_of_ble_eq_true rfl)) dM_hash_134 ⟨by omega, by omega⟩) (fun  u28 H locs hu28 hP hD hS => ?_)
                    obtain ⟨s29, pl⟩ := u28
                    obtain ⟨⟨eq28, hFc28, ⟨x45, hx_45, hb_45⟩, ⟨x46, hx_46, hb_46⟩, -⟩, hO⟩ := hu28
                    have hO : okn g T s29 pl := hO
                    have hP : va_P g.1 vcl ([] ++ pl) _ := hP
                    have hD : va_D _ ([] ++ pl) := hD
                    have hFc28 : frm (M_MS_take 150) s28 s29 := hFc28
                    have hb_45 : x45 ≤ x40 := hb_45
                    have hb_46 : x46 = x40 := hb_46
                    replace hR := bnd_step hR eq28
                    have hF := frm_tr hF hFc28 (fun k hk => by unfold M_MS_take at hk; unfold M_M_hash; omega)
                    have hf62 : s29.1 148 1 = nI tp := fc_F hf55 hFc28 (by unfold M_MS_take; omega)
                    have hf63 : s29.1 148 3 = nI ks := fc_F hf57 hFc28 (by unfold M_MS_take; omega)
                    have hf64 : s29.1 148 0 = nI 0 := fc_F hf58 hFc28 (by unfold M_MS_take; omega)
                    have hf65 : s29.1 148 2 = nI 64 := fc_F hf61 hFc28 (by unfold M_MS_take; omega)
                    refine W.widen (k := 0) (n := 0) (by omega) (by omega) ?_
                    refine lv_aload_n hx hb dM_hash_137 rfl (lv_at hl 0 rfl) ?_
                    refine lv_iconst (v := nI 0) hx hb dM_hash_138 (by decide) ?_
                    refine nw_put (C := "LatticeKeysModel") (TT := T_M) (N := 14) hx hb hts (wg_ft i_M) ty_M k_M n_M hown hK hO hU k_h0 (kn := 148) (ci := 8) (fl := [(0, 0), (0, 0), (0, 0), (0, 0), (3, 149), (3, 150), (3, 151), (3, 152), (3, 161), (3, 170), (3, 171), (3, 172), (3, 184), (3, 225)]) rfl hP hD hS rfl 1 (by decide) (hts _ (wg_t kw_1527)) (fun _ h9 => h9) rfl (by decide +kernel) rfl dM_hash_139 (fun s30 pl H locs es25 hO hP hD hS => ?_)
                    replace hR := bnd_step hR es25
                    have hF := frm_sI hF es25 (by unfold M_M_hash; omega)
                    have hf67 : s30.1 148 3 = nI ks := fc_ne hf63 es25 (by omega)
                    have hf68 : s30.1 148 0 = nI 0 := fc_ne hf64 es25 (by omega)
                    have hf69 : s30.1 148 2 = nI 64 := fc_ne hf65 es25 (by omega)
                    have hf70 : s30.1 172 6 = nI x45 := fc_ne hx_45 es25 (by omega)
                    have hf71 : s30.1 172 5 = nI x46 := fc_ne hx_46 es25 (by omega)
                    have hf72 : s30.1 148 1 = nI 0 := fc_eq es25
                    refine lv_aload_n hx hb dM_hash_142 rfl (lv_at hl 0 rfl) ?_
                    refine nw_get (C := "LatticeKeysModel") (TT := T_M) (N := 14) hx hb hts (wg_ft i_M) hown hK hO k_h0 (kn := 148) (ci := 8) (fl := [(0, 0), (0, 0), (0, 0), (0, 0), (3, 149), (3, 150), (3, 151), (3, 152), (3, 161), (3, 170), (3, 171), (3, 172), (3, 184), (3, 225)]) rfl hP rfl 2 (by decide) (hts _ (wg_t kw_1528)) (fun _ h9 => h9) (cd := (0, 0)) rfl dM_hash_143 (fun v33 hv34 => ?_)
                    obtain rfl := (show v33 = .int (s30.1 148 2) from hv34)
                    obtain ⟨z26, ez26, hz30, hz31⟩ := cl_of (b := 2147483648) hf69 (by omega) (by decide)
                    replace hR := bnd_step hR ez26
                    refine mi_as hz30 ?_
                    exact mp_iret hx hb hr hlk hP hD hS ((nI z26, s30), pl) ⟨⟨hR.symm, rfl, hF, ⟨0, hf72, by omega⟩, ⟨64, hf69, by omega⟩, ⟨ks, hf67, by omega⟩, trivial⟩, hO⟩ [] rfl rfl rfl (by omega) (by omega) dM_hash_146
                · replace hR := hR.trans (if_pos h28)
                  refine lv_bipush (v := nI 32) hx hb dM_hash_102 (by decide) ?_
                  refine lv_goto (tgt := 118) hx hb dM_hash_104 (by decide) ?_
                  refine nw_put (C := "LatticeKeysModel") (TT := T_M) (N := 14) hx hb hts (wg_ft i_M) ty_M k_M n_M hown hK hO hU k_h0 (kn := 148) (ci := 8) (fl := [(0, 0), (0, 0), (0, 0), (0, 0), (3, 149), (3, 150), (3, 151), (3, 152), (3, 161), (3, 170), (3, 171), (3, 172), (3, 184), (3, 225)]) rfl hP hD hS rfl 2 (by decide) (hts _ (wg_t kw_1528)) (fun _ h9 => h9) rfl (by decide +kernel) rfl dM_hash_118 (fun s31 pl H locs es26 hO hP hD hS => ?_)
                  replace hR := bnd_step hR es26
                  have hF := frm_sI hF es26 (by unfold M_M_hash; omega)
                  have hf73 : s31.1 148 1 = nI tp := fc_ne hf33 es26 (by omega)
                  have hf75 : s31.1 148 3 = nI ks := fc_ne hf35 es26 (by omega)
                  have hf76 : s31.1 148 0 = nI 0 := fc_ne hf36 es26 (by omega)
                  have hf77 : s31.1 172 6 = nI x39 := fc_ne hx_39 es26 (by omega)
                  have hf78 : s31.1 172 5 = nI x40 := fc_ne hx_40 es26 (by omega)
                  have hf79 : s31.1 148 2 = nI 32 := fc_eq es26
                  refine lv_aload_n hx hb dM_hash_121 rfl (lv_at hl 0 rfl) ?_
                  refine nw_get (C := "LatticeKeysModel") (TT := T_M) (N := 14) hx hb hts (wg_ft i_M) hown hK hO k_h0 (kn := 148) (ci := 8) (fl := [(0, 0), (0, 0), (0, 0), (0, 0), (3, 149), (3, 150), (3, 151), (3, 152), (3, 161), (3, 170), (3, 171), (3, 172), (3, 184), (3, 225)]) rfl hP rfl 11 (by decide) (hts _ (wg_t kw_1537)) (fun _ h9 => h9) (cd := (3, 172)) rfl dM_hash_122 (fun v34 hv35 => ?_)
                  obtain ⟨r32, rfl, kr29⟩ := (show ∃ r : Nat, v34 = .ref r ∧ T r = some 172 from hv35)
                  refine lv_aload_n hx hb dM_hash_125 rfl (lv_at hl 0 rfl) ?_
                  refine nw_get (C := "LatticeKeysModel") (TT := T_M) (N := 14) hx hb hts (wg_ft i_M) hown hK hO k_h0 (kn := 148) (ci := 8) (fl := [(0, 0), (0, 0), (0, 0), (0, 0), (3, 149), (3, 150), (3, 151), (3, 152), (3, 161), (3, 170), (3, 171), (3, 172), (3, 184), (3, 225)]) rfl hP rfl 5 (by decide) (hts _ (wg_t kw_1531)) (fun _ h9 => h9) (cd := (3, 150)) rfl dM_hash_126 (fun v35 hv36 => ?_)
                  obtain ⟨r33, rfl, kr30⟩ := (show ∃ r : Nat, v35 = .ref r ∧ T r = some 150 from hv36)
                  refine lv_iconst (v := nI 0) hx hb dM_hash_129 (by decide) ?_
                  refine lv_aload_n hx hb dM_hash_130 rfl (lv_at hl 0 rfl) ?_
                  refine nw_get (C := "LatticeKeysModel") (TT := T_M) (N := 14) hx hb hts (wg_ft i_M) hown hK hO k_h0 (kn := 148) (ci := 8) (fl := [(0, 0), (0, 0), (0, 0), (0, 0), (3, 149), (3, 150), (3, 151), (3, 152), (3, 161), (3, 170), (3, 171), (3, 172), (3, 184), (3, 225)]) rfl hP rfl 2 (by decide) (hts _ (wg_t kw_1528)) (fun _ h9 => h9) (cd := (0, 0)) rfl dM_hash_131 (fun v36 hv37 => ?_)
                  obtain rfl := (show v36 = .int (s31.1 148 2) from hv37)
                  obtain ⟨z27, ez27, hz32, hz33⟩ := cl_of (b := 2147483648) hf79 (by omega) (by decide)
                  replace hR := bnd_step hR ez27
                  refine mi_as hz32 ?_
                  refine mp_v (cx := []) (wr := []) hP hD hS hA [] [] rfl rfl rfl (by decide) (va_runV (As := [.ref r33, .int (nI 0), .int (nI z27)]) (rest := []) F (N_MS_take l g _ T s31 pl hO hU r32 r33 150 8192 0 z27 x39 x40 kr29 kr30 rfl hf77 hf78 (by omega) (by omega) (by omega) (by omega)) (cwV 3 hts (wg_app (wg_c kw_1941 (wg_c kw_1638 (wg_c kw_1639 (wg_c kw_10 wg_n)))) kw_1640) rfl rfl rfl (by decide +kernel) ⟨by decide, by decide⟩) (pn_W "LatticeKeysModel$Sponge" (en_ok g) (ci := 9) (kn := 172) (fl := [(3, 173), (3, 174), (3, 175), (3, 176), (3, 177), (0, 0), (0, 0), (0, 0)]) hK hO kr29 rfl hP hD hS hA hE [] rfl rfl rfl) rfl rfl hl.1 rfl (lv_room (Nat.le_of_ble_eq_true rfl)) dM_hash_134 ⟨by omega, by omega⟩) (fun  u29 H locs hu29 hP hD hS => ?_)
                  obtain ⟨s32, pl⟩ := u29
                  obtain ⟨⟨eq29, hFc29, ⟨x48, hx_48, hb_48⟩, ⟨x49, hx_49, hb_49⟩, -⟩, hO⟩ := hu29
                  have hO : okn g T s32 pl := hO
                  have hP : va_P g.1 vcl ([] ++ pl) _ := hP
                  have hD : va_D _ ([] ++ pl) := hD
                  have hFc29 : frm (M_MS_take 150) s31 s32 := hFc29
                  have hb_48 : x48 ≤ x40 := hb_48
                  have hb_49 : x49 = x40 := hb_49
                  replace hR := bnd_step hR eq29
                  have hF := frm_tr hF hFc29 (fun k hk => by unfold M_MS_take at hk; unfold M_M_hash; omega)
                  have hf80 : s32.1 148 1 = nI tp := fc_F hf73 hFc29 (by unfold M_MS_take; omega)
                  have hf81 : s32.1 148 3 = nI ks := fc_F hf75 hFc29 (by unfold M_MS_take; omega)
                  have hf82 : s32.1 148 0 = nI 0 := fc_F hf76 hFc29 (by unfold M_MS_take; omega)
                  have hf83 : s32.1 148 2 = nI 32 := fc_F hf79 hFc29 (by unfold M_MS_take; omega)
                  refine W.widen (k := 0) (n := 0) (by omega) (by omega) ?_
                  refine lv_aload_n hx hb dM_hash_137 rfl (lv_at hl 0 rfl) ?_
                  refine lv_iconst (v := nI 0) hx hb dM_hash_138 (by decide) ?_
                  refine nw_put (C := "LatticeKeysModel") (TT := T_M) (N := 14) hx hb hts (wg_ft i_M) ty_M k_M n_M hown hK hO hU k_h0 (kn := 148) (ci := 8) (fl := [(0, 0), (0, 0), (0, 0), (0, 0), (3, 149), (3, 150), (3, 151), (3, 152), (3, 161), (3, 170), (3, 171), (3, 172), (3, 184), (3, 225)]) rfl hP hD hS rfl 1 (by decide) (hts _ (wg_t kw_1527)) (fun _ h9 => h9) rfl (by decide +kernel) rfl dM_hash_139 (fun s33 pl H locs es27 hO hP hD hS => ?_)
                  replace hR := bnd_step hR es27
                  have hF := frm_sI hF es27 (by unfold M_M_hash; omega)
                  have hf85 : s33.1 148 3 = nI ks := fc_ne hf81 es27 (by omega)
                  have hf86 : s33.1 148 0 = nI 0 := fc_ne hf82 es27 (by omega)
                  have hf87 : s33.1 148 2 = nI 32 := fc_ne hf83 es27 (by omega)
                  have hf88 : s33.1 172 6 = nI x48 := fc_ne hx_48 es27 (by omega)
                  have hf89 : s33.1 172 5 = nI x49 := fc_ne hx_49 es27 (by omega)
                  have hf90 : s33.1 148 1 = nI 0 := fc_eq es27
                  refine lv_aload_n hx hb dM_hash_142 rfl (lv_at hl 0 rfl) ?_
                  refine nw_get (C := "LatticeKeysModel") (TT := T_M) (N := 14) hx hb hts (wg_ft i_M) hown hK hO k_h0 (kn := 148) (ci := 8) (fl := [(0, 0), (0, 0), (0, 0), (0, 0), (3, 149), (3, 150), (3, 151), (3, 152), (3, 161), (3, 170), (3, 171), (3, 172), (3, 184), (3, 225)]) rfl hP rfl 2 (by decide) (hts _ (wg_t kw_1528)) (fun _ h9 => h9) (cd := (0, 0)) rfl dM_hash_143 (fun v37 hv38 => ?_)
                  obtain rfl := (show v37 = .int (s33.1 148 2) from hv38)
                  obtain ⟨z28, ez28, hz34, hz35⟩ := cl_of (b := 2147483648) hf87 (by omega) (by decide)
                  replace hR := bnd_step hR ez28
                  refine mi_as hz34 ?_
                  exact mp_iret hx hb hr hlk hP hD hS ((nI z28, s33), pl) ⟨⟨hR.symm, rfl, hF, ⟨0, hf90, by omega⟩, ⟨32, hf87, by omega⟩, ⟨ks, hf85, by omega⟩, trivial⟩, hO⟩ [] rfl rfl rfl (by omega) (by omega) dM_hash_146
              · replace hR := hR.trans (if_neg h27)
                refine lv_bipush (v := nI 6) hx hb dM_hash_64 (by decide) ?_
                refine lv_goto (tgt := 71) hx hb dM_hash_66 (by decide) ?_
                refine mp_v (cx := []) (wr := []) hP hD hS hA [] [] rfl rfl rfl (by decide) (va_runV (As := [.int (nI 136), .int (nI 6)]) (rest := []) F (N_MS_begin l g _ T s21 pl hO hU r24 136 (nI 6) kr21 (by omega)) (cwV 2 hts (wg_app (wg_c kw_1938 (wg_c kw_1608 (wg_c kw_1609 (wg_c kw_10 wg_n)))) kw_1610) rfl rfl rfl (by decide +kernel) ⟨by decide, by decide⟩) (pn_W "LatticeKeysModel$Sponge" (en_ok g) (ci := 9) (kn := 172) (fl := [(3, 173), (3, 174), (3, 175), (3, 176), (3, 177), (0, 0), (0, 0), (0, 0)]) hK hO kr21 rfl hP hD hS hA hE [] rfl rfl rfl) rfl rfl hl.1 rfl (lv_room (Nat.le_of_ble_eq_true rfl)) dM_hash_71 ⟨by omega, by omega⟩) (fun  u30 H locs hu30 hP hD hS => ?_)
                obtain ⟨s34, pl⟩ := u30
                obtain ⟨⟨eq30, hFc30, ⟨x51, hx_51, hb_51⟩, ⟨x52, hx_52, hb_52⟩, -⟩, hO⟩ := hu30
                have hO : okn g T s34 pl := hO
                have hP : va_P g.1 vcl ([] ++ pl) _ := hP
                have hD : va_D _ ([] ++ pl) := hD
                have hFc30 : frm (M_MS_begin) s21 s34 := hFc30
                have hb_51 : x51 = 0 := hb_51
                have hb_52 : x52 = 136 := hb_52
                replace hR := bnd_step hR eq30
                have hF := frm_tr hF hFc30 (fun k hk => by unfold M_MS_begin at hk; unfold M_M_hash; omega)
                have hf91 : s34.1 148 1 = nI tp := fc_F hf21 hFc30 (by unfold M_MS_begin; omega)
                have hf92 : s34.1 148 2 = nI rs := fc_F hf22 hFc30 (by unfold M_MS_begin; omega)
                have hf93 : s34.1 148 3 = nI ks := fc_F hf23 hFc30 (by unfold M_MS_begin; omega)
                have hf94 : s34.1 148 0 = nI 0 := fc_F hf24 hFc30 (by unfold M_MS_begin; omega)
                refine W.widen (k := 0) (n := 0) (by omega) (by omega) ?_
                refine lv_aload_n hx hb dM_hash_74 rfl (lv_at hl 0 rfl) ?_
                refine nw_get (C := "LatticeKeysModel") (TT := T_M) (N := 14) hx hb hts (wg_ft i_M) hown hK hO k_h0 (kn := 148) (ci := 8) (fl := [(0, 0), (0, 0), (0, 0), (0, 0), (3, 149), (3, 150), (3, 151), (3, 152), (3, 161), (3, 170), (3, 171), (3, 172), (3, 184), (3, 225)]) rfl hP rfl 11 (by decide) (hts _ (wg_t kw_1537)) (fun _ h9 => h9) (cd := (3, 172)) rfl dM_hash_75 (fun v38 hv39 => ?_)
                obtain ⟨r34, rfl, kr31⟩ := (show ∃ r : Nat, v38 = .ref r ∧ T r = some 172 from hv39)
                refine lv_aload_n hx hb dM_hash_78 rfl (lv_at hl 0 rfl) ?_
                refine nw_get (C := "LatticeKeysModel") (TT := T_M) (N := 14) hx hb hts (wg_ft i_M) hown hK hO k_h0 (kn := 148) (ci := 8) (fl := [(0, 0), (0, 0), (0, 0), (0, 0), (3, 149), (3, 150), (3, 151), (3, 152), (3, 161), (3, 170), (3, 171), (3, 172), (3, 184), (3, 225)]) rfl hP rfl 4 (by decide) (hts _ (wg_t kw_1530)) (fun _ h9 => h9) (cd := (3, 149)) rfl dM_hash_79 (fun v39 hv40 => ?_)
                obtain ⟨r35, rfl, kr32⟩ := (show ∃ r : Nat, v39 = .ref r ∧ T r = some 149 from hv40)
                refine lv_iconst (v := nI 0) hx hb dM_hash_82 (by decide) ?_
                refine lv_aload_n hx hb dM_hash_83 rfl (lv_at hl 0 rfl) ?_
                refine nw_get (C := "LatticeKeysModel") (TT := T_M) (N := 14) hx hb hts (wg_ft i_M) hown hK hO k_h0 (kn := 148) (ci := 8) (fl := [(0, 0), (0, 0), (0, 0), (0, 0), (3, 149), (3, 150), (3, 151), (3, 152), (3, 161), (3, 170), (3, 171), (3, 172), (3, 184), (3, 225)]) rfl hP rfl 1 (by decide) (hts _ (wg_t kw_1527)) (fun _ h9 => h9) (cd := (0, 0)) rfl dM_hash_84 (fun v40 hv41 => ?_)
                obtain rfl := (show v40 = .int (s34.1 148 1) from hv41)
                obtain ⟨z29, ez29, hz36, hz37⟩ := cl_of (b := 2147483648) hf91 (by omega) (by decide)
                replace hR := bnd_step hR ez29
                refine mi_as hz36 ?_
                refine mp_v (cx := []) (wr := []) hP hD hS hA [] [] rfl rfl rfl (by decide) (va_runV (As := [.ref r35, .int (nI 0), .int (nI z29)]) (rest := []) F (N_MS_puts l g _ T s34 pl hO hU r34 r35 149 16384 0 z29 x51 x52 kr31 kr32 rfl hx_51 hx_52 (by omega) (by omega) (by omega) (by omega)) (cwV 3 hts (wg_app (wg_c kw_1939 (wg_c kw_1612 (wg_c kw_1613 (wg_c kw_10 wg_n)))) kw_1614) rfl rfl rfl (by decide +kernel) ⟨by decide, by decide⟩) (pn_W "LatticeKeysModel$Sponge" (en_ok g) (ci := 9) (kn := 172) (fl := [(3, 173), (3, 174), (3, 175), (3, 176), (3, 177), (0, 0), (0, 0), (0, 0)]) hK hO kr31 rfl hP hD hS hA hE [] rfl rfl rfl) rfl rfl hl.1 rfl (lv_room (Nat.le_of_ble_eq_true rfl)) dM_hash_87 ⟨by omega, by omega⟩) (fun  u31 H locs hu31 hP hD hS => ?_)
                obtain ⟨s35, pl⟩ := u31
                obtain ⟨⟨eq31, hFc31, ⟨x54, hx_54, hb_54⟩, ⟨x55, hx_55, hb_55⟩, -⟩, hO⟩ := hu31
                have hO : okn g T s35 pl := hO
                have hP : va_P g.1 vcl ([] ++ pl) _ := hP
                have hD : va_D _ ([] ++ pl) := hD
                have hFc31 : frm (M_MS_puts) s34 s35 := hFc31
                have hb_54 : x54 < x52 := hb_54
                have hb_55 : x55 = x52 := hb_55
                replace hR := bnd_step hR eq31
                have hF := frm_tr hF hFc31 (fun k hk => by unfold M_MS_puts at hk; unfold M_M_hash; omega)
                have hf95 : s35.1 148 1 = nI tp := fc_F hf91 hFc31 (by unfold M_MS_puts; omega)
                have hf96 : s35.1 148 2 = nI rs := fc_F hf92 hFc31 (by unfold M_MS_puts; omega)
                have hf97 : s35.1 148 3 = nI ks := fc_F hf93 hFc31 (by unfold M_MS_puts; omega)
                have hf98 : s35.1 148 0 = nI 0 := fc_F hf94 hFc31 (by unfold M_MS_puts; omega)
                refine W.widen (k := 0) (n := 0) (by omega) (by omega) ?_
                refine lv_aload_n hx hb dM_hash_90 rfl (lv_at hl 0 rfl) ?_
                refine nw_get (C := "LatticeKeysModel") (TT := T_M) (N := 14) hx hb hts (wg_ft i_M) hown hK hO k_h0 (kn := 148) (ci := 8) (fl := [(0, 0), (0, 0), (0, 0), (0, 0), (3, 149), (3, 150), (3, 151), (3, 152), (3, 161), (3, 170), (3, 171), (3, 172), (3, 184), (3, 225)]) rfl hP rfl 11 (by decide) (hts _ (wg_t kw_1537)) (fun _ h9 => h9) (cd := (3, 172)) rfl dM_hash_91 (fun v41 hv42 => ?_)
                obtain ⟨r36, rfl, kr33⟩ := (show ∃ r : Nat, v41 = .ref r ∧ T r = some 172 from hv42)
                refine mp_v (cx := []) (wr := []) hP hD hS hA [] [] rfl rfl rfl (by decide) (va_runV (As := []) (rest := []) F (N_MS_end l g _ T s35 pl hO hU r36 x54 x55 kr33 hx_54 hx_55 (by omega) (by omega)) (cwV 0 hts (wg_app (wg_c kw_1940 (wg_c kw_1634 (wg_c kw_1635 (wg_c kw_10 wg_n)))) kw_1636) rfl rfl rfl (by decide +kernel) ⟨by decide, by decide⟩) (pn_W "LatticeKeysModel$Sponge" (en_ok g) (ci := 9) (kn := 172) (fl := [(3, 173), (3, 174), (3, 175), (3, 176), (3, 177), (0, 0), (0, 0), (0, 0)]) hK hO kr33 rfl hP hD hS hA hE [] rfl rfl rfl) rfl rfl hl.1 rfl (lv_room (Nat.le_of_ble_eq_true rfl)) dM_hash_94 ⟨by omega, by omega⟩) (fun  u32 H locs hu32 hP hD hS => ?_)
                obtain ⟨s36, pl⟩ := u32
                obtain ⟨⟨eq32, hFc32, ⟨x57, hx_57, hb_57⟩, ⟨x58, hx_58, hb_58⟩, -⟩, hO⟩ := hu32
                have hO : okn g T s36 pl := hO
                have hP : va_P g.1 vcl ([] ++ pl) _ := hP
                have hD : va_D _ ([] ++ pl) := hD
                have hFc32 : frm (M_MS_end) s35 s36 := hFc32
                have hb_57 : x57 = 0 := hb_57
                have hb_58 : x58 = x55 := hb_58
                replace hR := bnd_step hR eq32
                have hF := frm_tr hF hFc32 (fun k hk => by unfold M_MS_end at hk; unfold M_M_hash; omega)
                have hf99 : s36.1 148 1 = nI tp := fc_F hf95 hFc32 (by unfold M_MS_end; omega)
                have hf100 : s36.1 148 2 = nI rs := fc_F hf96 hFc32 (by unfold M_MS_end; omega)
                have hf101 : s36.1 148 3 = nI ks := fc_F hf97 hFc32 (by unfold M_MS_end; omega)
                have hf102 : s36.1 148 0 = nI 0 := fc_F hf98 hFc32 (by unfold M_MS_end; omega)
                refine W.widen (k := 0) (n := 0) (by omega) (by omega) ?_
                refine lv_aload_n hx hb dM_hash_97 rfl (lv_at hl 0 rfl) ?_
                refine lv_iload_n hx hb dM_hash_98 rfl (lv_at hl 1 rfl) ?_
                refine lv_if_ne (tgt := 107) hx hb dM_hash_99 (by decide) (fun h30 => ?_) (fun h30 => ?_)
                · replace hR := hR.trans (if_neg h30)
                  refine lv_iload_n hx hb dM_hash_107 rfl (lv_at hl 1 rfl) ?_
                  refine lv_iconst (v := nI 1) hx hb dM_hash_108 (by decide) ?_
                  refine lv_icmp_ne (tgt := 117) hx hb dM_hash_109 (by decide) (fun h31 => ?_) (fun h31 => ?_)
                  · replace hR := hR.trans (if_neg h31)
                    refine lv_iload_n hx hb dM_hash_117 rfl (lv_at hl 2 rfl) ?_
                    refine nw_put (C := "LatticeKeysModel") (TT := T_M) (N := 14) hx hb hts (wg_ft i_M) ty_M k_M n_M hown hK hO hU k_h0 (kn := 148) (ci := 8) (fl := [(0, 0), (0, 0), (0, 0), (0, 0), (3, 149), (3, 150), (3, 151), (3, 152), (3, 161), (3, 170), (3, 171), (3, 172), (3, 184), (3, 225)]) rfl hP hD hS rfl 2 (by decide) (hts _ (wg_t kw_1528)) (fun _ h9 => h9) rfl (by decide +kernel) rfl dM_hash_118 (fun s37 pl H locs es28 hO hP hD hS => ?_)
                    replace hR := bnd_step hR es28
                    have hF := frm_sI hF es28 (by unfold M_M_hash; omega)
                    have hf103 : s37.1 148 1 = nI tp := fc_ne hf99 es28 (by omega)
                    have hf105 : s37.1 148 3 = nI ks := fc_ne hf101 es28 (by omega)
                    have hf106 : s37.1 148 0 = nI 0 := fc_ne hf102 es28 (by omega)
                    have hf107 : s37.1 172 6 = nI x57 := fc_ne hx_57 es28 (by omega)
                    have hf108 : s37.1 172 5 = nI x58 := fc_ne hx_58 es28 (by omega)
                    have hf109 : s37.1 148 2 = nI z21 := fc_eq es28
                    refine lv_aload_n hx hb dM_hash_121 rfl (lv_at hl 0 rfl) ?_
                    refine nw_get (C := "LatticeKeysModel") (TT := T_M) (N := 14) hx hb hts (wg_ft i_M) hown hK hO k_h0 (kn := 148) (ci := 8) (fl := [(0, 0), (0, 0), (0, 0), (0, 0), (3, 149), (3, 150), (3, 151), (3, 152), (3, 161), (3, 170), (3, 171), (3, 172), (3, 184), (3, 225)]) rfl hP rfl 11 (by decide) (hts _ (wg_t kw_1537)) (fun _ h9 => h9) (cd := (3, 172)) rfl dM_hash_122 (fun v42 hv43 => ?_)
                    obtain ⟨r37, rfl, kr34⟩ := (show ∃ r : Nat, v42 = .ref r ∧ T r = some 172 from hv43)
                    refine lv_aload_n hx hb dM_hash_125 rfl (lv_at hl 0 rfl) ?_
                    refine nw_get (C := "LatticeKeysModel") (TT := T_M) (N := 14) hx hb hts (wg_ft i_M) hown hK hO k_h0 (kn := 148) (ci := 8) (fl := [(0, 0), (0, 0), (0, 0), (0, 0), (3, 149), (3, 150), (3, 151), (3, 152), (3, 161), (3, 170), (3, 171), (3, 172), (3, 184), (3, 225)]) rfl hP rfl 5 (by decide) (hts _ (wg_t kw_1531)) (fun _ h9 => h9) (cd := (3, 150)) rfl dM_hash_126 (fun v43 hv44 => ?_)
                    obtain ⟨r38, rfl, kr35⟩ := (show ∃ r : Nat, v43 = .ref r ∧ T r = some 150 from hv44)
                    refine lv_iconst (v := nI 0) hx hb dM_hash_129 (by decide) ?_
                    refine lv_aload_n hx hb dM_hash_130 rfl (lv_at hl 0 rfl) ?_
                    refine nw_get (C := "LatticeKeysModel") (TT := T_M) (N := 14) hx hb hts (wg_ft i_M) hown hK hO k_h0 (kn := 148) (ci := 8) (fl := [(0, 0), (0, 0), (0, 0), (0, 0), (3, 149), (3, 150), (3, 151), (3, 152), (3, 161), (3, 170), (3, 171), (3, 172), (3, 184), (3, 225)]) rfl hP rfl 2 (by decide) (hts _ (wg_t kw_1528)) (fun _ h9 => h9) (cd := (0, 0)) rfl dM_hash_131 (fun v44 hv45 => ?_)
                    obtain rfl := (show v44 = .int (s37.1 148 2) from hv45)
                    obtain ⟨z30, ez30, hz38, hz39⟩ := cl_of (b := 2147483648) hf109 (by omega) (by decide)
                    replace hR := bnd_step hR ez30
                    refine mi_as hz38 ?_
                    refine mp_v (cx := []) (wr := []) hP hD hS hA [] [] rfl rfl rfl (by decide) (va_runV (As := [.ref r38, .int (nI 0), .int (nI z30)]) (rest := []) F (N_MS_take l g _ T s37 pl hO hU r37 r38 150 8192 0 z30 x57 x58 kr34 kr35 rfl hf107 hf108 (by omega) (by omega) (by omega) (by omega)) (cwV 3 hts (wg_app (wg_c kw_1941 (wg_c kw_1638 (wg_c kw_1639 (wg_c kw_10 wg_n)))) kw_1640) rfl rfl rfl (by decide +kernel) ⟨by decide, by decide⟩) (pn_W "LatticeKeysModel$Sponge" (en_ok g) (ci := 9) (kn := 172) (fl := [(3, 173), (3, 174), (3, 175), (3, 176), (3, 177), (0, 0), (0, 0), (0, 0)]) hK hO kr34 rfl hP hD hS hA hE [] rfl rfl rfl) rfl rfl hl.1 rfl (lv_room (Nat.le_of_ble_eq_true rfl)) dM_hash_134 ⟨by omega, by omega⟩) (fun  u33 H locs hu33 hP hD hS => ?_)
                    obtain ⟨s38, pl⟩ := u33
                    obtain ⟨⟨eq33, hFc33, ⟨x60, hx_60, hb_60⟩, ⟨x61, hx_61, hb_61⟩, -⟩, hO⟩ := hu33
                    have hO : okn g T s38 pl := hO
                    have hP : va_P g.1 vcl ([] ++ pl) _ := hP
                    have hD : va_D _ ([] ++ pl) := hD
                    have hFc33 : frm (M_MS_take 150) s37 s38 := hFc33
                    have hb_60 : x60 ≤ x58 := hb_60
                    have hb_61 : x61 = x58 := hb_61
                    replace hR := bnd_step hR eq33
                    have hF := frm_tr hF hFc33 (fun k hk => by unfold M_MS_take at hk; unfold M_M_hash; omega)
                    have hf110 : s38.1 148 1 = nI tp := fc_F hf103 hFc33 (by unfold M_MS_take; omega)
                    have hf111 : s38.1 148 3 = nI ks := fc_F hf105 hFc33 (by unfold M_MS_take; omega)
                    have hf112 : s38.1 148 0 = nI 0 := fc_F hf106 hFc33 (by unfold M_MS_take; omega)
                    have hf113 : s38.1 148 2 = nI z21 := fc_F hf109 hFc33 (by unfold M_MS_take; omega)
                    refine W.widen (k := 0) (n := 0) (by omega) (by omega) ?_
                    refine lv_aload_n hx hb dM_hash_137 rfl (lv_at hl 0 rfl) ?_
                    refine lv_iconst (v := nI 0) hx hb dM_hash_138 (by decide) ?_
                    refine nw_put (C := "LatticeKeysModel") (TT := T_M) (N := 14) hx hb hts (wg_ft i_M) ty_M k_M n_M hown hK hO hU k_h0 (kn := 148) (ci := 8) (fl := [(0, 0), (0, 0), (0, 0), (0, 0), (3, 149), (3, 150), (3, 151), (3, 152), (3, 161), (3, 170), (3, 171), (3, 172), (3, 184), (3, 225)]) rfl hP hD hS rfl 1 (by decide) (hts _ (wg_t kw_1527)) (fun _ h9 => h9) rfl (by decide +kernel) rfl dM_hash_139 (fun s39 pl H locs es29 hO hP hD hS => ?_)
                    replace hR := bnd_step hR es29
                    have hF := frm_sI hF es29 (by unfold M_M_hash; omega)
                    have hf115 : s39.1 148 3 = nI ks := fc_ne hf111 es29 (by omega)
                    have hf116 : s39.1 148 0 = nI 0 := fc_ne hf112 es29 (by omega)
                    have hf117 : s39.1 148 2 = nI z21 := fc_ne hf113 es29 (by omega)
                    have hf118 : s39.1 172 6 = nI x60 := fc_ne hx_60 es29 (by omega)
                    have hf119 : s39.1 172 5 = nI x61 := fc_ne hx_61 es29 (by omega)
                    have hf120 : s39.1 148 1 = nI 0 := fc_eq es29
                    refine lv_aload_n hx hb dM_hash_142 rfl (lv_at hl 0 rfl) ?_
                    refine nw_get (C := "LatticeKeysModel") (TT := T_M) (N := 14) hx hb hts (wg_ft i_M) hown hK hO k_h0 (kn := 148) (ci := 8) (fl := [(0, 0), (0, 0), (0, 0), (0, 0), (3, 149), (3, 150), (3, 151), (3, 152), (3, 161), (3, 170), (3, 171), (3, 172), (3, 184), (3, 225)]) rfl hP rfl 2 (by decide) (hts _ (wg_t kw_1528)) (fun _ h9 => h9) (cd := (0, 0)) rfl dM_hash_143 (fun v45 hv46 => ?_)
                    obtain rfl := (show v45 = .int (s39.1 148 2) from hv46)
                    obtain ⟨z31, ez31, hz40, hz41⟩ := cl_of (b := 2147483648) hf117 (by omega) (by decide)
                    replace hR := bnd_step hR ez31
                    refine mi_as hz40 ?_
                    exact mp_iret hx hb hr hlk hP hD hS ((nI z31, s39), pl) ⟨⟨hR.symm, rfl, hF, ⟨0, hf120, by omega⟩, ⟨z21, hf117, by omega⟩, ⟨ks, hf115, by omega⟩, trivial⟩, hO⟩ [] rfl rfl rfl (by omega) (by omega) dM_hash_146
                  · replace hR := hR.trans (if_pos h31)
                    refine lv_bipush (v := nI 64) hx hb dM_hash_112 (by decide) ?_
                    refine lv_goto (tgt := 118) hx hb dM_hash_114 (by decide) ?_
                    refine nw_put (C := "LatticeKeysModel") (TT := T_M) (N := 14) hx hb hts (wg_ft i_M) ty_M k_M n_M hown hK hO hU k_h0 (kn := 148) (ci := 8) (fl := [(0, 0), (0, 0), (0, 0), (0, 0), (3, 149), (3, 150), (3, 151), (3, 152), (3, 161), (3, 170), (3, 171), (3, 172), (3, 184), (3, 225)]) rfl hP hD hS rfl 2 (by decide) (hts _ (wg_t kw_1528)) (fun _ h9 => h9) rfl (by decide +kernel) rfl dM_hash_118 (fun s40 pl H locs es30 hO hP hD hS => ?_)
                    replace hR := bnd_step hR es30
                    have hF := frm_sI hF es30 (by unfold M_M_hash; omega)
                    have hf121 : s40.1 148 1 = nI tp := fc_ne hf99 es30 (by omega)
                    have hf123 : s40.1 148 3 = nI ks := fc_ne hf101 es30 (by omega)
                    have hf124 : s40.1 148 0 = nI 0 := fc_ne hf102 es30 (by omega)
                    have hf125 : s40.1 172 6 = nI x57 := fc_ne hx_57 es30 (by omega)
                    have hf126 : s40.1 172 5 = nI x58 := fc_ne hx_58 es30 (by omega)
                    have hf127 : s40.1 148 2 = nI 64 := fc_eq es30
                    refine lv_aload_n hx hb dM_hash_121 rfl (lv_at hl 0 rfl) ?_
                    refine nw_get (C := "LatticeKeysModel") (TT := T_M) (N := 14) hx hb hts (wg_ft i_M) hown hK hO k_h0 (kn := 148) (ci := 8) (fl := [(0, 0), (0, 0), (0, 0), (0, 0), (3, 149), (3, 150), (3, 151), (3, 152), (3, 161), (3, 170), (3, 171), (3, 172), (3, 184), (3, 225)]) rfl hP rfl 11 (by decide) (hts _ (wg_t kw_1537)) (fun _ h9 => h9) (cd := (3, 172)) rfl dM_hash_122 (fun v46 hv47 => ?_)
                    obtain ⟨r39, rfl, kr36⟩ := (show ∃ r : Nat, v46 = .ref r ∧ T r = some 172 from hv47)
                    refine lv_aload_n hx hb dM_hash_125 rfl (lv_at hl 0 rfl) ?_
                    refine nw_get (C := "LatticeKeysModel") (TT := T_M) (N := 14) hx hb hts (wg_ft i_M) hown hK hO k_h0 (kn := 148) (ci := 8) (fl := [(0, 0), (0, 0), (0, 0), (0, 0), (3, 149), (3, 150), (3, 151), (3, 152), (3, 161), (3, 170), (3, 171), (3, 172), (3, 184), (3, 225)]) rfl hP rfl 5 (by decide) (hts _ (wg_t kw_1531)) (fun _ h9 => h9) (cd := (3, 150)) rfl dM_hash_126 (fun v47 hv48 => ?_)
                    obtain ⟨r40, rfl, kr37⟩ := (show ∃ r : Nat, v47 = .ref r ∧ T r = some 150 from hv48)
                    refine lv_iconst (v := nI 0) hx hb dM_hash_129 (by decide) ?_
                    refine lv_aload_n hx hb dM_hash_130 rfl (lv_at hl 0 rfl) ?_
                    refine nw_get (C := "LatticeKeysModel") (TT := T_M) (N := 14) hx hb hts (wg_ft i_M) hown hK hO k_h0 (kn := 148) (ci := 8) (fl := [(0, 0), (0, 0), (0, 0), (0, 0), (3, 149), (3, 150), (3, 151), (3, 152), (3, 161), (3, 170), (3, 171), (3, 172), (3, 184), (3, 225)]) rfl hP rfl 2 (by decide) (hts _ (wg_t kw_1528)) (fun _ h9 => h9) (cd := (0, 0)) rfl dM_hash_131 (fun v48 hv49 => ?_)
                    obtain rfl := (show v48 = .int (s40.1 148 2) from hv49)
                    obtain ⟨z32, ez32, hz42, hz43⟩ := cl_of (b := 2147483648) hf127 (by omega) (by decide)
                    replace hR := bnd_step hR ez32
                    refine mi_as hz42 ?_
                    refine mp_v (cx := []) (wr := []) hP hD hS hA [] [] rfl rfl rfl (by decide) (va_runV (As := [.ref r40, .int (nI 0), .int (nI z32)]) (rest := []) F (N_MS_take l g _ T s40 pl hO hU r39 r40 150 8192 0 z32 x57 x58 kr36 kr37 rfl hf125 hf126 (by omega) (by omega) (by omega) (by omega)) (cwV 3 hts (wg_app (wg_c kw_1941 (wg_c kw_1638 (wg_c kw_1639 (wg_c kw_10 wg_n)))) kw_1640) rfl rfl rfl (by decide +kernel) ⟨by decide, by decide⟩) (pn_W "LatticeKeysModel$Sponge" (en_ok g) (ci := 9) (kn := 172) (fl := [(3, 173), (3, 174), (3, 175), (3, 176), (3, 177), (0, 0), (0, 0), (0, 0)]) hK hO kr36 rfl hP hD hS hA hE [] rfl rfl rfl) rfl rfl hl.1 rfl (lv_room (Nat.le_of_ble_eq_true rfl)) dM_hash_134 ⟨by omega, by omega⟩) (fun  u34 H locs hu34 hP hD hS => ?_)
                    obtain ⟨s41, pl⟩ := u34
                    obtain ⟨⟨eq34, hFc34, ⟨x63, hx_63, hb_63⟩, ⟨x64, hx_64, hb_64⟩, -⟩, hO⟩ := hu34
                    have hO : okn g T s41 pl := hO
                    have hP : va_P g.1 vcl ([] ++ pl) _ := hP
                    have hD : va_D _ ([] ++ pl) := hD
                    have hFc34 : frm (M_MS_take 150) s40 s41 := hFc34
                    have hb_63 : x63 ≤ x58 := hb_63
                    have hb_64 : x64 = x58 := hb_64
                    replace hR := bnd_step hR eq34
                    have hF := frm_tr hF hFc34 (fun k hk => by unfold M_MS_take at hk; unfold M_M_hash; omega)
                    have hf128 : s41.1 148 1 = nI tp := fc_F hf121 hFc34 (by unfold M_MS_take; omega)
                    have hf129 : s41.1 148 3 = nI ks := fc_F hf123 hFc34 (by unfold M_MS_take; omega)
                    have hf130 : s41.1 148 0 = nI 0 := fc_F hf124 hFc34 (by unfold M_MS_take; omega)
                    have hf131 : s41.1 148 2 = nI 64 := fc_F hf127 hFc34 (by unfold M_MS_take; omega)
                    refine W.widen (k := 0) (n := 0) (by omega) (by omega) ?_
                    refine lv_aload_n hx hb dM_hash_137 rfl (lv_at hl 0 rfl) ?_
                    refine lv_iconst (v := nI 0) hx hb dM_hash_138 (by decide) ?_
                    refine nw_put (C := "LatticeKeysModel") (TT := T_M) (N := 14) hx hb hts (wg_ft i_M) ty_M k_M n_M hown hK hO hU k_h0 (kn := 148) (ci := 8) (fl := [(0, 0), (0, 0), (0, 0), (0, 0), (3, 149), (3, 150), (3, 151), (3, 152), (3, 161), (3, 170), (3, 171), (3, 172), (3, 184), (3, 225)]) rfl hP hD hS rfl 1 (by decide) (hts _ (wg_t kw_1527)) (fun _ h9 => h9) rfl (by decide +kernel) rfl dM_hash_139 (fun s42 pl H locs es31 hO hP hD hS => ?_)
                    replace hR := bnd_step hR es31
                    have hF := frm_sI hF es31 (by unfold M_M_hash; omega)
                    have hf133 : s42.1 148 3 = nI ks := fc_ne hf129 es31 (by omega)
                    have hf134 : s42.1 148 0 = nI 0 := fc_ne hf130 es31 (by omega)
                    have hf135 : s42.1 148 2 = nI 64 := fc_ne hf131 es31 (by omega)
                    have hf136 : s42.1 172 6 = nI x63 := fc_ne hx_63 es31 (by omega)
                    have hf137 : s42.1 172 5 = nI x64 := fc_ne hx_64 es31 (by omega)
                    have hf138 : s42.1 148 1 = nI 0 := fc_eq es31
                    refine lv_aload_n hx hb dM_hash_142 rfl (lv_at hl 0 rfl) ?_
                    refine nw_get (C := "LatticeKeysModel") (TT := T_M) (N := 14) hx hb hts (wg_ft i_M) hown hK hO k_h0 (kn := 148) (ci := 8) (fl := [(0, 0), (0, 0), (0, 0), (0, 0), (3, 149), (3, 150), (3, 151), (3, 152), (3, 161), (3, 170), (3, 171), (3, 172), (3, 184), (3, 225)]) rfl hP rfl 2 (by decide) (hts _ (wg_t kw_1528)) (fun _ h9 => h9) (cd := (0, 0)) rfl dM_hash_143 (fun v49 hv50 => ?_)
                    obtain rfl := (show v49 = .int (s42.1 148 2) from hv50)
                    obtain ⟨z33, ez33, hz44, hz45⟩ := cl_of (b := 2147483648) hf135 (by omega) (by decide)
                    replace hR := bnd_step hR ez33
                    refine mi_as hz44 ?_
                    exact mp_iret hx hb hr hlk hP hD hS ((nI z33, s42), pl) ⟨⟨hR.symm, rfl, hF, ⟨0, hf138, by omega⟩, ⟨64, hf135, by omega⟩, ⟨ks, hf133, by omega⟩, trivial⟩, hO⟩ [] rfl rfl rfl (by omega) (by omega) dM_hash_146
                · replace hR := hR.trans (if_pos h30)
                  refine lv_bipush (v := nI 32) hx hb dM_hash_102 (by decide) ?_
                  refine lv_goto (tgt := 118) hx hb dM_hash_104 (by decide) ?_
                  refine nw_put (C := "LatticeKeysModel") (TT := T_M) (N := 14) hx hb hts (wg_ft i_M) ty_M k_M n_M hown hK hO hU k_h0 (kn := 148) (ci := 8) (fl := [(0, 0), (0, 0), (0, 0), (0, 0), (3, 149), (3, 150), (3, 151), (3, 152), (3, 161), (3, 170), (3, 171), (3, 172), (3, 184), (3, 225)]) rfl hP hD hS rfl 2 (by decide) (hts _ (wg_t kw_1528)) (fun _ h9 => h9) rfl (by decide +kernel) rfl dM_hash_118 (fun s43 pl H locs es32 hO hP hD hS => ?_)
                  replace hR := bnd_step hR es32
                  have hF := frm_sI hF es32 (by unfold M_M_hash; omega)
                  have hf139 : s43.1 148 1 = nI tp := fc_ne hf99 es32 (by omega)
                  have hf141 : s43.1 148 3 = nI ks := fc_ne hf101 es32 (by omega)
                  have hf142 : s43.1 148 0 = nI 0 := fc_ne hf102 es32 (by omega)
                  have hf143 : s43.1 172 6 = nI x57 := fc_ne hx_57 es32 (by omega)
                  have hf144 : s43.1 172 5 = nI x58 := fc_ne hx_58 es32 (by omega)
                  have hf145 : s43.1 148 2 = nI 32 := fc_eq es32
                  refine lv_aload_n hx hb dM_hash_121 rfl (lv_at hl 0 rfl) ?_
                  refine nw_get (C := "LatticeKeysModel") (TT := T_M) (N := 14) hx hb hts (wg_ft i_M) hown hK hO k_h0 (kn := 148) (ci := 8) (fl := [(0, 0), (0, 0), (0, 0), (0, 0), (3, 149), (3, 150), (3, 151), (3, 152), (3, 161), (3, 170), (3, 171), (3, 172), (3, 184), (3, 225)]) rfl hP rfl 11 (by decide) (hts _ (wg_t kw_1537)) (fun _ h9 => h9) (cd := (3, 172)) rfl dM_hash_122 (fun v50 hv51 => ?_)
                  obtain ⟨r41, rfl, kr38⟩ := (show ∃ r : Nat, v50 = .ref r ∧ T r = some 172 from hv51)
                  refine lv_aload_n hx hb dM_hash_125 rfl (lv_at hl 0 rfl) ?_
                  refine nw_get (C := "LatticeKeysModel") (TT := T_M) (N := 14) hx hb hts (wg_ft i_M) hown hK hO k_h0 (kn := 148) (ci := 8) (fl := [(0, 0), (0, 0), (0, 0), (0, 0), (3, 149), (3, 150), (3, 151), (3, 152), (3, 161), (3, 170), (3, 171), (3, 172), (3, 184), (3, 225)]) rfl hP rfl 5 (by decide) (hts _ (wg_t kw_1531)) (fun _ h9 => h9) (cd := (3, 150)) rfl dM_hash_126 (fun v51 hv52 => ?_)
                  obtain ⟨r42, rfl, kr39⟩ := (show ∃ r : Nat, v51 = .ref r ∧ T r = some 150 from hv52)
                  refine lv_iconst (v := nI 0) hx hb dM_hash_129 (by decide) ?_
                  refine lv_aload_n hx hb dM_hash_130 rfl (lv_at hl 0 rfl) ?_
                  refine nw_get (C := "LatticeKeysModel") (TT := T_M) (N := 14) hx hb hts (wg_ft i_M) hown hK hO k_h0 (kn := 148) (ci := 8) (fl := [(0, 0), (0, 0), (0, 0), (0, 0), (3, 149), (3, 150), (3, 151), (3, 152), (3, 161), (3, 170), (3, 171), (3, 172), (3, 184), (3, 225)]) rfl hP rfl 2 (by decide) (hts _ (wg_t kw_1528)) (fun _ h9 => h9) (cd := (0, 0)) rfl dM_hash_131 (fun v52 hv53 => ?_)
                  obtain rfl := (show v52 = .int (s43.1 148 2) from hv53)
                  obtain ⟨z34, ez34, hz46, hz47⟩ := cl_of (b := 2147483648) hf145 (by omega) (by decide)
                  replace hR := bnd_step hR ez34
                  refine mi_as hz46 ?_
                  refine mp_v (cx := []) (wr := []) hP hD hS hA [] [] rfl rfl rfl (by decide) (va_runV (As := [.ref r42, .int (nI 0), .int (nI z34)]) (rest := []) F (N_MS_take l g _ T s43 pl hO hU r41 r42 150 8192 0 z34 x57 x58 kr38 kr39 rfl hf143 hf144 (by omega) (by omega) (by omega) (by omega)) (cwV 3 hts (wg_app (wg_c kw_1941 (wg_c kw_1638 (wg_c kw_1639 (wg_c kw_10 wg_n)))) kw_1640) rfl rfl rfl (by decide +kernel) ⟨by decide, by decide⟩) (pn_W "LatticeKeysModel$Sponge" (en_ok g) (ci := 9) (kn := 172) (fl := [(3, 173), (3, 174), (3, 175), (3, 176), (3, 177), (0, 0), (0, 0), (0, 0)]) hK hO kr38 rfl hP hD hS hA hE [] rfl rfl rfl) rfl rfl hl.1 rfl (lv_room (Nat.le_of_ble_eq_true rfl)) dM_hash_134 ⟨by omega, by omega⟩) (fun  u35 H locs hu35 hP hD hS => ?_)
                  obtain ⟨s44, pl⟩ := u35
                  obtain ⟨⟨eq35, hFc35, ⟨x66, hx_66, hb_66⟩, ⟨x67, hx_67, hb_67⟩, -⟩, hO⟩ := hu35
                  have hO : okn g T s44 pl := hO
                  have hP : va_P g.1 vcl ([] ++ pl) _ := hP
                  have hD : va_D _ ([] ++ pl) := hD
                  have hFc35 : frm (M_MS_take 150) s43 s44 := hFc35
                  have hb_66 : x66 ≤ x58 := hb_66
                  have hb_67 : x67 = x58 := hb_67
                  replace hR := bnd_step hR eq35
                  have hF := frm_tr hF hFc35 (fun k hk => by unfold M_MS_take at hk; unfold M_M_hash; omega)
                  have hf146 : s44.1 148 1 = nI tp := fc_F hf139 hFc35 (by unfold M_MS_take; omega)
                  have hf147 : s44.1 148 3 = nI ks := fc_F hf141 hFc35 (by unfold M_MS_take; omega)
                  have hf148 : s44.1 148 0 = nI 0 := fc_F hf142 hFc35 (by unfold M_MS_take; omega)
                  have hf149 : s44.1 148 2 = nI 32 := fc_F hf145 hFc35 (by unfold M_MS_take; omega)
                  refine W.widen (k := 0) (n := 0) (by omega) (by omega) ?_
                  refine lv_aload_n hx hb dM_hash_137 rfl (lv_at hl 0 rfl) ?_
                  refine lv_iconst (v := nI 0) hx hb dM_hash_138 (by decide) ?_
                  refine nw_put (C := "LatticeKeysModel") (TT := T_M) (N := 14) hx hb hts (wg_ft i_M) ty_M k_M n_M hown hK hO hU k_h0 (kn := 148) (ci := 8) (fl := [(0, 0), (0, 0), (0, 0), (0, 0), (3, 149), (3, 150), (3, 151), (3, 152), (3, 161), (3, 170), (3, 171), (3, 172), (3, 184), (3, 225)]) rfl hP hD hS rfl 1 (by decide) (hts _ (wg_t kw_1527)) (fun _ h9 => h9) rfl (by decide +kernel) rfl dM_hash_139 (fun s45 pl H locs es33 hO hP hD hS => ?_)
                  replace hR := bnd_step hR es33
                  have hF := frm_sI hF es33 (by unfold M_M_hash; omega)
                  have hf151 : s45.1 148 3 = nI ks := fc_ne hf147 es33 (by omega)
                  have hf152 : s45.1 148 0 = nI 0 := fc_ne hf148 es33 (by omega)
                  have hf153 : s45.1 148 2 = nI 32 := fc_ne hf149 es33 (by omega)
                  have hf154 : s45.1 172 6 = nI x66 := fc_ne hx_66 es33 (by omega)
                  have hf155 : s45.1 172 5 = nI x67 := fc_ne hx_67 es33 (by omega)
                  have hf156 : s45.1 148 1 = nI 0 := fc_eq es33
                  refine lv_aload_n hx hb dM_hash_142 rfl (lv_at hl 0 rfl) ?_
                  refine nw_get (C := "LatticeKeysModel") (TT := T_M) (N := 14) hx hb hts (wg_ft i_M) hown hK hO k_h0 (kn := 148) (ci := 8) (fl := [(0, 0), (0, 0), (0, 0), (0, 0), (3, 149), (3, 150), (3, 151), (3, 152), (3, 161), (3, 170), (3, 171), (3, 172), (3, 184), (3, 225)]) rfl hP rfl 2 (by decide) (hts _ (wg_t kw_1528)) (fun _ h9 => h9) (cd := (0, 0)) rfl dM_hash_143 (fun v53 hv54 => ?_)
                  obtain rfl := (show v53 = .int (s45.1 148 2) from hv54)
                  obtain ⟨z35, ez35, hz48, hz49⟩ := cl_of (b := 2147483648) hf153 (by omega) (by decide)
                  replace hR := bnd_step hR ez35
                  refine mi_as hz48 ?_
                  exact mp_iret hx hb hr hlk hP hD hS ((nI z35, s45), pl) ⟨⟨hR.symm, rfl, hF, ⟨0, hf156, by omega⟩, ⟨32, hf153, by omega⟩, ⟨ks, hf151, by omega⟩, trivial⟩, hO⟩ [] rfl rfl rfl (by omega) (by omega) dM_hash_146
            · replace hR := hR.trans (if_pos h26)
              refine lv_sipush (v := nI 168) hx hb dM_hash_50 (by decide) ?_
              refine lv_goto (tgt := 59) hx hb dM_hash_53 (by decide) ?_
              refine lv_iload_n hx hb dM_hash_59 rfl (lv_at hl 1 rfl) ?_
              refine lv_iconst (v := nI 2) hx hb dM_hash_60 (by decide) ?_
              refine lv_icmp_ge (tgt := 69) hx hb dM_hash_61 (by decide) (fun h32 => ?_) (fun h32 => ?_)
              · replace hR := hR.trans (if_pos h32)
                refine lv_bipush (v := nI 31) hx hb dM_hash_69 (by decide) ?_
                refine mp_v (cx := []) (wr := []) hP hD hS hA [] [] rfl rfl rfl (by decide) (va_runV (As := [.int (nI 168), .int (nI 31)]) (rest := []) F (N_MS_begin l g _ T s21 pl hO hU r24 168 (nI 31) kr21 (by omega)) (cwV 2 hts (wg_app (wg_c kw_1938 (wg_c kw_1608 (wg_c kw_1609 (wg_c kw_10 wg_n)))) kw_1610) rfl rfl rfl (by decide +kernel) ⟨by decide, by decide⟩) (pn_W "LatticeKeysModel$Sponge" (en_ok g) (ci := 9) (kn := 172) (fl := [(3, 173), (3, 174), (3, 175), (3, 176), (3, 177), (0, 0), (0, 0), (0, 0)]) hK hO kr21 rfl hP hD hS hA hE [] rfl rfl rfl) rfl rfl hl.1 rfl (lv_room (Nat.le_of_ble_eq_true rfl)) dM_hash_71 ⟨by omega, by omega⟩) (fun  u36 H locs hu36 hP hD hS => ?_)
                obtain ⟨s46, pl⟩ := u36
                obtain ⟨⟨eq36, hFc36, ⟨x69, hx_69, hb_69⟩, ⟨x70, hx_70, hb_70⟩, -⟩, hO⟩ := hu36
                have hO : okn g T s46 pl := hO
                have hP : va_P g.1 vcl ([] ++ pl) _ := hP
                have hD : va_D _ ([] ++ pl) := hD
                have hFc36 : frm (M_MS_begin) s21 s46 := hFc36
                have hb_69 : x69 = 0 := hb_69
                have hb_70 : x70 = 168 := hb_70
                replace hR := bnd_step hR eq36
                have hF := frm_tr hF hFc36 (fun k hk => by unfold M_MS_begin at hk; unfold M_M_hash; omega)
                have hf157 : s46.1 148 1 = nI tp := fc_F hf21 hFc36 (by unfold M_MS_begin; omega)
                have hf158 : s46.1 148 2 = nI rs := fc_F hf22 hFc36 (by unfold M_MS_begin; omega)
                have hf159 : s46.1 148 3 = nI ks := fc_F hf23 hFc36 (by unfold M_MS_begin; omega)
                have hf160 : s46.1 148 0 = nI 0 := fc_F hf24 hFc36 (by unfold M_MS_begin; omega)
                refine W.widen (k := 0) (n := 0) (by omega) (by omega) ?_
                refine lv_aload_n hx hb dM_hash_74 rfl (lv_at hl 0 rfl) ?_
                refine nw_get (C := "LatticeKeysModel") (TT := T_M) (N := 14) hx hb hts (wg_ft i_M) hown hK hO k_h0 (kn := 148) (ci := 8) (fl := [(0, 0), (0, 0), (0, 0), (0, 0), (3, 149), (3, 150), (3, 151), (3, 152), (3, 161), (3, 170), (3, 171), (3, 172), (3, 184), (3, 225)]) rfl hP rfl 11 (by decide) (hts _ (wg_t kw_1537)) (fun _ h9 => h9) (cd := (3, 172)) rfl dM_hash_75 (fun v54 hv55 => ?_)
                obtain ⟨r43, rfl, kr40⟩ := (show ∃ r : Nat, v54 = .ref r ∧ T r = some 172 from hv55)
                refine lv_aload_n hx hb dM_hash_78 rfl (lv_at hl 0 rfl) ?_
                refine nw_get (C := "LatticeKeysModel") (TT := T_M) (N := 14) hx hb hts (wg_ft i_M) hown hK hO k_h0 (kn := 148) (ci := 8) (fl := [(0, 0), (0, 0), (0, 0), (0, 0), (3, 149), (3, 150), (3, 151), (3, 152), (3, 161), (3, 170), (3, 171), (3, 172), (3, 184), (3, 225)]) rfl hP rfl 4 (by decide) (hts _ (wg_t kw_1530)) (fun _ h9 => h9) (cd := (3, 149)) rfl dM_hash_79 (fun v55 hv56 => ?_)
                obtain ⟨r44, rfl, kr41⟩ := (show ∃ r : Nat, v55 = .ref r ∧ T r = some 149 from hv56)
                refine lv_iconst (v := nI 0) hx hb dM_hash_82 (by decide) ?_
                refine lv_aload_n hx hb dM_hash_83 rfl (lv_at hl 0 rfl) ?_
                refine nw_get (C := "LatticeKeysModel") (TT := T_M) (N := 14) hx hb hts (wg_ft i_M) hown hK hO k_h0 (kn := 148) (ci := 8) (fl := [(0, 0), (0, 0), (0, 0), (0, 0), (3, 149), (3, 150), (3, 151), (3, 152), (3, 161), (3, 170), (3, 171), (3, 172), (3, 184), (3, 225)]) rfl hP rfl 1 (by decide) (hts _ (wg_t kw_1527)) (fun _ h9 => h9) (cd := (0, 0)) rfl dM_hash_84 (fun v56 hv57 => ?_)
                obtain rfl := (show v56 = .int (s46.1 148 1) from hv57)
                obtain ⟨z36, ez36, hz50, hz51⟩ := cl_of (b := 2147483648) hf157 (by omega) (by decide)
                replace hR := bnd_step hR ez36
                refine mi_as hz50 ?_
                refine mp_v (cx := []) (wr := []) hP hD hS hA [] [] rfl rfl rfl (by decide) (va_runV (As := [.ref r44, .int (nI 0), .int (nI z36)]) (rest := []) F (N_MS_puts l g _ T s46 pl hO hU r43 r44 149 16384 0 z36 x69 x70 kr40 kr41 rfl hx_69 hx_70 (by omega) (by omega) (by omega) (by omega)) (cwV 3 hts (wg_app (wg_c kw_1939 (wg_c kw_1612 (wg_c kw_1613 (wg_c kw_10 wg_n)))) kw_1614) rfl rfl rfl (by decide +kernel) ⟨by decide, by decide⟩) (pn_W "LatticeKeysModel$Sponge" (en_ok g) (ci := 9) (kn := 172) (fl := [(3, 173), (3, 174), (3, 175), (3, 176), (3, 177), (0, 0), (0, 0), (0, 0)]) hK hO kr40 rfl hP hD hS hA hE [] rfl rfl rfl) rfl rfl hl.1 rfl (lv_room (Nat.le_of_ble_eq_true rfl)) dM_hash_87 ⟨by omega, by omega⟩) (fun  u37 H locs hu37 hP hD hS => ?_)
                obtain ⟨s47, pl⟩ := u37
                obtain ⟨⟨eq37, hFc37, ⟨x72, hx_72, hb_72⟩, ⟨x73, hx_73, hb_73⟩, -⟩, hO⟩ := hu37
                have hO : okn g T s47 pl := hO
                have hP : va_P g.1 vcl ([] ++ pl) _ := hP
                have hD : va_D _ ([] ++ pl) := hD
                have hFc37 : frm (M_MS_puts) s46 s47 := hFc37
                have hb_72 : x72 < x70 := hb_72
                have hb_73 : x73 = x70 := hb_73
                replace hR := bnd_step hR eq37
                have hF := frm_tr hF hFc37 (fun k hk => by unfold M_MS_puts at hk; unfold M_M_hash; omega)
                have hf161 : s47.1 148 1 = nI tp := fc_F hf157 hFc37 (by unfold M_MS_puts; omega)
                have hf162 : s47.1 148 2 = nI rs := fc_F hf158 hFc37 (by unfold M_MS_puts; omega)
                have hf163 : s47.1 148 3 = nI ks := fc_F hf159 hFc37 (by unfold M_MS_puts; omega)
                have hf164 : s47.1 148 0 = nI 0 := fc_F hf160 hFc37 (by unfold M_MS_puts; omega)
                refine W.widen (k := 0) (n := 0) (by omega) (by omega) ?_
                refine lv_aload_n hx hb dM_hash_90 rfl (lv_at hl 0 rfl) ?_
                refine nw_get (C := "LatticeKeysModel") (TT := T_M) (N := 14) hx hb hts (wg_ft i_M) hown hK hO k_h0 (kn := 148) (ci := 8) (fl := [(0, 0), (0, 0), (0, 0), (0, 0), (3, 149), (3, 150), (3, 151), (3, 152), (3, 161), (3, 170), (3, 171), (3, 172), (3, 184), (3, 225)]) rfl hP rfl 11 (by decide) (hts _ (wg_t kw_1537)) (fun _ h9 => h9) (cd := (3, 172)) rfl dM_hash_91 (fun v57 hv58 => ?_)
                obtain ⟨r45, rfl, kr42⟩ := (show ∃ r : Nat, v57 = .ref r ∧ T r = some 172 from hv58)
                refine mp_v (cx := []) (wr := []) hP hD hS hA [] [] rfl rfl rfl (by decide) (va_runV (As := []) (rest := []) F (N_MS_end l g _ T s47 pl hO hU r45 x72 x73 kr42 hx_72 hx_73 (by omega) (by omega)) (cwV 0 hts (wg_app (wg_c kw_1940 (wg_c kw_1634 (wg_c kw_1635 (wg_c kw_10 wg_n)))) kw_1636) rfl rfl rfl (by decide +kernel) ⟨by decide, by decide⟩) (pn_W "LatticeKeysModel$Sponge" (en_ok g) (ci := 9) (kn := 172) (fl := [(3, 173), (3, 174), (3, 175), (3, 176), (3, 177), (0, 0), (0, 0), (0, 0)]) hK hO kr42 rfl hP hD hS hA hE [] rfl rfl rfl) rfl rfl hl.1 rfl (lv_room (Nat.le_of_ble_eq_true rfl)) dM_hash_94 ⟨by omega, by omega⟩) (fun  u38 H locs hu38 hP hD hS => ?_)
                obtain ⟨s48, pl⟩ := u38
                obtain ⟨⟨eq38, hFc38, ⟨x75, hx_75, hb_75⟩, ⟨x76, hx_76, hb_76⟩, -⟩, hO⟩ := hu38
                have hO : okn g T s48 pl := hO
                have hP : va_P g.1 vcl ([] ++ pl) _ := hP
                have hD : va_D _ ([] ++ pl) := hD
                have hFc38 : frm (M_MS_end) s47 s48 := hFc38
                have hb_75 : x75 = 0 := hb_75
                have hb_76 : x76 = x73 := hb_76
                replace hR := bnd_step hR eq38
                have hF := frm_tr hF hFc38 (fun k hk => by unfold M_MS_end at hk; unfold M_M_hash; omega)
                have hf165 : s48.1 148 1 = nI tp := fc_F hf161 hFc38 (by unfold M_MS_end; omega)
                have hf166 : s48.1 148 2 = nI rs := fc_F hf162 hFc38 (by unfold M_MS_end; omega)
                have hf167 : s48.1 148 3 = nI ks := fc_F hf163 hFc38 (by unfold M_MS_end; omega)
                have hf168 : s48.1 148 0 = nI 0 := fc_F hf164 hFc38 (by unfold M_MS_end; omega)
                refine W.widen (k := 0) (n := 0) (by omega) (by omega) ?_
                refine lv_aload_n hx hb dM_hash_97 rfl (lv_at hl 0 rfl) ?_
                refine lv_iload_n hx hb dM_hash_98 rfl (lv_at hl 1 rfl) ?_
                refine lv_if_ne (tgt := 107) hx hb dM_hash_99 (by decide) (fun h33 => ?_) (fun h33 => ?_)
                · replace hR := hR.trans (if_neg h33)
                  refine lv_iload_n hx hb dM_hash_107 rfl (lv_at hl 1 rfl) ?_
                  refine lv_iconst (v := nI 1) hx hb dM_hash_108 (by decide) ?_
                  refine lv_icmp_ne (tgt := 117) hx hb dM_hash_109 (by decide) (fun h34 => ?_) (fun h34 => ?_)
                  · replace hR := hR.trans (if_neg h34)
                    refine lv_iload_n hx hb dM_hash_117 rfl (lv_at hl 2 rfl) ?_
                    refine nw_put (C := "LatticeKeysModel") (TT := T_M) (N := 14) hx hb hts (wg_ft i_M) ty_M k_M n_M hown hK hO hU k_h0 (kn := 148) (ci := 8) (fl := [(0, 0), (0, 0), (0, 0), (0, 0), (3, 149), (3, 150), (3, 151), (3, 152), (3, 161), (3, 170), (3, 171), (3, 172), (3, 184), (3, 225)]) rfl hP hD hS rfl 2 (by decide) (hts _ (wg_t kw_1528)) (fun _ h9 => h9) rfl (by decide +kernel) rfl dM_hash_118 (fun s49 pl H locs es34 hO hP hD hS => ?_)
                    replace hR := bnd_step hR es34
                    have hF := frm_sI hF es34 (by unfold M_M_hash; omega)
                    have hf169 : s49.1 148 1 = nI tp := fc_ne hf165 es34 (by omega)
                    have hf171 : s49.1 148 3 = nI ks := fc_ne hf167 es34 (by omega)
                    have hf172 : s49.1 148 0 = nI 0 := fc_ne hf168 es34 (by omega)
                    have hf173 : s49.1 172 6 = nI x75 := fc_ne hx_75 es34 (by omega)
                    have hf174 : s49.1 172 5 = nI x76 := fc_ne hx_76 es34 (by omega)
                    have hf175 : s49.1 148 2 = nI z21 := fc_eq es34
                    refine lv_aload_n hx hb dM_hash_121 rfl (lv_at hl 0 rfl) ?_
                    refine nw_get (C := "LatticeKeysModel") (TT := T_M) (N := 14) hx hb hts (wg_ft i_M) hown hK hO k_h0 (kn := 148) (ci := 8) (fl := [(0, 0), (0, 0), (0, 0), (0, 0), (3, 149), (3, 150), (3, 151), (3, 152), (3, 161), (3, 170), (3, 171), (3, 172), (3, 184), (3, 225)]) rfl hP rfl 11 (by decide) (hts _ (wg_t kw_1537)) (fun _ h9 => h9) (cd := (3, 172)) rfl dM_hash_122 (fun v58 hv59 => ?_)
                    obtain ⟨r46, rfl, kr43⟩ := (show ∃ r : Nat, v58 = .ref r ∧ T r = some 172 from hv59)
                    refine lv_aload_n hx hb dM_hash_125 rfl (lv_at hl 0 rfl) ?_
                    refine nw_get (C := "LatticeKeysModel") (TT := T_M) (N := 14) hx hb hts (wg_ft i_M) hown hK hO k_h0 (kn := 148) (ci := 8) (fl := [(0, 0), (0, 0), (0, 0), (0, 0), (3, 149), (3, 150), (3, 151), (3, 152), (3, 161), (3, 170), (3, 171), (3, 172), (3, 184), (3, 225)]) rfl hP rfl 5 (by decide) (hts _ (wg_t kw_1531)) (fun _ h9 => h9) (cd := (3, 150)) rfl dM_hash_126 (fun v59 hv60 => ?_)
                    obtain ⟨r47, rfl, kr44⟩ := (show ∃ r : Nat, v59 = .ref r ∧ T r = some 150 from hv60)
                    refine lv_iconst (v := nI 0) hx hb dM_hash_129 (by decide) ?_
                    refine lv_aload_n hx hb dM_hash_130 rfl (lv_at hl 0 rfl) ?_
                    refine nw_get (C := "LatticeKeysModel") (TT := T_M) (N := 14) hx hb hts (wg_ft i_M) hown hK hO k_h0 (kn := 148) (ci := 8) (fl := [(0, 0), (0, 0), (0, 0), (0, 0), (3, 149), (3, 150), (3, 151), (3, 152), (3, 161), (3, 170), (3, 171), (3, 172), (3, 184), (3, 225)]) rfl hP rfl 2 (by decide) (hts _ (wg_t kw_1528)) (fun _ h9 => h9) (cd := (0, 0)) rfl dM_hash_131 (fun v60 hv61 => ?_)
                    obtain rfl := (show v60 = .int (s49.1 148 2) from hv61)
                    obtain ⟨z37, ez37, hz52, hz53⟩ := cl_of (b := 2147483648) hf175 (by omega) (by decide)
                    replace hR := bnd_step hR ez37
                    refine mi_as hz52 ?_
                    refine mp_v (cx := []) (wr := []) hP hD hS hA [] [] rfl rfl rfl (by decide) (va_runV (As := [.ref r47, .int (nI 0), .int (nI z37)]) (rest := []) F (N_MS_take l g _ T s49 pl hO hU r46 r47 150 8192 0 z37 x75 x76 kr43 kr44 rfl hf173 hf174 (by omega) (by omega) (by omega) (by omega)) (cwV 3 hts (wg_app (wg_c kw_1941 (wg_c kw_1638 (wg_c kw_1639 (wg_c kw_10 wg_n)))) kw_1640) rfl rfl rfl (by decide +kernel) ⟨by decide, by decide⟩) (pn_W "LatticeKeysModel$Sponge" (en_ok g) (ci := 9) (kn := 172) (fl := [(3, 173), (3, 174), (3, 175), (3, 176), (3, 177), (0, 0), (0, 0), (0, 0)]) hK hO kr43 rfl hP hD hS hA hE [] rfl rfl rfl) rfl rfl hl.1 rfl (lv_room (Nat.le_of_ble_eq_true rfl)) dM_hash_134 ⟨by omega, by omega⟩) (fun  u39 H locs hu39 hP hD hS => ?_)
                    obtain ⟨s50, pl⟩ := u39
                    obtain ⟨⟨eq39, hFc39, ⟨x78, hx_78, hb_78⟩, ⟨x79, hx_79, hb_79⟩, -⟩, hO⟩ := hu39
                    have hO : okn g T s50 pl := hO
                    have hP : va_P g.1 vcl ([] ++ pl) _ := hP
                    have hD : va_D _ ([] ++ pl) := hD
                    have hFc39 : frm (M_MS_take 150) s49 s50 := hFc39
                    have hb_78 : x78 ≤ x76 := hb_78
                    have hb_79 : x79 = x76 := hb_79
                    replace hR := bnd_step hR eq39
                    have hF := frm_tr hF hFc39 (fun k hk => by unfold M_MS_take at hk; unfold M_M_hash; omega)
                    have hf176 : s50.1 148 1 = nI tp := fc_F hf169 hFc39 (by unfold M_MS_take; omega)
                    have hf177 : s50.1 148 3 = nI ks := fc_F hf171 hFc39 (by unfold M_MS_take; omega)
                    have hf178 : s50.1 148 0 = nI 0 := fc_F hf172 hFc39 (by unfold M_MS_take; omega)
                    have hf179 : s50.1 148 2 = nI z21 := fc_F hf175 hFc39 (by unfold M_MS_take; omega)
                    refine W.widen (k := 0) (n := 0) (by omega) (by omega) ?_
                    refine lv_aload_n hx hb dM_hash_137 rfl (lv_at hl 0 rfl) ?_
                    refine lv_iconst (v := nI 0) hx hb dM_hash_138 (by decide) ?_
                    refine nw_put (C := "LatticeKeysModel") (TT := T_M) (N := 14) hx hb hts (wg_ft i_M) ty_M k_M n_M hown hK hO hU k_h0 (kn := 148) (ci := 8) (fl := [(0, 0), (0, 0), (0, 0), (0, 0), (3, 149), (3, 150), (3, 151), (3, 152), (3, 161), (3, 170), (3, 171), (3, 172), (3, 184), (3, 225)]) rfl hP hD hS rfl 1 (by decide) (hts _ (wg_t kw_1527)) (fun _ h9 => h9) rfl (by decide +kernel) rfl dM_hash_139 (fun s51 pl H locs es35 hO hP hD hS => ?_)
                    replace hR := bnd_step hR es35
                    have hF := frm_sI hF es35 (by unfold M_M_hash; omega)
                    have hf181 : s51.1 148 3 = nI ks := fc_ne hf177 es35 (by omega)
                    have hf182 : s51.1 148 0 = nI 0 := fc_ne hf178 es35 (by omega)
                    have hf183 : s51.1 148 2 = nI z21 := fc_ne hf179 es35 (by omega)
                    have hf184 : s51.1 172 6 = nI x78 := fc_ne hx_78 es35 (by omega)
                    have hf185 : s51.1 172 5 = nI x79 := fc_ne hx_79 es35 (by omega)
                    have hf186 : s51.1 148 1 = nI 0 := fc_eq es35
                    refine lv_aload_n hx hb dM_hash_142 rfl (lv_at hl 0 rfl) ?_
                    refine nw_get (C := "LatticeKeysModel") (TT := T_M) (N := 14) hx hb hts (wg_ft i_M) hown hK hO k_h0 (kn := 148) (ci := 8) (fl := [(0, 0), (0, 0), (0, 0), (0, 0), (3, 149), (3, 150), (3, 151), (3, 152), (3, 161), (3, 170), (3, 171), (3, 172), (3, 184), (3, 225)]) rfl hP rfl 2 (by decide) (hts _ (wg_t kw_1528)) (fun _ h9 => h9) (cd := (0, 0)) rfl dM_hash_143 (fun v61 hv62 => ?_)
                    obtain rfl := (show v61 = .int (s51.1 148 2) from hv62)
                    obtain ⟨z38, ez38, hz54, hz55⟩ := cl_of (b := 2147483648) hf183 (by omega) (by decide)
                    replace hR := bnd_step hR ez38
                    refine mi_as hz54 ?_
                    exact mp_iret hx hb hr hlk hP hD hS ((nI z38, s51), pl) ⟨⟨hR.symm, rfl, hF, ⟨0, hf186, by omega⟩, ⟨z21, hf183, by omega⟩, ⟨ks, hf181, by omega⟩, trivial⟩, hO⟩ [] rfl rfl rfl (by omega) (by omega) dM_hash_146
                  · replace hR := hR.trans (if_pos h34)
                    refine lv_bipush (v := nI 64) hx hb dM_hash_112 (by decide) ?_
                    refine lv_goto (tgt := 118) hx hb dM_hash_114 (by decide) ?_
                    refine nw_put (C := "LatticeKeysModel") (TT := T_M) (N := 14) hx hb hts (wg_ft i_M) ty_M k_M n_M hown hK hO hU k_h0 (kn := 148) (ci := 8) (fl := [(0, 0), (0, 0), (0, 0), (0, 0), (3, 149), (3, 150), (3, 151), (3, 152), (3, 161), (3, 170), (3, 171), (3, 172), (3, 184), (3, 225)]) rfl hP hD hS rfl 2 (by decide) (hts _ (wg_t kw_1528)) (fun _ h9 => h9) rfl (by decide +kernel) rfl dM_hash_118 (fun s52 pl H locs es36 hO hP hD hS => ?_)
                    replace hR := bnd_step hR es36
                    have hF := frm_sI hF es36 (by unfold M_M_hash; omega)
                    have hf187 : s52.1 148 1 = nI tp := fc_ne hf165 es36 (by omega)
                    have hf189 : s52.1 148 3 = nI ks := fc_ne hf167 es36 (by omega)
                    have hf190 : s52.1 148 0 = nI 0 := fc_ne hf168 es36 (by omega)
                    have hf191 : s52.1 172 6 = nI x75 := fc_ne hx_75 es36 (by omega)
                    have hf192 : s52.1 172 5 = nI x76 := fc_ne hx_76 es36 (by omega)
                    have hf193 : s52.1 148 2 = nI 64 := fc_eq es36
                    refine lv_aload_n hx hb dM_hash_121 rfl (lv_at hl 0 rfl) ?_
                    refine nw_get (C := "LatticeKeysModel") (TT := T_M) (N := 14) hx hb hts (wg_ft i_M) hown hK hO k_h0 (kn := 148) (ci := 8) (fl := [(0, 0), (0, 0), (0, 0), (0, 0), (3, 149), (3, 150), (3, 151), (3, 152), (3, 161), (3, 170), (3, 171), (3, 172), (3, 184), (3, 225)]) rfl hP rfl 11 (by decide) (hts _ (wg_t kw_1537)) (fun _ h9 => h9) (cd := (3, 172)) rfl dM_hash_122 (fun v62 hv63 => ?_)
                    obtain ⟨r48, rfl, kr45⟩ := (show ∃ r : Nat, v62 = .ref r ∧ T r = some 172 from hv63)
                    refine lv_aload_n hx hb dM_hash_125 rfl (lv_at hl 0 rfl) ?_
                    refine nw_get (C := "LatticeKeysModel") (TT := T_M) (N := 14) hx hb hts (wg_ft i_M) hown hK hO k_h0 (kn := 148) (ci := 8) (fl := [(0, 0), (0, 0), (0, 0), (0, 0), (3, 149), (3, 150), (3, 151), (3, 152), (3, 161), (3, 170), (3, 171), (3, 172), (3, 184), (3, 225)]) rfl hP rfl 5 (by decide) (hts _ (wg_t kw_1531)) (fun _ h9 => h9) (cd := (3, 150)) rfl dM_hash_126 (fun v63 hv64 => ?_)
                    obtain ⟨r49, rfl, kr46⟩ := (show ∃ r : Nat, v63 = .ref r ∧ T r = some 150 from hv64)
                    refine lv_iconst (v := nI 0) hx hb dM_hash_129 (by decide) ?_
                    refine lv_aload_n hx hb dM_hash_130 rfl (lv_at hl 0 rfl) ?_
                    refine nw_get (C := "LatticeKeysModel") (TT := T_M) (N := 14) hx hb hts (wg_ft i_M) hown hK hO k_h0 (kn := 148) (ci := 8) (fl := [(0, 0), (0, 0), (0, 0), (0, 0), (3, 149), (3, 150), (3, 151), (3, 152), (3, 161), (3, 170), (3, 171), (3, 172), (3, 184), (3, 225)]) rfl hP rfl 2 (by decide) (hts _ (wg_t kw_1528)) (fun _ h9 => h9) (cd := (0, 0)) rfl dM_hash_131 (fun v64 hv65 => ?_)
                    obtain rfl := (show v64 = .int (s52.1 148 2) from hv65)
                    obtain ⟨z39, ez39, hz56, hz57⟩ := cl_of (b := 2147483648) hf193 (by omega) (by decide)
                    replace hR := bnd_step hR ez39
                    refine mi_as hz56 ?_
                    refine mp_v (cx := []) (wr := []) hP hD hS hA [] [] rfl rfl rfl (by decide) (va_runV (As := [.ref r49, .int (nI 0), .int (nI z39)]) (rest := []) F (N_MS_take l g _ T s52 pl hO hU r48 r49 150 8192 0 z39 x75 x76 kr45 kr46 rfl hf191 hf192 (by omega) (by omega) (by omega) (by omega)) (cwV 3 hts (wg_app (wg_c kw_1941 (wg_c kw_1638 (wg_c kw_1639 (wg_c kw_10 wg_n)))) kw_1640) rfl rfl rfl (by decide +kernel) ⟨by decide, by decide⟩) (pn_W "LatticeKeysModel$Sponge" (en_ok g) (ci := 9) (kn := 172) (fl := [(3, 173), (3, 174), (3, 175), (3, 176), (3, 177), (0, 0), (0, 0), (0, 0)]) hK hO kr45 rfl hP hD hS hA hE [] rfl rfl rfl) rfl rfl hl.1 rfl (lv_room (Nat.le_of_ble_eq_true rfl)) dM_hash_134 ⟨by omega, by omega⟩) (fun  u40 H locs hu40 hP hD hS => ?_)
                    obtain ⟨s53, pl⟩ := u40
                    obtain ⟨⟨eq40, hFc40, ⟨x81, hx_81, hb_81⟩, ⟨x82, hx_82, hb_82⟩, -⟩, hO⟩ := hu40
                    have hO : okn g T s53 pl := hO
                    have hP : va_P g.1 vcl ([] ++ pl) _ := hP
                    have hD : va_D _ ([] ++ pl) := hD
                    have hFc40 : frm (M_MS_take 150) s52 s53 := hFc40
                    have hb_81 : x81 ≤ x76 := hb_81
                    have hb_82 : x82 = x76 := hb_82
                    replace hR := bnd_step hR eq40
                    have hF := frm_tr hF hFc40 (fun k hk => by unfold M_MS_take at hk; unfold M_M_hash; omega)
                    have hf194 : s53.1 148 1 = nI tp := fc_F hf187 hFc40 (by unfold M_MS_take; omega)
                    have hf195 : s53.1 148 3 = nI ks := fc_F hf189 hFc40 (by unfold M_MS_take; omega)
                    have hf196 : s53.1 148 0 = nI 0 := fc_F hf190 hFc40 (by unfold M_MS_take; omega)
                    have hf197 : s53.1 148 2 = nI 64 := fc_F hf193 hFc40 (by unfold M_MS_take; omega)
                    refine W.widen (k := 0) (n := 0) (by omega) (by omega) ?_
                    refine lv_aload_n hx hb dM_hash_137 rfl (lv_at hl 0 rfl) ?_
                    refine lv_iconst (v := nI 0) hx hb dM_hash_138 (by decide) ?_
                    refine nw_put (C := "LatticeKeysModel") (TT := T_M) (N := 14) hx hb hts (wg_ft i_M) ty_M k_M n_M hown hK hO hU k_h0 (kn := 148) (ci := 8) (fl := [(0, 0), (0, 0), (0, 0), (0, 0), (3, 149), (3, 150), (3, 151), (3, 152), (3, 161), (3, 170), (3, 171), (3, 172), (3, 184), (3, 225)]) rfl hP hD hS rfl 1 (by decide) (hts _ (wg_t kw_1527)) (fun _ h9 => h9) rfl (by decide +kernel) rfl dM_hash_139 (fun s54 pl H locs es37 hO hP hD hS => ?_)
                    replace hR := bnd_step hR es37
                    have hF := frm_sI hF es37 (by unfold M_M_hash; omega)
                    have hf199 : s54.1 148 3 = nI ks := fc_ne hf195 es37 (by omega)
                    have hf200 : s54.1 148 0 = nI 0 := fc_ne hf196 es37 (by omega)
                    have hf201 : s54.1 148 2 = nI 64 := fc_ne hf197 es37 (by omega)
                    have hf202 : s54.1 172 6 = nI x81 := fc_ne hx_81 es37 (by omega)
                    have hf203 : s54.1 172 5 = nI x82 := fc_ne hx_82 es37 (by omega)
                    have hf204 : s54.1 148 1 = nI 0 := fc_eq es37
                    refine lv_aload_n hx hb dM_hash_142 rfl (lv_at hl 0 rfl) ?_
                    refine nw_get (C := "LatticeKeysModel") (TT := T_M) (N := 14) hx hb hts (wg_ft i_M) hown hK hO k_h0 (kn := 148) (ci := 8) (fl := [(0, 0), (0, 0), (0, 0), (0, 0), (3, 149), (3, 150), (3, 151), (3, 152), (3, 161), (3, 170), (3, 171), (3, 172), (3, 184), (3, 225)]) rfl hP rfl 2 (by decide) (hts _ (wg_t kw_1528)) (fun _ h9 => h9) (cd := (0, 0)) rfl dM_hash_143 (fun v65 hv66 => ?_)
                    obtain rfl := (show v65 = .int (s54.1 148 2) from hv66)
                    obtain ⟨z40, ez40, hz58, hz59⟩ := cl_of (b := 2147483648) hf201 (by omega) (by decide)
                    replace hR := bnd_step hR ez40
                    refine mi_as hz58 ?_
                    exact mp_iret hx hb hr hlk hP hD hS ((nI z40, s54), pl) ⟨⟨hR.symm, rfl, hF, ⟨0, hf204, by omega⟩, ⟨64, hf201, by omega⟩, ⟨ks, hf199, by omega⟩, trivial⟩, hO⟩ [] rfl rfl rfl (by omega) (by omega) dM_hash_146
                · replace hR := hR.trans (if_pos h33)
                  refine lv_bipush (v := nI 32) hx hb dM_hash_102 (by decide) ?_
                  refine lv_goto (tgt := 118) hx hb dM_hash_104 (by decide) ?_
                  refine nw_put (C := "LatticeKeysModel") (TT := T_M) (N := 14) hx hb hts (wg_ft i_M) ty_M k_M n_M hown hK hO hU k_h0 (kn := 148) (ci := 8) (fl := [(0, 0), (0, 0), (0, 0), (0, 0), (3, 149), (3, 150), (3, 151), (3, 152), (3, 161), (3, 170), (3, 171), (3, 172), (3, 184), (3, 225)]) rfl hP hD hS rfl 2 (by decide) (hts _ (wg_t kw_1528)) (fun _ h9 => h9) rfl (by decide +kernel) rfl dM_hash_118 (fun s55 pl H locs es38 hO hP hD hS => ?_)
                  replace hR := bnd_step hR es38
                  have hF := frm_sI hF es38 (by unfold M_M_hash; omega)
                  have hf205 : s55.1 148 1 = nI tp := fc_ne hf165 es38 (by omega)
                  have hf207 : s55.1 148 3 = nI ks := fc_ne hf167 es38 (by omega)
                  have hf208 : s55.1 148 0 = nI 0 := fc_ne hf168 es38 (by omega)
                  have hf209 : s55.1 172 6 = nI x75 := fc_ne hx_75 es38 (by omega)
                  have hf210 : s55.1 172 5 = nI x76 := fc_ne hx_76 es38 (by omega)
                  have hf211 : s55.1 148 2 = nI 32 := fc_eq es38
                  refine lv_aload_n hx hb dM_hash_121 rfl (lv_at hl 0 rfl) ?_
                  refine nw_get (C := "LatticeKeysModel") (TT := T_M) (N := 14) hx hb hts (wg_ft i_M) hown hK hO k_h0 (kn := 148) (ci := 8) (fl := [(0, 0), (0, 0), (0, 0), (0, 0), (3, 149), (3, 150), (3, 151), (3, 152), (3, 161), (3, 170), (3, 171), (3, 172), (3, 184), (3, 225)]) rfl hP rfl 11 (by decide) (hts _ (wg_t kw_1537)) (fun _ h9 => h9) (cd := (3, 172)) rfl dM_hash_122 (fun v66 hv67 => ?_)
                  obtain ⟨r50, rfl, kr47⟩ := (show ∃ r : Nat, v66 = .ref r ∧ T r = some 172 from hv67)
                  refine lv_aload_n hx hb dM_hash_125 rfl (lv_at hl 0 rfl) ?_
                  refine nw_get (C := "LatticeKeysModel") (TT := T_M) (N := 14) hx hb hts (wg_ft i_M) hown hK hO k_h0 (kn := 148) (ci := 8) (fl := [(0, 0), (0, 0), (0, 0), (0, 0), (3, 149), (3, 150), (3, 151), (3, 152), (3, 161), (3, 170), (3, 171), (3, 172), (3, 184), (3, 225)]) rfl hP rfl 5 (by decide) (hts _ (wg_t kw_1531)) (fun _ h9 => h9) (cd := (3, 150)) rfl dM_hash_126 (fun v67 hv68 => ?_)
                  obtain ⟨r51, rfl, kr48⟩ := (show ∃ r : Nat, v67 = .ref r ∧ T r = some 150 from hv68)
                  refine lv_iconst (v := nI 0) hx hb dM_hash_129 (by decide) ?_
                  refine lv_aload_n hx hb dM_hash_130 rfl (lv_at hl 0 rfl) ?_
                  refine nw_get (C := "LatticeKeysModel") (TT := T_M) (N := 14) hx hb hts (wg_ft i_M) hown hK hO k_h0 (kn := 148) (ci := 8) (fl := [(0, 0), (0, 0), (0, 0), (0, 0), (3, 149), (3, 150), (3, 151), (3, 152), (3, 161), (3, 170), (3, 171), (3, 172), (3, 184), (3, 225)]) rfl hP rfl 2 (by decide) (hts _ (wg_t kw_1528)) (fun _ h9 => h9) (cd := (0, 0)) rfl dM_hash_131 (fun v68 hv69 => ?_)
                  obtain rfl := (show v68 = .int (s55.1 148 2) from hv69)
                  obtain ⟨z41, ez41, hz60, hz61⟩ := cl_of (b := 2147483648) hf211 (by omega) (by decide)
                  replace hR := bnd_step hR ez41
                  refine mi_as hz60 ?_
                  refine mp_v (cx := []) (wr := []) hP hD hS hA [] [] rfl rfl rfl (by decide) (va_runV (As := [.ref r51, .int (nI 0), .int (nI z41)]) (rest := []) F (N_MS_take l g _ T s55 pl hO hU r50 r51 150 8192 0 z41 x75 x76 kr47 kr48 rfl hf209 hf210 (by omega) (by omega) (by omega) (by omega)) (cwV 3 hts (wg_app (wg_c kw_1941 (wg_c kw_1638 (wg_c kw_1639 (wg_c kw_10 wg_n)))) kw_1640) rfl rfl rfl (by decide +kernel) ⟨by decide, by decide⟩) (pn_W "LatticeKeysModel$Sponge" (en_ok g) (ci := 9) (kn := 172) (fl := [(3, 173), (3, 174), (3, 175), (3, 176), (3, 177), (0, 0), (0, 0), (0, 0)]) hK hO kr47 rfl hP hD hS hA hE [] rfl rfl rfl) rfl rfl hl.1 rfl (lv_room (Nat.le_of_ble_eq_true rfl)) dM_hash_134 ⟨by omega, by omega⟩) (fun  u41 H locs hu41 hP hD hS => ?_)
                  obtain ⟨s56, pl⟩ := u41
                  obtain ⟨⟨eq41, hFc41, ⟨x84, hx_84, hb_84⟩, ⟨x85, hx_85, hb_85⟩, -⟩, hO⟩ := hu41
                  have hO : okn g T s56 pl := hO
                  have hP : va_P g.1 vcl ([] ++ pl) _ := hP
                  have hD : va_D _ ([] ++ pl) := hD
                  have hFc41 : frm (M_MS_take 150) s55 s56 := hFc41
                  have hb_84 : x84 ≤ x76 := hb_84
                  have hb_85 : x85 = x76 := hb_85
                  replace hR := bnd_step hR eq41
                  have hF := frm_tr hF hFc41 (fun k hk => by unfold M_MS_take at hk; unfold M_M_hash; omega)
                  have hf212 : s56.1 148 1 = nI tp := fc_F hf205 hFc41 (by unfold M_MS_take; omega)
                  have hf213 : s56.1 148 3 = nI ks := fc_F hf207 hFc41 (by unfold M_MS_take; omega)
                  have hf214 : s56.1 148 0 = nI 0 := fc_F hf208 hFc41 (by unfold M_MS_take; omega)
                  have hf215 : s56.1 148 2 = nI 32 := fc_F hf211 hFc41 (by unfold M_MS_take; omega)
                  refine W.widen (k := 0) (n := 0) (by omega) (by omega) ?_
                  refine lv_aload_n hx hb dM_hash_137 rfl (lv_at hl 0 rfl) ?_
                  refine lv_iconst (v := nI 0) hx hb dM_hash_138 (by decide) ?_
                  refine nw_put (C := "LatticeKeysModel") (TT := T_M) (N := 14) hx hb hts (wg_ft i_M) ty_M k_M n_M hown hK hO hU k_h0 (kn := 148) (ci := 8) (fl := [(0, 0), (0, 0), (0, 0), (0, 0), (3, 149), (3, 150), (3, 151), (3, 152), (3, 161), (3, 170), (3, 171), (3, 172), (3, 184), (3, 225)]) rfl hP hD hS rfl 1 (by decide) (hts _ (wg_t kw_1527)) (fun _ h9 => h9) rfl (by decide +kernel) rfl dM_hash_139 (fun s57 pl H locs es39 hO hP hD hS => ?_)
                  replace hR := bnd_step hR es39
                  have hF := frm_sI hF es39 (by unfold M_M_hash; omega)
                  have hf217 : s57.1 148 3 = nI ks := fc_ne hf213 es39 (by omega)
                  have hf218 : s57.1 148 0 = nI 0 := fc_ne hf214 es39 (by omega)
                  have hf219 : s57.1 148 2 = nI 32 := fc_ne hf215 es39 (by omega)
                  have hf220 : s57.1 172 6 = nI x84 := fc_ne hx_84 es39 (by omega)
                  have hf221 : s57.1 172 5 = nI x85 := fc_ne hx_85 es39 (by omega)
                  have hf222 : s57.1 148 1 = nI 0 := fc_eq es39
                  refine lv_aload_n hx hb dM_hash_142 rfl (lv_at hl 0 rfl) ?_
                  refine nw_get (C := "LatticeKeysModel") (TT := T_M) (N := 14) hx hb hts (wg_ft i_M) hown hK hO k_h0 (kn := 148) (ci := 8) (fl := [(0, 0), (0, 0), (0, 0), (0, 0), (3, 149), (3, 150), (3, 151), (3, 152), (3, 161), (3, 170), (3, 171), (3, 172), (3, 184), (3, 225)]) rfl hP rfl 2 (by decide) (hts _ (wg_t kw_1528)) (fun _ h9 => h9) (cd := (0, 0)) rfl dM_hash_143 (fun v69 hv70 => ?_)
                  obtain rfl := (show v69 = .int (s57.1 148 2) from hv70)
                  obtain ⟨z42, ez42, hz62, hz63⟩ := cl_of (b := 2147483648) hf219 (by omega) (by decide)
                  replace hR := bnd_step hR ez42
                  refine mi_as hz62 ?_
                  exact mp_iret hx hb hr hlk hP hD hS ((nI z42, s57), pl) ⟨⟨hR.symm, rfl, hF, ⟨0, hf222, by omega⟩, ⟨32, hf219, by omega⟩, ⟨ks, hf217, by omega⟩, trivial⟩, hO⟩ [] rfl rfl rfl (by omega) (by omega) dM_hash_146
              · replace hR := hR.trans (if_neg h32)
                refine lv_bipush (v := nI 6) hx hb dM_hash_64 (by decide) ?_
                refine lv_goto (tgt := 71) hx hb dM_hash_66 (by decide) ?_
                refine mp_v (cx := []) (wr := []) hP hD hS hA [] [] rfl rfl rfl (by decide) (va_runV (As := [.int (nI 168), .int (nI 6)]) (rest := []) F (N_MS_begin l g _ T s21 pl hO hU r24 168 (nI 6) kr21 (by omega)) (cwV 2 hts (wg_app (wg_c kw_1938 (wg_c kw_1608 (wg_c kw_1609 (wg_c kw_10 wg_n)))) kw_1610) rfl rfl rfl (by decide +kernel) ⟨by decide, by decide⟩) (pn_W "LatticeKeysModel$Sponge" (en_ok g) (ci := 9) (kn := 172) (fl := [(3, 173), (3, 174), (3, 175), (3, 176), (3, 177), (0, 0), (0, 0), (0, 0)]) hK hO kr21 rfl hP hD hS hA hE [] rfl rfl rfl) rfl rfl hl.1 rfl (lv_room (Nat.le_of_ble_eq_true rfl)) dM_hash_71 ⟨by omega, by omega⟩) (fun  u42 H locs hu42 hP hD hS => ?_)
                obtain ⟨s58, pl⟩ := u42
                obtain ⟨⟨eq42, hFc42, ⟨x87, hx_87, hb_87⟩, ⟨x88, hx_88, hb_88⟩, -⟩, hO⟩ := hu42
                have hO : okn g T s58 pl := hO
                have hP : va_P g.1 vcl ([] ++ pl) _ := hP
                have hD : va_D _ ([] ++ pl) := hD
                have hFc42 : frm (M_MS_begin) s21 s58 := hFc42
                have hb_87 : x87 = 0 := hb_87
                have hb_88 : x88 = 168 := hb_88
                replace hR := bnd_step hR eq42
                have hF := frm_tr hF hFc42 (fun k hk => by unfold M_MS_begin at hk; unfold M_M_hash; omega)
                have hf223 : s58.1 148 1 = nI tp := fc_F hf21 hFc42 (by unfold M_MS_begin; omega)
                have hf224 : s58.1 148 2 = nI rs := fc_F hf22 hFc42 (by unfold M_MS_begin; omega)
                have hf225 : s58.1 148 3 = nI ks := fc_F hf23 hFc42 (by unfold M_MS_begin; omega)
                have hf226 : s58.1 148 0 = nI 0 := fc_F hf24 hFc42 (by unfold M_MS_begin; omega)
                refine W.widen (k := 0) (n := 0) (by omega) (by omega) ?_
                refine lv_aload_n hx hb dM_hash_74 rfl (lv_at hl 0 rfl) ?_
                refine nw_get (C := "LatticeKeysModel") (TT := T_M) (N := 14) hx hb hts (wg_ft i_M) hown hK hO k_h0 (kn := 148) (ci := 8) (fl := [(0, 0), (0, 0), (0, 0), (0, 0), (3, 149), (3, 150), (3, 151), (3, 152), (3, 161), (3, 170), (3, 171), (3, 172), (3, 184), (3, 225)]) rfl hP rfl 11 (by decide) (hts _ (wg_t kw_1537)) (fun _ h9 => h9) (cd := (3, 172)) rfl dM_hash_75 (fun v70 hv71 => ?_)
                obtain ⟨r52, rfl, kr49⟩ := (show ∃ r : Nat, v70 = .ref r ∧ T r = some 172 from hv71)
                refine lv_aload_n hx hb dM_hash_78 rfl (lv_at hl 0 rfl) ?_
                refine nw_get (C := "LatticeKeysModel") (TT := T_M) (N := 14) hx hb hts (wg_ft i_M) hown hK hO k_h0 (kn := 148) (ci := 8) (fl := [(0, 0), (0, 0), (0, 0), (0, 0), (3, 149), (3, 150), (3, 151), (3, 152), (3, 161), (3, 170), (3, 171), (3, 172), (3, 184), (3, 225)]) rfl hP rfl 4 (by decide) (hts _ (wg_t kw_1530)) (fun _ h9 => h9) (cd := (3, 149)) rfl dM_hash_79 (fun v71 hv72 => ?_)
                obtain ⟨r53, rfl, kr50⟩ := (show ∃ r : Nat, v71 = .ref r ∧ T r = some 149 from hv72)
                refine lv_iconst (v := nI 0) hx hb dM_hash_82 (by decide) ?_
                refine lv_aload_n hx hb dM_hash_83 rfl (lv_at hl 0 rfl) ?_
                refine nw_get (C := "LatticeKeysModel") (TT := T_M) (N := 14) hx hb hts (wg_ft i_M) hown hK hO k_h0 (kn := 148) (ci := 8) (fl := [(0, 0), (0, 0), (0, 0), (0, 0), (3, 149), (3, 150), (3, 151), (3, 152), (3, 161), (3, 170), (3, 171), (3, 172), (3, 184), (3, 225)]) rfl hP rfl 1 (by decide) (hts _ (wg_t kw_1527)) (fun _ h9 => h9) (cd := (0, 0)) rfl dM_hash_84 (fun v72 hv73 => ?_)
                obtain rfl := (show v72 = .int (s58.1 148 1) from hv73)
                obtain ⟨z43, ez43, hz64, hz65⟩ := cl_of (b := 2147483648) hf223 (by omega) (by decide)
                replace hR := bnd_step hR ez43
                refine mi_as hz64 ?_
                refine mp_v (cx := []) (wr := []) hP hD hS hA [] [] rfl rfl rfl (by decide) (va_runV (As := [.ref r53, .int (nI 0), .int (nI z43)]) (rest := []) F (N_MS_puts l g _ T s58 pl hO hU r52 r53 149 16384 0 z43 x87 x88 kr49 kr50 rfl hx_87 hx_88 (by omega) (by omega) (by omega) (by omega)) (cwV 3 hts (wg_app (wg_c kw_1939 (wg_c kw_1612 (wg_c kw_1613 (wg_c kw_10 wg_n)))) kw_1614) rfl rfl rfl (by decide +kernel) ⟨by decide, by decide⟩) (pn_W "LatticeKeysModel$Sponge" (en_ok g) (ci := 9) (kn := 172) (fl := [(3, 173), (3, 174), (3, 175), (3, 176), (3, 177), (0, 0), (0, 0), (0, 0)]) hK hO kr49 rfl hP hD hS hA hE [] rfl rfl rfl) rfl rfl hl.1 rfl (lv_room (Nat.le_of_ble_eq_true rfl)) dM_hash_87 ⟨by omega, by omega⟩) (fun  u43 H locs hu43 hP hD hS => ?_)
                obtain ⟨s59, pl⟩ := u43
                obtain ⟨⟨eq43, hFc43, ⟨x90, hx_90, hb_90⟩, ⟨x91, hx_91, hb_91⟩, -⟩, hO⟩ := hu43
                have hO : okn g T s59 pl := hO
                have hP : va_P g.1 vcl ([] ++ pl) _ := hP
                have hD : va_D _ ([] ++ pl) := hD
                have hFc43 : frm (M_MS_puts) s58 s59 := hFc43
                have hb_90 : x90 < x88 := hb_90
                have hb_91 : x91 = x88 := hb_91
                replace hR := bnd_step hR eq43
                have hF := frm_tr hF hFc43 (fun k hk => by unfold M_MS_puts at hk; unfold M_M_hash; omega)
                have hf227 : s59.1 148 1 = nI tp := fc_F hf223 hFc43 (by unfold M_MS_puts; omega)
                have hf228 : s59.1 148 2 = nI rs := fc_F hf224 hFc43 (by unfold M_MS_puts; omega)
                have hf229 : s59.1 148 3 = nI ks := fc_F hf225 hFc43 (by unfold M_MS_puts; omega)
                have hf230 : s59.1 148 0 = nI 0 := fc_F hf226 hFc43 (by unfold M_MS_puts; omega)
                refine W.widen (k := 0) (n := 0) (by omega) (by omega) ?_
                refine lv_aload_n hx hb dM_hash_90 rfl (lv_at hl 0 rfl) ?_
                refine nw_get (C := "LatticeKeysModel") (TT := T_M) (N := 14) hx hb hts (wg_ft i_M) hown hK hO k_h0 (kn := 148) (ci := 8) (fl := [(0, 0), (0, 0), (0, 0), (0, 0), (3, 149), (3, 150), (3, 151), (3, 152), (3, 161), (3, 170), (3, 171), (3, 172), (3, 184), (3, 225)]) rfl hP rfl 11 (by decide) (hts _ (wg_t kw_1537)) (fun _ h9 => h9) (cd := (3, 172)) rfl dM_hash_91 (fun v73 hv74 => ?_)
                obtain ⟨r54, rfl, kr51⟩ := (show ∃ r : Nat, v73 = .ref r ∧ T r = some 172 from hv74)
                refine mp_v (cx := []) (wr := []) hP hD hS hA [] [] rfl rfl rfl (by decide) (va_runV (As := []) (rest := []) F (N_MS_end l g _ T s59 pl hO hU r54 x90 x91 kr51 hx_90 hx_91 (by omega) (by omega)) (cwV 0 hts (wg_app (wg_c kw_1940 (wg_c kw_1634 (wg_c kw_1635 (wg_c kw_10 wg_n)))) kw_1636) rfl rfl rfl (by decide +kernel) ⟨by decide, by decide⟩) (pn_W "LatticeKeysModel$Sponge" (en_ok g) (ci := 9) (kn := 172) (fl := [(3, 173), (3, 174), (3, 175), (3, 176), (3, 177), (0, 0), (0, 0), (0, 0)]) hK hO kr51 rfl hP hD hS hA hE [] rfl rfl rfl) rfl rfl hl.1 rfl (lv_room (Nat.le_of_ble_eq_true rfl)) dM_hash_94 ⟨by omega, by omega⟩) (fun  u44 H locs hu44 hP hD hS => ?_)
                obtain ⟨s60, pl⟩ := u44
                obtain ⟨⟨eq44, hFc44, ⟨x93, hx_93, hb_93⟩, ⟨x94, hx_94, hb_94⟩, -⟩, hO⟩ := hu44
                have hO : okn g T s60 pl := hO
                have hP : va_P g.1 vcl ([] ++ pl) _ := hP
                have hD : va_D _ ([] ++ pl) := hD
                have hFc44 : frm (M_MS_end) s59 s60 := hFc44
                have hb_93 : x93 = 0 := hb_93
                have hb_94 : x94 = x91 := hb_94
                replace hR := bnd_step hR eq44
                have hF := frm_tr hF hFc44 (fun k hk => by unfold M_MS_end at hk; unfold M_M_hash; omega)
                have hf231 : s60.1 148 1 = nI tp := fc_F hf227 hFc44 (by unfold M_MS_end; omega)
                have hf232 : s60.1 148 2 = nI rs := fc_F hf228 hFc44 (by unfold M_MS_end; omega)
                have hf233 : s60.1 148 3 = nI ks := fc_F hf229 hFc44 (by unfold M_MS_end; omega)
                have hf234 : s60.1 148 0 = nI 0 := fc_F hf230 hFc44 (by unfold M_MS_end; omega)
                refine W.widen (k := 0) (n := 0) (by omega) (by omega) ?_
                refine lv_aload_n hx hb dM_hash_97 rfl (lv_at hl 0 rfl) ?_
                refine lv_iload_n hx hb dM_hash_98 rfl (lv_at hl 1 rfl) ?_
                refine lv_if_ne (tgt := 107) hx hb dM_hash_99 (by decide) (fun h35 => ?_) (fun h35 => ?_)
                · replace hR := hR.trans (if_neg h35)
                  refine lv_iload_n hx hb dM_hash_107 rfl (lv_at hl 1 rfl) ?_
                  refine lv_iconst (v := nI 1) hx hb dM_hash_108 (by decide) ?_
                  refine lv_icmp_ne (tgt := 117) hx hb dM_hash_109 (by decide) (fun h36 => ?_) (fun h36 => ?_)
                  · replace hR := hR.trans (if_neg h36)
                    refine lv_iload_n hx hb dM_hash_117 rfl (lv_at hl 2 rfl) ?_
                    refine nw_put (C := "LatticeKeysModel") (TT := T_M) (N := 14) hx hb hts (wg_ft i_M) ty_M k_M n_M hown hK hO hU k_h0 (kn := 148) (ci := 8) (fl := [(0, 0), (0, 0), (0, 0), (0, 0), (3, 149), (3, 150), (3, 151), (3, 152), (3, 161), (3, 170), (3, 171), (3, 172), (3, 184), (3, 225)]) rfl hP hD hS rfl 2 (by decide) (hts _ (wg_t kw_1528)) (fun _ h9 => h9) rfl (by decide +kernel) rfl dM_hash_118 (fun s61 pl H locs es40 hO hP hD hS => ?_)
                    replace hR := bnd_step hR es40
                    have hF := frm_sI hF es40 (by unfold M_M_hash; omega)
                    have hf235 : s61.1 148 1 = nI tp := fc_ne hf231 es40 (by omega)
                    have hf237 : s61.1 148 3 = nI ks := fc_ne hf233 es40 (by omega)
                    have hf238 : s61.1 148 0 = nI 0 := fc_ne hf234 es40 (by omega)
                    have hf239 : s61.1 172 6 = nI x93 := fc_ne hx_93 es40 (by omega)
                    have hf240 : s61.1 172 5 = nI x94 := fc_ne hx_94 es40 (by omega)
                    have hf241 : s61.1 148 2 = nI z21 := fc_eq es40
                    refine lv_aload_n hx hb dM_hash_121 rfl (lv_at hl 0 rfl) ?_
                    refine nw_get (C := "LatticeKeysModel") (TT := T_M) (N := 14) hx hb hts (wg_ft i_M) hown hK hO k_h0 (kn := 148) (ci := 8) (fl := [(0, 0), (0, 0), (0, 0), (0, 0), (3, 149), (3, 150), (3, 151), (3, 152), (3, 161), (3, 170), (3, 171), (3, 172), (3, 184), (3, 225)]) rfl hP rfl 11 (by decide) (hts _ (wg_t kw_1537)) (fun _ h9 => h9) (cd := (3, 172)) rfl dM_hash_122 (fun v74 hv75 => ?_)
                    obtain ⟨r55, rfl, kr52⟩ := (show ∃ r : Nat, v74 = .ref r ∧ T r = some 172 from hv75)
                    refine lv_aload_n hx hb dM_hash_125 rfl (lv_at hl 0 rfl) ?_
                    refine nw_get (C := "LatticeKeysModel") (TT := T_M) (N := 14) hx hb hts (wg_ft i_M) hown hK hO k_h0 (kn := 148) (ci := 8) (fl := [(0, 0), (0, 0), (0, 0), (0, 0), (3, 149), (3, 150), (3, 151), (3, 152), (3, 161), (3, 170), (3, 171), (3, 172), (3, 184), (3, 225)]) rfl hP rfl 5 (by decide) (hts _ (wg_t kw_1531)) (fun _ h9 => h9) (cd := (3, 150)) rfl dM_hash_126 (fun v75 hv76 => ?_)
                    obtain ⟨r56, rfl, kr53⟩ := (show ∃ r : Nat, v75 = .ref r ∧ T r = some 150 from hv76)
                    refine lv_iconst (v := nI 0) hx hb dM_hash_129 (by decide) ?_
                    refine lv_aload_n hx hb dM_hash_130 rfl (lv_at hl 0 rfl) ?_
                    refine nw_get (C := "LatticeKeysModel") (TT := T_M) (N := 14) hx hb hts (wg_ft i_M) hown hK hO k_h0 (kn := 148) (ci := 8) (fl := [(0, 0), (0, 0), (0, 0), (0, 0), (3, 149), (3, 150), (3, 151), (3, 152), (3, 161), (3, 170), (3, 171), (3, 172), (3, 184), (3, 225)]) rfl hP rfl 2 (by decide) (hts _ (wg_t kw_1528)) (fun _ h9 => h9) (cd := (0, 0)) rfl dM_hash_131 (fun v76 hv77 => ?_)
                    obtain rfl := (show v76 = .int (s61.1 148 2) from hv77)
                    obtain ⟨z44, ez44, hz66, hz67⟩ := cl_of (b := 2147483648) hf241 (by omega) (by decide)
                    replace hR := bnd_step hR ez44
                    refine mi_as hz66 ?_
                    refine mp_v (cx := []) (wr := []) hP hD hS hA [] [] rfl rfl rfl (by decide) (va_runV (As := [.ref r56, .int (nI 0), .int (nI z44)]) (rest := []) F (N_MS_take l g _ T s61 pl hO hU r55 r56 150 8192 0 z44 x93 x94 kr52 kr53 rfl hf239 hf240 (by omega) (by omega) (by omega) (by omega)) (cwV 3 hts (wg_app (wg_c kw_1941 (wg_c kw_1638 (wg_c kw_1639 (wg_c kw_10 wg_n)))) kw_1640) rfl rfl rfl (by decide +kernel) ⟨by decide, by decide⟩) (pn_W "LatticeKeysModel$Sponge" (en_ok g) (ci := 9) (kn := 172) (fl := [(3, 173), (3, 174), (3, 175), (3, 176), (3, 177), (0, 0), (0, 0), (0, 0)]) hK hO kr52 rfl hP hD hS hA hE [] rfl rfl rfl) rfl rfl hl.1 rfl (lv_room (Nat.le_of_ble_eq_true rfl)) dM_hash_134 ⟨by omega, by omega⟩) (fun  u45 H locs hu45 hP hD hS => ?_)
                    obtain ⟨s62, pl⟩ := u45
                    obtain ⟨⟨eq45, hFc45, ⟨x96, hx_96, hb_96⟩, ⟨x97, hx_97, hb_97⟩, -⟩, hO⟩ := hu45
                    have hO : okn g T s62 pl := hO
                    have hP : va_P g.1 vcl ([] ++ pl) _ := hP
                    have hD : va_D _ ([] ++ pl) := hD
                    have hFc45 : frm (M_MS_take 150) s61 s62 := hFc45
                    have hb_96 : x96 ≤ x94 := hb_96
                    have hb_97 : x97 = x94 := hb_97
                    replace hR := bnd_step hR eq45
                    have hF := frm_tr hF hFc45 (fun k hk => by unfold M_MS_take at hk; unfold M_M_hash; omega)
                    have hf242 : s62.1 148 1 = nI tp := fc_F hf235 hFc45 (by unfold M_MS_take; omega)
                    have hf243 : s62.1 148 3 = nI ks := fc_F hf237 hFc45 (by unfold M_MS_take; omega)
                    have hf244 : s62.1 148 0 = nI 0 := fc_F hf238 hFc45 (by unfold M_MS_take; omega)
                    have hf245 : s62.1 148 2 = nI z21 := fc_F hf241 hFc45 (by unfold M_MS_take; omega)
                    refine W.widen (k := 0) (n := 0) (by omega) (by omega) ?_
                    refine lv_aload_n hx hb dM_hash_137 rfl (lv_at hl 0 rfl) ?_
                    refine lv_iconst (v := nI 0) hx hb dM_hash_138 (by decide) ?_
                    refine nw_put (C := "LatticeKeysModel") (TT := T_M) (N := 14) hx hb hts (wg_ft i_M) ty_M k_M n_M hown hK hO hU k_h0 (kn := 148) (ci := 8) (fl := [(0, 0), (0, 0), (0, 0), (0, 0), (3, 149), (3, 150), (3, 151), (3, 152), (3, 161), (3, 170), (3, 171), (3, 172), (3, 184), (3, 225)]) rfl hP hD hS rfl 1 (by decide) (hts _ (wg_t kw_1527)) (fun _ h9 => h9) rfl (by decide +kernel) rfl dM_hash_139 (fun s63 pl H locs es41 hO hP hD hS => ?_)
                    replace hR := bnd_step hR es41
                    have hF := frm_sI hF es41 (by unfold M_M_hash; omega)
                    have hf247 : s63.1 148 3 = nI ks := fc_ne hf243 es41 (by omega)
                    have hf248 : s63.1 148 0 = nI 0 := fc_ne hf244 es41 (by omega)
                    have hf249 : s63.1 148 2 = nI z21 := fc_ne hf245 es41 (by omega)
                    have hf250 : s63.1 172 6 = nI x96 := fc_ne hx_96 es41 (by omega)
                    have hf251 : s63.1 172 5 = nI x97 := fc_ne hx_97 es41 (by omega)
                    have hf252 : s63.1 148 1 = nI 0 := fc_eq es41
                    refine lv_aload_n hx hb dM_hash_142 rfl (lv_at hl 0 rfl) ?_
                    refine nw_get (C := "LatticeKeysModel") (TT := T_M) (N := 14) hx hb hts (wg_ft i_M) hown hK hO k_h0 (kn := 148) (ci := 8) (fl := [(0, 0), (0, 0), (0, 0), (0, 0), (3, 149), (3, 150), (3, 151), (3, 152), (3, 161), (3, 170), (3, 171), (3, 172), (3, 184), (3, 225)]) rfl hP rfl 2 (by decide) (hts _ (wg_t kw_1528)) (fun _ h9 => h9) (cd := (0, 0)) rfl dM_hash_143 (fun v77 hv78 => ?_)
                    obtain rfl := (show v77 = .int (s63.1 148 2) from hv78)
                    obtain ⟨z45, ez45, hz68, hz69⟩ := cl_of (b := 2147483648) hf249 (by omega) (by decide)
                    replace hR := bnd_step hR ez45
                    refine mi_as hz68 ?_
                    exact mp_iret hx hb hr hlk hP hD hS ((nI z45, s63), pl) ⟨⟨hR.symm, rfl, hF, ⟨0, hf252, by omega⟩, ⟨z21, hf249, by omega⟩, ⟨ks, hf247, by omega⟩, trivial⟩, hO⟩ [] rfl rfl rfl (by omega) (by omega) dM_hash_146
                  · replace hR := hR.trans (if_pos h36)
                    refine lv_bipush (v := nI 64) hx hb dM_hash_112 (by decide) ?_
                    refine lv_goto (tgt := 118) hx hb dM_hash_114 (by decide) ?_
                    refine nw_put (C := "LatticeKeysModel") (TT := T_M) (N := 14) hx hb hts (wg_ft i_M) ty_M k_M n_M hown hK hO hU k_h0 (kn := 148) (ci := 8) (fl := [(0, 0), (0, 0), (0, 0), (0, 0), (3, 149), (3, 150), (3, 151), (3, 152), (3, 161), (3, 170), (3, 171), (3, 172), (3, 184), (3, 225)]) rfl hP hD hS rfl 2 (by decide) (hts _ (wg_t kw_1528)) (fun _ h9 => h9) rfl (by decide +kernel) rfl dM_hash_118 (fun s64 pl H locs es42 hO hP hD hS => ?_)
                    replace hR := bnd_step hR es42
                    have hF := frm_sI hF es42 (by unfold M_M_hash; omega)
                    have hf253 : s64.1 148 1 = nI tp := fc_ne hf231 es42 (by omega)
                    have hf255 : s64.1 148 3 = nI ks := fc_ne hf233 es42 (by omega)
                    have hf256 : s64.1 148 0 = nI 0 := fc_ne hf234 es42 (by omega)
                    have hf257 : s64.1 172 6 = nI x93 := fc_ne hx_93 es42 (by omega)
                    have hf258 : s64.1 172 5 = nI x94 := fc_ne hx_94 es42 (by omega)
                    have hf259 : s64.1 148 2 = nI 64 := fc_eq es42
                    refine lv_aload_n hx hb dM_hash_121 rfl (lv_at hl 0 rfl) ?_
                    refine nw_get (C := "LatticeKeysModel") (TT := T_M) (N := 14) hx hb hts (wg_ft i_M) hown hK hO k_h0 (kn := 148) (ci := 8) (fl := [(0, 0), (0, 0), (0, 0), (0, 0), (3, 149), (3, 150), (3, 151), (3, 152), (3, 161), (3, 170), (3, 171), (3, 172), (3, 184), (3, 225)]) rfl hP rfl 11 (by decide) (hts _ (wg_t kw_1537)) (fun _ h9 => h9) (cd := (3, 172)) rfl dM_hash_122 (fun v78 hv79 => ?_)
                    obtain ⟨r57, rfl, kr54⟩ := (show ∃ r : Nat, v78 = .ref r ∧ T r = some 172 from hv79)
                    refine lv_aload_n hx hb dM_hash_125 rfl (lv_at hl 0 rfl) ?_
                    refine nw_get (C := "LatticeKeysModel") (TT := T_M) (N := 14) hx hb hts (wg_ft i_M) hown hK hO k_h0 (kn := 148) (ci := 8) (fl := [(0, 0), (0, 0), (0, 0), (0, 0), (3, 149), (3, 150), (3, 151), (3, 152), (3, 161), (3, 170), (3, 171), (3, 172), (3, 184), (3, 225)]) rfl hP rfl 5 (by decide) (hts _ (wg_t kw_1531)) (fun _ h9 => h9) (cd := (3, 150)) rfl dM_hash_126 (fun v79 hv80 => ?_)
                    obtain ⟨r58, rfl, kr55⟩ := (show ∃ r : Nat, v79 = .ref r ∧ T r = some 150 from hv80)
                    refine lv_iconst (v := nI 0) hx hb dM_hash_129 (by decide) ?_
                    refine lv_aload_n hx hb dM_hash_130 rfl (lv_at hl 0 rfl) ?_
                    refine nw_get (C := "LatticeKeysModel") (TT := T_M) (N := 14) hx hb hts (wg_ft i_M) hown hK hO k_h0 (kn := 148) (ci := 8) (fl := [(0, 0), (0, 0), (0, 0), (0, 0), (3, 149), (3, 150), (3, 151), (3, 152), (3, 161), (3, 170), (3, 171), (3, 172), (3, 184), (3, 225)]) rfl hP rfl 2 (by decide) (hts _ (wg_t kw_1528)) (fun _ h9 => h9) (cd := (0, 0)) rfl dM_hash_131 (fun v80 hv81 => ?_)
                    obtain rfl := (show v80 = .int (s64.1 148 2) from hv81)
                    obtain ⟨z46, ez46, hz70, hz71⟩ := cl_of (b := 2147483648) hf259 (by omega) (by decide)
                    replace hR := bnd_step hR ez46
                    refine mi_as hz70 ?_
                    refine mp_v (cx := []) (wr := []) hP hD hS hA [] [] rfl rfl rfl (by decide) (va_runV (As := [.ref r58, .int (nI 0), .int (nI z46)]) (rest := []) F (N_MS_take l g _ T s64 pl hO hU r57 r58 150 8192 0 z46 x93 x94 kr54 kr55 rfl hf257 hf258 (by omega) (by omega) (by omega) (by omega)) (cwV 3 hts (wg_app (wg_c kw_1941 (wg_c kw_1638 (wg_c kw_1639 (wg_c kw_10 wg_n)))) kw_1640) rfl rfl rfl (by decide +kernel) ⟨by decide, by decide⟩) (pn_W "LatticeKeysModel$Sponge" (en_ok g) (ci := 9) (kn := 172) (fl := [(3, 173), (3, 174), (3, 175), (3, 176), (3, 177), (0, 0), (0, 0), (0, 0)]) hK hO kr54 rfl hP hD hS hA hE [] rfl rfl rfl) rfl rfl hl.1 rfl (lv_room (Nat.le_of_ble_eq_true rfl)) dM_hash_134 ⟨by omega, by omega⟩) (fun  u46 H locs hu46 hP hD hS => ?_)
                    obtain ⟨s65, pl⟩ := u46
                    obtain ⟨⟨eq46, hFc46, ⟨x99, hx_99, hb_99⟩, ⟨x100, hx_100, hb_100⟩, -⟩, hO⟩ := hu46
                    have hO : okn g T s65 pl := hO
                    have hP : va_P g.1 vcl ([] ++ pl) _ := hP
                    have hD : va_D _ ([] ++ pl) := hD
                    have hFc46 : frm (M_MS_take 150) s64 s65 := hFc46
                    have hb_99 : x99 ≤ x94 := hb_99
                    have hb_100 : x100 = x94 := hb_100
                    replace hR := bnd_step hR eq46
                    have hF := frm_tr hF hFc46 (fun k hk => by unfold M_MS_take at hk; unfold M_M_hash; omega)
                    have hf260 : s65.1 148 1 = nI tp := fc_F hf253 hFc46 (by unfold M_MS_take; omega)
                    have hf261 : s65.1 148 3 = nI ks := fc_F hf255 hFc46 (by unfold M_MS_take; omega)
                    have hf262 : s65.1 148 0 = nI 0 := fc_F hf256 hFc46 (by unfold M_MS_take; omega)
                    have hf263 : s65.1 148 2 = nI 64 := fc_F hf259 hFc46 (by unfold M_MS_take; omega)
                    refine W.widen (k := 0) (n := 0) (by omega) (by omega) ?_
                    refine lv_aload_n hx hb dM_hash_137 rfl (lv_at hl 0 rfl) ?_
                    refine lv_iconst (v := nI 0) hx hb dM_hash_138 (by decide) ?_
                    refine nw_put (C := "LatticeKeysModel") (TT := T_M) (N := 14) hx hb hts (wg_ft i_M) ty_M k_M n_M hown hK hO hU k_h0 (kn := 148) (ci := 8) (fl := [(0, 0), (0, 0), (0, 0), (0, 0), (3, 149), (3, 150), (3, 151), (3, 152), (3, 161), (3, 170), (3, 171), (3, 172), (3, 184), (3, 225)]) rfl hP hD hS rfl 1 (by decide) (hts _ (wg_t kw_1527)) (fun _ h9 => h9) rfl (by decide +kernel) rfl dM_hash_139 (fun s66 pl H locs es43 hO hP hD hS => ?_)
                    replace hR := bnd_step hR es43
                    have hF := frm_sI hF es43 (by unfold M_M_hash; omega)
                    have hf265 : s66.1 148 3 = nI ks := fc_ne hf261 es43 (by omega)
                    have hf266 : s66.1 148 0 = nI 0 := fc_ne hf262 es43 (by omega)
                    have hf267 : s66.1 148 2 = nI 64 := fc_ne hf263 es43 (by omega)
                    have hf268 : s66.1 172 6 = nI x99 := fc_ne hx_99 es43 (by omega)
                    have hf269 : s66.1 172 5 = nI x100 := fc_ne hx_100 es43 (by omega)
                    have hf270 : s66.1 148 1 = nI 0 := fc_eq es43
                    refine lv_aload_n hx hb dM_hash_142 rfl (lv_at hl 0 rfl) ?_
                    refine nw_get (C := "LatticeKeysModel") (TT := T_M) (N := 14) hx hb hts (wg_ft i_M) hown hK hO k_h0 (kn := 148) (ci := 8) (fl := [(0, 0), (0, 0), (0, 0), (0, 0), (3, 149), (3, 150), (3, 151), (3, 152), (3, 161), (3, 170), (3, 171), (3, 172), (3, 184), (3, 225)]) rfl hP rfl 2 (by decide) (hts _ (wg_t kw_1528)) (fun _ h9 => h9) (cd := (0, 0)) rfl dM_hash_143 (fun v81 hv82 => ?_)
                    obtain rfl := (show v81 = .int (s66.1 148 2) from hv82)
                    obtain ⟨z47, ez47, hz72, hz73⟩ := cl_of (b := 2147483648) hf267 (by omega) (by decide)
                    replace hR := bnd_step hR ez47
                    refine mi_as hz72 ?_
                    exact mp_iret hx hb hr hlk hP hD hS ((nI z47, s66), pl) ⟨⟨hR.symm, rfl, hF, ⟨0, hf270, by omega⟩, ⟨64, hf267, by omega⟩, ⟨ks, hf265, by omega⟩, trivial⟩, hO⟩ [] rfl rfl rfl (by omega) (by omega) dM_hash_146
                · replace hR := hR.trans (if_pos h35)
                  refine lv_bipush (v := nI 32) hx hb dM_hash_102 (by decide) ?_
                  refine lv_goto (tgt := 118) hx hb dM_hash_104 (by decide) ?_
                  refine nw_put (C := "LatticeKeysModel") (TT := T_M) (N := 14) hx hb hts (wg_ft i_M) ty_M k_M n_M hown hK hO hU k_h0 (kn := 148) (ci := 8) (fl := [(0, 0), (0, 0), (0, 0), (0, 0), (3, 149), (3, 150), (3, 151), (3, 152), (3, 161), (3, 170), (3, 171), (3, 172), (3, 184), (3, 225)]) rfl hP hD hS rfl 2 (by decide) (hts _ (wg_t kw_1528)) (fun _ h9 => h9) rfl (by decide +kernel) rfl dM_hash_118 (fun s67 pl H locs es44 hO hP hD hS => ?_)
                  replace hR := bnd_step hR es44
                  have hF := frm_sI hF es44 (by unfold M_M_hash; omega)
                  have hf271 : s67.1 148 1 = nI tp := fc_ne hf231 es44 (by omega)
                  have hf273 : s67.1 148 3 = nI ks := fc_ne hf233 es44 (by omega)
                  have hf274 : s67.1 148 0 = nI 0 := fc_ne hf234 es44 (by omega)
                  have hf275 : s67.1 172 6 = nI x93 := fc_ne hx_93 es44 (by omega)
                  have hf276 : s67.1 172 5 = nI x94 := fc_ne hx_94 es44 (by omega)
                  have hf277 : s67.1 148 2 = nI 32 := fc_eq es44
                  refine lv_aload_n hx hb dM_hash_121 rfl (lv_at hl 0 rfl) ?_
                  refine nw_get (C := "LatticeKeysModel") (TT := T_M) (N := 14) hx hb hts (wg_ft i_M) hown hK hO k_h0 (kn := 148) (ci := 8) (fl := [(0, 0), (0, 0), (0, 0), (0, 0), (3, 149), (3, 150), (3, 151), (3, 152), (3, 161), (3, 170), (3, 171), (3, 172), (3, 184), (3, 225)]) rfl hP rfl 11 (by decide) (hts _ (wg_t kw_1537)) (fun _ h9 => h9) (cd := (3, 172)) rfl dM_hash_122 (fun v82 hv83 => ?_)
                  obtain ⟨r59, rfl, kr56⟩ := (show ∃ r : Nat, v82 = .ref r ∧ T r = some 172 from hv83)
                  refine lv_aload_n hx hb dM_hash_125 rfl (lv_at hl 0 rfl) ?_
                  refine nw_get (C := "LatticeKeysModel") (TT := T_M) (N := 14) hx hb hts (wg_ft i_M) hown hK hO k_h0 (kn := 148) (ci := 8) (fl := [(0, 0), (0, 0), (0, 0), (0, 0), (3, 149), (3, 150), (3, 151), (3, 152), (3, 161), (3, 170), (3, 171), (3, 172), (3, 184), (3, 225)]) rfl hP rfl 5 (by decide) (hts _ (wg_t kw_1531)) (fun _ h9 => h9) (cd := (3, 150)) rfl dM_hash_126 (fun v83 hv84 => ?_)
                  obtain ⟨r60, rfl, kr57⟩ := (show ∃ r : Nat, v83 = .ref r ∧ T r = some 150 from hv84)
                  refine lv_iconst (v := nI 0) hx hb dM_hash_129 (by decide) ?_
                  refine lv_aload_n hx hb dM_hash_130 rfl (lv_at hl 0 rfl) ?_
                  refine nw_get (C := "LatticeKeysModel") (TT := T_M) (N := 14) hx hb hts (wg_ft i_M) hown hK hO k_h0 (kn := 148) (ci := 8) (fl := [(0, 0), (0, 0), (0, 0), (0, 0), (3, 149), (3, 150), (3, 151), (3, 152), (3, 161), (3, 170), (3, 171), (3, 172), (3, 184), (3, 225)]) rfl hP rfl 2 (by decide) (hts _ (wg_t kw_1528)) (fun _ h9 => h9) (cd := (0, 0)) rfl dM_hash_131 (fun v84 hv85 => ?_)
                  obtain rfl := (show v84 = .int (s67.1 148 2) from hv85)
                  obtain ⟨z48, ez48, hz74, hz75⟩ := cl_of (b := 2147483648) hf277 (by omega) (by decide)
                  replace hR := bnd_step hR ez48
                  refine mi_as hz74 ?_
                  refine mp_v (cx := []) (wr := []) hP hD hS hA [] [] rfl rfl rfl (by decide) (va_runV (As := [.ref r60, .int (nI 0), .int (nI z48)]) (rest := []) F (N_MS_take l g _ T s67 pl hO hU r59 r60 150 8192 0 z48 x93 x94 kr56 kr57 rfl hf275 hf276 (by omega) (by omega) (by omega) (by omega)) (cwV 3 hts (wg_app (wg_c kw_1941 (wg_c kw_1638 (wg_c kw_1639 (wg_c kw_10 wg_n)))) kw_1640) rfl rfl rfl (by decide +kernel) ⟨by decide, by decide⟩) (pn_W "LatticeKeysModel$Sponge" (en_ok g) (ci := 9) (kn := 172) (fl := [(3, 173), (3, 174), (3, 175), (3, 176), (3, 177), (0, 0), (0, 0), (0, 0)]) hK hO kr56 rfl hP hD hS hA hE [] rfl rfl rfl) rfl rfl hl.1 rfl (lv_room (Nat.le_of_ble_eq_true rfl)) dM_hash_134 ⟨by omega, by omega⟩) (fun  u47 H locs hu47 hP hD hS => ?_)
                  obtain ⟨s68, pl⟩ := u47
                  obtain ⟨⟨eq47, hFc47, ⟨x102, hx_102, hb_102⟩, ⟨x103, hx_103, hb_103⟩, -⟩, hO⟩ := hu47
                  have hO : okn g T s68 pl := hO
                  have hP : va_P g.1 vcl ([] ++ pl) _ := hP
                  have hD : va_D _ ([] ++ pl) := hD
                  have hFc47 : frm (M_MS_take 150) s67 s68 := hFc47
                  have hb_102 : x102 ≤ x94 := hb_102
                  have hb_103 : x103 = x94 := hb_103
                  replace hR := bnd_step hR eq47
                  have hF := frm_tr hF hFc47 (fun k hk => by unfold M_MS_take at hk; unfold M_M_hash; omega)
                  have hf278 : s68.1 148 1 = nI tp := fc_F hf271 hFc47 (by unfold M_MS_take; omega)
                  have hf279 : s68.1 148 3 = nI ks := fc_F hf273 hFc47 (by unfold M_MS_take; omega)
                  have hf280 : s68.1 148 0 = nI 0 := fc_F hf274 hFc47 (by unfold M_MS_take; omega)
                  have hf281 : s68.1 148 2 = nI 32 := fc_F hf277 hFc47 (by unfold M_MS_take; omega)
                  refine W.widen (k := 0) (n := 0) (by omega) (by omega) ?_
                  refine lv_aload_n hx hb dM_hash_137 rfl (lv_at hl 0 rfl) ?_
                  refine lv_iconst (v := nI 0) hx hb dM_hash_138 (by decide) ?_
                  refine nw_put (C := "LatticeKeysModel") (TT := T_M) (N := 14) hx hb hts (wg_ft i_M) ty_M k_M n_M hown hK hO hU k_h0 (kn := 148) (ci := 8) (fl := [(0, 0), (0, 0), (0, 0), (0, 0), (3, 149), (3, 150), (3, 151), (3, 152), (3, 161), (3, 170), (3, 171), (3, 172), (3, 184), (3, 225)]) rfl hP hD hS rfl 1 (by decide) (hts _ (wg_t kw_1527)) (fun _ h9 => h9) rfl (by decide +kernel) rfl dM_hash_139 (fun s69 pl H locs es45 hO hP hD hS => ?_)
                  replace hR := bnd_step hR es45
                  have hF := frm_sI hF es45 (by unfold M_M_hash; omega)
                  have hf283 : s69.1 148 3 = nI ks := fc_ne hf279 es45 (by omega)
                  have hf284 : s69.1 148 0 = nI 0 := fc_ne hf280 es45 (by omega)
                  have hf285 : s69.1 148 2 = nI 32 := fc_ne hf281 es45 (by omega)
                  have hf286 : s69.1 172 6 = nI x102 := fc_ne hx_102 es45 (by omega)
                  have hf287 : s69.1 172 5 = nI x103 := fc_ne hx_103 es45 (by omega)
                  have hf288 : s69.1 148 1 = nI 0 := fc_eq es45
                  refine lv_aload_n hx hb dM_hash_142 rfl (lv_at hl 0 rfl) ?_
                  refine nw_get (C := "LatticeKeysModel") (TT := T_M) (N := 14) hx hb hts (wg_ft i_M) hown hK hO k_h0 (kn := 148) (ci := 8) (fl := [(0, 0), (0, 0), (0, 0), (0, 0), (3, 149), (3, 150), (3, 151), (3, 152), (3, 161), (3, 170), (3, 171), (3, 172), (3, 184), (3, 225)]) rfl hP rfl 2 (by decide) (hts _ (wg_t kw_1528)) (fun _ h9 => h9) (cd := (0, 0)) rfl dM_hash_143 (fun v85 hv86 => ?_)
                  obtain rfl := (show v85 = .int (s69.1 148 2) from hv86)
                  obtain ⟨z49, ez49, hz76, hz77⟩ := cl_of (b := 2147483648) hf285 (by omega) (by decide)
                  replace hR := bnd_step hR ez49
                  refine mi_as hz76 ?_
                  exact mp_iret hx hb hr hlk hP hD hS ((nI z49, s69), pl) ⟨⟨hR.symm, rfl, hF, ⟨0, hf288, by omega⟩, ⟨32, hf285, by omega⟩, ⟨ks, hf283, by omega⟩, trivial⟩, hO⟩ [] rfl rfl rfl (by omega) (by omega) dM_hash_146
          · replace hR := hR.trans (if_pos h25)
            refine lv_bipush (v := nI 72) hx hb dM_hash_40 (by decide) ?_
            refine lv_goto (tgt := 59) hx hb dM_hash_42 (by decide) ?_
            refine lv_iload_n hx hb dM_hash_59 rfl (lv_at hl 1 rfl) ?_
            refine lv_iconst (v := nI 2) hx hb dM_hash_60 (by decide) ?_
            refine lv_icmp_ge (tgt := 69) hx hb dM_hash_61 (by decide) (fun h37 => ?_) (fun h37 => ?_)
            · replace hR := hR.trans (if_pos h37)
              refine lv_bipush (v := nI 31) hx hb dM_hash_69 (by decide) ?_
              refine mp_v (cx := []) (wr := []) hP hD hS hA [] [] rfl rfl rfl (by decide) (va_runV (As := [.int (nI 72), .int (nI 31)]) (rest := []) F (N_MS_begin l g _ T s21 pl hO hU r24 72 (nI 31) kr21 (by omega)) (cwV 2 hts (wg_app (wg_c kw_1938 (wg_c kw_1608 (wg_c kw_1609 (wg_c kw_10 wg_n)))) kw_1610) rfl rfl rfl (by decide +kernel) ⟨by decide, by decide⟩) (pn_W "LatticeKeysModel$Sponge" (en_ok g) (ci := 9) (kn := 172) (fl := [(3, 173), (3, 174), (3, 175), (3, 176), (3, 177), (0, 0), (0, 0), (0, 0)]) hK hO kr21 rfl hP hD hS hA hE [] rfl rfl rfl) rfl rfl hl.1 rfl (lv_room (Nat.le_of_ble_eq_true rfl)) dM_hash_71 ⟨by omega, by omega⟩) (fun  u48 H locs hu48 hP hD hS => ?_)
              obtain ⟨s70, pl⟩ := u48
              obtain ⟨⟨eq48, hFc48, ⟨x105, hx_105, hb_105⟩, ⟨x106, hx_106, hb_106⟩, -⟩, hO⟩ := hu48
              have hO : okn g T s70 pl := hO
              have hP : va_P g.1 vcl ([] ++ pl) _ := hP
              have hD : va_D _ ([] ++ pl) := hD
              have hFc48 : frm (M_MS_begin) s21 s70 := hFc48
              have hb_105 : x105 = 0 := hb_105
              have hb_106 : x106 = 72 := hb_106
              replace hR := bnd_step hR eq48
              have hF := frm_tr hF hFc48 (fun k hk => by unfold M_MS_begin at hk; unfold M_M_hash; omega)
              have hf289 : s70.1 148 1 = nI tp := fc_F hf21 hFc48 (by unfold M_MS_begin; omega)
              have hf290 : s70.1 148 2 = nI rs := fc_F hf22 hFc48 (by unfold M_MS_begin; omega)
              have hf291 : s70.1 148 3 = nI ks := fc_F hf23 hFc48 (by unfold M_MS_begin; omega)
              have hf292 : s70.1 148 0 = nI 0 := fc_F hf24 hFc48 (by unfold M_MS_begin; omega)
              refine W.widen (k := 0) (n := 0) (by omega) (by omega) ?_
              refine lv_aload_n hx hb dM_hash_74 rfl (lv_at hl 0 rfl) ?_
              refine nw_get (C := "LatticeKeysModel") (TT := T_M) (N := 14) hx hb hts (wg_ft i_M) hown hK hO k_h0 (kn := 148) (ci := 8) (fl := [(0, 0), (0, 0), (0, 0), (0, 0), (3, 149), (3, 150), (3, 151), (3, 152), (3, 161), (3, 170), (3, 171), (3, 172), (3, 184), (3, 225)]) rfl hP rfl 11 (by decide) (hts _ (wg_t kw_1537)) (fun _ h9 => h9) (cd := (3, 172)) rfl dM_hash_75 (fun v86 hv87 => ?_)
              obtain ⟨r61, rfl, kr58⟩ := (show ∃ r : Nat, v86 = .ref r ∧ T r = some 172 from hv87)
              refine lv_aload_n hx hb dM_hash_78 rfl (lv_at hl 0 rfl) ?_
              refine nw_get (C := "LatticeKeysModel") (TT := T_M) (N := 14) hx hb hts (wg_ft i_M) hown hK hO k_h0 (kn := 148) (ci := 8) (fl := [(0, 0), (0, 0), (0, 0), (0, 0), (3, 149), (3, 150), (3, 151), (3, 152), (3, 161), (3, 170), (3, 171), (3, 172), (3, 184), (3, 225)]) rfl hP rfl 4 (by decide) (hts _ (wg_t kw_1530)) (fun _ h9 => h9) (cd := (3, 149)) rfl dM_hash_79 (fun v87 hv88 => ?_)
              obtain ⟨r62, rfl, kr59⟩ := (show ∃ r : Nat, v87 = .ref r ∧ T r = some 149 from hv88)
              refine lv_iconst (v := nI 0) hx hb dM_hash_82 (by decide) ?_
              refine lv_aload_n hx hb dM_hash_83 rfl (lv_at hl 0 rfl) ?_
              refine nw_get (C := "LatticeKeysModel") (TT := T_M) (N := 14) hx hb hts (wg_ft i_M) hown hK hO k_h0 (kn := 148) (ci := 8) (fl := [(0, 0), (0, 0), (0, 0), (0, 0), (3, 149), (3, 150), (3, 151), (3, 152), (3, 161), (3, 170), (3, 171), (3, 172), (3, 184), (3, 225)]) rfl hP rfl 1 (by decide) (hts _ (wg_t kw_1527)) (fun _ h9 => h9) (cd := (0, 0)) rfl dM_hash_84 (fun v88 hv89 => ?_)
              obtain rfl := (show v88 = .int (s70.1 148 1) from hv89)
              obtain ⟨z50, ez50, hz78, hz79⟩ := cl_of (b := 2147483648) hf289 (by omega) (by decide)
              replace hR := bnd_step hR ez50
              refine mi_as hz78 ?_
              refine mp_v (cx := []) (wr := []) hP hD hS hA [] [] rfl rfl rfl (by decide) (va_runV (As := [.ref r62, .int (nI 0), .int (nI z50)]) (rest := []) F (N_MS_puts l g _ T s70 pl hO hU r61 r62 149 16384 0 z50 x105 x106 kr58 kr59 rfl hx_105 hx_106 (by omega) (by omega) (by omega) (by omega)) (cwV 3 hts (wg_app (wg_c kw_1939 (wg_c kw_1612 (wg_c kw_1613 (wg_c kw_10 wg_n)))) kw_1614) rfl rfl rfl (by decide +kernel) ⟨by decide, by decide⟩) (pn_W "LatticeKeysModel$Sponge" (en_ok g) (ci := 9) (kn := 172) (fl := [(3, 173), (3, 174), (3, 175), (3, 176), (3, 177), (0, 0), (0, 0), (0, 0)]) hK hO kr58 rfl hP hD hS hA hE [] rfl rfl rfl) rfl rfl hl.1 rfl (lv_room (Nat.le_of_ble_eq_true rfl)) dM_hash_87 ⟨by omega, by omega⟩) (fun  u49 H locs hu49 hP hD hS => ?_)
              obtain ⟨s71, pl⟩ := u49
              obtain ⟨⟨eq49, hFc49, ⟨x108, hx_108, hb_108⟩, ⟨x109, hx_109, hb_109⟩, -⟩, hO⟩ := hu49
              have hO : okn g T s71 pl := hO
              have hP : va_P g.1 vcl ([] ++ pl) _ := hP
              have hD : va_D _ ([] ++ pl) := hD
              have hFc49 : frm (M_MS_puts) s70 s71 := hFc49
              have hb_108 : x108 < x106 := hb_108
              have hb_109 : x109 = x106 := hb_109
              replace hR := bnd_step hR eq49
              have hF := frm_tr hF hFc49 (fun k hk => by unfold M_MS_puts at hk; unfold M_M_hash; omega)
              have hf293 : s71.1 148 1 = nI tp := fc_F hf289 hFc49 (by unfold M_MS_puts; omega)
              have hf294 : s71.1 148 2 = nI rs := fc_F hf290 hFc49 (by unfold M_MS_puts; omega)
              have hf295 : s71.1 148 3 = nI ks := fc_F hf291 hFc49 (by unfold M_MS_puts; omega)
              have hf296 : s71.1 148 0 = nI 0 := fc_F hf292 hFc49 (by unfold M_MS_puts; omega)
              refine W.widen (k := 0) (n := 0) (by omega) (by omega) ?_
              refine lv_aload_n hx hb dM_hash_90 rfl (lv_at hl 0 rfl) ?_
              refine nw_get (C := "LatticeKeysModel") (TT := T_M) (N := 14) hx hb hts (wg_ft i_M) hown hK hO k_h0 (kn := 148) (ci := 8) (fl := [(0, 0), (0, 0), (0, 0), (0, 0), (3, 149), (3, 150), (3, 151), (3, 152), (3, 161), (3, 170), (3, 171), (3, 172), (3, 184), (3, 225)]) rfl hP rfl 11 (by decide) (hts _ (wg_t kw_1537)) (fun _ h9 => h9) (cd := (3, 172)) rfl dM_hash_91 (fun v89 hv90 => ?_)
              obtain ⟨r63, rfl, kr60⟩ := (show ∃ r : Nat, v89 = .ref r ∧ T r = some 172 from hv90)
              refine mp_v (cx := []) (wr := []) hP hD hS hA [] [] rfl rfl rfl (by decide) (va_runV (As := []) (rest := []) F (N_MS_end l g _ T s71 pl hO hU r63 x108 x109 kr60 hx_108 hx_109 (by omega) (by omega)) (cwV 0 hts (wg_app (wg_c kw_1940 (wg_c kw_1634 (wg_c kw_1635 (wg_c kw_10 wg_n)))) kw_1636) rfl rfl rfl (by decide +kernel) ⟨by decide, by decide⟩) (pn_W "LatticeKeysModel$Sponge" (en_ok g) (ci := 9) (kn := 172) (fl := [(3, 173), (3, 174), (3, 175), (3, 176), (3, 177), (0, 0), (0, 0), (0, 0)]) hK hO kr60 rfl hP hD hS hA hE [] rfl rfl rfl) rfl rfl hl.1 rfl (lv_room (Nat.le_of_ble_eq_true rfl)) dM_hash_94 ⟨by omega, by omega⟩) (fun  u50 H locs hu50 hP hD hS => ?_)
              obtain ⟨s72, pl⟩ := u50
              obtain ⟨⟨eq50, hFc50, ⟨x111, hx_111, hb_111⟩, ⟨x112, hx_112, hb_112⟩, -⟩, hO⟩ := hu50
              have hO : okn g T s72 pl := hO
              have hP : va_P g.1 vcl ([] ++ pl) _ := hP
              have hD : va_D _ ([] ++ pl) := hD
              have hFc50 : frm (M_MS_end) s71 s72 := hFc50
              have hb_111 : x111 = 0 := hb_111
              have hb_112 : x112 = x109 := hb_112
              replace hR := bnd_step hR eq50
              have hF := frm_tr hF hFc50 (fun k hk => by unfold M_MS_end at hk; unfold M_M_hash; omega)
              have hf297 : s72.1 148 1 = nI tp := fc_F hf293 hFc50 (by unfold M_MS_end; omega)
              have hf298 : s72.1 148 2 = nI rs := fc_F hf294 hFc50 (by unfold M_MS_end; omega)
              have hf299 : s72.1 148 3 = nI ks := fc_F hf295 hFc50 (by unfold M_MS_end; omega)
              have hf300 : s72.1 148 0 = nI 0 := fc_F hf296 hFc50 (by unfold M_MS_end; omega)
              refine W.widen (k := 0) (n := 0) (by omega) (by omega) ?_
              refine lv_aload_n hx hb dM_hash_97 rfl (lv_at hl 0 rfl) ?_
              refine lv_iload_n hx hb dM_hash_98 rfl (lv_at hl 1 rfl) ?_
              refine lv_if_ne (tgt := 107) hx hb dM_hash_99 (by decide) (fun h38 => ?_) (fun h38 => ?_)
              · replace hR := hR.trans (if_neg h38)
                refine lv_iload_n hx hb dM_hash_107 rfl (lv_at hl 1 rfl) ?_
                refine lv_iconst (v := nI 1) hx hb dM_hash_108 (by decide) ?_
                refine lv_icmp_ne (tgt := 117) hx hb dM_hash_109 (by decide) (fun h39 => ?_) (fun h39 => ?_)
                · replace hR := hR.trans (if_neg h39)
                  refine lv_iload_n hx hb dM_hash_117 rfl (lv_at hl 2 rfl) ?_
                  refine nw_put (C := "LatticeKeysModel") (TT := T_M) (N := 14) hx hb hts (wg_ft i_M) ty_M k_M n_M hown hK hO hU k_h0 (kn := 148) (ci := 8) (fl := [(0, 0), (0, 0), (0, 0), (0, 0), (3, 149), (3, 150), (3, 151), (3, 152), (3, 161), (3, 170), (3, 171), (3, 172), (3, 184), (3, 225)]) rfl hP hD hS rfl 2 (by decide) (hts _ (wg_t kw_1528)) (fun _ h9 => h9) rfl (by decide +kernel) rfl dM_hash_118 (fun s73 pl H locs es46 hO hP hD hS => ?_)
                  replace hR := bnd_step hR es46
                  have hF := frm_sI hF es46 (by unfold M_M_hash; omega)
                  have hf301 : s73.1 148 1 = nI tp := fc_ne hf297 es46 (by omega)
                  have hf303 : s73.1 148 3 = nI ks := fc_ne hf299 es46 (by omega)
                  have hf304 : s73.1 148 0 = nI 0 := fc_ne hf300 es46 (by omega)
                  have hf305 : s73.1 172 6 = nI x111 := fc_ne hx_111 es46 (by omega)
                  have hf306 : s73.1 172 5 = nI x112 := fc_ne hx_112 es46 (by omega)
                  have hf307 : s73.1 148 2 = nI z21 := fc_eq es46
                  refine lv_aload_n hx hb dM_hash_121 rfl (lv_at hl 0 rfl) ?_
                  refine nw_get (C := "LatticeKeysModel") (TT := T_M) (N := 14) hx hb hts (wg_ft i_M) hown hK hO k_h0 (kn := 148) (ci := 8) (fl := [(0, 0), (0, 0), (0, 0), (0, 0), (3, 149), (3, 150), (3, 151), (3, 152), (3, 161), (3, 170), (3, 171), (3, 172), (3, 184), (3, 225)]) rfl hP rfl 11 (by decide) (hts _ (wg_t kw_1537)) (fun _ h9 => h9) (cd := (3, 172)) rfl dM_hash_122 (fun v90 hv91 => ?_)
                  obtain ⟨r64, rfl, kr61⟩ := (show ∃ r : Nat, v90 = .ref r ∧ T r = some 172 from hv91)
                  refine lv_aload_n hx hb dM_hash_125 rfl (lv_at hl 0 rfl) ?_
                  refine nw_get (C := "LatticeKeysModel") (TT := T_M) (N := 14) hx hb hts (wg_ft i_M) hown hK hO k_h0 (kn := 148) (ci := 8) (fl := [(0, 0), (0, 0), (0, 0), (0, 0), (3, 149), (3, 150), (3, 151), (3, 152), (3, 161), (3, 170), (3, 171), (3, 172), (3, 184), (3, 225)]) rfl hP rfl 5 (by decide) (hts _ (wg_t kw_1531)) (fun _ h9 => h9) (cd := (3, 150)) rfl dM_hash_126 (fun v91 hv92 => ?_)
                  obtain ⟨r65, rfl, kr62⟩ := (show ∃ r : Nat, v91 = .ref r ∧ T r = some 150 from hv92)
                  refine lv_iconst (v := nI 0) hx hb dM_hash_129 (by decide) ?_
                  refine lv_aload_n hx hb dM_hash_130 rfl (lv_at hl 0 rfl) ?_
                  refine nw_get (C := "LatticeKeysModel") (TT := T_M) (N := 14) hx hb hts (wg_ft i_M) hown hK hO k_h0 (kn := 148) (ci := 8) (fl := [(0, 0), (0, 0), (0, 0), (0, 0), (3, 149), (3, 150), (3, 151), (3, 152), (3, 161), (3, 170), (3, 171), (3, 172), (3, 184), (3, 225)]) rfl hP rfl 2 (by decide) (hts _ (wg_t kw_1528)) (fun _ h9 => h9) (cd := (0, 0)) rfl dM_hash_131 (fun v92 hv93 => ?_)
                  obtain rfl := (show v92 = .int (s73.1 148 2) from hv93)
                  obtain ⟨z51, ez51, hz80, hz81⟩ := cl_of (b := 2147483648) hf307 (by omega) (by decide)
                  replace hR := bnd_step hR ez51
                  refine mi_as hz80 ?_
                  refine mp_v (cx := []) (wr := []) hP hD hS hA [] [] rfl rfl rfl (by decide) (va_runV (As := [.ref r65, .int (nI 0), .int (nI z51)]) (rest := []) F (N_MS_take l g _ T s73 pl hO hU r64 r65 150 8192 0 z51 x111 x112 kr61 kr62 rfl hf305 hf306 (by omega) (by omega) (by omega) (by omega)) (cwV 3 hts (wg_app (wg_c kw_1941 (wg_c kw_1638 (wg_c kw_1639 (wg_c kw_10 wg_n)))) kw_1640) rfl rfl rfl (by decide +kernel) ⟨by decide, by decide⟩) (pn_W "LatticeKeysModel$Sponge" (en_ok g) (ci := 9) (kn := 172) (fl := [(3, 173), (3, 174), (3, 175), (3, 176), (3, 177), (0, 0), (0, 0), (0, 0)]) hK hO kr61 rfl hP hD hS hA hE [] rfl rfl rfl) rfl rfl hl.1 rfl (lv_room (Nat.le_of_ble_eq_true rfl)) dM_hash_134 ⟨by omega, by omega⟩) (fun  u51 H locs hu51 hP hD hS => ?_)
                  obtain ⟨s74, pl⟩ := u51
                  obtain ⟨⟨eq51, hFc51, ⟨x114, hx_114, hb_114⟩, ⟨x115, hx_115, hb_115⟩, -⟩, hO⟩ := hu51
                  have hO : okn g T s74 pl := hO
                  have hP : va_P g.1 vcl ([] ++ pl) _ := hP
                  have hD : va_D _ ([] ++ pl) := hD
                  have hFc51 : frm (M_MS_take 150) s73 s74 := hFc51
                  have hb_114 : x114 ≤ x112 := hb_114
                  have hb_115 : x115 = x112 := hb_115
                  replace hR := bnd_step hR eq51
                  have hF := frm_tr hF hFc51 (fun k hk => by unfold M_MS_take at hk; unfold M_M_hash; omega)
                  have hf308 : s74.1 148 1 = nI tp := fc_F hf301 hFc51 (by unfold M_MS_take; omega)
                  have hf309 : s74.1 148 3 = nI ks := fc_F hf303 hFc51 (by unfold M_MS_take; omega)
                  have hf310 : s74.1 148 0 = nI 0 := fc_F hf304 hFc51 (by unfold M_MS_take; omega)
                  have hf311 : s74.1 148 2 = nI z21 := fc_F hf307 hFc51 (by unfold M_MS_take; omega)
                  refine W.widen (k := 0) (n := 0) (by omega) (by omega) ?_
                  refine lv_aload_n hx hb dM_hash_137 rfl (lv_at hl 0 rfl) ?_
                  refine lv_iconst (v := nI 0) hx hb dM_hash_138 (by decide) ?_
                  refine nw_put (C := "LatticeKeysModel") (TT := T_M) (N := 14) hx hb hts (wg_ft i_M) ty_M k_M n_M hown hK hO hU k_h0 (kn := 148) (ci := 8) (fl := [(0, 0), (0, 0), (0, 0), (0, 0), (3, 149), (3, 150), (3, 151), (3, 152), (3, 161), (3, 170), (3, 171), (3, 172), (3, 184), (3, 225)]) rfl hP hD hS rfl 1 (by decide) (hts _ (wg_t kw_1527)) (fun _ h9 => h9) rfl (by decide +kernel) rfl dM_hash_139 (fun s75 pl H locs es47 hO hP hD hS => ?_)
                  replace hR := bnd_step hR es47
                  have hF := frm_sI hF es47 (by unfold M_M_hash; omega)
                  have hf313 : s75.1 148 3 = nI ks := fc_ne hf309 es47 (by omega)
                  have hf314 : s75.1 148 0 = nI 0 := fc_ne hf310 es47 (by omega)
                  have hf315 : s75.1 148 2 = nI z21 := fc_ne hf311 es47 (by omega)
                  have hf316 : s75.1 172 6 = nI x114 := fc_ne hx_114 es47 (by omega)
                  have hf317 : s75.1 172 5 = nI x115 := fc_ne hx_115 es47 (by omega)
                  have hf318 : s75.1 148 1 = nI 0 := fc_eq es47
                  refine lv_aload_n hx hb dM_hash_142 rfl (lv_at hl 0 rfl) ?_
                  refine nw_get (C := "LatticeKeysModel") (TT := T_M) (N := 14) hx hb hts (wg_ft i_M) hown hK hO k_h0 (kn := 148) (ci := 8) (fl := [(0, 0), (0, 0), (0, 0), (0, 0), (3, 149), (3, 150), (3, 151), (3, 152), (3, 161), (3, 170), (3, 171), (3, 172), (3, 184), (3, 225)]) rfl hP rfl 2 (by decide) (hts _ (wg_t kw_1528)) (fun _ h9 => h9) (cd := (0, 0)) rfl dM_hash_143 (fun v93 hv94 => ?_)
                  obtain rfl := (show v93 = .int (s75.1 148 2) from hv94)
                  obtain ⟨z52, ez52, hz82, hz83⟩ := cl_of (b := 2147483648) hf315 (by omega) (by decide)
                  replace hR := bnd_step hR ez52
                  refine mi_as hz82 ?_
                  exact mp_iret hx hb hr hlk hP hD hS ((nI z52, s75), pl) ⟨⟨hR.symm, rfl, hF, ⟨0, hf318, by omega⟩, ⟨z21, hf315, by omega⟩, ⟨ks, hf313, by omega⟩, trivial⟩, hO⟩ [] rfl rfl rfl (by omega) (by omega) dM_hash_146
                · replace hR := hR.trans (if_pos h39)
                  refine lv_bipush (v := nI 64) hx hb dM_hash_112 (by decide) ?_
                  refine lv_goto (tgt := 118) hx hb dM_hash_114 (by decide) ?_
                  refine nw_put (C := "LatticeKeysModel") (TT := T_M) (N := 14) hx hb hts (wg_ft i_M) ty_M k_M n_M hown hK hO hU k_h0 (kn := 148) (ci := 8) (fl := [(0, 0), (0, 0), (0, 0), (0, 0), (3, 149), (3, 150), (3, 151), (3, 152), (3, 161), (3, 170), (3, 171), (3, 172), (3, 184), (3, 225)]) rfl hP hD hS rfl 2 (by decide) (hts _ (wg_t kw_1528)) (fun _ h9 => h9) rfl (by decide +kernel) rfl dM_hash_118 (fun s76 pl H locs es48 hO hP hD hS => ?_)
                  replace hR := bnd_step hR es48
                  have hF := frm_sI hF es48 (by unfold M_M_hash; omega)
                  have hf319 : s76.1 148 1 = nI tp := fc_ne hf297 es48 (by omega)
                  have hf321 : s76.1 148 3 = nI ks := fc_ne hf299 es48 (by omega)
                  have hf322 : s76.1 148 0 = nI 0 := fc_ne hf300 es48 (by omega)
                  have hf323 : s76.1 172 6 = nI x111 := fc_ne hx_111 es48 (by omega)
                  have hf324 : s76.1 172 5 = nI x112 := fc_ne hx_112 es48 (by omega)
                  have hf325 : s76.1 148 2 = nI 64 := fc_eq es48
                  refine lv_aload_n hx hb dM_hash_121 rfl (lv_at hl 0 rfl) ?_
                  refine nw_get (C := "LatticeKeysModel") (TT := T_M) (N := 14) hx hb hts (wg_ft i_M) hown hK hO k_h0 (kn := 148) (ci := 8) (fl := [(0, 0), (0, 0), (0, 0), (0, 0), (3, 149), (3, 150), (3, 151), (3, 152), (3, 161), (3, 170), (3, 171), (3, 172), (3, 184), (3, 225)]) rfl hP rfl 11 (by decide) (hts _ (wg_t kw_1537)) (fun _ h9 => h9) (cd := (3, 172)) rfl dM_hash_122 (fun v94 hv95 => ?_)
                  obtain ⟨r66, rfl, kr63⟩ := (show ∃ r : Nat, v94 = .ref r ∧ T r = some 172 from hv95)
                  refine lv_aload_n hx hb dM_hash_125 rfl (lv_at hl 0 rfl) ?_
                  refine nw_get (C := "LatticeKeysModel") (TT := T_M) (N := 14) hx hb hts (wg_ft i_M) hown hK hO k_h0 (kn := 148) (ci := 8) (fl := [(0, 0), (0, 0), (0, 0), (0, 0), (3, 149), (3, 150), (3, 151), (3, 152), (3, 161), (3, 170), (3, 171), (3, 172), (3, 184), (3, 225)]) rfl hP rfl 5 (by decide) (hts _ (wg_t kw_1531)) (fun _ h9 => h9) (cd := (3, 150)) rfl dM_hash_126 (fun v95 hv96 => ?_)
                  obtain ⟨r67, rfl, kr64⟩ := (show ∃ r : Nat, v95 = .ref r ∧ T r = some 150 from hv96)
                  refine lv_iconst (v := nI 0) hx hb dM_hash_129 (by decide) ?_
                  refine lv_aload_n hx hb dM_hash_130 rfl (lv_at hl 0 rfl) ?_
                  refine nw_get (C := "LatticeKeysModel") (TT := T_M) (N := 14) hx hb hts (wg_ft i_M) hown hK hO k_h0 (kn := 148) (ci := 8) (fl := [(0, 0), (0, 0), (0, 0), (0, 0), (3, 149), (3, 150), (3, 151), (3, 152), (3, 161), (3, 170), (3, 171), (3, 172), (3, 184), (3, 225)]) rfl hP rfl 2 (by decide) (hts _ (wg_t kw_1528)) (fun _ h9 => h9) (cd := (0, 0)) rfl dM_hash_131 (fun v96 hv97 => ?_)
                  obtain rfl := (show v96 = .int (s76.1 148 2) from hv97)
                  obtain ⟨z53, ez53, hz84, hz85⟩ := cl_of (b := 2147483648) hf325 (by omega) (by decide)
                  replace hR := bnd_step hR ez53
                  refine mi_as hz84 ?_
                  refine mp_v (cx := []) (wr := []) hP hD hS hA [] [] rfl rfl rfl (by decide) (va_runV (As := [.ref r67, .int (nI 0), .int (nI z53)]) (rest := []) F (N_MS_take l g _ T s76 pl hO hU r66 r67 150 8192 0 z53 x111 x112 kr63 kr64 rfl hf323 hf324 (by omega) (by omega) (by omega) (by omega)) (cwV 3 hts (wg_app (wg_c kw_1941 (wg_c kw_1638 (wg_c kw_1639 (wg_c kw_10 wg_n)))) kw_1640) rfl rfl rfl (by decide +kernel) ⟨by decide, by decide⟩) (pn_W "LatticeKeysModel$Sponge" (en_ok g) (ci := 9) (kn := 172) (fl := [(3, 173), (3, 174), (3, 175), (3, 176), (3, 177), (0, 0), (0, 0), (0, 0)]) hK hO kr63 rfl hP hD hS hA hE [] rfl rfl rfl) rfl rfl hl.1 rfl (lv_room (Nat.le_of_ble_eq_true rfl)) dM_hash_134 ⟨by omega, by omega⟩) (fun  u52 H locs hu52 hP hD hS => ?_)
                  obtain ⟨s77, pl⟩ := u52
                  obtain ⟨⟨eq52, hFc52, ⟨x117, hx_117, hb_117⟩, ⟨x118, hx_118, hb_118⟩, -⟩, hO⟩ := hu52
                  have hO : okn g T s77 pl := hO
                  have hP : va_P g.1 vcl ([] ++ pl) _ := hP
                  have hD : va_D _ ([] ++ pl) := hD
                  have hFc52 : frm (M_MS_take 150) s76 s77 := hFc52
                  have hb_117 : x117 ≤ x112 := hb_117
                  have hb_118 : x118 = x112 := hb_118
                  replace hR := bnd_step hR eq52
                  have hF := frm_tr hF hFc52 (fun k hk => by unfold M_MS_take at hk; unfold M_M_hash; omega)
                  have hf326 : s77.1 148 1 = nI tp := fc_F hf319 hFc52 (by unfold M_MS_take; omega)
                  have hf327 : s77.1 148 3 = nI ks := fc_F hf321 hFc52 (by unfold M_MS_take; omega)
                  have hf328 : s77.1 148 0 = nI 0 := fc_F hf322 hFc52 (by unfold M_MS_take; omega)
                  have hf329 : s77.1 148 2 = nI 64 := fc_F hf325 hFc52 (by unfold M_MS_take; omega)
                  refine W.widen (k := 0) (n := 0) (by omega) (by omega) ?_
                  refine lv_aload_n hx hb dM_hash_137 rfl (lv_at hl 0 rfl) ?_
                  refine lv_iconst (v := nI 0) hx hb dM_hash_138 (by decide) ?_
                  refine nw_put (C := "LatticeKeysModel") (TT := T_M) (N := 14) hx hb hts (wg_ft i_M) ty_M k_M n_M hown hK hO hU k_h0 (kn := 148) (ci := 8) (fl := [(0, 0), (0, 0), (0, 0), (0, 0), (3, 149), (3, 150), (3, 151), (3, 152), (3, 161), (3, 170), (3, 171), (3, 172), (3, 184), (3, 225)]) rfl hP hD hS rfl 1 (by decide) (hts _ (wg_t kw_1527)) (fun _ h9 => h9) rfl (by decide +kernel) rfl dM_hash_139 (fun s78 pl H locs es49 hO hP hD hS => ?_)
                  replace hR := bnd_step hR es49
                  have hF := frm_sI hF es49 (by unfold M_M_hash; omega)
                  have hf331 : s78.1 148 3 = nI ks := fc_ne hf327 es49 (by omega)
                  have hf332 : s78.1 148 0 = nI 0 := fc_ne hf328 es49 (by omega)
                  have hf333 : s78.1 148 2 = nI 64 := fc_ne hf329 es49 (by omega)
                  have hf334 : s78.1 172 6 = nI x117 := fc_ne hx_117 es49 (by omega)
                  have hf335 : s78.1 172 5 = nI x118 := fc_ne hx_118 es49 (by omega)
                  have hf336 : s78.1 148 1 = nI 0 := fc_eq es49
                  refine lv_aload_n hx hb dM_hash_142 rfl (lv_at hl 0 rfl) ?_
                  refine nw_get (C := "LatticeKeysModel") (TT := T_M) (N := 14) hx hb hts (wg_ft i_M) hown hK hO k_h0 (kn := 148) (ci := 8) (fl := [(0, 0), (0, 0), (0, 0), (0, 0), (3, 149), (3, 150), (3, 151), (3, 152), (3, 161), (3, 170), (3, 171), (3, 172), (3, 184), (3, 225)]) rfl hP rfl 2 (by decide) (hts _ (wg_t kw_1528)) (fun _ h9 => h9) (cd := (0, 0)) rfl dM_hash_143 (fun v97 hv98 => ?_)
                  obtain rfl := (show v97 = .int (s78.1 148 2) from hv98)
                  obtain ⟨z54, ez54, hz86, hz87⟩ := cl_of (b := 2147483648) hf333 (by omega) (by decide)
                  replace hR := bnd_step hR ez54
                  refine mi_as hz86 ?_
                  exact mp_iret hx hb hr hlk hP hD hS ((nI z54, s78), pl) ⟨⟨hR.symm, rfl, hF, ⟨0, hf336, by omega⟩, ⟨64, hf333, by omega⟩, ⟨ks, hf331, by omega⟩, trivial⟩, hO⟩ [] rfl rfl rfl (by omega) (by omega) dM_hash_146
              · replace hR := hR.trans (if_pos h38)
                refine lv_bipush (v := nI 32) hx hb dM_hash_102 (by decide) ?_
                refine lv_goto (tgt := 118) hx hb dM_hash_104 (by decide) ?_
                refine nw_put (C := "LatticeKeysModel") (TT := T_M) (N := 14) hx hb hts (wg_ft i_M) ty_M k_M n_M hown hK hO hU k_h0 (kn := 148) (ci := 8) (fl := [(0, 0), (0, 0), (0, 0), (0, 0), (3, 149), (3, 150), (3, 151), (3, 152), (3, 161), (3, 170), (3, 171), (3, 172), (3, 184), (3, 225)]) rfl hP hD hS rfl 2 (by decide) (hts _ (wg_t kw_1528)) (fun _ h9 => h9) rfl (by decide +kernel) rfl dM_hash_118 (fun s79 pl H locs es50 hO hP hD hS => ?_)
                replace hR := bnd_step hR es50
                have hF := frm_sI hF es50 (by unfold M_M_hash; omega)
                have hf337 : s79.1 148 1 = nI tp := fc_ne hf297 es50 (by omega)
                have hf339 : s79.1 148 3 = nI ks := fc_ne hf299 es50 (by omega)
                have hf340 : s79.1 148 0 = nI 0 := fc_ne hf300 es50 (by omega)
                have hf341 : s79.1 172 6 = nI x111 := fc_ne hx_111 es50 (by omega)
                have hf342 : s79.1 172 5 = nI x112 := fc_ne hx_112 es50 (by omega)
                have hf343 : s79.1 148 2 = nI 32 := fc_eq es50
                refine lv_aload_n hx hb dM_hash_121 rfl (lv_at hl 0 rfl) ?_
                refine nw_get (C := "LatticeKeysModel") (TT := T_M) (N := 14) hx hb hts (wg_ft i_M) hown hK hO k_h0 (kn := 148) (ci := 8) (fl := [(0, 0), (0, 0), (0, 0), (0, 0), (3, 149), (3, 150), (3, 151), (3, 152), (3, 161), (3, 170), (3, 171), (3, 172), (3, 184), (3, 225)]) rfl hP rfl 11 (by decide) (hts _ (wg_t kw_1537)) (fun _ h9 => h9) (cd := (3, 172)) rfl dM_hash_122 (fun v98 hv99 => ?_)
                obtain ⟨r68, rfl, kr65⟩ := (show ∃ r : Nat, v98 = .ref r ∧ T r = some 172 from hv99)
                refine lv_aload_n hx hb dM_hash_125 rfl (lv_at hl 0 rfl) ?_
                refine nw_get (C := "LatticeKeysModel") (TT := T_M) (N := 14) hx hb hts (wg_ft i_M) hown hK hO k_h0 (kn := 148) (ci := 8) (fl := [(0, 0), (0, 0), (0, 0), (0, 0), (3, 149), (3, 150), (3, 151), (3, 152), (3, 161), (3, 170), (3, 171), (3, 172), (3, 184), (3, 225)]) rfl hP rfl 5 (by decide) (hts _ (wg_t kw_1531)) (fun _ h9 => h9) (cd := (3, 150)) rfl dM_hash_126 (fun v99 hv100 => ?_)
                obtain ⟨r69, rfl, kr66⟩ := (show ∃ r : Nat, v99 = .ref r ∧ T r = some 150 from hv100)
                refine lv_iconst (v := nI 0) hx hb dM_hash_129 (by decide) ?_
                refine lv_aload_n hx hb dM_hash_130 rfl (lv_at hl 0 rfl) ?_
                refine nw_get (C := "LatticeKeysModel") (TT := T_M) (N := 14) hx hb hts (wg_ft i_M) hown hK hO k_h0 (kn := 148) (ci := 8) (fl := [(0, 0), (0, 0), (0, 0), (0, 0), (3, 149), (3, 150), (3, 151), (3, 152), (3, 161), (3, 170), (3, 171), (3, 172), (3, 184), (3, 225)]) rfl hP rfl 2 (by decide) (hts _ (wg_t kw_1528)) (fun _ h9 => h9) (cd := (0, 0)) rfl dM_hash_131 (fun v100 hv101 => ?_)
                obtain rfl := (show v100 = .int (s79.1 148 2) from hv101)
                obtain ⟨z55, ez55, hz88, hz89⟩ := cl_of (b := 2147483648) hf343 (by omega) (by decide)
                replace hR := bnd_step hR ez55
                refine mi_as hz88 ?_
                refine mp_v (cx := []) (wr := []) hP hD hS hA [] [] rfl rfl rfl (by decide) (va_runV (As := [.ref r69, .int (nI 0), .int (nI z55)]) (rest := []) F (N_MS_take l g _ T s79 pl hO hU r68 r69 150 8192 0 z55 x111 x112 kr65 kr66 rfl hf341 hf342 (by omega) (by omega) (by omega) (by omega)) (cwV 3 hts (wg_app (wg_c kw_1941 (wg_c kw_1638 (wg_c kw_1639 (wg_c kw_10 wg_n)))) kw_1640) rfl rfl rfl (by decide +kernel) ⟨by decide, by decide⟩) (pn_W "LatticeKeysModel$Sponge" (en_ok g) (ci := 9) (kn := 172) (fl := [(3, 173), (3, 174), (3, 175), (3, 176), (3, 177), (0, 0), (0, 0), (0, 0)]) hK hO kr65 rfl hP hD hS hA hE [] rfl rfl rfl) rfl rfl hl.1 rfl (lv_room (Nat.le_of_ble_eq_true rfl)) dM_hash_134 ⟨by omega, by omega⟩) (fun  u53 H locs hu53 hP hD hS => ?_)
                obtain ⟨s80, pl⟩ := u53
                obtain ⟨⟨eq53, hFc53, ⟨x120, hx_120, hb_120⟩, ⟨x121, hx_121, hb_121⟩, -⟩, hO⟩ := hu53
                have hO : okn g T s80 pl := hO
                have hP : va_P g.1 vcl ([] ++ pl) _ := hP
                have hD : va_D _ ([] ++ pl) := hD
                have hFc53 : frm (M_MS_take 150) s79 s80 := hFc53
                have hb_120 : x120 ≤ x112 := hb_120
                have hb_121 : x121 = x112 := hb_121
                replace hR := bnd_step hR eq53
                have hF := frm_tr hF hFc53 (fun k hk => by unfold M_MS_take at hk; unfold M_M_hash; omega)
                have hf344 : s80.1 148 1 = nI tp := fc_F hf337 hFc53 (by unfold M_MS_take; omega)
                have hf345 : s80.1 148 3 = nI ks := fc_F hf339 hFc53 (by unfold M_MS_take; omega)
                have hf346 : s80.1 148 0 = nI 0 := fc_F hf340 hFc53 (by unfold M_MS_take; omega)
                have hf347 : s80.1 148 2 = nI 32 := fc_F hf343 hFc53 (by unfold M_MS_take; omega)
                refine W.widen (k := 0) (n := 0) (by omega) (by omega) ?_
                refine lv_aload_n hx hb dM_hash_137 rfl (lv_at hl 0 rfl) ?_
                refine lv_iconst (v := nI 0) hx hb dM_hash_138 (by decide) ?_
                refine nw_put (C := "LatticeKeysModel") (TT := T_M) (N := 14) hx hb hts (wg_ft i_M) ty_M k_M n_M hown hK hO hU k_h0 (kn := 148) (ci := 8) (fl := [(0, 0), (0, 0), (0, 0), (0, 0), (3, 149), (3, 150), (3, 151), (3, 152), (3, 161), (3, 170), (3, 171), (3, 172), (3, 184), (3, 225)]) rfl hP hD hS rfl 1 (by decide) (hts _ (wg_t kw_1527)) (fun _ h9 => h9) rfl (by decide +kernel) rfl dM_hash_139 (fun s81 pl H locs es51 hO hP hD hS => ?_)
                replace hR := bnd_step hR es51
                have hF := frm_sI hF es51 (by unfold M_M_hash; omega)
                have hf349 : s81.1 148 3 = nI ks := fc_ne hf345 es51 (by omega)
                have hf350 : s81.1 148 0 = nI 0 := fc_ne hf346 es51 (by omega)
                have hf351 : s81.1 148 2 = nI 32 := fc_ne hf347 es51 (by omega)
                have hf352 : s81.1 172 6 = nI x120 := fc_ne hx_120 es51 (by omega)
                have hf353 : s81.1 172 5 = nI x121 := fc_ne hx_121 es51 (by omega)
                have hf354 : s81.1 148 1 = nI 0 := fc_eq es51
                refine lv_aload_n hx hb dM_hash_142 rfl (lv_at hl 0 rfl) ?_
                refine nw_get (C := "LatticeKeysModel") (TT := T_M) (N := 14) hx hb hts (wg_ft i_M) hown hK hO k_h0 (kn := 148) (ci := 8) (fl := [(0, 0), (0, 0), (0, 0), (0, 0), (3, 149), (3, 150), (3, 151), (3, 152), (3, 161), (3, 170), (3, 171), (3, 172), (3, 184), (3, 225)]) rfl hP rfl 2 (by decide) (hts _ (wg_t kw_1528)) (fun _ h9 => h9) (cd := (0, 0)) rfl dM_hash_143 (fun v101 hv102 => ?_)
                obtain rfl := (show v101 = .int (s81.1 148 2) from hv102)
                obtain ⟨z56, ez56, hz90, hz91⟩ := cl_of (b := 2147483648) hf351 (by omega) (by decide)
                replace hR := bnd_step hR ez56
                refine mi_as hz90 ?_
                exact mp_iret hx hb hr hlk hP hD hS ((nI z56, s81), pl) ⟨⟨hR.symm, rfl, hF, ⟨0, hf354, by omega⟩, ⟨32, hf351, by omega⟩, ⟨ks, hf349, by omega⟩, trivial⟩, hO⟩ [] rfl rfl rfl (by omega) (by omega) dM_hash_146
            · replace hR := hR.trans (if_neg h37)
              refine lv_bipush (v := nI 6) hx hb dM_hash_64 (by decide) ?_
              refine lv_goto (tgt := 71) hx hb dM_hash_66 (by decide) ?_
              refine mp_v (cx := []) (wr := []) hP hD hS hA [] [] rfl rfl rfl (by decide) (va_runV (As := [.int (nI 72), .int (nI 6)]) (rest := []) F (N_MS_begin l g _ T s21 pl hO hU r24 72 (nI 6) kr21 (by omega)) (cwV 2 hts (wg_app (wg_c kw_1938 (wg_c kw_1608 (wg_c kw_1609 (wg_c kw_10 wg_n)))) kw_1610) rfl rfl rfl (by decide +kernel) ⟨by decide, by decide⟩) (pn_W "LatticeKeysModel$Sponge" (en_ok g) (ci := 9) (kn := 172) (fl := [(3, 173), (3, 174), (3, 175), (3, 176), (3, 177), (0, 0), (0, 0), (0, 0)]) hK hO kr21 rfl hP hD hS hA hE [] rfl rfl rfl) rfl rfl hl.1 rfl (lv_room (Nat.le_of_ble_eq_true rfl)) dM_hash_71 ⟨by omega, by omega⟩) (fun  u54 H locs hu54 hP hD hS => ?_)
              obtain ⟨s82, pl⟩ := u54
              obtain ⟨⟨eq54, hFc54, ⟨x123, hx_123, hb_123⟩, ⟨x124, hx_124, hb_124⟩, -⟩, hO⟩ := hu54
              have hO : okn g T s82 pl := hO
              have hP : va_P g.1 vcl ([] ++ pl) _ := hP
              have hD : va_D _ ([] ++ pl) := hD
              have hFc54 : frm (M_MS_begin) s21 s82 := hFc54
              have hb_123 : x123 = 0 := hb_123
              have hb_124 : x124 = 72 := hb_124
              replace hR := bnd_step hR eq54
              have hF := frm_tr hF hFc54 (fun k hk => by unfold M_MS_begin at hk; unfold M_M_hash; omega)
              have hf355 : s82.1 148 1 = nI tp := fc_F hf21 hFc54 (by unfold M_MS_begin; omega)
              have hf356 : s82.1 148 2 = nI rs := fc_F hf22 hFc54 (by unfold M_MS_begin; omega)
              have hf357 : s82.1 148 3 = nI ks := fc_F hf23 hFc54 (by unfold M_MS_begin; omega)
              have hf358 : s82.1 148 0 = nI 0 := fc_F hf24 hFc54 (by unfold M_MS_begin; omega)
              refine W.widen (k := 0) (n := 0) (by omega) (by omega) ?_
              refine lv_aload_n hx hb dM_hash_74 rfl (lv_at hl 0 rfl) ?_
              refine nw_get (C := "LatticeKeysModel") (TT := T_M) (N := 14) hx hb hts (wg_ft i_M) hown hK hO k_h0 (kn := 148) (ci := 8) (fl := [(0, 0), (0, 0), (0, 0), (0, 0), (3, 149), (3, 150), (3, 151), (3, 152), (3, 161), (3, 170), (3, 171), (3, 172), (3, 184), (3, 225)]) rfl hP rfl 11 (by decide) (hts _ (wg_t kw_1537)) (fun _ h9 => h9) (cd := (3, 172)) rfl dM_hash_75 (fun v102 hv103 => ?_)
              obtain ⟨r70, rfl, kr67⟩ := (show ∃ r : Nat, v102 = .ref r ∧ T r = some 172 from hv103)
              refine lv_aload_n hx hb dM_hash_78 rfl (lv_at hl 0 rfl) ?_
              refine nw_get (C := "LatticeKeysModel") (TT := T_M) (N := 14) hx hb hts (wg_ft i_M) hown hK hO k_h0 (kn := 148) (ci := 8) (fl := [(0, 0), (0, 0), (0, 0), (0, 0), (3, 149), (3, 150), (3, 151), (3, 152), (3, 161), (3, 170), (3, 171), (3, 172), (3, 184), (3, 225)]) rfl hP rfl 4 (by decide) (hts _ (wg_t kw_1530)) (fun _ h9 => h9) (cd := (3, 149)) rfl dM_hash_79 (fun v103 hv104 => ?_)
              obtain ⟨r71, rfl, kr68⟩ := (show ∃ r : Nat, v103 = .ref r ∧ T r = some 149 from hv104)
              refine lv_iconst (v := nI 0) hx hb dM_hash_82 (by decide) ?_
              refine lv_aload_n hx hb dM_hash_83 rfl (lv_at hl 0 rfl) ?_
              refine nw_get (C := "LatticeKeysModel") (TT := T_M) (N := 14) hx hb hts (wg_ft i_M) hown hK hO k_h0 (kn := 148) (ci := 8) (fl := [(0, 0), (0, 0), (0, 0), (0, 0), (3, 149), (3, 150), (3, 151), (3, 152), (3, 161), (3, 170), (3, 171), (3, 172), (3, 184), (3, 225)]) rfl hP rfl 1 (by decide) (hts _ (wg_t kw_1527)) (fun _ h9 => h9) (cd := (0, 0)) rfl dM_hash_84 (fun v104 hv105 => ?_)
              obtain rfl := (show v104 = .int (s82.1 148 1) from hv105)
              obtain ⟨z57, ez57, hz92, hz93⟩ := cl_of (b := 2147483648) hf355 (by omega) (by decide)
              replace hR := bnd_step hR ez57
              refine mi_as hz92 ?_
              refine mp_v (cx := []) (wr := []) hP hD hS hA [] [] rfl rfl rfl (by decide) (va_runV (As := [.ref r71, .int (nI 0), .int (nI z57)]) (rest := []) F (N_MS_puts l g _ T s82 pl hO hU r70 r71 149 16384 0 z57 x123 x124 kr67 kr68 rfl hx_123 hx_124 (by omega) (by omega) (by omega) (by omega)) (cwV 3 hts (wg_app (wg_c kw_1939 (wg_c kw_1612 (wg_c kw_1613 (wg_c kw_10 wg_n)))) kw_1614) rfl rfl rfl (by decide +kernel) ⟨by decide, by decide⟩) (pn_W "LatticeKeysModel$Sponge" (en_ok g) (ci := 9) (kn := 172) (fl := [(3, 173), (3, 174), (3, 175), (3, 176), (3, 177), (0, 0), (0, 0), (0, 0)]) hK hO kr67 rfl hP hD hS hA hE [] rfl rfl rfl) rfl rfl hl.1 rfl (lv_room (Nat.le_of_ble_eq_true rfl)) dM_hash_87 ⟨by omega, by omega⟩) (fun  u55 H locs hu55 hP hD hS => ?_)
              obtain ⟨s83, pl⟩ := u55
              obtain ⟨⟨eq55, hFc55, ⟨x126, hx_126, hb_126⟩, ⟨x127, hx_127, hb_127⟩, -⟩, hO⟩ := hu55
              have hO : okn g T s83 pl := hO
              have hP : va_P g.1 vcl ([] ++ pl) _ := hP
              have hD : va_D _ ([] ++ pl) := hD
              have hFc55 : frm (M_MS_puts) s82 s83 := hFc55
              have hb_126 : x126 < x124 := hb_126
              have hb_127 : x127 = x124 := hb_127
              replace hR := bnd_step hR eq55
              have hF := frm_tr hF hFc55 (fun k hk => by unfold M_MS_puts at hk; unfold M_M_hash; omega)
              have hf359 : s83.1 148 1 = nI tp := fc_F hf355 hFc55 (by unfold M_MS_puts; omega)
              have hf360 : s83.1 148 2 = nI rs := fc_F hf356 hFc55 (by unfold M_MS_puts; omega)
              have hf361 : s83.1 148 3 = nI ks := fc_F hf357 hFc55 (by unfold M_MS_puts; omega)
              have hf362 : s83.1 148 0 = nI 0 := fc_F hf358 hFc55 (by unfold M_MS_puts; omega)
              refine W.widen (k := 0) (n := 0) (by omega) (by omega) ?_
              refine lv_aload_n hx hb dM_hash_90 rfl (lv_at hl 0 rfl) ?_
              refine nw_get (C := "LatticeKeysModel") (TT := T_M) (N := 14) hx hb hts (wg_ft i_M) hown hK hO k_h0 (kn := 148) (ci := 8) (fl := [(0, 0), (0, 0), (0, 0), (0, 0), (3, 149), (3, 150), (3, 151), (3, 152), (3, 161), (3, 170), (3, 171), (3, 172), (3, 184), (3, 225)]) rfl hP rfl 11 (by decide) (hts _ (wg_t kw_1537)) (fun _ h9 => h9) (cd := (3, 172)) rfl dM_hash_91 (fun v105 hv106 => ?_)
              obtain ⟨r72, rfl, kr69⟩ := (show ∃ r : Nat, v105 = .ref r ∧ T r = some 172 from hv106)
              refine mp_v (cx := []) (wr := []) hP hD hS hA [] [] rfl rfl rfl (by decide) (va_runV (As := []) (rest := []) F (N_MS_end l g _ T s83 pl hO hU r72 x126 x127 kr69 hx_126 hx_127 (by omega) (by omega)) (cwV 0 hts (wg_app (wg_c kw_1940 (wg_c kw_1634 (wg_c kw_1635 (wg_c kw_10 wg_n)))) kw_1636) rfl rfl rfl (by decide +kernel) ⟨by decide, by decide⟩) (pn_W "LatticeKeysModel$Sponge" (en_ok g) (ci := 9) (kn := 172) (fl := [(3, 173), (3, 174), (3, 175), (3, 176), (3, 177), (0, 0), (0, 0), (0, 0)]) hK hO kr69 rfl hP hD hS hA hE [] rfl rfl rfl) rfl rfl hl.1 rfl (lv_room (Nat.le_of_ble_eq_true rfl)) dM_hash_94 ⟨by omega, by omega⟩) (fun  u56 H locs hu56 hP hD hS => ?_)
              obtain ⟨s84, pl⟩ := u56
              obtain ⟨⟨eq56, hFc56, ⟨x129, hx_129, hb_129⟩, ⟨x130, hx_130, hb_130⟩, -⟩, hO⟩ := hu56
              have hO : okn g T s84 pl := hO
              have hP : va_P g.1 vcl ([] ++ pl) _ := hP
              have hD : va_D _ ([] ++ pl) := hD
              have hFc56 : frm (M_MS_end) s83 s84 := hFc56
              have hb_129 : x129 = 0 := hb_129
              have hb_130 : x130 = x127 := hb_130
              replace hR := bnd_step hR eq56
              have hF := frm_tr hF hFc56 (fun k hk => by unfold M_MS_end at hk; unfold M_M_hash; omega)
              have hf363 : s84.1 148 1 = nI tp := fc_F hf359 hFc56 (by unfold M_MS_end; omega)
              have hf364 : s84.1 148 2 = nI rs := fc_F hf360 hFc56 (by unfold M_MS_end; omega)
              have hf365 : s84.1 148 3 = nI ks := fc_F hf361 hFc56 (by unfold M_MS_end; omega)
              have hf366 : s84.1 148 0 = nI 0 := fc_F hf362 hFc56 (by unfold M_MS_end; omega)
              refine W.widen (k := 0) (n := 0) (by omega) (by omega) ?_
              refine lv_aload_n hx hb dM_hash_97 rfl (lv_at hl 0 rfl) ?_
              refine lv_iload_n hx hb dM_hash_98 rfl (lv_at hl 1 rfl) ?_
              refine lv_if_ne (tgt := 107) hx hb dM_hash_99 (by decide) (fun h40 => ?_) (fun h40 => ?_)
              · replace hR := hR.trans (if_neg h40)
                refine lv_iload_n hx hb dM_hash_107 rfl (lv_at hl 1 rfl) ?_
                refine lv_iconst (v := nI 1) hx hb dM_hash_108 (by decide) ?_
                refine lv_icmp_ne (tgt := 117) hx hb dM_hash_109 (by decide) (fun h41 => ?_) (fun h41 => ?_)
                · replace hR := hR.trans (if_neg h41)
                  refine lv_iload_n hx hb dM_hash_117 rfl (lv_at hl 2 rfl) ?_
                  refine nw_put (C := "LatticeKeysModel") (TT := T_M) (N := 14) hx hb hts (wg_ft i_M) ty_M k_M n_M hown hK hO hU k_h0 (kn := 148) (ci := 8) (fl := [(0, 0), (0, 0), (0, 0), (0, 0), (3, 149), (3, 150), (3, 151), (3, 152), (3, 161), (3, 170), (3, 171), (3, 172), (3, 184), (3, 225)]) rfl hP hD hS rfl 2 (by decide) (hts _ (wg_t kw_1528)) (fun _ h9 => h9) rfl (by decide +kernel) rfl dM_hash_118 (fun s85 pl H locs es52 hO hP hD hS => ?_)
                  replace hR := bnd_step hR es52
                  have hF := frm_sI hF es52 (by unfold M_M_hash; omega)
                  have hf367 : s85.1 148 1 = nI tp := fc_ne hf363 es52 (by omega)
                  have hf369 : s85.1 148 3 = nI ks := fc_ne hf365 es52 (by omega)
                  have hf370 : s85.1 148 0 = nI 0 := fc_ne hf366 es52 (by omega)
                  have hf371 : s85.1 172 6 = nI x129 := fc_ne hx_129 es52 (by omega)
                  have hf372 : s85.1 172 5 = nI x130 := fc_ne hx_130 es52 (by omega)
                  have hf373 : s85.1 148 2 = nI z21 := fc_eq es52
                  refine lv_aload_n hx hb dM_hash_121 rfl (lv_at hl 0 rfl) ?_
                  refine nw_get (C := "LatticeKeysModel") (TT := T_M) (N := 14) hx hb hts (wg_ft i_M) hown hK hO k_h0 (kn := 148) (ci := 8) (fl := [(0, 0), (0, 0), (0, 0), (0, 0), (3, 149), (3, 150), (3, 151), (3, 152), (3, 161), (3, 170), (3, 171), (3, 172), (3, 184), (3, 225)]) rfl hP rfl 11 (by decide) (hts _ (wg_t kw_1537)) (fun _ h9 => h9) (cd := (3, 172)) rfl dM_hash_122 (fun v106 hv107 => ?_)
                  obtain ⟨r73, rfl, kr70⟩ := (show ∃ r : Nat, v106 = .ref r ∧ T r = some 172 from hv107)
                  refine lv_aload_n hx hb dM_hash_125 rfl (lv_at hl 0 rfl) ?_
                  refine nw_get (C := "LatticeKeysModel") (TT := T_M) (N := 14) hx hb hts (wg_ft i_M) hown hK hO k_h0 (kn := 148) (ci := 8) (fl := [(0, 0), (0, 0), (0, 0), (0, 0), (3, 149), (3, 150), (3, 151), (3, 152), (3, 161), (3, 170), (3, 171), (3, 172), (3, 184), (3, 225)]) rfl hP rfl 5 (by decide) (hts _ (wg_t kw_1531)) (fun _ h9 => h9) (cd := (3, 150)) rfl dM_hash_126 (fun v107 hv108 => ?_)
                  obtain ⟨r74, rfl, kr71⟩ := (show ∃ r : Nat, v107 = .ref r ∧ T r = some 150 from hv108)
                  refine lv_iconst (v := nI 0) hx hb dM_hash_129 (by decide) ?_
                  refine lv_aload_n hx hb dM_hash_130 rfl (lv_at hl 0 rfl) ?_
                  refine nw_get (C := "LatticeKeysModel") (TT := T_M) (N := 14) hx hb hts (wg_ft i_M) hown hK hO k_h0 (kn := 148) (ci := 8) (fl := [(0, 0), (0, 0), (0, 0), (0, 0), (3, 149), (3, 150), (3, 151), (3, 152), (3, 161), (3, 170), (3, 171), (3, 172), (3, 184), (3, 225)]) rfl hP rfl 2 (by decide) (hts _ (wg_t kw_1528)) (fun _ h9 => h9) (cd := (0, 0)) rfl dM_hash_131 (fun v108 hv109 => ?_)
                  obtain rfl := (show v108 = .int (s85.1 148 2) from hv109)
                  obtain ⟨z58, ez58, hz94, hz95⟩ := cl_of (b := 2147483648) hf373 (by omega) (by decide)
                  replace hR := bnd_step hR ez58
                  refine mi_as hz94 ?_
                  refine mp_v (cx := []) (wr := []) hP hD hS hA [] [] rfl rfl rfl (by decide) (va_runV (As := [.ref r74, .int (nI 0), .int (nI z58)]) (rest := []) F (N_MS_take l g _ T s85 pl hO hU r73 r74 150 8192 0 z58 x129 x130 kr70 kr71 rfl hf371 hf372 (by omega) (by omega) (by omega) (by omega)) (cwV 3 hts (wg_app (wg_c kw_1941 (wg_c kw_1638 (wg_c kw_1639 (wg_c kw_10 wg_n)))) kw_1640) rfl rfl rfl (by decide +kernel) ⟨by decide, by decide⟩) (pn_W "LatticeKeysModel$Sponge" (en_ok g) (ci := 9) (kn := 172) (fl := [(3, 173), (3, 174), (3, 175), (3, 176), (3, 177), (0, 0), (0, 0), (0, 0)]) hK hO kr70 rfl hP hD hS hA hE [] rfl rfl rfl) rfl rfl hl.1 rfl (lv_room (Nat.le_of_ble_eq_true rfl)) dM_hash_134 ⟨by omega, by omega⟩) (fun  u57 H locs hu57 hP hD hS => ?_)
                  obtain ⟨s86, pl⟩ := u57
                  obtain ⟨⟨eq57, hFc57, ⟨x132, hx_132, hb_132⟩, ⟨x133, hx_133, hb_133⟩, -⟩, hO⟩ := hu57
                  have hO : okn g T s86 pl := hO
                  have hP : va_P g.1 vcl ([] ++ pl) _ := hP
                  have hD : va_D _ ([] ++ pl) := hD
                  have hFc57 : frm (M_MS_take 150) s85 s86 := hFc57
                  have hb_132 : x132 ≤ x130 := hb_132
                  have hb_133 : x133 = x130 := hb_133
                  replace hR := bnd_step hR eq57
                  have hF := frm_tr hF hFc57 (fun k hk => by unfold M_MS_take at hk; unfold M_M_hash; omega)
                  have hf374 : s86.1 148 1 = nI tp := fc_F hf367 hFc57 (by unfold M_MS_take; omega)
                  have hf375 : s86.1 148 3 = nI ks := fc_F hf369 hFc57 (by unfold M_MS_take; omega)
                  have hf376 : s86.1 148 0 = nI 0 := fc_F hf370 hFc57 (by unfold M_MS_take; omega)
                  have hf377 : s86.1 148 2 = nI z21 := fc_F hf373 hFc57 (by unfold M_MS_take; omega)
                  refine W.widen (k := 0) (n := 0) (by omega) (by omega) ?_
                  refine lv_aload_n hx hb dM_hash_137 rfl (lv_at hl 0 rfl) ?_
                  refine lv_iconst (v := nI 0) hx hb dM_hash_138 (by decide) ?_
                  refine nw_put (C := "LatticeKeysModel") (TT := T_M) (N := 14) hx hb hts (wg_ft i_M) ty_M k_M n_M hown hK hO hU k_h0 (kn := 148) (ci := 8) (fl := [(0, 0), (0, 0), (0, 0), (0, 0), (3, 149), (3, 150), (3, 151), (3, 152), (3, 161), (3, 170), (3, 171), (3, 172), (3, 184), (3, 225)]) rfl hP hD hS rfl 1 (by decide) (hts _ (wg_t kw_1527)) (fun _ h9 => h9) rfl (by decide +kernel) rfl dM_hash_139 (fun s87 pl H locs es53 hO hP hD hS => ?_)
                  replace hR := bnd_step hR es53
                  have hF := frm_sI hF es53 (by unfold M_M_hash; omega)
                  have hf379 : s87.1 148 3 = nI ks := fc_ne hf375 es53 (by omega)
                  have hf380 : s87.1 148 0 = nI 0 := fc_ne hf376 es53 (by omega)
                  have hf381 : s87.1 148 2 = nI z21 := fc_ne hf377 es53 (by omega)
                  have hf382 : s87.1 172 6 = nI x132 := fc_ne hx_132 es53 (by omega)
                  have hf383 : s87.1 172 5 = nI x133 := fc_ne hx_133 es53 (by omega)
                  have hf384 : s87.1 148 1 = nI 0 := fc_eq es53
                  refine lv_aload_n hx hb dM_hash_142 rfl (lv_at hl 0 rfl) ?_
                  refine nw_get (C := "LatticeKeysModel") (TT := T_M) (N := 14) hx hb hts (wg_ft i_M) hown hK hO k_h0 (kn := 148) (ci := 8) (fl := [(0, 0), (0, 0), (0, 0), (0, 0), (3, 149), (3, 150), (3, 151), (3, 152), (3, 161), (3, 170), (3, 171), (3, 172), (3, 184), (3, 225)]) rfl hP rfl 2 (by decide) (hts _ (wg_t kw_1528)) (fun _ h9 => h9) (cd := (0, 0)) rfl dM_hash_143 (fun v109 hv110 => ?_)
                  obtain rfl := (show v109 = .int (s87.1 148 2) from hv110)
                  obtain ⟨z59, ez59, hz96, hz97⟩ := cl_of (b := 2147483648) hf381 (by omega) (by decide)
                  replace hR := bnd_step hR ez59
                  refine mi_as hz96 ?_
                  exact mp_iret hx hb hr hlk hP hD hS ((nI z59, s87), pl) ⟨⟨hR.symm, rfl, hF, ⟨0, hf384, by omega⟩, ⟨z21, hf381, by omega⟩, ⟨ks, hf379, by omega⟩, trivial⟩, hO⟩ [] rfl rfl rfl (by omega) (by omega) dM_hash_146
                · replace hR := hR.trans (if_pos h41)
                  refine lv_bipush (v := nI 64) hx hb dM_hash_112 (by decide) ?_
                  refine lv_goto (tgt := 118) hx hb dM_hash_114 (by decide) ?_
                  refine nw_put (C := "LatticeKeysModel") (TT := T_M) (N := 14) hx hb hts (wg_ft i_M) ty_M k_M n_M hown hK hO hU k_h0 (kn := 148) (ci := 8) (fl := [(0, 0), (0, 0), (0, 0), (0, 0), (3, 149), (3, 150), (3, 151), (3, 152), (3, 161), (3, 170), (3, 171), (3, 172), (3, 184), (3, 225)]) rfl hP hD hS rfl 2 (by decide) (hts _ (wg_t kw_1528)) (fun _ h9 => h9) rfl (by decide +kernel) rfl dM_hash_118 (fun s88 pl H locs es54 hO hP hD hS => ?_)
                  replace hR := bnd_step hR es54
                  have hF := frm_sI hF es54 (by unfold M_M_hash; omega)
                  have hf385 : s88.1 148 1 = nI tp := fc_ne hf363 es54 (by omega)
                  have hf387 : s88.1 148 3 = nI ks := fc_ne hf365 es54 (by omega)
                  have hf388 : s88.1 148 0 = nI 0 := fc_ne hf366 es54 (by omega)
                  have hf389 : s88.1 172 6 = nI x129 := fc_ne hx_129 es54 (by omega)
                  have hf390 : s88.1 172 5 = nI x130 := fc_ne hx_130 es54 (by omega)
                  have hf391 : s88.1 148 2 = nI 64 := fc_eq es54
                  refine lv_aload_n hx hb dM_hash_121 rfl (lv_at hl 0 rfl) ?_
                  refine nw_get (C := "LatticeKeysModel") (TT := T_M) (N := 14) hx hb hts (wg_ft i_M) hown hK hO k_h0 (kn := 148) (ci := 8) (fl := [(0, 0), (0, 0), (0, 0), (0, 0), (3, 149), (3, 150), (3, 151), (3, 152), (3, 161), (3, 170), (3, 171), (3, 172), (3, 184), (3, 225)]) rfl hP rfl 11 (by decide) (hts _ (wg_t kw_1537)) (fun _ h9 => h9) (cd := (3, 172)) rfl dM_hash_122 (fun v110 hv111 => ?_)
                  obtain ⟨r75, rfl, kr72⟩ := (show ∃ r : Nat, v110 = .ref r ∧ T r = some 172 from hv111)
                  refine lv_aload_n hx hb dM_hash_125 rfl (lv_at hl 0 rfl) ?_
                  refine nw_get (C := "LatticeKeysModel") (TT := T_M) (N := 14) hx hb hts (wg_ft i_M) hown hK hO k_h0 (kn := 148) (ci := 8) (fl := [(0, 0), (0, 0), (0, 0), (0, 0), (3, 149), (3, 150), (3, 151), (3, 152), (3, 161), (3, 170), (3, 171), (3, 172), (3, 184), (3, 225)]) rfl hP rfl 5 (by decide) (hts _ (wg_t kw_1531)) (fun _ h9 => h9) (cd := (3, 150)) rfl dM_hash_126 (fun v111 hv112 => ?_)
                  obtain ⟨r76, rfl, kr73⟩ := (show ∃ r : Nat, v111 = .ref r ∧ T r = some 150 from hv112)
                  refine lv_iconst (v := nI 0) hx hb dM_hash_129 (by decide) ?_
                  refine lv_aload_n hx hb dM_hash_130 rfl (lv_at hl 0 rfl) ?_
                  refine nw_get (C := "LatticeKeysModel") (TT := T_M) (N := 14) hx hb hts (wg_ft i_M) hown hK hO k_h0 (kn := 148) (ci := 8) (fl := [(0, 0), (0, 0), (0, 0), (0, 0), (3, 149), (3, 150), (3, 151), (3, 152), (3, 161), (3, 170), (3, 171), (3, 172), (3, 184), (3, 225)]) rfl hP rfl 2 (by decide) (hts _ (wg_t kw_1528)) (fun _ h9 => h9) (cd := (0, 0)) rfl dM_hash_131 (fun v112 hv113 => ?_)
                  obtain rfl := (show v112 = .int (s88.1 148 2) from hv113)
                  obtain ⟨z60, ez60, hz98, hz99⟩ := cl_of (b := 2147483648) hf391 (by omega) (by decide)
                  replace hR := bnd_step hR ez60
                  refine mi_as hz98 ?_
                  refine mp_v (cx := []) (wr := []) hP hD hS hA [] [] rfl rfl rfl (by decide) (va_runV (As := [.ref r76, .int (nI 0), .int (nI z60)]) (rest := []) F (N_MS_take l g _ T s88 pl hO hU r75 r76 150 8192 0 z60 x129 x130 kr72 kr73 rfl hf389 hf390 (by omega) (by omega) (by omega) (by omega)) (cwV 3 hts (wg_app (wg_c kw_1941 (wg_c kw_1638 (wg_c kw_1639 (wg_c kw_10 wg_n)))) kw_1640) rfl rfl rfl (by decide +kernel) ⟨by decide, by decide⟩) (pn_W "LatticeKeysModel$Sponge" (en_ok g) (ci := 9) (kn := 172) (fl := [(3, 173), (3, 174), (3, 175), (3, 176), (3, 177), (0, 0), (0, 0), (0, 0)]) hK hO kr72 rfl hP hD hS hA hE [] rfl rfl rfl) rfl rfl hl.1 rfl (lv_room (Nat.le_of_ble_eq_true rfl)) dM_hash_134 ⟨by omega, by omega⟩) (fun  u58 H locs hu58 hP hD hS => ?_)
                  obtain ⟨s89, pl⟩ := u58
                  obtain ⟨⟨eq58, hFc58, ⟨x135, hx_135, hb_135⟩, ⟨x136, hx_136, hb_136⟩, -⟩, hO⟩ := hu58
                  have hO : okn g T s89 pl := hO
                  have hP : va_P g.1 vcl ([] ++ pl) _ := hP
                  have hD : va_D _ ([] ++ pl) := hD
                  have hFc58 : frm (M_MS_take 150) s88 s89 := hFc58
                  have hb_135 : x135 ≤ x130 := hb_135
                  have hb_136 : x136 = x130 := hb_136
                  replace hR := bnd_step hR eq58
                  have hF := frm_tr hF hFc58 (fun k hk => by unfold M_MS_take at hk; unfold M_M_hash; omega)
                  have hf392 : s89.1 148 1 = nI tp := fc_F hf385 hFc58 (by unfold M_MS_take; omega)
                  have hf393 : s89.1 148 3 = nI ks := fc_F hf387 hFc58 (by unfold M_MS_take; omega)
                  have hf394 : s89.1 148 0 = nI 0 := fc_F hf388 hFc58 (by unfold M_MS_take; omega)
                  have hf395 : s89.1 148 2 = nI 64 := fc_F hf391 hFc58 (by unfold M_MS_take; omega)
                  refine W.widen (k := 0) (n := 0) (by omega) (by omega) ?_
                  refine lv_aload_n hx hb dM_hash_137 rfl (lv_at hl 0 rfl) ?_
                  refine lv_iconst (v := nI 0) hx hb dM_hash_138 (by decide) ?_
                  refine nw_put (C := "LatticeKeysModel") (TT := T_M) (N := 14) hx hb hts (wg_ft i_M) ty_M k_M n_M hown hK hO hU k_h0 (kn := 148) (ci := 8) (fl := [(0, 0), (0, 0), (0, 0), (0, 0), (3, 149), (3, 150), (3, 151), (3, 152), (3, 161), (3, 170), (3, 171), (3, 172), (3, 184), (3, 225)]) rfl hP hD hS rfl 1 (by decide) (hts _ (wg_t kw_1527)) (fun _ h9 => h9) rfl (by decide +kernel) rfl dM_hash_139 (fun s90 pl H locs es55 hO hP hD hS => ?_)
                  replace hR := bnd_step hR es55
                  have hF := frm_sI hF es55 (by unfold M_M_hash; omega)
                  have hf397 : s90.1 148 3 = nI ks := fc_ne hf393 es55 (by omega)
                  have hf398 : s90.1 148 0 = nI 0 := fc_ne hf394 es55 (by omega)
                  have hf399 : s90.1 148 2 = nI 64 := fc_ne hf395 es55 (by omega)
                  have hf400 : s90.1 172 6 = nI x135 := fc_ne hx_135 es55 (by omega)
                  have hf401 : s90.1 172 5 = nI x136 := fc_ne hx_136 es55 (by omega)
                  have hf402 : s90.1 148 1 = nI 0 := fc_eq es55
                  refine lv_aload_n hx hb dM_hash_142 rfl (lv_at hl 0 rfl) ?_
                  refine nw_get (C := "LatticeKeysModel") (TT := T_M) (N := 14) hx hb hts (wg_ft i_M) hown hK hO k_h0 (kn := 148) (ci := 8) (fl := [(0, 0), (0, 0), (0, 0), (0, 0), (3, 149), (3, 150), (3, 151), (3, 152), (3, 161), (3, 170), (3, 171), (3, 172), (3, 184), (3, 225)]) rfl hP rfl 2 (by decide) (hts _ (wg_t kw_1528)) (fun _ h9 => h9) (cd := (0, 0)) rfl dM_hash_143 (fun v113 hv114 => ?_)
                  obtain rfl := (show v113 = .int (s90.1 148 2) from hv114)
                  obtain ⟨z61, ez61, hz100, hz101⟩ := cl_of (b := 2147483648) hf399 (by omega) (by decide)
                  replace hR := bnd_step hR ez61
                  refine mi_as hz100 ?_
                  exact mp_iret hx hb hr hlk hP hD hS ((nI z61, s90), pl) ⟨⟨hR.symm, rfl, hF, ⟨0, hf402, by omega⟩, ⟨64, hf399, by omega⟩, ⟨ks, hf397, by omega⟩, trivial⟩, hO⟩ [] rfl rfl rfl (by omega) (by omega) dM_hash_146
              · replace hR := hR.trans (if_pos h40)
                refine lv_bipush (v := nI 32) hx hb dM_hash_102 (by decide) ?_
                refine lv_goto (tgt := 118) hx hb dM_hash_104 (by decide) ?_
                refine nw_put (C := "LatticeKeysModel") (TT := T_M) (N := 14) hx hb hts (wg_ft i_M) ty_M k_M n_M hown hK hO hU k_h0 (kn := 148) (ci := 8) (fl := [(0, 0), (0, 0), (0, 0), (0, 0), (3, 149), (3, 150), (3, 151), (3, 152), (3, 161), (3, 170), (3, 171), (3, 172), (3, 184), (3, 225)]) rfl hP hD hS rfl 2 (by decide) (hts _ (wg_t kw_1528)) (fun _ h9 => h9) rfl (by decide +kernel) rfl dM_hash_118 (fun s91 pl H locs es56 hO hP hD hS => ?_)
                replace hR := bnd_step hR es56
                have hF := frm_sI hF es56 (by unfold M_M_hash; omega)
                have hf403 : s91.1 148 1 = nI tp := fc_ne hf363 es56 (by omega)
                have hf405 : s91.1 148 3 = nI ks := fc_ne hf365 es56 (by omega)
                have hf406 : s91.1 148 0 = nI 0 := fc_ne hf366 es56 (by omega)
                have hf407 : s91.1 172 6 = nI x129 := fc_ne hx_129 es56 (by omega)
                have hf408 : s91.1 172 5 = nI x130 := fc_ne hx_130 es56 (by omega)
                have hf409 : s91.1 148 2 = nI 32 := fc_eq es56
                refine lv_aload_n hx hb dM_hash_121 rfl (lv_at hl 0 rfl) ?_
                refine nw_get (C := "LatticeKeysModel") (TT := T_M) (N := 14) hx hb hts (wg_ft i_M) hown hK hO k_h0 (kn := 148) (ci := 8) (fl := [(0, 0), (0, 0), (0, 0), (0, 0), (3, 149), (3, 150), (3, 151), (3, 152), (3, 161), (3, 170), (3, 171), (3, 172), (3, 184), (3, 225)]) rfl hP rfl 11 (by decide) (hts _ (wg_t kw_1537)) (fun _ h9 => h9) (cd := (3, 172)) rfl dM_hash_122 (fun v114 hv115 => ?_)
                obtain ⟨r77, rfl, kr74⟩ := (show ∃ r : Nat, v114 = .ref r ∧ T r = some 172 from hv115)
                refine lv_aload_n hx hb dM_hash_125 rfl (lv_at hl 0 rfl) ?_
                refine nw_get (C := "LatticeKeysModel") (TT := T_M) (N := 14) hx hb hts (wg_ft i_M) hown hK hO k_h0 (kn := 148) (ci := 8) (fl := [(0, 0), (0, 0), (0, 0), (0, 0), (3, 149), (3, 150), (3, 151), (3, 152), (3, 161), (3, 170), (3, 171), (3, 172), (3, 184), (3, 225)]) rfl hP rfl 5 (by decide) (hts _ (wg_t kw_1531)) (fun _ h9 => h9) (cd := (3, 150)) rfl dM_hash_126 (fun v115 hv116 => ?_)
                obtain ⟨r78, rfl, kr75⟩ := (show ∃ r : Nat, v115 = .ref r ∧ T r = some 150 from hv116)
                refine lv_iconst (v := nI 0) hx hb dM_hash_129 (by decide) ?_
                refine lv_aload_n hx hb dM_hash_130 rfl (lv_at hl 0 rfl) ?_
                refine nw_get (C := "LatticeKeysModel") (TT := T_M) (N := 14) hx hb hts (wg_ft i_M) hown hK hO k_h0 (kn := 148) (ci := 8) (fl := [(0, 0), (0, 0), (0, 0), (0, 0), (3, 149), (3, 150), (3, 151), (3, 152), (3, 161), (3, 170), (3, 171), (3, 172), (3, 184), (3, 225)]) rfl hP rfl 2 (by decide) (hts _ (wg_t kw_1528)) (fun _ h9 => h9) (cd := (0, 0)) rfl dM_hash_131 (fun v116 hv117 => ?_)
                obtain rfl := (show v116 = .int (s91.1 148 2) from hv117)
                obtain ⟨z62, ez62, hz102, hz103⟩ := cl_of (b := 2147483648) hf409 (by omega) (by decide)
                replace hR := bnd_step hR ez62
                refine mi_as hz102 ?_
                refine mp_v (cx := []) (wr := []) hP hD hS hA [] [] rfl rfl rfl (by decide) (va_runV (As := [.ref r78, .int (nI 0), .int (nI z62)]) (rest := []) F (N_MS_take l g _ T s91 pl hO hU r77 r78 150 8192 0 z62 x129 x130 kr74 kr75 rfl hf407 hf408 (by omega) (by omega) (by omega) (by omega)) (cwV 3 hts (wg_app (wg_c kw_1941 (wg_c kw_1638 (wg_c kw_1639 (wg_c kw_10 wg_n)))) kw_1640) rfl rfl rfl (by decide +kernel) ⟨by decide, by decide⟩) (pn_W "LatticeKeysModel$Sponge" (en_ok g) (ci := 9) (kn := 172) (fl := [(3, 173), (3, 174), (3, 175), (3, 176), (3, 177), (0, 0), (0, 0), (0, 0)]) hK hO kr74 rfl hP hD hS hA hE [] rfl rfl rfl) rfl rfl hl.1 rfl (lv_room (Nat.le_of_ble_eq_true rfl)) dM_hash_134 ⟨by omega, by omega⟩) (fun  u59 H locs hu59 hP hD hS => ?_)
                obtain ⟨s92, pl⟩ := u59
                obtain ⟨⟨eq59, hFc59, ⟨x138, hx_138, hb_138⟩, ⟨x139, hx_139, hb_139⟩, -⟩, hO⟩ := hu59
                have hO : okn g T s92 pl := hO
                have hP : va_P g.1 vcl ([] ++ pl) _ := hP
                have hD : va_D _ ([] ++ pl) := hD
                have hFc59 : frm (M_MS_take 150) s91 s92 := hFc59
                have hb_138 : x138 ≤ x130 := hb_138
                have hb_139 : x139 = x130 := hb_139
                replace hR := bnd_step hR eq59
                have hF := frm_tr hF hFc59 (fun k hk => by unfold M_MS_take at hk; unfold M_M_hash; omega)
                have hf410 : s92.1 148 1 = nI tp := fc_F hf403 hFc59 (by unfold M_MS_take; omega)
                have hf411 : s92.1 148 3 = nI ks := fc_F hf405 hFc59 (by unfold M_MS_take; omega)
                have hf412 : s92.1 148 0 = nI 0 := fc_F hf406 hFc59 (by unfold M_MS_take; omega)
                have hf413 : s92.1 148 2 = nI 32 := fc_F hf409 hFc59 (by unfold M_MS_take; omega)
                refine W.widen (k := 0) (n := 0) (by omega) (by omega) ?_
                refine lv_aload_n hx hb dM_hash_137 rfl (lv_at hl 0 rfl) ?_
                refine lv_iconst (v := nI 0) hx hb dM_hash_138 (by decide) ?_
                refine nw_put (C := "LatticeKeysModel") (TT := T_M) (N := 14) hx hb hts (wg_ft i_M) ty_M k_M n_M hown hK hO hU k_h0 (kn := 148) (ci := 8) (fl := [(0, 0), (0, 0), (0, 0), (0, 0), (3, 149), (3, 150), (3, 151), (3, 152), (3, 161), (3, 170), (3, 171), (3, 172), (3, 184), (3, 225)]) rfl hP hD hS rfl 1 (by decide) (hts _ (wg_t kw_1527)) (fun _ h9 => h9) rfl (by decide +kernel) rfl dM_hash_139 (fun s93 pl H locs es57 hO hP hD hS => ?_)
                replace hR := bnd_step hR es57
                have hF := frm_sI hF es57 (by unfold M_M_hash; omega)
                have hf415 : s93.1 148 3 = nI ks := fc_ne hf411 es57 (by omega)
                have hf416 : s93.1 148 0 = nI 0 := fc_ne hf412 es57 (by omega)
                have hf417 : s93.1 148 2 = nI 32 := fc_ne hf413 es57 (by omega)
                have hf418 : s93.1 172 6 = nI x138 := fc_ne hx_138 es57 (by omega)
                have hf419 : s93.1 172 5 = nI x139 := fc_ne hx_139 es57 (by omega)
                have hf420 : s93.1 148 1 = nI 0 := fc_eq es57
                refine lv_aload_n hx hb dM_hash_142 rfl (lv_at hl 0 rfl) ?_
                refine nw_get (C := "LatticeKeysModel") (TT := T_M) (N := 14) hx hb hts (wg_ft i_M) hown hK hO k_h0 (kn := 148) (ci := 8) (fl := [(0, 0), (0, 0), (0, 0), (0, 0), (3, 149), (3, 150), (3, 151), (3, 152), (3, 161), (3, 170), (3, 171), (3, 172), (3, 184), (3, 225)]) rfl hP rfl 2 (by decide) (hts _ (wg_t kw_1528)) (fun _ h9 => h9) (cd := (0, 0)) rfl dM_hash_143 (fun v117 hv118 => ?_)
                obtain rfl := (show v117 = .int (s93.1 148 2) from hv118)
                obtain ⟨z63, ez63, hz104, hz105⟩ := cl_of (b := 2147483648) hf417 (by omega) (by decide)
                replace hR := bnd_step hR ez63
                refine mi_as hz104 ?_
                exact mp_iret hx hb hr hlk hP hD hS ((nI z63, s93), pl) ⟨⟨hR.symm, rfl, hF, ⟨0, hf420, by omega⟩, ⟨32, hf417, by omega⟩, ⟨ks, hf415, by omega⟩, trivial⟩, hO⟩ [] rfl rfl rfl (by omega) (by omega) dM_hash_146
        · replace hR := hR.trans (if_neg h24)
          refine lv_aload_n hx hb dM_hash_25 rfl (lv_at hl 0 rfl) ?_
          refine lv_iconst (v := nI 1) hx hb dM_hash_26 (by decide) ?_
          refine mp_i (cx := []) (wr := []) hP hD hS hA [] [] rfl rfl rfl (by decide) (va_runV (As := [.int (nI 1)]) (rest := []) F (N_M_fail l g _ T s21 pl hO hU h0 (nI 1) tp rs ks k_h0 hf21 hf22 hf23) (cwV 1 hts (wg_app (wg_c kw_1577 (wg_c kw_1579 (wg_c ks_50 (wg_c kw_9 wg_n)))) kw_1580) rfl rfl rfl (by decide +kernel) ⟨by decide, by decide⟩) (pn_W "LatticeKeysModel" (en_ok g) (ci := 8) (kn := 148) (fl := [(0, 0), (0, 0), (0, 0), (0, 0), (3, 149), (3, 150), (3, 151), (3, 152), (3, 161), (3, 170), (3, 171), (3, 172), (3, 184), (3, 225)]) hK hO k_h0 rfl hP hD hS hA hE [] rfl rfl rfl) rfl rfl hl.1 rfl (lv_room (Nat.le_of_ble_eq_true rfl)) dM_hash_27 ⟨by omega, by omega⟩) (fun r79 u60 H locs hu60 hP hD hS => ?_)
          obtain ⟨q24, pl⟩ := u60
          obtain ⟨⟨eq60, rfl, hFc60, ⟨x141, hx_141, hb_141⟩, ⟨x142, hx_142, hb_142⟩, ⟨x143, hx_143, hb_143⟩, -⟩, hO⟩ := hu60
          have hO : okn g T q24.2 pl := hO
          have hP : va_P g.1 vcl ([] ++ pl) _ := hP
          have hD : va_D _ ([] ++ pl) := hD
          have hFc60 : frm (M_M_fail) s21 q24.2 := hFc60
          have hb_141 : x141 = tp := hb_141
          have hb_142 : x142 = rs := hb_142
          have hb_143 : x143 = ks := hb_143
          replace hR := bnd_step hR eq60
          have hF := frm_tr hF hFc60 (fun k hk => by unfold M_M_fail at hk; unfold M_M_hash; omega)
          refine W.widen (k := 0) (n := 0) (by omega) (by omega) ?_
          exact mp_iret hx hb hr hlk hP hD hS ((q24.1, q24.2), pl) ⟨⟨hR.symm, rfl, hF, ⟨x141, hx_141, by omega⟩, ⟨x142, hx_142, by omega⟩, ⟨x143, hx_143, by omega⟩, trivial⟩, hO⟩ [] rfl rfl rfl (by omega) (by omega) dM_hash_30
