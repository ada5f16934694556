set_option linter.all false
abbrev c_DA_accepts : ByteArray := prog_3_method_19_code
abbrev y_DA_accepts : MethodName := ⟨"LatticeKeys$Dsa", "accepts", "(LLatticeKeys$DsaSet;[B[BII)Z"⟩
abbrev w_DA_accepts : List Cond := Cond.code y_DA_accepts c_DA_accepts 9 (some .boolean) :: WG
theorem dDA_accepts_0 : decode c_DA_accepts 0 = .ok (.aload_n 0, 1) := by decide +kernel
theorem dDA_accepts_1 : decode c_DA_accepts 1 = .ok (.aload_n 1, 1) := by decide +kernel
theorem dDA_accepts_2 : decode c_DA_accepts 2 = .ok (.aload_n 3, 1) := by decide +kernel
theorem dDA_accepts_3 : decode c_DA_accepts 3 = .ok (.invokevirtual 261, 3) := by decide +kernel
theorem dDA_accepts_6 : decode c_DA_accepts 6 = .ok (.ifCond .ne 5, 3) := by decide +kernel
theorem dDA_accepts_9 : decode c_DA_accepts 9 = .ok (.iconst 0, 1) := by decide +kernel
theorem dDA_accepts_10 : decode c_DA_accepts 10 = .ok (.ireturn, 1) := by decide +kernel
theorem dDA_accepts_11 : decode c_DA_accepts 11 = .ok (.aload_n 0, 1) := by decide +kernel
theorem dDA_accepts_12 : decode c_DA_accepts 12 = .ok (.aload_n 2, 1) := by decide +kernel
theorem dDA_accepts_13 : decode c_DA_accepts 13 = .ok (.invokevirtual 146, 3) := by decide +kernel
theorem dDA_accepts_16 : decode c_DA_accepts 16 = .ok (.aload_n 0, 1) := by decide +kernel
theorem dDA_accepts_17 : decode c_DA_accepts 17 = .ok (.aload_n 3, 1) := by decide +kernel
theorem dDA_accepts_18 : decode c_DA_accepts 18 = .ok (.aload_n 1, 1) := by decide +kernel
theorem dDA_accepts_19 : decode c_DA_accepts 19 = .ok (.getfield 265, 3) := by decide +kernel
theorem dDA_accepts_22 : decode c_DA_accepts 22 = .ok (.iload 4, 2) := by decide +kernel
theorem dDA_accepts_24 : decode c_DA_accepts 24 = .ok (.iload 5, 2) := by decide +kernel
theorem dDA_accepts_26 : decode c_DA_accepts 26 = .ok (.invokevirtual 164, 3) := by decide +kernel
theorem dDA_accepts_29 : decode c_DA_accepts 29 = .ok (.aload_n 0, 1) := by decide +kernel
theorem dDA_accepts_30 : decode c_DA_accepts 30 = .ok (.getfield 29, 3) := by decide +kernel
theorem dDA_accepts_33 : decode c_DA_accepts 33 = .ok (.aload_n 1, 1) := by decide +kernel
theorem dDA_accepts_34 : decode c_DA_accepts 34 = .ok (.aload_n 2, 1) := by decide +kernel
theorem dDA_accepts_35 : decode c_DA_accepts 35 = .ok (.aload_n 0, 1) := by decide +kernel
theorem dDA_accepts_36 : decode c_DA_accepts 36 = .ok (.getfield 35, 3) := by decide +kernel
theorem dDA_accepts_39 : decode c_DA_accepts 39 = .ok (.invokevirtual 115, 3) := by decide +kernel
theorem dDA_accepts_42 : decode c_DA_accepts 42 = .ok (.aload_n 0, 1) := by decide +kernel
theorem dDA_accepts_43 : decode c_DA_accepts 43 = .ok (.getfield 29, 3) := by decide +kernel
theorem dDA_accepts_46 : decode c_DA_accepts 46 = .ok (.aload_n 1, 1) := by decide +kernel
theorem dDA_accepts_47 : decode c_DA_accepts 47 = .ok (.aload_n 0, 1) := by decide +kernel
theorem dDA_accepts_48 : decode c_DA_accepts 48 = .ok (.getfield 53, 3) := by decide +kernel
theorem dDA_accepts_51 : decode c_DA_accepts 51 = .ok (.aload_n 0, 1) := by decide +kernel
theorem dDA_accepts_52 : decode c_DA_accepts 52 = .ok (.getfield 67, 3) := by decide +kernel
theorem dDA_accepts_55 : decode c_DA_accepts 55 = .ok (.invokevirtual 223, 3) := by decide +kernel
theorem dDA_accepts_58 : decode c_DA_accepts 58 = .ok (.aload_n 0, 1) := by decide +kernel
theorem dDA_accepts_59 : decode c_DA_accepts 59 = .ok (.getfield 22, 3) := by decide +kernel
theorem dDA_accepts_62 : decode c_DA_accepts 62 = .ok (.aload_n 0, 1) := by decide +kernel
theorem dDA_accepts_63 : decode c_DA_accepts 63 = .ok (.getfield 53, 3) := by decide +kernel
theorem dDA_accepts_66 : decode c_DA_accepts 66 = .ok (.invokevirtual 119, 3) := by decide +kernel
theorem dDA_accepts_69 : decode c_DA_accepts 69 = .ok (.iconst 0, 1) := by decide +kernel
theorem dDA_accepts_70 : decode c_DA_accepts 70 = .ok (.istore 6, 2) := by decide +kernel
theorem dDA_accepts_72 : decode c_DA_accepts 72 = .ok (.iload 6, 2) := by decide +kernel
theorem dDA_accepts_74 : decode c_DA_accepts 74 = .ok (.aload_n 1, 1) := by decide +kernel
theorem dDA_accepts_75 : decode c_DA_accepts 75 = .ok (.getfield 96, 3) := by decide +kernel
theorem dDA_accepts_78 : decode c_DA_accepts 78 = .ok (.if_icmp .ge 23, 3) := by decide +kernel
theorem dDA_accepts_81 : decode c_DA_accepts 81 = .ok (.aload_n 0, 1) := by decide +kernel
theorem dDA_accepts_82 : decode c_DA_accepts 82 = .ok (.getfield 22, 3) := by decide +kernel
theorem dDA_accepts_85 : decode c_DA_accepts 85 = .ok (.aload_n 0, 1) := by decide +kernel
theorem dDA_accepts_86 : decode c_DA_accepts 86 = .ok (.getfield 47, 3) := by decide +kernel
theorem dDA_accepts_89 : decode c_DA_accepts 89 = .ok (.iload 6, 2) := by decide +kernel
theorem dDA_accepts_91 : decode c_DA_accepts 91 = .ok (.aaload, 1) := by decide +kernel
theorem dDA_accepts_92 : decode c_DA_accepts 92 = .ok (.invokevirtual 119, 3) := by decide +kernel
theorem dDA_accepts_95 : decode c_DA_accepts 95 = .ok (.iinc 6 1, 3) := by decide +kernel
theorem dDA_accepts_98 : decode c_DA_accepts 98 = .ok (.goto (-26), 3) := by decide +kernel
theorem dDA_accepts_101 : decode c_DA_accepts 101 = .ok (.aload_n 0, 1) := by decide +kernel
theorem dDA_accepts_102 : decode c_DA_accepts 102 = .ok (.invokevirtual 209, 3) := by decide +kernel
theorem dDA_accepts_105 : decode c_DA_accepts 105 = .ok (.iconst 0, 1) := by decide +kernel
theorem dDA_accepts_106 : decode c_DA_accepts 106 = .ok (.istore 6, 2) := by decide +kernel
theorem dDA_accepts_108 : decode c_DA_accepts 108 = .ok (.iconst 0, 1) := by decide +kernel
theorem dDA_accepts_109 : decode c_DA_accepts 109 = .ok (.istore 7, 2) := by decide +kernel
theorem dDA_accepts_111 : decode c_DA_accepts 111 = .ok (.iload 7, 2) := by decide +kernel
theorem dDA_accepts_113 : decode c_DA_accepts 113 = .ok (.aload_n 1, 1) := by decide +kernel
theorem dDA_accepts_114 : decode c_DA_accepts 114 = .ok (.getfield 87, 3) := by decide +kernel
theorem dDA_accepts_117 : decode c_DA_accepts 117 = .ok (.if_icmp .ge 60, 3) := by decide +kernel
theorem dDA_accepts_120 : decode c_DA_accepts 120 = .ok (.aload_n 0, 1) := by decide +kernel
theorem dDA_accepts_121 : decode c_DA_accepts 121 = .ok (.getfield 73, 3) := by decide +kernel
theorem dDA_accepts_124 : decode c_DA_accepts 124 = .ok (.aload_n 1, 1) := by decide +kernel
theorem dDA_accepts_125 : decode c_DA_accepts 125 = .ok (.getfield 252, 3) := by decide +kernel
theorem dDA_accepts_128 : decode c_DA_accepts 128 = .ok (.iload 7, 2) := by decide +kernel
theorem dDA_accepts_130 : decode c_DA_accepts 130 = .ok (.iadd, 1) := by decide +kernel
theorem dDA_accepts_131 : decode c_DA_accepts 131 = .ok (.baload, 1) := by decide +kernel
theorem dDA_accepts_132 : decode c_DA_accepts 132 = .ok (.sipush 255, 3) := by decide +kernel
theorem dDA_accepts_135 : decode c_DA_accepts 135 = .ok (.iand, 1) := by decide +kernel
theorem dDA_accepts_136 : decode c_DA_accepts 136 = .ok (.istore 8, 2) := by decide +kernel
theorem dDA_accepts_138 : decode c_DA_accepts 138 = .ok (.aload_n 0, 1) := by decide +kernel
theorem dDA_accepts_139 : decode c_DA_accepts 139 = .ok (.aload_n 1, 1) := by decide +kernel
theorem dDA_accepts_140 : decode c_DA_accepts 140 = .ok (.aload_n 2, 1) := by decide +kernel
theorem dDA_accepts_141 : decode c_DA_accepts 141 = .ok (.iload 7, 2) := by decide +kernel
theorem dDA_accepts_143 : decode c_DA_accepts 143 = .ok (.invokevirtual 268, 3) := by decide +kernel
theorem dDA_accepts_146 : decode c_DA_accepts 146 = .ok (.aload_n 0, 1) := by decide +kernel
theorem dDA_accepts_147 : decode c_DA_accepts 147 = .ok (.aload_n 1, 1) := by decide +kernel
theorem dDA_accepts_148 : decode c_DA_accepts 148 = .ok (.aload_n 0, 1) := by decide +kernel
theorem dDA_accepts_149 : decode c_DA_accepts 149 = .ok (.getfield 50, 3) := by decide +kernel
theorem dDA_accepts_152 : decode c_DA_accepts 152 = .ok (.iload 7, 2) := by decide +kernel
theorem dDA_accepts_154 : decode c_DA_accepts 154 = .ok (.aaload, 1) := by decide +kernel
theorem dDA_accepts_155 : decode c_DA_accepts 155 = .ok (.iload 6, 2) := by decide +kernel
theorem dDA_accepts_157 : decode c_DA_accepts 157 = .ok (.iload 8, 2) := by decide +kernel
theorem dDA_accepts_159 : decode c_DA_accepts 159 = .ok (.invokevirtual 272, 3) := by decide +kernel
theorem dDA_accepts_162 : decode c_DA_accepts 162 = .ok (.aload_n 0, 1) := by decide +kernel
theorem dDA_accepts_163 : decode c_DA_accepts 163 = .ok (.aload_n 1, 1) := by decide +kernel
theorem dDA_accepts_164 : decode c_DA_accepts 164 = .ok (.invokevirtual 216, 3) := by decide +kernel
theorem dDA_accepts_167 : decode c_DA_accepts 167 = .ok (.iload 8, 2) := by decide +kernel
theorem dDA_accepts_169 : decode c_DA_accepts 169 = .ok (.istore 6, 2) := by decide +kernel
theorem dDA_accepts_171 : decode c_DA_accepts 171 = .ok (.iinc 7 1, 3) := by decide +kernel
theorem dDA_accepts_174 : decode c_DA_accepts 174 = .ok (.goto (-63), 3) := by decide +kernel
theorem dDA_accepts_177 : decode c_DA_accepts 177 = .ok (.aload_n 0, 1) := by decide +kernel
theorem dDA_accepts_178 : decode c_DA_accepts 178 = .ok (.getfield 10, 3) := by decide +kernel
theorem dDA_accepts_181 : decode c_DA_accepts 181 = .ok (.invokevirtual 99, 3) := by decide +kernel
theorem dDA_accepts_184 : decode c_DA_accepts 184 = .ok (.aload_n 0, 1) := by decide +kernel
theorem dDA_accepts_185 : decode c_DA_accepts 185 = .ok (.getfield 10, 3) := by decide +kernel
theorem dDA_accepts_188 : decode c_DA_accepts 188 = .ok (.aload_n 0, 1) := by decide +kernel
theorem dDA_accepts_189 : decode c_DA_accepts 189 = .ok (.getfield 70, 3) := by decide +kernel
theorem dDA_accepts_192 : decode c_DA_accepts 192 = .ok (.iconst 0, 1) := by decide +kernel
theorem dDA_accepts_193 : decode c_DA_accepts 193 = .ok (.aload_n 1, 1) := by decide +kernel
theorem dDA_accepts_194 : decode c_DA_accepts 194 = .ok (.getfield 220, 3) := by decide +kernel
theorem dDA_accepts_197 : decode c_DA_accepts 197 = .ok (.invokevirtual 102, 3) := by decide +kernel
theorem dDA_accepts_200 : decode c_DA_accepts 200 = .ok (.aload_n 0, 1) := by decide +kernel
theorem dDA_accepts_201 : decode c_DA_accepts 201 = .ok (.aload_n 1, 1) := by decide +kernel
theorem dDA_accepts_202 : decode c_DA_accepts 202 = .ok (.invokevirtual 276, 3) := by decide +kernel
theorem dDA_accepts_205 : decode c_DA_accepts 205 = .ok (.ireturn, 1) := by decide +kernel
def M_DA_accepts_0 (k : Nat) : Prop := (115 ≤ k ∧ k < 123) ∨ (124 ≤ k ∧ k < 131) ∨ (132 ≤ k ∧ k < 140) ∨ (41 ≤ k ∧ k < 97) ∨ k = 140 ∨ k = 141 ∨ k = 143 ∨ k = 144 ∨ k = 145 ∨ k = 146 ∨ k = 147 ∨ k = 16 ∨ k = 18 ∨ (0 : Nat) = 1
noncomputable def F_DA_accepts_0_L1 (pp : Nat) : Nat → Nat → Nat → Sto → Int32 × Sto
  | 0, i22, fs21, s28 => bnd (F_SP_finish 16 17 s28) fun s29 => bnd (F_SP_squeeze 16 17 145 64 0 32 s29) fun s30 => bnd (F_DA_challengesAgree_0  s30) fun q22 => bnd (q22.1.toNatClampNeg) fun z21 => (nI z21, q22.2)
  | n22 + 1, i22, fs21, s28 => bnd (((s28.1 146 (80 + i22)) &&& nI 255).toNatClampNeg) fun z22 => bnd (F_DA_rebuildRow_0 pp i22 s28) fun s31 => bnd (F_DA_useHints_0 (132 + i22) fs21 z22 s31) fun s32 => bnd (F_DA_absorbHigh_0  s32) fun s33 => F_DA_accepts_0_L1 pp n22 (i22 + 1) z22 s33
noncomputable def F_DA_accepts_0_L0 (pp : Nat) : Nat → Nat → Sto → Int32 × Sto
  | 0, i21, s26 => bnd (F_DA_startChallenge  s26) fun s27 => F_DA_accepts_0_L1 pp 4 0 0 s27
  | n21 + 1, i21, s26 => bnd (F_RG_transform_8 (124 + i21) s26) fun s34 => F_DA_accepts_0_L0 pp n21 (i21 + 1) s34
noncomputable def F_DA_accepts_0 (pp : Nat) (ptp : Nat) (n : Nat) (len : Nat) (cl_ : Int32) (s : Sto) : Int32 × Sto := bnd (F_DA_readSignature_0 ptp n s) fun q21 => if (q21.1) = 0 then (nI 0, q21.2) else bnd (F_DA_digestOf pp 1312 q21.2) fun s21 => bnd (F_DA_digestMessage ptp n 2420 len cl_ s21) fun s22 => bnd (F_SA_expandMatrix_0 pp 1312 s22) fun s23 => bnd (F_SA_sampleBall_0 140 144 64 s23) fun s24 => bnd (F_RG_transform_8 140 s24) fun s25 => F_DA_accepts_0_L0 pp 4 0 s25
set_option maxHeartbeats 8000000 in
set_option maxRecDepth 100000 in
theorem N_DA_accepts_0 (l : Launch) (g : Gd) (sz : Nat) (T : TyN) (s : Sto) (pl : va_W) (hO : okn g T s pl) (hU : inj T) (h0 st pk tp : Nat) (pp : Nat) (ptp : Nat) (n : Nat) (len : Nat) (cl_ : Int32) (k_h0 : T h0 = some 39) (k_st : T st = some 9) (k_pk : T pk = some pp) (n_pk : nsp pp = (1, 1312, [])) (k_tp : T tp = some ptp) (n_tp : nsp ptp = (1, n, [])) (h1 : 2420 ≤ len) (h3 : len ≤ n) (h2 : n < 65536)  : Met l y_DA_accepts w_DA_accepts ({ frames := 5, cells := 0, slots := 0, locals := 152 } : Room) (va_Pc [.ref h0, .ref st, .ref pk, .ref tp, .int (nI len), .int cl_] (pr (en g) g.1 vcl sz ([] ++ pl))) (va_Qi (fun (r : Int32) (u : (Int32 × Sto) × va_W) => (u.1 = F_DA_accepts_0 pp ptp n len cl_ s ∧ r = u.1.1 ∧ frm (M_DA_accepts_0) s u.1.2 ∧ True) ∧ okn g T u.1.2 u.2) (po g.1 vcl (va_A ([] ++ pl) sz) (fun (u : (Int32 × Sto) × va_W) => [] ++ u.2)) (va_A ([] ++ pl) sz)) 0 0 (va_A ([] ++ pl) sz) := by
  refine mc_entry (cc := c_DA_accepts) (maxL := 9) (ret := (some .boolean)) (by decide) rfl (Nat.le_of_ble_eq_true rfl) ?_
  intro p e s0 m args below meth c ls F hr hlk hnm hsz hP hD hE hA hl
  obtain ⟨hx, hb, hml, hown, hts⟩ := id F
  have hK := hE.1
  generalize va_A ([] ++ pl) sz = A at hD hE hA ⊢
  have hS : va_S A s0.heap s0.heap [] := va_S.rf
  have hl : lv_has ls 9 [(0, .ref h0), (1, .ref st), (2, .ref pk), (3, .ref tp), (4, .int (nI len)), (5, .int cl_)] := hl
  have hR : F_DA_accepts_0 pp ptp n len cl_ s = F_DA_accepts_0 pp ptp n len cl_ s := rfl
  have hF : frm (M_DA_accepts_0) s s := frm_rf
  refine lv_aload_n hx hb dDA_accepts_0 rfl (lv_at hl 0 rfl) ?_
  refine lv_aload_n hx hb dDA_accepts_1 rfl (lv_at hl 1 rfl) ?_
  refine lv_aload_n hx hb dDA_accepts_2 rfl (lv_at hl 3 rfl) ?_
  refine mp_i (cx := []) (wr := []) hP hD hS hA [] [] rfl rfl rfl (by decide) (va_runV (As := [.ref st, .ref tp]) (rest := []) F (N_DA_readSignature_0 l g _ T s pl hO hU h0 st tp ptp n k_h0 k_st k_tp n_tp (by omega) (by omega)) (cwV 2 hts (wg_app (wg_c kw_1265 (wg_c kw_1267 (wg_c ks_45 (wg_c kw_5 wg_n)))) kw_1268) rfl rfl rfl (by decide +kernel) ⟨by decide, by decide⟩) (pn_W "LatticeKeys$Dsa" (en_ok g) (ci := 6) (kn := 39) (fl := [(3, 16), (3, 22), (3, 37), (3, 40), (3, 97), (3, 105), (3, 114), (3, 123), (3, 131), (3, 140), (3, 141), (3, 142), (3, 143), (3, 144), (3, 145), (3, 146), (3, 147)]) hK hO k_h0 rfl hP hD hS hA hE [] rfl rfl rfl) rfl rfl hl.1 rfl (lv_room (Nat.le_of_ble_eq_true rfl)) dDA_accepts_3 ⟨by omega, by omega⟩) (fun r21 u21 H locs hu21 hP hD hS => ?_)
  obtain ⟨q21, pl⟩ := u21
  obtain ⟨⟨eq21, rfl, hFc21, hxp21, -⟩, hO⟩ := hu21
  have hO : okn g T q21.2 pl := hO
  have hP : va_P g.1 vcl ([] ++ pl) _ := hP
  have hD : va_D _ ([] ++ pl) := hD
  have hFc21 : frm (M_DA_readSignature_0) s q21.2 := hFc21
  replace hR := bnd_step hR eq21
  have hF := frm_tr hF hFc21 (fun k hk => by unfold M_DA_readSignature_0 at hk; unfold M_DA_accepts_0; omega)
  refine W.widen (k := 0) (n := 0) (by omega) (by omega) ?_
  refine lv_if_ne (tgt := 11) hx hb dDA_accepts_6 (by decide) (fun h21 => ?_) (fun h21 => ?_)
  · replace hR := hR.trans (if_neg h21)
    have hg21 : hgN 80 4 (q21.2.1 146) := hxp21.resolve_left h21
    refine lv_aload_n hx hb dDA_accepts_11 rfl (lv_at hl 0 rfl) ?_
    refine lv_aload_n hx hb dDA_accepts_12 rfl (lv_at hl 2 rfl) ?_
    refine mp_v (cx := []) (wr := []) hP hD hS hA [] [] rfl rfl rfl (by decide) (va_runV (As := [.ref pk]) (rest := []) F (N_DA_digestOf l g _ T q21.2 pl hO hU h0 pk pp 1312 k_h0 k_pk n_pk (by omega)) (cwV 1 hts (wg_app (wg_c kw_736 (wg_c kw_738 (wg_c ks_18 (wg_c kw_5 wg_n)))) kw_739) rfl rfl rfl (by decide +kernel) ⟨by decide, by decide⟩) (pn_W "LatticeKeys$Dsa" (en_ok g) (ci := 6) (kn := 39) (fl := [(3, 16), (3, 22), (3, 37), (3, 40), (3, 97), (3, 105), (3, 114), (3, 123), (3, 131), (3, 140), (3, 141), (3, 142), (3, 143), (3, 144), (3, 145), (3, 146), (3, 147)]) hK hO k_h0 rfl hP hD hS hA hE [] rfl rfl rfl) rfl rfl hl.1 rfl (lv_room (Nat.le_of_ble_eq_true rfl)) dDA_accepts_13 ⟨by omega, by omega⟩) (fun  u22 H locs hu22 hP hD hS => ?_)
    obtain ⟨s21, pl⟩ := u22
    obtain ⟨⟨eq22, hFc22, -⟩, hO⟩ := hu22
    have hO : okn g T s21 pl := hO
    have hP : va_P g.1 vcl ([] ++ pl) _ := hP
    have hD : va_D _ ([] ++ pl) := hD
    have hFc22 : frm (M_DA_digestOf) q21.2 s21 := hFc22
    replace hR := bnd_step hR eq22
    have hF := frm_tr hF hFc22 (fun k hk => by unfold M_DA_digestOf at hk; unfold M_DA_accepts_0; omega)
    have hg22 : hgN 80 4 (s21.1 146) := by rw [hFc22 146 (by unfold M_DA_digestOf; omega)]; exact hg21
    refine W.widen (k := 0) (n := 0) (by omega) (by omega) ?_
    refine lv_aload_n hx hb dDA_accepts_16 rfl (lv_at hl 0 rfl) ?_
    refine lv_aload_n hx hb dDA_accepts_17 rfl (lv_at hl 3 rfl) ?_
    refine lv_aload_n hx hb dDA_accepts_18 rfl (lv_at hl 1 rfl) ?_
    refine nw_get (C := "LatticeKeys$DsaSet") (TT := T_DS) (N := 17) hx hb hts (wg_ft i_DS) hown hK hO k_st (kn := 9) (ci := 2) (fl := [(1, 4), (1, 4), (1, 2), (1, 3), (1, 39), (1, 32), (1, 18), (1, 131072), (1, 44), (1, 6), (1, 95232), (1, 80), (1, 78), (1, 1312), (1, 2560), (1, 2336), (1, 2420)]) rfl hP rfl 16 (by decide) (hts _ (wg_t kw_338)) (fun _ h9 => h9) (cd := (1, 2420)) rfl dDA_accepts_19 (fun v21 hv21 => ?_)
    obtain rfl := (show v21 = .int (nI 2420) from hv21)
    refine lv_iload hx hb dDA_accepts_22 (lv_at hl 4 rfl) ?_
    refine lv_iload hx hb dDA_accepts_24 (lv_at hl 5 rfl) ?_
    refine mp_v (cx := []) (wr := []) hP hD hS hA [] [] rfl rfl rfl (by decide) (va_runV (As := [.ref tp, .int (nI 2420), .int (nI len), .int cl_]) (rest := []) F (N_DA_digestMessage l g _ T s21 pl hO hU h0 tp ptp n 2420 len cl_ k_h0 k_tp n_tp (by omega) (by omega) (by omega)) (cwV 4 hts (wg_app (wg_c kw_1188 (wg_c kw_1190 (wg_c ks_36 (wg_c kw_5 wg_n)))) kw_1191) rfl rfl rfl (by decide +kernel) ⟨by decide, by decide⟩) (pn_W "LatticeKeys$Dsa" (en_ok g) (ci := 6) (kn := 39) (fl := [(3, 16), (3, 22), (3, 37), (3, 40), (3, 97), (3, 105), (3, 114), (3, 123), (3, 131), (3, 140), (3, 141), (3, 142), (3, 143), (3, 144), (3, 145), (3, 146), (3, 147)]) hK hO k_h0 rfl hP hD hS hA hE [] rfl rfl rfl) rfl rfl hl.1 rfl (lv_room (Nat.le_of_ble_eq_true rfl)) dDA_accepts_26 ⟨by omega, by omega⟩) (fun  u23 H locs hu23 hP hD hS => ?_)
    obtain ⟨s22, pl⟩ := u23
    obtain ⟨⟨eq23, hFc23, -⟩, hO⟩ := hu23
    have hO : okn g T s22 pl := hO
    have hP : va_P g.1 vcl ([] ++ pl) _ := hP
    have hD : va_D _ ([] ++ pl) := hD
    have hFc23 : frm (M_DA_digestMessage) s21 s22 := hFc23
    replace hR := bnd_step hR eq23
    have hF := frm_tr hF hFc23 (fun k hk => by unfold M_DA_digestMessage at hk; unfold M_DA_accepts_0; omega)
    have hg23 : hgN 80 4 (s22.1 146) := by rw [hFc23 146 (by unfold M_DA_digestMessage; omega)]; exact hg22
    refine W.widen (k := 0) (n := 0) (by omega) (by omega) ?_
    refine lv_aload_n hx hb dDA_accepts_29 rfl (lv_at hl 0 rfl) ?_
    refine nw_get (C := "LatticeKeys$Dsa") (TT := T_DA) (N := 17) hx hb hts (wg_ft i_DA) hown hK hO k_h0 (kn := 39) (ci := 6) (fl := [(3, 16), (3, 22), (3, 37), (3, 40), (3, 97), (3, 105), (3, 114), (3, 123), (3, 131), (3, 140), (3, 141), (3, 142), (3, 143), (3, 144), (3, 145), (3, 146), (3, 147)]) rfl hP rfl 2 (by decide) (hts _ (wg_t kw_167)) (fun _ h9 => h9) (cd := (3, 37)) rfl dDA_accepts_30 (fun v22 hv22 => ?_)
    obtain ⟨r22, rfl, kr21⟩ := (show ∃ r : Nat, v22 = .ref r ∧ T r = some 37 from hv22)
    refine lv_aload_n hx hb dDA_accepts_33 rfl (lv_at hl 1 rfl) ?_
    refine lv_aload_n hx hb dDA_accepts_34 rfl (lv_at hl 2 rfl) ?_
    refine lv_aload_n hx hb dDA_accepts_35 rfl (lv_at hl 0 rfl) ?_
    refine nw_get (C := "LatticeKeys$Dsa") (TT := T_DA) (N := 17) hx hb hts (wg_ft i_DA) hown hK hO k_h0 (kn := 39) (ci := 6) (fl := [(3, 16), (3, 22), (3, 37), (3, 40), (3, 97), (3, 105), (3, 114), (3, 123), (3, 131), (3, 140), (3, 141), (3, 142), (3, 143), (3, 144), (3, 145), (3, 146), (3, 147)]) rfl hP rfl 3 (by decide) (hts _ (wg_t kw_168)) (fun _ h9 => h9) (cd := (3, 40)) rfl dDA_accepts_36 (fun v23 hv23 => ?_)
    obtain ⟨r23, rfl, kr22⟩ := (show ∃ r : Nat, v23 = .ref r ∧ T r = some 40 from hv23)
    refine mp_v (cx := []) (wr := []) hP hD hS hA [] [] rfl rfl rfl (by decide) (va_runV (As := [.ref st, .ref pk, .ref r23]) (rest := []) F (N_SA_expandMatrix_0 l g _ T s22 pl hO hU r22 st pk r23 pp 1312 kr21 k_st k_pk n_pk kr22 (by omega) (by omega)) (cwV 3 hts (wg_app (wg_c kw_703 (wg_c kw_704 (wg_c kw_705 (wg_c kw_6 wg_n)))) kw_706) rfl rfl rfl (by decide +kernel) ⟨by decide, by decide⟩) (pn_W "LatticeKeys$DsaSampler" (en_ok g) (ci := 7) (kn := 37) (fl := [(3, 18), (3, 38)]) hK hO kr21 rfl hP hD hS hA hE [] rfl rfl rfl) rfl rfl hl.1 rfl (lv_room (Nat.le_of_ble_eq_true rfl)) dDA_accepts_39 ⟨by omega, by omega⟩) (fun  u24 H locs hu24 hP hD hS => ?_)
    obtain ⟨s23, pl⟩ := u24
    obtain ⟨⟨eq24, hFc24, -⟩, hO⟩ := hu24
    have hO : okn g T s23 pl := hO
    have hP : va_P g.1 vcl ([] ++ pl) _ := hP
    have hD : va_D _ ([] ++ pl) := hD
    have hFc24 : frm (M_SA_expandMatrix_0) s22 s23 := hFc24
    replace hR := bnd_step hR eq24
    have hF := frm_tr hF hFc24 (fun k hk => by unfold M_SA_expandMatrix_0 at hk; unfold M_DA_accepts_0; omega)
    have hg24 : hgN 80 4 (s23.1 146) := by rw [hFc24 146 (by unfold M_SA_expandMatrix_0; omega)]; exact hg23
    refine W.widen (k := 0) (n := 0) (by omega) (by omega) ?_
    refine lv_aload_n hx hb dDA_accepts_42 rfl (lv_at hl 0 rfl) ?_
    refine nw_get (C := "LatticeKeys$Dsa") (TT := T_DA) (N := 17) hx hb hts (wg_ft i_DA) hown hK hO k_h0 (kn := 39) (ci := 6) (fl := [(3, 16), (3, 22), (3, 37), (3, 40), (3, 97), (3, 105), (3, 114), (3, 123), (3, 131), (3, 140), (3, 141), (3, 142), (3, 143), (3, 144), (3, 145), (3, 146), (3, 147)]) rfl hP rfl 2 (by decide) (hts _ (wg_t kw_167)) (fun _ h9 => h9) (cd := (3, 37)) rfl dDA_accepts_43 (fun v24 hv24 => ?_)
    obtain ⟨r24, rfl, kr23⟩ := (show ∃ r : Nat, v24 = .ref r ∧ T r = some 37 from hv24)
    refine lv_aload_n hx hb dDA_accepts_46 rfl (lv_at hl 1 rfl) ?_
    refine lv_aload_n hx hb dDA_accepts_47 rfl (lv_at hl 0 rfl) ?_
    refine nw_get (C := "LatticeKeys$Dsa") (TT := T_DA) (N := 17) hx hb hts (wg_ft i_DA) hown hK hO k_h0 (kn := 39) (ci := 6) (fl := [(3, 16), (3, 22), (3, 37), (3, 40), (3, 97), (3, 105), (3, 114), (3, 123), (3, 131), (3, 140), (3, 141), (3, 142), (3, 143), (3, 144), (3, 145), (3, 146), (3, 147)]) rfl hP rfl 9 (by decide) (hts _ (wg_t kw_174)) (fun _ h9 => h9) (cd := (3, 140)) rfl dDA_accepts_48 (fun v25 hv25 => ?_)
    obtain ⟨r25, rfl, kr24⟩ := (show ∃ r : Nat, v25 = .ref r ∧ T r = some 140 from hv25)
    refine lv_aload_n hx hb dDA_accepts_51 rfl (lv_at hl 0 rfl) ?_
    refine nw_get (C := "LatticeKeys$Dsa") (TT := T_DA) (N := 17) hx hb hts (wg_ft i_DA) hown hK hO k_h0 (kn := 39) (ci := 6) (fl := [(3, 16), (3, 22), (3, 37), (3, 40), (3, 97), (3, 105), (3, 114), (3, 123), (3, 131), (3, 140), (3, 141), (3, 142), (3, 143), (3, 144), (3, 145), (3, 146), (3, 147)]) rfl hP rfl 13 (by decide) (hts _ (wg_t kw_178)) (fun _ h9 => h9) (cd := (3, 144)) rfl dDA_accepts_52 (fun v26 hv26 => ?_)
    obtain ⟨r26, rfl, kr25⟩ := (show ∃ r : Nat, v26 = .ref r ∧ T r = some 144 from hv26)
    refine mp_v (cx := []) (wr := []) hP hD hS hA [] [] rfl rfl rfl (by decide) (va_runV (As := [.ref st, .ref r25, .ref r26]) (rest := []) F (N_SA_sampleBall_0 l g _ T s23 pl hO hU r24 st r25 r26 140 144 64 kr23 k_st kr24 rfl kr25 rfl (by omega) (by omega)) (cwV 3 hts (wg_app (wg_c kw_1214 (wg_c kw_1215 (wg_c kw_1216 (wg_c kw_6 wg_n)))) kw_1217) rfl rfl rfl (by decide +kernel) ⟨by decide, by decide⟩) (pn_W "LatticeKeys$DsaSampler" (en_ok g) (ci := 7) (kn := 37) (fl := [(3, 18), (3, 38)]) hK hO kr23 rfl hP hD hS hA hE [] rfl rfl rfl) rfl rfl hl.1 rfl (lv_room (Nat.le_of_ble_eq_true rfl)) dDA_accepts_55 ⟨by omega, by omega⟩) (fun  u25 H locs hu25 hP hD hS => ?_)
    obtain ⟨s24, pl⟩ := u25
    obtain ⟨⟨eq25, hFc25, -⟩, hO⟩ := hu25
    have hO : okn g T s24 pl := hO
    have hP : va_P g.1 vcl ([] ++ pl) _ := hP
    have hD : va_D _ ([] ++ pl) := hD
    have hFc25 : frm (M_SA_sampleBall_0 140) s23 s24 := hFc25
    replace hR := bnd_step hR eq25
    have hF := frm_tr hF hFc25 (fun k hk => by unfold M_SA_sampleBall_0 at hk; unfold M_DA_accepts_0; omega)
    have hg25 : hgN 80 4 (s24.1 146) := by rw [hFc25 146 (by unfold M_SA_sampleBall_0; omega)]; exact hg24
    refine W.widen (k := 0) (n := 0) (by omega) (by omega) ?_
    refine lv_aload_n hx hb dDA_accepts_58 rfl (lv_at hl 0 rfl) ?_
    refine nw_get (C := "LatticeKeys$Dsa") (TT := T_DA) (N := 17) hx hb hts (wg_ft i_DA) hown hK hO k_h0 (kn := 39) (ci := 6) (fl := [(3, 16), (3, 22), (3, 37), (3, 40), (3, 97), (3, 105), (3, 114), (3, 123), (3, 131), (3, 140), (3, 141), (3, 142), (3, 143), (3, 144), (3, 145), (3, 146), (3, 147)]) rfl hP rfl 1 (by decide) (hts _ (wg_t kw_166)) (fun _ h9 => h9) (cd := (3, 22)) rfl dDA_accepts_59 (fun v27 hv27 => ?_)
    obtain ⟨r27, rfl, kr26⟩ := (show ∃ r : Nat, v27 = .ref r ∧ T r = some 22 from hv27)
    refine lv_aload_n hx hb dDA_accepts_62 rfl (lv_at hl 0 rfl) ?_
    refine nw_get (C := "LatticeKeys$Dsa") (TT := T_DA) (N := 17) hx hb hts (wg_ft i_DA) hown hK hO k_h0 (kn := 39) (ci := 6) (fl := [(3, 16), (3, 22), (3, 37), (3, 40), (3, 97), (3, 105), (3, 114), (3, 123), (3, 131), (3, 140), (3, 141), (3, 142), (3, 143), (3, 144), (3, 145), (3, 146), (3, 147)]) rfl hP rfl 9 (by decide) (hts _ (wg_t kw_174)) (fun _ h9 => h9) (cd := (3, 140)) rfl dDA_accepts_63 (fun v28 hv28 => ?_)
    obtain ⟨r28, rfl, kr27⟩ := (show ∃ r : Nat, v28 = .ref r ∧ T r = some 140 from hv28)
    refine mp_v (cx := []) (wr := []) hP hD hS hA [] [] rfl rfl rfl (by decide) (va_runV (As := [.ref r28]) (rest := []) F (N_RG_transform_8 l g _ T s24 pl hO hU r27 r28 140 kr26 kr27 rfl) (cwV 1 hts (wg_app (wg_c kw_711 (wg_c kw_637 (wg_c kw_638 (wg_c kw_4 wg_n)))) kw_639) rfl rfl rfl (by decide +kernel) ⟨by decide, by decide⟩) (pn_W "LatticeKeys$Ring" (en_ok g) (ci := 4) (kn := 22) (fl := [(1, 8380417), (1, 8), (1, 8347681), (3, 23)]) hK hO kr26 rfl hP hD hS hA hE [] rfl rfl rfl) rfl rfl hl.1 rfl (lv_room (Nat.le_of_ble_eq_true rfl)) dDA_accepts_66 ⟨by omega, by omega⟩) (fun  u26 H locs hu26 hP hD hS => ?_)
    obtain ⟨s25, pl⟩ := u26
    obtain ⟨⟨eq26, hFc26, -⟩, hO⟩ := hu26
    have hO : okn g T s25 pl := hO
    have hP : va_P g.1 vcl ([] ++ pl) _ := hP
    have hD : va_D _ ([] ++ pl) := hD
    have hFc26 : frm (M_RG_transform_8 140) s24 s25 := hFc26
    replace hR := bnd_step hR eq26
    have hF := frm_tr hF hFc26 (fun k hk => by unfold M_RG_transform_8 at hk; unfold M_DA_accepts_0; omega)
    have hg26 : hgN 80 4 (s25.1 146) := by rw [hFc26 146 (by unfold M_RG_transform_8; omega)]; exact hg25
    refine W.widen (k := 0) (n := 0) (by omega) (by omega) ?_
    refine lv_iconst (v := nI 0) hx hb dDA_accepts_69 (by decide) ?_
    refine lv_istore (lv' := [(6, .int (nI 0)), (0, .ref h0), (1, .ref st), (2, .ref pk), (3, .ref tp), (4, .int (nI len)), (5, .int cl_)]) hx hb dDA_accepts_70 hl (by decide) rfl (fun ls hl => ?_)
    have lp21 : ∀ (n21 : Nat) (i21 : Nat) (s26 : Sto) (pl : va_W) (ls : Array Slot) (H : Heap) (locs : List Loc), n21 + i21 = 4 → frm (M_DA_accepts_0) s s26 → (hgN 80 4 (s26.1 146)) → F_DA_accepts_0 pp ptp n len cl_ s = F_DA_accepts_0_L0 pp n21 i21 s26 → lv_has ls 9 [(6, .int (nI i21)), (0, .ref h0), (1, .ref st), (2, .ref pk)] → okn g T s26 pl → va_P g.1 vcl ([] ++ pl) H → va_D A ([] ++ pl) → va_S A s0.heap H locs → W p l e ({ frames := 5, cells := 0, slots := 0, locals := 152 } : Room) s0 m args below meth c H locs 0 0 (MQ below (va_Qi (fun (r : Int32) (u : (Int32 × Sto) × va_W) => (u.1 = F_DA_accepts_0 pp ptp n len cl_ s ∧ r = u.1.1 ∧ frm (M_DA_accepts_0) s u.1.2 ∧ True) ∧ okn g T u.1.2 u.2) (po g.1 vcl A (fun (u : (Int32 × Sto) × va_W) => [] ++ u.2)) A) args s0 0 0 A) (F0 m 72 ls []) := by
      intro n21
      induction n21 with
      | zero =>
        intro i21 s26 pl ls H locs hm21 hF hg27 hR hl hO hP hD hS
        refine lv_iload hx hb dDA_accepts_72 (lv_at hl 0 rfl) ?_
        refine lv_aload_n hx hb dDA_accepts_74 rfl (lv_at hl 2 rfl) ?_
        refine nw_get (C := "LatticeKeys$DsaSet") (TT := T_DS) (N := 17) hx hb hts (wg_ft i_DS) hown hK hO k_st (kn := 9) (ci := 2) (fl := [(1, 4), (1, 4), (1, 2), (1, 3), (1, 39), (1, 32), (1, 18), (1, 131072), (1, 44), (1, 6), (1, 95232), (1, 80), (1, 78), (1, 1312), (1, 2560), (1, 2336), (1, 2420)]) rfl hP rfl 1 (by decide) (hts _ (wg_t kw_305)) (fun _ h9 => h9) (cd := (1, 4)) rfl dDA_accepts_75 (fun v29 hv29 => ?_)
        obtain rfl := (show v29 = .int (nI 4) from hv29)
        refine mi_ge (tgt := 101) hx hb dDA_accepts_78 (by decide) (by omega) (by omega) (fun h22 => ?_) (fun h22 => absurd h22 (by omega))
        refine lv_aload_n hx hb dDA_accepts_101 rfl (lv_at hl 1 rfl) ?_
        refine mp_v (cx := []) (wr := []) hP hD hS hA [] [] rfl rfl rfl (by decide) (va_runV (As := []) (rest := []) F (N_DA_startChallenge l g _ T s26 pl hO hU h0 k_h0) (cwV 0 hts (wg_app (wg_c kw_1202 (wg_c kw_1204 (wg_c ks_38 (wg_c kw_5 wg_n)))) kw_1205) rfl rfl rfl (by decide +kernel) ⟨by decide, by decide⟩) (pn_W "LatticeKeys$Dsa" (en_ok g) (ci := 6) (kn := 39) (fl := [(3, 16), (3, 22), (3, 37), (3, 40), (3, 97), (3, 105), (3, 114), (3, 123), (3, 131), (3, 140), (3, 141), (3, 142), (3, 143), (3, 144), (3, 145), (3, 146), (3, 147)]) hK hO k_h0 rfl hP hD hS hA hE [] rfl rfl rfl) rfl rfl hl.1 rfl (lv_room (Nat.le_of_ble_eq_true rfl)) dDA_accepts_102 ⟨by omega, by omega⟩) (fun  u27 H locs hu27 hP hD hS => ?_)
        obtain ⟨s27, pl⟩ := u27
        obtain ⟨⟨eq27, hFc27, ⟨x27, hx_27, hb_27⟩, ⟨x28, hx_28, hb_28⟩, -⟩, hO⟩ := hu27
        have hO : okn g T s27 pl := hO
        have hP : va_P g.1 vcl ([] ++ pl) _ := hP
        have hD : va_D _ ([] ++ pl) := hD
        have hFc27 : frm (M_DA_startChallenge) s26 s27 := hFc27
        have hb_27 : x27 < 136 := hb_27
        have hb_28 : x28 = 136 := hb_28
        replace hR := bnd_step hR eq27
        have hF := frm_tr hF hFc27 (fun k hk => by unfold M_DA_startChallenge at hk; unfold M_DA_accepts_0; omega)
        have hg28 : hgN 80 4 (s27.1 146) := by rw [hFc27 146 (by unfold M_DA_startChallenge; omega)]; exact hg27
        refine W.widen (k := 0) (n := 0) (by omega) (by omega) ?_
        refine lv_iconst (v := nI 0) hx hb dDA_accepts_105 (by decide) ?_
        refine lv_istore (lv' := [(6, .int (nI 0)), (0, .ref h0), (1, .ref st), (2, .ref pk)]) hx hb dDA_accepts_106 hl (by decide) rfl (fun ls hl => ?_)
        refine lv_iconst (v := nI 0) hx hb dDA_accepts_108 (by decide) ?_
        refine lv_istore (lv' := [(7, .int (nI 0)), (6, .int (nI 0)), (0, .ref h0), (1, .ref st), (2, .ref pk)]) hx hb dDA_accepts_109 hl (by decide) rfl (fun ls hl => ?_)
        have lp22 : ∀ (n22 : Nat) (i22 : Nat) (fs21 : Nat) (s28 : Sto) (ps21 : Nat) (pl : va_W) (ls : Array Slot) (H : Heap) (locs : List Loc), n22 + i22 = 4 → (fs21 ≤ 255) → (ps21 < 136) → frm (M_DA_accepts_0) s s28 → s28.1 16 3 = nI ps21 → s28.1 16 1 = nI x28 → (hgN 80 4 (s28.1 146)) → F_DA_accepts_0 pp ptp n len cl_ s = F_DA_accepts_0_L1 pp n22 i22 fs21 s28 → lv_has ls 9 [(7, .int (nI i22)), (6, .int (nI fs21)), (0, .ref h0), (1, .ref st), (2, .ref pk)] → okn g T s28 pl → va_P g.1 vcl ([] ++ pl) H → va_D A ([] ++ pl) → va_S A s0.heap H locs → W p l e ({ frames := 5, cells := 0, slots := 0, locals := 152 } : Room) s0 m args below meth c H locs 0 0 (MQ below (va_Qi (fun (r : Int32) (u : (Int32 × Sto) × va_W) => (u.1 = F_DA_accepts_0 pp ptp n len cl_ s ∧ r = u.1.1 ∧ frm (M_DA_accepts_0) s u.1.2 ∧ True) ∧ okn g T u.1.2 u.2) (po g.1 vcl A (fun (u : (Int32 × Sto) × va_W) => [] ++ u.2)) A) args s0 0 0 A) (F0 m 111 ls []) := by
          intro n22
          induction n22 with
          | zero =>
            intro i22 fs21 s28 ps21 pl ls H locs hm22 hi21 hi22 hF hf21 hf22 hg29 hR hl hO hP hD hS
            refine lv_iload hx hb dDA_accepts_111 (lv_at hl 0 rfl) ?_
            refine lv_aload_n hx hb dDA_accepts_113 rfl (lv_at hl 3 rfl) ?_
            refine nw_get (C := "LatticeKeys$DsaSet") (TT := T_DS) (N := 17) hx hb hts (wg_ft i_DS) hown hK hO k_st (kn := 9) (ci := 2) (fl := [(1, 4), (1, 4), (1, 2), (1, 3), (1, 39), (1, 32), (1, 18), (1, 131072), (1, 44), (1, 6), (1, 95232), (1, 80), (1, 78), (1, 1312), (1, 2560), (1, 2336), (1, 2420)]) rfl hP rfl 0 (by decide) (hts _ (wg_t kw_302)) (fun _ h9 => h9) (cd := (1, 4)) rfl dDA_accepts_114 (fun v30 hv30 => ?_)
            obtain rfl := (show v30 = .int (nI 4) from hv30)
            refine mi_ge (tgt := 177) hx hb dDA_accepts_117 (by decide) (by omega) (by omega) (fun h23 => ?_) (fun h23 => absurd h23 (by omega))
            refine lv_aload_n hx hb dDA_accepts_177 rfl (lv_at hl 2 rfl) ?_
            refine nw_get (C := "LatticeKeys$Dsa") (TT := T_DA) (N := 17) hx hb hts (wg_ft i_DA) hown hK hO k_h0 (kn := 39) (ci := 6) (fl := [(3, 16), (3, 22), (3, 37), (3, 40), (3, 97), (3, 105), (3, 114), (3, 123), (3, 131), (3, 140), (3, 141), (3, 142), (3, 143), (3, 144), (3, 145), (3, 146), (3, 147)]) rfl hP rfl 0 (by decide) (hts _ (wg_t kw_165)) (fun _ h9 => h9) (cd := (3, 16)) rfl dDA_accepts_178 (fun v31 hv31 => ?_)
            obtain ⟨r29, rfl, kr28⟩ := (show ∃ r : Nat, v31 = .ref r ∧ T r = some 16 from hv31)
            refine mp_v (cx := []) (wr := []) hP hD hS hA [] [] rfl rfl rfl (by decide) (va_runV (As := []) (rest := []) F (N_SP_finish l g _ T s28 pl hO hU r29 16 17 ps21 x28 kr28 rfl rfl hf21 hf22 (by omega) (by omega)) (cwV 0 hts (wg_app (wg_c kw_672 (wg_c kw_611 (wg_c kw_612 (wg_c kw_2 wg_n)))) kw_613) rfl rfl rfl (by decide +kernel) ⟨by decide, by decide⟩) (pn_W "LatticeKeys$Sponge" (en_ok g) (ci := 3) (kn := 16) (fl := [(3, 17), (0, 0), (0, 0), (0, 0)]) hK hO kr28 rfl hP hD hS hA hE [] rfl rfl rfl) rfl rfl hl.1 rfl (lv_room (Nat.le_of_ble_eq_true rfl)) dDA_accepts_181 ⟨by omega, by omega⟩) (fun  u28 H locs hu28 hP hD hS => ?_)
            obtain ⟨s29, pl⟩ := u28
            obtain ⟨⟨eq28, hFc28, ⟨x30, hx_30, hb_30⟩, ⟨x31, hx_31, hb_31⟩, -⟩, hO⟩ := hu28
            have hO : okn g T s29 pl := hO
            have hP : va_P g.1 vcl ([] ++ pl) _ := hP
            have hD : va_D _ ([] ++ pl) := hD
            have hFc28 : frm (M_SP_finish 16) s28 s29 := hFc28
            have hb_30 : x30 = x28 := hb_30
            have hb_31 : x31 = x28 := hb_31
            replace hR := bnd_step hR eq28
            have hF := frm_tr hF hFc28 (fun k hk => by unfold M_SP_finish at hk; unfold M_DA_accepts_0; omega)
            have hg30 : hgN 80 4 (s29.1 146) := by rw [hFc28 146 (by unfold M_SP_finish; omega)]; exact hg29
            refine W.widen (k := 0) (n := 0) (by omega) (by omega) ?_
            refine lv_aload_n hx hb dDA_accepts_184 rfl (lv_at hl 2 rfl) ?_
            refine nw_get (C := "LatticeKeys$Dsa") (TT := T_DA) (N := 17) hx hb hts (wg_ft i_DA) hown hK hO k_h0 (kn := 39) (ci := 6) (fl := [(3, 16), (3, 22), (3, 37), (3, 40), (3, 97), (3, 105), (3, 114), (3, 123), (3, 131), (3, 140), (3, 141), (3, 142), (3, 143), (3, 144), (3, 145), (3, 146), (3, 147)]) rfl hP rfl 0 (by decide) (hts _ (wg_t kw_165)) (fun _ h9 => h9) (cd := (3, 16)) rfl dDA_accepts_185 (fun v32 hv32 => ?_)
            obtain ⟨r30, rfl, kr29⟩ := (show ∃ r : Nat, v32 = .ref r ∧ T r = some 16 from hv32)
            refine lv_aload_n hx hb dDA_accepts_188 rfl (lv_at hl 2 rfl) ?_
            refine nw_get (C := "LatticeKeys$Dsa") (TT := T_DA) (N := 17) hx hb hts (wg_ft i_DA) hown hK hO k_h0 (kn := 39) (ci := 6) (fl := [(3, 16), (3, 22), (3, 37), (3, 40), (3, 97), (3, 105), (3, 114), (3, 123), (3, 131), (3, 140), (3, 141), (3, 142), (3, 143), (3, 144), (3, 145), (3, 146), (3, 147)]) rfl hP rfl 14 (by decide) (hts _ (wg_t kw_179)) (fun _ h9 => h9) (cd := (3, 145)) rfl dDA_accepts_189 (fun v33 hv33 => ?_)
            obtain ⟨r31, rfl, kr30⟩ := (show ∃ r : Nat, v33 = .ref r ∧ T r = some 145 from hv33)
            refine lv_iconst (v := nI 0) hx hb dDA_accepts_192 (by decide) ?_
            refine lv_aload_n hx hb dDA_accepts_193 rfl (lv_at hl 3 rfl) ?_
            refine nw_get (C := "LatticeKeys$DsaSet") (TT := T_DS) (N := 17) hx hb hts (wg_ft i_DS) hown hK hO k_st (kn := 9) (ci := 2) (fl := [(1, 4), (1, 4), (1, 2), (1, 3), (1, 39), (1, 32), (1, 18), (1, 131072), (1, 44), (1, 6), (1, 95232), (1, 80), (1, 78), (1, 1312), (1, 2560), (1, 2336), (1, 2420)]) rfl hP rfl 5 (by decide) (hts _ (wg_t kw_315)) (fun _ h9 => h9) (cd := (1, 32)) rfl dDA_accepts_194 (fun v34 hv34 => ?_)
            obtain rfl := (show v34 = .int (nI 32) from hv34)
            refine mp_v (cx := []) (wr := []) hP hD hS hA [] [] rfl rfl rfl (by decide) (va_runV (As := [.ref r31, .int (nI 0), .int (nI 32)]) (rest := []) F (N_SP_squeeze l g _ T s29 pl hO hU r30 r31 16 17 145 64 0 32 x30 x31 kr29 rfl rfl kr30 rfl hx_30 hx_31 (by omega) (by omega) (by omega) (by omega)) (cwV 3 hts (wg_app (wg_c kw_673 (wg_c kw_615 (wg_c kw_616 (wg_c kw_2 wg_n)))) kw_617) rfl rfl rfl (by decide +kernel) ⟨by decide, by decide⟩) (pn_W "LatticeKeys$Sponge" (en_ok g) (ci := 3) (kn := 16) (fl := [(3, 17), (0, 0), (0, 0), (0, 0)]) hK hO kr29 rfl hP hD hS hA hE [] rfl rfl rfl) rfl rfl hl.1 rfl (lv_room (Nat.le_of_ble_eq_true rfl)) dDA_accepts_197 ⟨by omega, by omega⟩) (fun  u29 H locs hu29 hP hD hS => ?_)
            obtain ⟨s30, pl⟩ := u29
            obtain ⟨⟨eq29, hFc29, ⟨x33, hx_33, hb_33⟩, ⟨x34, hx_34, hb_34⟩, -⟩, hO⟩ := hu29
            have hO : okn g T s30 pl := hO
            have hP : va_P g.1 vcl ([] ++ pl) _ := hP
            have hD : va_D _ ([] ++ pl) := hD
            have hFc29 : frm (M_SP_squeeze 16 145) s29 s30 := hFc29
            have hb_33 : x33 ≤ x31 := hb_33
            have hb_34 : x34 = x31 := hb_34
            replace hR := bnd_step hR eq29
            have hF := frm_tr hF hFc29 (fun k hk => by unfold M_SP_squeeze at hk; unfold M_DA_accepts_0; omega)
            have hg31 : hgN 80 4 (s30.1 146) := by rw [hFc29 146 (by unfold M_SP_squeeze; omega)]; exact hg30
            refine W.widen (k := 0) (n := 0) (by omega) (by omega) ?_
            refine lv_aload_n hx hb dDA_accepts_200 rfl (lv_at hl 2 rfl) ?_
            refine lv_aload_n hx hb dDA_accepts_201 rfl (lv_at hl 3 rfl) ?_
            refine mp_i (cx := []) (wr := []) hP hD hS hA [] [] rfl rfl rfl (by decide) (va_runV (As := [.ref st]) (rest := []) F (N_DA_challengesAgree_0 l g _ T s30 pl hO hU h0 st k_h0 k_st) (cwV 1 hts (wg_app (wg_c kw_1287 (wg_c kw_1289 (wg_c ks_49 (wg_c kw_5 wg_n)))) kw_1290) rfl rfl rfl (by decide +kernel) ⟨by decide, by decide⟩) (pn_W "LatticeKeys$Dsa" (en_ok g) (ci := 6) (kn := 39) (fl := [(3, 16), (3, 22), (3, 37), (3, 40), (3, 97), (3, 105), (3, 114), (3, 123), (3, 131), (3, 140), (3, 141), (3, 142), (3, 143), (3, 144), (3, 145), (3, 146), (3, 147)]) hK hO k_h0 rfl hP hD hS hA hE [] rfl rfl rfl) rfl rfl hl.1 rfl (lv_room (Nat.le_of_ble_eq_true rfl)) dDA_accepts_202 ⟨by omega, by omega⟩) (fun r32 u30 H locs hu30 hP hD hS => ?_)
            obtain ⟨q22, pl⟩ := u30
            obtain ⟨⟨eq30, rfl, hFc30, ⟨x36, hx_36, hb_36⟩, -⟩, hO⟩ := hu30
            have hO : okn g T q22.2 pl := hO
            have hP : va_P g.1 vcl ([] ++ pl) _ := hP
            have hD : va_D _ ([] ++ pl) := hD
            have hFc30 : frm (M_DA_challengesAgree_0) s30 q22.2 := hFc30
            have hb_36 : x36 < 2 := hb_36
            replace hR := bnd_step hR eq30
            have hF := frm_tr hF hFc30 (fun k hk => by unfold M_DA_challengesAgree_0 at hk; unfold M_DA_accepts_0; omega)
            have hf23 : q22.2.1 16 3 = nI x33 := fc_F hx_33 hFc30 (by unfold M_DA_challengesAgree_0; omega)
            have hf24 : q22.2.1 16 1 = nI x34 := fc_F hx_34 hFc30 (by unfold M_DA_challengesAgree_0; omega)
            have hg32 : hgN 80 4 (q22.2.1 146) := by rw [hFc30 146 (by unfold M_DA_challengesAgree_0; omega)]; exact hg31
            obtain ⟨z21, ez21, hz21, hz22⟩ := cl_of (b := 2147483648) hx_36 (by omega) (by decide)
            replace hR := bnd_step hR ez21
            refine mi_as hz21 ?_
            refine W.widen (k := 0) (n := 0) (by omega) (by omega) ?_
            exact mp_zret hx hb hr hlk (nar_2 (by omega)) hP hD hS ((nI z21, q22.2), pl) ⟨⟨hR.symm, rfl, hF, trivial⟩, hO⟩ [] rfl rfl rfl (by omega) (by omega) dDA_accepts_205
          | succ n22 ih22 =>
            intro i22 fs21 s28 ps21 pl ls H locs hm22 hi21 hi22 hF hf25 hf26 hg29 hR hl hO hP hD hS
            refine lv_iload hx hb dDA_accepts_111 (lv_at hl 0 rfl) ?_
            refine lv_aload_n hx hb dDA_accepts_113 rfl (lv_at hl 3 rfl) ?_
            refine nw_get (C := "LatticeKeys$DsaSet") (TT := T_DS) (N := 17) hx hb hts (wg_ft i_DS) hown hK hO k_st (kn := 9) (ci := 2) (fl := [(1, 4), (1, 4), (1, 2), (1, 3), (1, 39), (1, 32), (1, 18), (1, 131072), (1, 44), (1, 6), (1, 95232), (1, 80), (1, 78), (1, 1312), (1, 2560), (1, 2336), (1, 2420)]) rfl hP rfl 0 (by decide) (hts _ (wg_t kw_302)) (fun _ h9 => h9) (cd := (1, 4)) rfl dDA_accepts_114 (fun v35 hv35 => ?_)
            obtain rfl := (show v35 = .int (nI 4) from hv35)
            refine mi_ge (tgt := 177) hx hb dDA_accepts_117 (by decide) (by omega) (by omega) (fun h24 => absurd h24 (by omega)) (fun h24 => ?_)
            refine lv_aload_n hx hb dDA_accepts_120 rfl (lv_at hl 2 rfl) ?_
            refine nw_get (C := "LatticeKeys$Dsa") (TT := T_DA) (N := 17) hx hb hts (wg_ft i_DA) hown hK hO k_h0 (kn := 39) (ci := 6) (fl := [(3, 16), (3, 22), (3, 37), (3, 40), (3, 97), (3, 105), (3, 114), (3, 123), (3, 131), (3, 140), (3, 141), (3, 142), (3, 143), (3, 144), (3, 145), (3, 146), (3, 147)]) rfl hP rfl 15 (by decide) (hts _ (wg_t kw_180)) (fun _ h9 => h9) (cd := (3, 146)) rfl dDA_accepts_121 (fun v36 hv36 => ?_)
            obtain ⟨r33, rfl, kr31⟩ := (show ∃ r : Nat, v36 = .ref r ∧ T r = some 146 from hv36)
            refine lv_aload_n hx hb dDA_accepts_124 rfl (lv_at hl 3 rfl) ?_
            refine nw_get (C := "LatticeKeys$DsaSet") (TT := T_DS) (N := 17) hx hb hts (wg_ft i_DS) hown hK hO k_st (kn := 9) (ci := 2) (fl := [(1, 4), (1, 4), (1, 2), (1, 3), (1, 39), (1, 32), (1, 18), (1, 131072), (1, 44), (1, 6), (1, 95232), (1, 80), (1, 78), (1, 1312), (1, 2560), (1, 2336), (1, 2420)]) rfl hP rfl 11 (by decide) (hts _ (wg_t kw_327)) (fun _ h9 => h9) (cd := (1, 80)) rfl dDA_accepts_125 (fun v37 hv37 => ?_)
            obtain rfl := (show v37 = .int (nI 80) from hv37)
            refine lv_iload hx hb dDA_accepts_128 (lv_at hl 0 rfl) ?_
            refine mi_iadd hx hb dDA_accepts_130 ?_
            refine nw_bald hx hb hK hO kr31 (k := 146) rfl hP (by omega) (by omega) dDA_accepts_131 ?_
            refine lv_sipush (v := nI 255) hx hb dDA_accepts_132 (by decide) ?_
            refine mi_iandT hx hb 8 dDA_accepts_135 (by decide) (by decide) (fun z22 ez22 hz23 => ?_)
            have hz23 : z22 < 256 := hz23
            replace hR := bnd_step hR ez22
            have hzlz22 : z22 ≤ 80 := by rw [ez22]; exact hg29 i22 (by omega)
            refine lv_istore (lv' := [(8, .int (nI z22)), (7, .int (nI i22)), (6, .int (nI fs21)), (0, .ref h0), (1, .ref st), (2, .ref pk)]) hx hb dDA_accepts_136 hl (by decide) rfl (fun ls hl => ?_)
            refine lv_aload_n hx hb dDA_accepts_138 rfl (lv_at hl 3 rfl) ?_
            refine lv_aload_n hx hb dDA_accepts_139 rfl (lv_at hl 4 rfl) ?_
            refine lv_aload_n hx hb dDA_accepts_140 rfl (lv_at hl 5 rfl) ?_
            refine lv_iload hx hb dDA_accepts_141 (lv_at hl 1 rfl) ?_
            refine mp_v (cx := []) (wr := []) hP hD hS hA [] [] rfl rfl rfl (by decide) (va_runV (As := [.ref st, .ref pk, .int (nI i22)]) (rest := []) F (N_DA_rebuildRow_0 l g _ T s28 pl hO hU h0 st pk pp i22 k_h0 k_st k_pk n_pk (by omega)) (cwV 3 hts (wg_app (wg_c kw_1273 (wg_c kw_1275 (wg_c ks_47 (wg_c kw_5 wg_n)))) kw_1276) rfl rfl rfl (by decide +kernel) ⟨by decide, by decide⟩) (pn_W "LatticeKeys$Dsa" (en_ok g) (ci := 6) (kn := 39) (fl := [(3, 16), (3, 22), (3, 37), (3, 40), (3, 97), (3, 105), (3, 114), (3, 123), (3, 131), (3, 140), (3, 141), (3, 142), (3, 143), (3, 144), (3, 145), (3, 146), (3, 147)]) hK hO k_h0 rfl hP hD hS hA hE [] rfl rfl rfl) rfl rfl hl.1 rfl (lv_room (Nat.le_of_ble_eq_true rfl)) dDA_accepts_143 ⟨by omega, by omega⟩) (fun  u31 H locs hu31 hP hD hS => ?_)
            obtain ⟨s31, pl⟩ := u31
            obtain ⟨⟨eq31, hFc31, -⟩, hO⟩ := hu31
            have hO : okn g T s31 pl := hO
            have hP : va_P g.1 vcl ([] ++ pl) _ := hP
            have hD : va_D _ ([] ++ pl) := hD
            have hFc31 : frm (M_DA_rebuildRow_0) s28 s31 := hFc31
            replace hR := bnd_step hR eq31
            have hF := frm_tr hF hFc31 (fun k hk => by unfold M_DA_rebuildRow_0 at hk; unfold M_DA_accepts_0; omega)
            have hf27 : s31.1 16 3 = nI ps21 := fc_F hf25 hFc31 (by unfold M_DA_rebuildRow_0; omega)
            have hf28 : s31.1 16 1 = nI x28 := fc_F hf26 hFc31 (by unfold M_DA_rebuildRow_0; omega)
            have hg33 : hgN 80 4 (s31.1 146) := by rw [hFc31 146 (by unfold M_DA_rebuildRow_0; omega)]; exact hg29
            refine W.widen (k := 0) (n := 0) (by omega) (by omega) ?_
            refine lv_aload_n hx hb dDA_accepts_146 rfl (lv_at hl 3 rfl) ?_
            refine lv_aload_n hx hb dDA_accepts_147 rfl (lv_at hl 4 rfl) ?_
            refine lv_aload_n hx hb dDA_accepts_148 rfl (lv_at hl 3 rfl) ?_
            refine nw_get (C := "LatticeKeys$Dsa") (TT := T_DA) (N := 17) hx hb hts (wg_ft i_DA) hown hK hO k_h0 (kn := 39) (ci := 6) (fl := [(3, 16), (3, 22), (3, 37), (3, 40), (3, 97), (3, 105), (3, 114), (3, 123), (3, 131), (3, 140), (3, 141), (3, 142), (3, 143), (3, 144), (3, 145), (3, 146), (3, 147)]) rfl hP rfl 8 (by decide) (hts _ (wg_t kw_173)) (fun _ h9 => h9) (cd := (3, 131)) rfl dDA_accepts_149 (fun v38 hv38 => ?_)
            obtain ⟨r34, rfl, kr32⟩ := (show ∃ r : Nat, v38 = .ref r ∧ T r = some 131 from hv38)
            refine lv_iload hx hb dDA_accepts_152 (lv_at hl 1 rfl) ?_
            refine nw_aald3 hx hb hK hO kr32 (k := 131) (b := 132) rfl hP (by omega) (by omega) dDA_accepts_154 (fun r35 kr33 => ?_)
            have hn21 : nsp (132 + i22) = (0, 256, []) := rows_ok 132 8 (by decide) _ (by omega)
            refine lv_iload hx hb dDA_accepts_155 (lv_at hl 2 rfl) ?_
            refine lv_iload hx hb dDA_accepts_157 (lv_at hl 0 rfl) ?_
            refine mp_v (cx := []) (wr := []) hP hD hS hA [] [] rfl rfl rfl (by decide) (va_runV (As := [.ref st, .ref r35, .int (nI fs21), .int (nI z22)]) (rest := []) F (N_DA_useHints_0 l g _ T s31 pl hO hU h0 st r35 (132 + i22) fs21 z22 k_h0 k_st kr33 hn21 (by omega) (by omega)) (cwV 4 hts (wg_app (wg_c kw_1277 (wg_c kw_1279 (wg_c ks_48 (wg_c kw_5 wg_n)))) kw_1280) rfl rfl rfl (by decide +kernel) ⟨by decide, by decide⟩) (pn_W "LatticeKeys$Dsa" (en_ok g) (ci := 6) (kn := 39) (fl := [(3, 16), (3, 22), (3, 37), (3, 40), (3, 97), (3, 105), (3, 114), (3, 123), (3, 131), (3, 140), (3, 141), (3, 142), (3, 143), (3, 144), (3, 145), (3, 146), (3, 147)]) hK hO k_h0 rfl hP hD hS hA hE [] rfl rfl rfl) rfl rfl hl.1 rfl (lv_room (Nat.le_of_ble_eq_true rfl)) dDA_accepts_159 ⟨by omega, by omega⟩) (fun  u32 H locs hu32 hP hD hS => ?_)
            obtain ⟨s32, pl⟩ := u32
            obtain ⟨⟨eq32, hFc32, -⟩, hO⟩ := hu32
            have hO : okn g T s32 pl := hO
            have hP : va_P g.1 vcl ([] ++ pl) _ := hP
            have hD : va_D _ ([] ++ pl) := hD
            have hFc32 : frm (M_DA_useHints_0) s31 s32 := hFc32
            replace hR := bnd_step hR eq32
            have hF := frm_tr hF hFc32 (fun k hk => by unfold M_DA_useHints_0 at hk; unfold M_DA_accepts_0; omega)
            have hf29 : s32.1 16 3 = nI ps21 := fc_F hf27 hFc32 (by unfold M_DA_useHints_0; omega)
            have hf30 : s32.1 16 1 = nI x28 := fc_F hf28 hFc32 (by unfold M_DA_useHints_0; omega)
            have hg34 : hgN 80 4 (s32.1 146) := by rw [hFc32 146 (by unfold M_DA_useHints_0; omega)]; exact hg33
            refine W.widen (k := 0) (n := 0) (by omega) (by omega) ?_
            refine lv_aload_n hx hb dDA_accepts_162 rfl (lv_at hl 3 rfl) ?_
            refine lv_aload_n hx hb dDA_accepts_163 rfl (lv_at hl 4 rfl) ?_
            refine mp_v (cx := []) (wr := []) hP hD hS hA [] [] rfl rfl rfl (by decide) (va_runV (As := [.ref st]) (rest := []) F (N_DA_absorbHigh_0 l g _ T s32 pl hO hU h0 st ps21 x28 k_h0 k_st hf29 hf30 (by omega) (by omega)) (cwV 1 hts (wg_app (wg_c kw_1210 (wg_c kw_1212 (wg_c ks_39 (wg_c kw_5 wg_n)))) kw_1213) rfl rfl rfl (by decide +kernel) ⟨by decide, by decide⟩) (pn_W "LatticeKeys$Dsa" (en_ok g) (ci := 6) (kn := 39) (fl := [(3, 16), (3, 22), (3, 37), (3, 40), (3, 97), (3, 105), (3, 114), (3, 123), (3, 131), (3, 140), (3, 141), (3, 142), (3, 143), (3, 144), (3, 145), (3, 146), (3, 147)]) hK hO k_h0 rfl hP hD hS hA hE [] rfl rfl rfl) rfl rfl hl.1 rfl (lv_room (Nat.le_of_ble_eq_true rfl)) dDA_accepts_164 ⟨by omega, by omega⟩) (fun  u33 H locs hu33 hP hD hS => ?_)
            obtain ⟨s33, pl⟩ := u33
            obtain ⟨⟨eq33, hFc33, ⟨x39, hx_39, hb_39⟩, ⟨x40, hx_40, hb_40⟩, -⟩, hO⟩ := hu33
            have hO : okn g T s33 pl := hO
            have hP : va_P g.1 vcl ([] ++ pl) _ := hP
            have hD : va_D _ ([] ++ pl) := hD
            have hFc33 : frm (M_DA_absorbHigh_0) s32 s33 := hFc33
            have hb_39 : x39 < 136 := hb_39
            have hb_40 : x40 = 136 := hb_40
            replace hR := bnd_step hR eq33
            have hF := frm_tr hF hFc33 (fun k hk => by unfold M_DA_absorbHigh_0 at hk; unfold M_DA_accepts_0; omega)
            have hg35 : hgN 80 4 (s33.1 146) := by rw [hFc33 146 (by unfold M_DA_absorbHigh_0; omega)]; exact hg34
            refine W.widen (k := 0) (n := 0) (by omega) (by omega) ?_
            refine lv_iload hx hb dDA_accepts_167 (lv_at hl 0 rfl) ?_
            refine lv_istore (lv' := [(6, .int (nI z22)), (8, .int (nI z22)), (7, .int (nI i22)), (0, .ref h0), (1, .ref st), (2, .ref pk)]) hx hb dDA_accepts_169 hl (by decide) rfl (fun ls hl => ?_)
            refine mi_iinc (k := 2) (x := i22) (d := 1) (y := i22 + 1) (lv' := [(7, .int (nI (i22 + 1))), (6, .int (nI z22)), (8, .int (nI z22)), (0, .ref h0), (1, .ref st), (2, .ref pk)]) hx hb dDA_accepts_171 hl rfl (by decide) rfl (by decide) rfl (fun ls hl => ?_)
            refine lv_goto (tgt := 111) hx hb dDA_accepts_174 (by decide) ?_
            exact ih22 (i22 + 1) z22 s33 x39 pl ls H locs (by omega) (by omega) (by omega) hF hx_39 (by have h9 := hx_40; rw [show x40 = x28 by omega] at h9; exact h9) hg35 hR (lv_sub hl [0, 1, 3, 4, 5] rfl) hO hP hD hS
        exact lp22 4 0 0 s27 x27 pl ls _ _ (by omega) (by omega) (by omega) hF hx_27 hx_28 hg28 hR (lv_sub hl [0, 1, 2, 3, 4] rfl) hO hP hD hS
      | succ n21 ih21 =>
        intro i21 s26 pl ls H locs hm21 hF hg27 hR hl hO hP hD hS
        refine lv_iload hx hb dDA_accepts_72 (lv_at hl 0 rfl) ?_
        refine lv_aload_n hx hb dDA_accepts_74 rfl (lv_at hl 2 rfl) ?_
        refine nw_get (C := "LatticeKeys$DsaSet") (TT := T_DS) (N := 17) hx hb hts (wg_ft i_DS) hown hK hO k_st (kn := 9) (ci := 2) (fl := [(1, 4), (1, 4), (1, 2), (1, 3), (1, 39), (1, 32), (1, 18), (1, 131072), (1, 44), (1, 6), (1, 95232), (1, 80), (1, 78), (1, 1312), (1, 2560), (1, 2336), (1, 2420)]) rfl hP rfl 1 (by decide) (hts _ (wg_t kw_305)) (fun _ h9 => h9) (cd := (1, 4)) rfl dDA_accepts_75 (fun v39 hv39 => ?_)
        obtain rfl := (show v39 = .int (nI 4) from hv39)
        refine mi_ge (tgt := 101) hx hb dDA_accepts_78 (by decide) (by omega) (by omega) (fun h25 => absurd h25 (by omega)) (fun h25 => ?_)
        refine lv_aload_n hx hb dDA_accepts_81 rfl (lv_at hl 1 rfl) ?_
        refine nw_get (C := "LatticeKeys$Dsa") (TT := T_DA) (N := 17) hx hb hts (wg_ft i_DA) hown hK hO k_h0 (kn := 39) (ci := 6) (fl := [(3, 16), (3, 22), (3, 37), (3, 40), (3, 97), (3, 105), (3, 114), (3, 123), (3, 131), (3, 140), (3, 141), (3, 142), (3, 143), (3, 144), (3, 145), (3, 146), (3, 147)]) rfl hP rfl 1 (by decide) (hts _ (wg_t kw_166)) (fun _ h9 => h9) (cd := (3, 22)) rfl dDA_accepts_82 (fun v40 hv40 => ?_)
        obtain ⟨r36, rfl, kr34⟩ := (show ∃ r : Nat, v40 = .ref r ∧ T r = some 22 from hv40)
        refine lv_aload_n hx hb dDA_accepts_85 rfl (lv_at hl 1 rfl) ?_
        refine nw_get (C := "LatticeKeys$Dsa") (TT := T_DA) (N := 17) hx hb hts (wg_ft i_DA) hown hK hO k_h0 (kn := 39) (ci := 6) (fl := [(3, 16), (3, 22), (3, 37), (3, 40), (3, 97), (3, 105), (3, 114), (3, 123), (3, 131), (3, 140), (3, 141), (3, 142), (3, 143), (3, 144), (3, 145), (3, 146), (3, 147)]) rfl hP rfl 7 (by decide) (hts _ (wg_t kw_172)) (fun _ h9 => h9) (cd := (3, 123)) rfl dDA_accepts_86 (fun v41 hv41 => ?_)
        obtain ⟨r37, rfl, kr35⟩ := (show ∃ r : Nat, v41 = .ref r ∧ T r = some 123 from hv41)
        refine lv_iload hx hb dDA_accepts_89 (lv_at hl 0 rfl) ?_
        refine nw_aald3 hx hb hK hO kr35 (k := 123) (b := 124) rfl hP (by omega) (by omega) dDA_accepts_91 (fun r38 kr36 => ?_)
        have hn22 : nsp (124 + i21) = (0, 256, []) := rows_ok 124 7 (by decide) _ (by omega)
        refine mp_v (cx := []) (wr := []) hP hD hS hA [] [] rfl rfl rfl (by decide) (va_runV (As := [.ref r38]) (rest := []) F (N_RG_transform_8 l g _ T s26 pl hO hU r36 r38 (124 + i21) kr34 kr36 hn22) (cwV 1 hts (wg_app (wg_c kw_711 (wg_c kw_637 (wg_c kw_638 (wg_c kw_4 wg_n)))) kw_639) rfl rfl rfl (by decide +kernel) ⟨by decide, by decide⟩) (pn_W "LatticeKeys$Ring" (en_ok g) (ci := 4) (kn := 22) (fl := [(1, 8380417), (1, 8), (1, 8347681), (3, 23)]) hK hO kr34 rfl hP hD hS hA hE [] rfl rfl rfl) rfl rfl hl.1 rfl (lv_room (Nat.le_of_ble_eq_true rfl)) dDA_accepts_92 ⟨by omega, by omega⟩) (fun  u34 H locs hu34 hP hD hS => ?_)
        obtain ⟨s34, pl⟩ := u34
        obtain ⟨⟨eq34, hFc34, -⟩, hO⟩ := hu34
        have hO : okn g T s34 pl := hO
        have hP : va_P g.1 vcl ([] ++ pl) _ := hP
        have hD : va_D _ ([] ++ pl) := hD
        have hFc34 : frm (M_RG_transform_8 (124 + i21)) s26 s34 := hFc34
        replace hR := bnd_step hR eq34
        have hF := frm_tr hF hFc34 (fun k hk => by unfold M_RG_transform_8 at hk; unfold M_DA_accepts_0; omega)
        have hg36 : hgN 80 4 (s34.1 146) := by rw [hFc34 146 (by unfold M_RG_transform_8; omega)]; exact hg27
        refine W.widen (k := 0) (n := 0) (by omega) (by omega) ?_
        refine mi_iinc (k := 0) (x := i21) (d := 1) (y := i21 + 1) (lv' := [(6, .int (nI (i21 + 1))), (0, .ref h0), (1, .ref st), (2, .ref pk)]) hx hb dDA_accepts_95 hl rfl (by decide) rfl (by decide) rfl (fun ls hl => ?_)
        refine lv_goto (tgt := 72) hx hb dDA_accepts_98 (by decide) ?_
        exact ih21 (i21 + 1) s34 pl ls H locs (by omega) hF hg36 hR (lv_sub hl [0, 1, 2, 3] rfl) hO hP hD hS
    exact lp21 4 0 s25 pl ls _ _ (by omega) hF hg26 hR (lv_sub hl [0, 1, 2, 3] rfl) hO hP hD hS
  · replace hR := hR.trans (if_pos h21)
    refine lv_iconst (v := nI 0) hx hb dDA_accepts_9 (by decide) ?_
    exact mp_zret hx hb hr hlk rfl hP hD hS ((nI 0, q21.2), pl) ⟨⟨hR.symm, rfl, hF, trivial⟩, hO⟩ [] rfl rfl rfl (by omega) (by omega) dDA_accepts_10
def M_DA_accepts_1 (k : Nat) : Prop := (115 ≤ k ∧ k < 123) ∨ (124 ≤ k ∧ k < 131) ∨ (132 ≤ k ∧ k < 140) ∨ (41 ≤ k ∧ k < 97) ∨ k = 140 ∨ k = 141 ∨ k = 143 ∨ k = 144 ∨ k = 145 ∨ k = 146 ∨ k = 147 ∨ k = 16 ∨ k = 18 ∨ (0 : Nat) = 1
noncomputable def F_DA_accepts_1_L1 (pp : Nat) : Nat → Nat → Nat → Sto → Int32 × Sto
  | 0, i22, fs21, s28 => bnd (F_SP_finish 16 17 s28) fun s29 => bnd (F_SP_squeeze 16 17 145 64 0 48 s29) fun s30 => bnd (F_DA_challengesAgree_1  s30) fun q22 => bnd (q22.1.toNatClampNeg) fun z21 => (nI z21, q22.2)
  | n22 + 1, i22, fs21, s28 => bnd (((s28.1 146 (55 + i22)) &&& nI 255).toNatClampNeg) fun z22 => bnd (F_DA_rebuildRow_1 pp i22 s28) fun s31 => bnd (F_DA_useHints_1 (132 + i22) fs21 z22 s31) fun s32 => bnd (F_DA_absorbHigh_1  s32) fun s33 => F_DA_accepts_1_L1 pp n22 (i22 + 1) z22 s33
noncomputable def F_DA_accepts_1_L0 (pp : Nat) : Nat → Nat → Sto → Int32 × Sto
  | 0, i21, s26 => bnd (F_DA_startChallenge  s26) fun s27 => F_DA_accepts_1_L1 pp 6 0 0 s27
  | n21 + 1, i21, s26 => bnd (F_RG_transform_8 (124 + i21) s26) fun s34 => F_DA_accepts_1_L0 pp n21 (i21 + 1) s34
noncomputable def F_DA_accepts_1 (pp : Nat) (ptp : Nat) (n : Nat) (len : Nat) (cl_ : Int32) (s : Sto) : Int32 × Sto := bnd (F_DA_readSignature_1 ptp n s) fun q21 => if (q21.1) = 0 then (nI 0, q21.2) else bnd (F_DA_digestOf pp 1952 q21.2) fun s21 => bnd (F_DA_digestMessage ptp n 3309 len cl_ s21) fun s22 => bnd (F_SA_expandMatrix_1 pp 1952 s22) fun s23 => bnd (F_SA_sampleBall_1 140 144 64 s23) fun s24 => bnd (F_RG_transform_8 140 s24) fun s25 => F_DA_accepts_1_L0 pp 5 0 s25
set_option maxHeartbeats 8000000 in
set_option maxRecDepth 100000 in
theorem N_DA_accepts_1 (l : Launch) (g : Gd) (sz : Nat) (T : TyN) (s : Sto) (pl : va_W) (hO : okn g T s pl) (hU : inj T) (h0 st pk tp : Nat) (pp : Nat) (ptp : Nat) (n : Nat) (len : Nat) (cl_ : Int32) (k_h0 : T h0 = some 39) (k_st : T st = some 10) (k_pk : T pk = some pp) (n_pk : nsp pp = (1, 1952, [])) (k_tp : T tp = some ptp) (n_tp : nsp ptp = (1, n, [])) (h1 : 3309 ≤ len) (h3 : len ≤ n) (h2 : n < 65536)  : Met l y_DA_accepts w_DA_accepts ({ frames := 5, cells := 0, slots := 0, locals := 152 } : Room) (va_Pc [.ref h0, .ref st, .ref pk, .ref tp, .int (nI len), .int cl_] (pr (en g) g.1 vcl sz ([] ++ pl))) (va_Qi (fun (r : Int32) (u : (Int32 × Sto) × va_W) => (u.1 = F_DA_accepts_1 pp ptp n len cl_ s ∧ r = u.1.1 ∧ frm (M_DA_accepts_1) s u.1.2 ∧ True) ∧ okn g T u.1.2 u.2) (po g.1 vcl (va_A ([] ++ pl) sz) (fun (u : (Int32 × Sto) × va_W) => [] ++ u.2)) (va_A ([] ++ pl) sz)) 0 0 (va_A ([] ++ pl) sz) := by
  refine mc_entry (cc := c_DA_accepts) (maxL := 9) (ret := (some .boolean)) (by decide) rfl (Nat.le_of_ble_eq_true rfl) ?_
  intro p e s0 m args below meth c ls F hr hlk hnm hsz hP hD hE hA hl
  obtain ⟨hx, hb, hml, hown, hts⟩ := id F
  have hK := hE.1
  generalize va_A ([] ++ pl) sz = A at hD hE hA ⊢
  have hS : va_S A s0.heap s0.heap [] := va_S.rf
  have hl : lv_has ls 9 [(0, .ref h0), (1, .ref st), (2, .ref pk), (3, .ref tp), (4, .int (nI len)), (5, .int cl_)] := hl
  have hR : F_DA_accepts_1 pp ptp n len cl_ s = F_DA_accepts_1 pp ptp n len cl_ s := rfl
  have hF : frm (M_DA_accepts_1) s s := frm_rf
  refine lv_aload_n hx hb dDA_accepts_0 rfl (lv_at hl 0 rfl) ?_
  refine lv_aload_n hx hb dDA_accepts_1 rfl (lv_at hl 1 rfl) ?_
  refine lv_aload_n hx hb dDA_accepts_2 rfl (lv_at hl 3 rfl) ?_
  refine mp_i (cx := []) (wr := []) hP hD hS hA [] [] rfl rfl rfl (by decide) (va_runV (As := [.ref st, .ref tp]) (rest := []) F (N_DA_readSignature_1 l g _ T s pl hO hU h0 st tp ptp n k_h0 k_st k_tp n_tp (by omega) (by omega)) (cwV 2 hts (wg_app (wg_c kw_1265 (wg_c kw_1267 (wg_c ks_45 (wg_c kw_5 wg_n)))) kw_1268) rfl rfl rfl (by decide +kernel) ⟨by decide, by decide⟩) (pn_W "LatticeKeys$Dsa" (en_ok g) (ci := 6) (kn := 39) (fl := [(3, 16), (3, 22), (3, 37), (3, 40), (3, 97), (3, 105), (3, 114), (3, 123), (3, 131), (3, 140), (3, 141), (3, 142), (3, 143), (3, 144), (3, 145), (3, 146), (3, 147)]) hK hO k_h0 rfl hP hD hS hA hE [] rfl rfl rfl) rfl rfl hl.1 rfl (lv_room (Nat.le_of_ble_eq_true rfl)) dDA_accepts_3 ⟨by omega, by omega⟩) (fun r21 u21 H locs hu21 hP hD hS => ?_)
  obtain ⟨q21, pl⟩ := u21
  obtain ⟨⟨eq21, rfl, hFc21, hxp21, -⟩, hO⟩ := hu21
  have hO : okn g T q21.2 pl := hO
  have hP : va_P g.1 vcl ([] ++ pl) _ := hP
  have hD : va_D _ ([] ++ pl) := hD
  have hFc21 : frm (M_DA_readSignature_1) s q21.2 := hFc21
  replace hR := bnd_step hR eq21
  have hF := frm_tr hF hFc21 (fun k hk => by unfold M_DA_readSignature_1 at hk; unfold M_DA_accepts_1; omega)
  refine W.widen (k := 0) (n := 0) (by omega) (by omega) ?_
  refine lv_if_ne (tgt := 11) hx hb dDA_accepts_6 (by decide) (fun h21 => ?_) (fun h21 => ?_)
  · replace hR := hR.trans (if_neg h21)
    have hg21 : hgN 55 6 (q21.2.1 146) := hxp21.resolve_left h21
    refine lv_aload_n hx hb dDA_accepts_11 rfl (lv_at hl 0 rfl) ?_
    refine lv_aload_n hx hb dDA_accepts_12 rfl (lv_at hl 2 rfl) ?_
    refine mp_v (cx := []) (wr := []) hP hD hS hA [] [] rfl rfl rfl (by decide) (va_runV (As := [.ref pk]) (rest := []) F (N_DA_digestOf l g _ T q21.2 pl hO hU h0 pk pp 1952 k_h0 k_pk n_pk (by omega)) (cwV 1 hts (wg_app (wg_c kw_736 (wg_c kw_738 (wg_c ks_18 (wg_c kw_5 wg_n)))) kw_739) rfl rfl rfl (by decide +kernel) ⟨by decide, by decide⟩) (pn_W "LatticeKeys$Dsa" (en_ok g) (ci := 6) (kn := 39) (fl := [(3, 16), (3, 22), (3, 37), (3, 40), (3, 97), (3, 105), (3, 114), (3, 123), (3, 131), (3, 140), (3, 141), (3, 142), (3, 143), (3, 144), (3, 145), (3, 146), (3, 147)]) hK hO k_h0 rfl hP hD hS hA hE [] rfl rfl rfl) rfl rfl hl.1 rfl (lv_room (Nat.le_of_ble_eq_true rfl)) dDA_accepts_13 ⟨by omega, by omega⟩) (fun  u22 H locs hu22 hP hD hS => ?_)
    obtain ⟨s21, pl⟩ := u22
    obtain ⟨⟨eq22, hFc22, -⟩, hO⟩ := hu22
    have hO : okn g T s21 pl := hO
    have hP : va_P g.1 vcl ([] ++ pl) _ := hP
    have hD : va_D _ ([] ++ pl) := hD
    have hFc22 : frm (M_DA_digestOf) q21.2 s21 := hFc22
    replace hR := bnd_step hR eq22
    have hF := frm_tr hF hFc22 (fun k hk => by unfold M_DA_digestOf at hk; unfold M_DA_accepts_1; omega)
    have hg22 : hgN 55 6 (s21.1 146) := by rw [hFc22 146 (by unfold M_DA_digestOf; omega)]; exact hg21
    refine W.widen (k := 0) (n := 0) (by omega) (by omega) ?_
    refine lv_aload_n hx hb dDA_accepts_16 rfl (lv_at hl 0 rfl) ?_
    refine lv_aload_n hx hb dDA_accepts_17 rfl (lv_at hl 3 rfl) ?_
    refine lv_aload_n hx hb dDA_accepts_18 rfl (lv_at hl 1 rfl) ?_
    refine nw_get (C := "LatticeKeys$DsaSet") (TT := T_DS) (N := 17) hx hb hts (wg_ft i_DS) hown hK hO k_st (kn := 10) (ci := 2) (fl := [(1, 6), (1, 5), (1, 4), (1, 4), (1, 49), (1, 48), (1, 20), (1, 524288), (1, 16), (1, 4), (1, 261888), (1, 55), (1, 196), (1, 1952), (1, 4032), (1, 3248), (1, 3309)]) rfl hP rfl 16 (by decide) (hts _ (wg_t kw_338)) (fun _ h9 => h9) (cd := (1, 3309)) rfl dDA_accepts_19 (fun v21 hv21 => ?_)
    obtain rfl := (show v21 = .int (nI 3309) from hv21)
    refine lv_iload hx hb dDA_accepts_22 (lv_at hl 4 rfl) ?_
    refine lv_iload hx hb dDA_accepts_24 (lv_at hl 5 rfl) ?_
    refine mp_v (cx := []) (wr := []) hP hD hS hA [] [] rfl rfl rfl (by decide) (va_runV (As := [.ref tp, .int (nI 3309), .int (nI len), .int cl_]) (rest := []) F (N_DA_digestMessage l g _ T s21 pl hO hU h0 tp ptp n 3309 len cl_ k_h0 k_tp n_tp (by omega) (by omega) (by omega)) (cwV 4 hts (wg_app (wg_c kw_1188 (wg_c kw_1190 (wg_c ks_36 (wg_c kw_5 wg_n)))) kw_1191) rfl rfl rfl (by decide +kernel) ⟨by decide, by decide⟩) (pn_W "LatticeKeys$Dsa" (en_ok g) (ci := 6) (kn := 39) (fl := [(3, 16), (3, 22), (3, 37), (3, 40), (3, 97), (3, 105), (3, 114), (3, 123), (3, 131), (3, 140), (3, 141), (3, 142), (3, 143), (3, 144), (3, 145), (3, 146), (3, 147)]) hK hO k_h0 rfl hP hD hS hA hE [] rfl rfl rfl) rfl rfl hl.1 rfl (lv_room (Nat.le_of_ble_eq_true rfl)) dDA_accepts_26 ⟨by omega, by omega⟩) (fun  u23 H locs hu23 hP hD hS => ?_)
    obtain ⟨s22, pl⟩ := u23
    obtain ⟨⟨eq23, hFc23, -⟩, hO⟩ := hu23
    have hO : okn g T s22 pl := hO
    have hP : va_P g.1 vcl ([] ++ pl) _ := hP
    have hD : va_D _ ([] ++ pl) := hD
    have hFc23 : frm (M_DA_digestMessage) s21 s22 := hFc23
    replace hR := bnd_step hR eq23
    have hF := frm_tr hF hFc23 (fun k hk => by unfold M_DA_digestMessage at hk; unfold M_DA_accepts_1; omega)
    have hg23 : hgN 55 6 (s22.1 146) := by rw [hFc23 146 (by unfold M_DA_digestMessage; omega)]; exact hg22
    refine W.widen (k := 0) (n := 0) (by omega) (by omega) ?_
    refine lv_aload_n hx hb dDA_accepts_29 rfl (lv_at hl 0 rfl) ?_
    refine nw_get (C := "LatticeKeys$Dsa") (TT := T_DA) (N := 17) hx hb hts (wg_ft i_DA) hown hK hO k_h0 (kn := 39) (ci := 6) (fl := [(3, 16), (3, 22), (3, 37), (3, 40), (3, 97), (3, 105), (3, 114), (3, 123), (3, 131), (3, 140), (3, 141), (3, 142), (3, 143), (3, 144), (3, 145), (3, 146), (3, 147)]) rfl hP rfl 2 (by decide) (hts _ (wg_t kw_167)) (fun _ h9 => h9) (cd := (3, 37)) rfl dDA_accepts_30 (fun v22 hv22 => ?_)
    obtain ⟨r22, rfl, kr21⟩ := (show ∃ r : Nat, v22 = .ref r ∧ T r = some 37 from hv22)
    refine lv_aload_n hx hb dDA_accepts_33 rfl (lv_at hl 1 rfl) ?_
    refine lv_aload_n hx hb dDA_accepts_34 rfl (lv_at hl 2 rfl) ?_
    refine lv_aload_n hx hb dDA_accepts_35 rfl (lv_at hl 0 rfl) ?_
    refine nw_get (C := "LatticeKeys$Dsa") (TT := T_DA) (N := 17) hx hb hts (wg_ft i_DA) hown hK hO k_h0 (kn := 39) (ci := 6) (fl := [(3, 16), (3, 22), (3, 37), (3, 40), (3, 97), (3, 105), (3, 114), (3, 123), (3, 131), (3, 140), (3, 141), (3, 142), (3, 143), (3, 144), (3, 145), (3, 146), (3, 147)]) rfl hP rfl 3 (by decide) (hts _ (wg_t kw_168)) (fun _ h9 => h9) (cd := (3, 40)) rfl dDA_accepts_36 (fun v23 hv23 => ?_)
    obtain ⟨r23, rfl, kr22⟩ := (show ∃ r : Nat, v23 = .ref r ∧ T r = some 40 from hv23)
    refine mp_v (cx := []) (wr := []) hP hD hS hA [] [] rfl rfl rfl (by decide) (va_runV (As := [.ref st, .ref pk, .ref r23]) (rest := []) F (N_SA_expandMatrix_1 l g _ T s22 pl hO hU r22 st pk r23 pp 1952 kr21 k_st k_pk n_pk kr22 (by omega) (by omega)) (cwV 3 hts (wg_app (wg_c kw_703 (wg_c kw_704 (wg_c kw_705 (wg_c kw_6 wg_n)))) kw_706) rfl rfl rfl (by decide +kernel) ⟨by decide, by decide⟩) (pn_W "LatticeKeys$DsaSampler" (en_ok g) (ci := 7) (kn := 37) (fl := [(3, 18), (3, 38)]) hK hO kr21 rfl hP hD hS hA hE [] rfl rfl rfl) rfl rfl hl.1 rfl (lv_room (Nat.le_of_ble_eq_true rfl)) dDA_accepts_39 ⟨by omega, by omega⟩) (fun  u24 H locs hu24 hP hD hS => ?_)
    obtain ⟨s23, pl⟩ := u24
    obtain ⟨⟨eq24, hFc24, -⟩, hO⟩ := hu24
    have hO : okn g T s23 pl := hO
    have hP : va_P g.1 vcl ([] ++ pl) _ := hP
    have hD : va_D _ ([] ++ pl) := hD
    have hFc24 : frm (M_SA_expandMatrix_1) s22 s23 := hFc24
    replace hR := bnd_step hR eq24
    have hF := frm_tr hF hFc24 (fun k hk => by unfold M_SA_expandMatrix_1 at hk; unfold M_DA_accepts_1; omega)
    have hg24 : hgN 55 6 (s23.1 146) := by rw [hFc24 146 (by unfold M_SA_expandMatrix_1; omega)]; exact hg23
    refine W.widen (k := 0) (n := 0) (by omega) (by omega) ?_
    refine lv_aload_n hx hb dDA_accepts_42 rfl (lv_at hl 0 rfl) ?_
    refine nw_get (C := "LatticeKeys$Dsa") (TT := T_DA) (N := 17) hx hb hts (wg_ft i_DA) hown hK hO k_h0 (kn := 39) (ci := 6) (fl := [(3, 16), (3, 22), (3, 37), (3, 40), (3, 97), (3, 105), (3, 114), (3, 123), (3, 131), (3, 140), (3, 141), (3, 142), (3, 143), (3, 144), (3, 145), (3, 146), (3, 147)]) rfl hP rfl 2 (by decide) (hts _ (wg_t kw_167)) (fun _ h9 => h9) (cd := (3, 37)) rfl dDA_accepts_43 (fun v24 hv24 => ?_)
    obtain ⟨r24, rfl, kr23⟩ := (show ∃ r : Nat, v24 = .ref r ∧ T r = some 37 from hv24)
    refine lv_aload_n hx hb dDA_accepts_46 rfl (lv_at hl 1 rfl) ?_
    refine lv_aload_n hx hb dDA_accepts_47 rfl (lv_at hl 0 rfl) ?_
    refine nw_get (C := "LatticeKeys$Dsa") (TT := T_DA) (N := 17) hx hb hts (wg_ft i_DA) hown hK hO k_h0 (kn := 39) (ci := 6) (fl := [(3, 16), (3, 22), (3, 37), (3, 40), (3, 97), (3, 105), (3, 114), (3, 123), (3, 131), (3, 140), (3, 141), (3, 142), (3, 143), (3, 144), (3, 145), (3, 146), (3, 147)]) rfl hP rfl 9 (by decide) (hts _ (wg_t kw_174)) (fun _ h9 => h9) (cd := (3, 140)) rfl dDA_accepts_48 (fun v25 hv25 => ?_)
    obtain ⟨r25, rfl, kr24⟩ := (show ∃ r : Nat, v25 = .ref r ∧ T r = some 140 from hv25)
    refine lv_aload_n hx hb dDA_accepts_51 rfl (lv_at hl 0 rfl) ?_
    refine nw_get (C := "LatticeKeys$Dsa") (TT := T_DA) (N := 17) hx hb hts (wg_ft i_DA) hown hK hO k_h0 (kn := 39) (ci := 6) (fl := [(3, 16), (3, 22), (3, 37), (3, 40), (3, 97), (3, 105), (3, 114), (3, 123), (3, 131), (3, 140), (3, 141), (3, 142), (3, 143), (3, 144), (3, 145), (3, 146), (3, 147)]) rfl hP rfl 13 (by decide) (hts _ (wg_t kw_178)) (fun _ h9 => h9) (cd := (3, 144)) rfl dDA_accepts_52 (fun v26 hv26 => ?_)
    obtain ⟨r26, rfl, kr25⟩ := (show ∃ r : Nat, v26 = .ref r ∧ T r = some 144 from hv26)
    refine mp_v (cx := []) (wr := []) hP hD hS hA [] [] rfl rfl rfl (by decide) (va_runV (As := [.ref st, .ref r25, .ref r26]) (rest := []) F (N_SA_sampleBall_1 l g _ T s23 pl hO hU r24 st r25 r26 140 144 64 kr23 k_st kr24 rfl kr25 rfl (by omega) (by omega)) (cwV 3 hts (wg_app (wg_c kw_1214 (wg_c kw_1215 (wg_c kw_1216 (wg_c kw_6 wg_n)))) kw_1217) rfl rfl rfl (by decide +kernel) ⟨by decide, by decide⟩) (pn_W "LatticeKeys$DsaSampler" (en_ok g) (ci := 7) (kn := 37) (fl := [(3, 18), (3, 38)]) hK hO kr23 rfl hP hD hS hA hE [] rfl rfl rfl) rfl rfl hl.1 rfl (lv_room (Nat.le_of_ble_eq_true rfl)) dDA_accepts_55 ⟨by omega, by omega⟩) (fun  u25 H locs hu25 hP hD hS => ?_)
    obtain ⟨s24, pl⟩ := u25
    obtain ⟨⟨eq25, hFc25, -⟩, hO⟩ := hu25
    have hO : okn g T s24 pl := hO
    have hP : va_P g.1 vcl ([] ++ pl) _ := hP
    have hD : va_D _ ([] ++ pl) := hD
    have hFc25 : frm (M_SA_sampleBall_1 140) s23 s24 := hFc25
    replace hR := bnd_step hR eq25
    have hF := frm_tr hF hFc25 (fun k hk => by unfold M_SA_sampleBall_1 at hk; unfold M_DA_accepts_1; omega)
    have hg25 : hgN 55 6 (s24.1 146) := by rw [hFc25 146 (by unfold M_SA_sampleBall_1; omega)]; exact hg24
    refine W.widen (k := 0) (n := 0) (by omega) (by omega) ?_
    refine lv_aload_n hx hb dDA_accepts_58 rfl (lv_at hl 0 rfl) ?_
    refine nw_get (C := "LatticeKeys$Dsa") (TT := T_DA) (N := 17) hx hb hts (wg_ft i_DA) hown hK hO k_h0 (kn := 39) (ci := 6) (fl := [(3, 16), (3, 22), (3, 37), (3, 40), (3, 97), (3, 105), (3, 114), (3, 123), (3, 131), (3, 140), (3, 141), (3, 142), (3, 143), (3, 144), (3, 145), (3, 146), (3, 147)]) rfl hP rfl 1 (by decide) (hts _ (wg_t kw_166)) (fun _ h9 => h9) (cd := (3, 22)) rfl dDA_accepts_59 (fun v27 hv27 => ?_)
    obtain ⟨r27, rfl, kr26⟩ := (show ∃ r : Nat, v27 = .ref r ∧ T r = some 22 from hv27)
    refine lv_aload_n hx hb dDA_accepts_62 rfl (lv_at hl 0 rfl) ?_
    refine nw_get (C := "LatticeKeys$Dsa") (TT := T_DA) (N := 17) hx hb hts (wg_ft i_DA) hown hK hO k_h0 (kn := 39) (ci := 6) (fl := [(3, 16), (3, 22), (3, 37), (3, 40), (3, 97), (3, 105), (3, 114), (3, 123), (3, 131), (3, 140), (3, 141), (3, 142), (3, 143), (3, 144), (3, 145), (3, 146), (3, 147)]) rfl hP rfl 9 (by decide) (hts _ (wg_t kw_174)) (fun _ h9 => h9) (cd := (3, 140)) rfl dDA_accepts_63 (fun v28 hv28 => ?_)
    obtain ⟨r28, rfl, kr27⟩ := (show ∃ r : Nat, v28 = .ref r ∧ T r = some 140 from hv28)
    refine mp_v (cx := []) (wr := []) hP hD hS hA [] [] rfl rfl rfl (by decide) (va_runV (As := [.ref r28]) (rest := []) F (N_RG_transform_8 l g _ T s24 pl hO hU r27 r28 140 kr26 kr27 rfl) (cwV 1 hts (wg_app (wg_c kw_711 (wg_c kw_637 (wg_c kw_638 (wg_c kw_4 wg_n)))) kw_639) rfl rfl rfl (by decide +kernel) ⟨by decide, by decide⟩) (pn_W "LatticeKeys$Ring" (en_ok g) (ci := 4) (kn := 22) (fl := [(1, 8380417), (1, 8), (1, 8347681), (3, 23)]) hK hO kr26 rfl hP hD hS hA hE [] rfl rfl rfl) rfl rfl hl.1 rfl (lv_room (Nat.le_of_ble_eq_true rfl)) dDA_accepts_66 ⟨by omega, by omega⟩) (fun  u26 H locs hu26 hP hD hS => ?_)
    obtain ⟨s25, pl⟩ := u26
    obtain ⟨⟨eq26, hFc26, -⟩, hO⟩ := hu26
    have hO : okn g T s25 pl := hO
    have hP : va_P g.1 vcl ([] ++ pl) _ := hP
    have hD : va_D _ ([] ++ pl) := hD
    have hFc26 : frm (M_RG_transform_8 140) s24 s25 := hFc26
    replace hR := bnd_step hR eq26
    have hF := frm_tr hF hFc26 (fun k hk => by unfold M_RG_transform_8 at hk; unfold M_DA_accepts_1; omega)
    have hg26 : hgN 55 6 (s25.1 146) := by rw [hFc26 146 (by unfold M_RG_transform_8; omega)]; exact hg25
    refine W.widen (k := 0) (n := 0) (by omega) (by omega) ?_
    refine lv_iconst (v := nI 0) hx hb dDA_accepts_69 (by decide) ?_
    refine lv_istore (lv' := [(6, .int (nI 0)), (0, .ref h0), (1, .ref st), (2, .ref pk), (3, .ref tp), (4, .int (nI len)), (5, .int cl_)]) hx hb dDA_accepts_70 hl (by decide) rfl (fun ls hl => ?_)
    have lp21 : ∀ (n21 : Nat) (i21 : Nat) (s26 : Sto) (pl : va_W) (ls : Array Slot) (H : Heap) (locs : List Loc), n21 + i21 = 5 → frm (M_DA_accepts_1) s s26 → (hgN 55 6 (s26.1 146)) → F_DA_accepts_1 pp ptp n len cl_ s = F_DA_accepts_1_L0 pp n21 i21 s26 → lv_has ls 9 [(6, .int (nI i21)), (0, .ref h0), (1, .ref st), (2, .ref pk)] → okn g T s26 pl → va_P g.1 vcl ([] ++ pl) H → va_D A ([] ++ pl) → va_S A s0.heap H locs → W p l e ({ frames := 5, cells := 0, slots := 0, locals := 152 } : Room) s0 m args below meth c H locs 0 0 (MQ below (va_Qi (fun (r : Int32) (u : (Int32 × Sto) × va_W) => (u.1 = F_DA_accepts_1 pp ptp n len cl_ s ∧ r = u.1.1 ∧ frm (M_DA_accepts_1) s u.1.2 ∧ True) ∧ okn g T u.1.2 u.2) (po g.1 vcl A (fun (u : (Int32 × Sto) × va_W) => [] ++ u.2)) A) args s0 0 0 A) (F0 m 72 ls []) := by
      intro n21
      induction n21 with
      | zero =>
        intro i21 s26 pl ls H locs hm21 hF hg27 hR hl hO hP hD hS
        refine lv_iload hx hb dDA_accepts_72 (lv_at hl 0 rfl) ?_
        refine lv_aload_n hx hb dDA_accepts_74 rfl (lv_at hl 2 rfl) ?_
        refine nw_get (C := "LatticeKeys$DsaSet") (TT := T_DS) (N := 17) hx hb hts (wg_ft i_DS) hown hK hO k_st (kn := 10) (ci := 2) (fl := [(1, 6), (1, 5), (1, 4), (1, 4), (1, 49), (1, 48), (1, 20), (1, 524288), (1, 16), (1, 4), (1, 261888), (1, 55), (1, 196), (1, 1952), (1, 4032), (1, 3248), (1, 3309)]) rfl hP rfl 1 (by decide) (hts _ (wg_t kw_305)) (fun _ h9 => h9) (cd := (1, 5)) rfl dDA_accepts_75 (fun v29 hv29 => ?_)
        obtain rfl := (show v29 = .int (nI 5) from hv29)
        refine mi_ge (tgt := 101) hx hb dDA_accepts_78 (by decide) (by omega) (by omega) (fun h22 => ?_) (fun h22 => absurd h22 (by omega))
        refine lv_aload_n hx hb dDA_accepts_101 rfl (lv_at hl 1 rfl) ?_
        refine mp_v (cx := []) (wr := []) hP hD hS hA [] [] rfl rfl rfl (by decide) (va_runV (As := []) (rest := []) F (N_DA_startChallenge l g _ T s26 pl hO hU h0 k_h0) (cwV 0 hts (wg_app (wg_c kw_1202 (wg_c kw_1204 (wg_c ks_38 (wg_c kw_5 wg_n)))) kw_1205) rfl rfl rfl (by decide +kernel) ⟨by decide, by decide⟩) (pn_W "LatticeKeys$Dsa" (en_ok g) (ci := 6) (kn := 39) (fl := [(3, 16), (3, 22), (3, 37), (3, 40), (3, 97), (3, 105), (3, 114), (3, 123), (3, 131), (3, 140), (3, 141), (3, 142), (3, 143), (3, 144), (3, 145), (3, 146), (3, 147)]) hK hO k_h0 rfl hP hD hS hA hE [] rfl rfl rfl) rfl rfl hl.1 rfl (lv_room (Nat.le_of_ble_eq_true rfl)) dDA_accepts_102 ⟨by omega, by omega⟩) (fun  u27 H locs hu27 hP hD hS => ?_)
        obtain ⟨s27, pl⟩ := u27
        obtain ⟨⟨eq27, hFc27, ⟨x27, hx_27, hb_27⟩, ⟨x28, hx_28, hb_28⟩, -⟩, hO⟩ := hu27
        have hO : okn g T s27 pl := hO
        have hP : va_P g.1 vcl ([] ++ pl) _ := hP
        have hD : va_D _ ([] ++ pl) := hD
        have hFc27 : frm (M_DA_startChallenge) s26 s27 := hFc27
        have hb_27 : x27 < 136 := hb_27
        have hb_28 : x28 = 136 := hb_28
        replace hR := bnd_step hR eq27
        have hF := frm_tr hF hFc27 (fun k hk => by unfold M_DA_startChallenge at hk; unfold M_DA_accepts_1; omega)
        have hg28 : hgN 55 6 (s27.1 146) := by rw [hFc27 146 (by unfold M_DA_startChallenge; omega)]; exact hg27
        refine W.widen (k := 0) (n := 0) (by omega) (by omega) ?_
        refine lv_iconst (v := nI 0) hx hb dDA_accepts_105 (by decide) ?_
        refine lv_istore (lv' := [(6, .int (nI 0)), (0, .ref h0), (1, .ref st), (2, .ref pk)]) hx hb dDA_accepts_106 hl (by decide) rfl (fun ls hl => ?_)
        refine lv_iconst (v := nI 0) hx hb dDA_accepts_108 (by decide) ?_
        refine lv_istore (lv' := [(7, .int (nI 0)), (6, .int (nI 0)), (0, .ref h0), (1, .ref st), (2, .ref pk)]) hx hb dDA_accepts_109 hl (by decide) rfl (fun ls hl => ?_)
        have lp22 : ∀ (n22 : Nat) (i22 : Nat) (fs21 : Nat) (s28 : Sto) (ps21 : Nat) (pl : va_W) (ls : Array Slot) (H : Heap) (locs : List Loc), n22 + i22 = 6 → (fs21 ≤ 255) → (ps21 < 136) → frm (M_DA_accepts_1) s s28 → s28.1 16 3 = nI ps21 → s28.1 16 1 = nI x28 → (hgN 55 6 (s28.1 146)) → F_DA_accepts_1 pp ptp n len cl_ s = F_DA_accepts_1_L1 pp n22 i22 fs21 s28 → lv_has ls 9 [(7, .int (nI i22)), (6, .int (nI fs21)), (0, .ref h0), (1, .ref st), (2, .ref pk)] → okn g T s28 pl → va_P g.1 vcl ([] ++ pl) H → va_D A ([] ++ pl) → va_S A s0.heap H locs → W p l e ({ frames := 5, cells := 0, slots := 0, locals := 152 } : Room) s0 m args below meth c H locs 0 0 (MQ below (va_Qi (fun (r : Int32) (u : (Int32 × Sto) × va_W) => (u.1 = F_DA_accepts_1 pp ptp n len cl_ s ∧ r = u.1.1 ∧ frm (M_DA_accepts_1) s u.1.2 ∧ True) ∧ okn g T u.1.2 u.2) (po g.1 vcl A (fun (u : (Int32 × Sto) × va_W) => [] ++ u.2)) A) args s0 0 0 A) (F0 m 111 ls []) := by
          intro n22
          induction n22 with
          | zero =>
            intro i22 fs21 s28 ps21 pl ls H locs hm22 hi21 hi22 hF hf21 hf22 hg29 hR hl hO hP hD hS
            refine lv_iload hx hb dDA_accepts_111 (lv_at hl 0 rfl) ?_
            refine lv_aload_n hx hb dDA_accepts_113 rfl (lv_at hl 3 rfl) ?_
            refine nw_get (C := "LatticeKeys$DsaSet") (TT := T_DS) (N := 17) hx hb hts (wg_ft i_DS) hown hK hO k_st (kn := 10) (ci := 2) (fl := [(1, 6), (1, 5), (1, 4), (1, 4), (1, 49), (1, 48), (1, 20), (1, 524288), (1, 16), (1, 4), (1, 261888), (1, 55), (1, 196), (1, 1952), (1, 4032), (1, 3248), (1, 3309)]) rfl hP rfl 0 (by decide) (hts _ (wg_t kw_302)) (fun _ h9 => h9) (cd := (1, 6)) rfl dDA_accepts_114 (fun v30 hv30 => ?_)
            obtain rfl := (show v30 = .int (nI 6) from hv30)
            refine mi_ge (tgt := 177) hx hb dDA_accepts_117 (by decide) (by omega) (by omega) (fun h23 => ?_) (fun h23 => absurd h23 (by omega))
            refine lv_aload_n hx hb dDA_accepts_177 rfl (lv_at hl 2 rfl) ?_
            refine nw_get (C := "LatticeKeys$Dsa") (TT := T_DA) (N := 17) hx hb hts (wg_ft i_DA) hown hK hO k_h0 (kn := 39) (ci := 6) (fl := [(3, 16), (3, 22), (3, 37), (3, 40), (3, 97), (3, 105), (3, 114), (3, 123), (3, 131), (3, 140), (3, 141), (3, 142), (3, 143), (3, 144), (3, 145), (3, 146), (3, 147)]) rfl hP rfl 0 (by decide) (hts _ (wg_t kw_165)) (fun _ h9 => h9) (cd := (3, 16)) rfl dDA_accepts_178 (fun v31 hv31 => ?_)
            obtain ⟨r29, rfl, kr28⟩ := (show ∃ r : Nat, v31 = .ref r ∧ T r = some 16 from hv31)
            refine mp_v (cx := []) (wr := []) hP hD hS hA [] [] rfl rfl rfl (by decide) (va_runV (As := []) (rest := []) F (N_SP_finish l g _ T s28 pl hO hU r29 16 17 ps21 x28 kr28 rfl rfl hf21 hf22 (by omega) (by omega)) (cwV 0 hts (wg_app (wg_c kw_672 (wg_c kw_611 (wg_c kw_612 (wg_c kw_2 wg_n)))) kw_613) rfl rfl rfl (by decide +kernel) ⟨by decide, by decide⟩) (pn_W "LatticeKeys$Sponge" (en_ok g) (ci := 3) (kn := 16) (fl := [(3, 17), (0, 0), (0, 0), (0, 0)]) hK hO kr28 rfl hP hD hS hA hE [] rfl rfl rfl) rfl rfl hl.1 rfl (lv_room (Nat.le_of_ble_eq_true rfl)) dDA_accepts_181 ⟨by omega, by omega⟩) (fun  u28 H locs hu28 hP hD hS => ?_)
            obtain ⟨s29, pl⟩ := u28
            obtain ⟨⟨eq28, hFc28, ⟨x30, hx_30, hb_30⟩, ⟨x31, hx_31, hb_31⟩, -⟩, hO⟩ := hu28
            have hO : okn g T s29 pl := hO
            have hP : va_P g.1 vcl ([] ++ pl) _ := hP
            have hD : va_D _ ([] ++ pl) := hD
            have hFc28 : frm (M_SP_finish 16) s28 s29 := hFc28
            have hb_30 : x30 = x28 := hb_30
            have hb_31 : x31 = x28 := hb_31
            replace hR := bnd_step hR eq28
            have hF := frm_tr hF hFc28 (fun k hk => by unfold M_SP_finish at hk; unfold M_DA_accepts_1; omega)
            have hg30 : hgN 55 6 (s29.1 146) := by rw [hFc28 146 (by unfold M_SP_finish; omega)]; exact hg29
            refine W.widen (k := 0) (n := 0) (by omega) (by omega) ?_
            refine lv_aload_n hx hb dDA_accepts_184 rfl (lv_at hl 2 rfl) ?_
            refine nw_get (C := "LatticeKeys$Dsa") (TT := T_DA) (N := 17) hx hb hts (wg_ft i_DA) hown hK hO k_h0 (kn := 39) (ci := 6) (fl := [(3, 16), (3, 22), (3, 37), (3, 40), (3, 97), (3, 105), (3, 114), (3, 123), (3, 131), (3, 140), (3, 141), (3, 142), (3, 143), (3, 144), (3, 145), (3, 146), (3, 147)]) rfl hP rfl 0 (by decide) (hts _ (wg_t kw_165)) (fun _ h9 => h9) (cd := (3, 16)) rfl dDA_accepts_185 (fun v32 hv32 => ?_)
            obtain ⟨r30, rfl, kr29⟩ := (show ∃ r : Nat, v32 = .ref r ∧ T r = some 16 from hv32)
            refine lv_aload_n hx hb dDA_accepts_188 rfl (lv_at hl 2 rfl) ?_
            refine nw_get (C := "LatticeKeys$Dsa") (TT := T_DA) (N := 17) hx hb hts (wg_ft i_DA) hown hK hO k_h0 (kn := 39) (ci := 6) (fl := [(3, 16), (3, 22), (3, 37), (3, 40), (3, 97), (3, 105), (3, 114), (3, 123), (3, 131), (3, 140), (3, 141), (3, 142), (3, 143), (3, 144), (3, 145), (3, 146), (3, 147)]) rfl hP rfl 14 (by decide) (hts _ (wg_t kw_179)) (fun _ h9 => h9) (cd := (3, 145)) rfl dDA_accepts_189 (fun v33 hv33 => ?_)
            obtain ⟨r31, rfl, kr30⟩ := (show ∃ r : Nat, v33 = .ref r ∧ T r = some 145 from hv33)
            refine lv_iconst (v := nI 0) hx hb dDA_accepts_192 (by decide) ?_
            refine lv_aload_n hx hb dDA_accepts_193 rfl (lv_at hl 3 rfl) ?_
            refine nw_get (C := "LatticeKeys$DsaSet") (TT := T_DS) (N := 17) hx hb hts (wg_ft i_DS) hown hK hO k_st (kn := 10) (ci := 2) (fl := [(1, 6), (1, 5), (1, 4), (1, 4), (1, 49), (1, 48), (1, 20), (1, 524288), (1, 16), (1, 4), (1, 261888), (1, 55), (1, 196), (1, 1952), (1, 4032), (1, 3248), (1, 3309)]) rfl hP rfl 5 (by decide) (hts _ (wg_t kw_315)) (fun _ h9 => h9) (cd := (1, 48)) rfl dDA_accepts_194 (fun v34 hv34 => ?_)
            obtain rfl := (show v34 = .int (nI 48) from hv34)
            refine mp_v (cx := []) (wr := []) hP hD hS hA [] [] rfl rfl rfl (by decide) (va_runV (As := [.ref r31, .int (nI 0), .int (nI 48)]) (rest := []) F (N_SP_squeeze l g _ T s29 pl hO hU r30 r31 16 17 145 64 0 48 x30 x31 kr29 rfl rfl kr30 rfl hx_30 hx_31 (by omega) (by omega) (by omega) (by omega)) (cwV 3 hts (wg_app (wg_c kw_673 (wg_c kw_615 (wg_c kw_616 (wg_c kw_2 wg_n)))) kw_617) rfl rfl rfl (by decide +kernel) ⟨by decide, by decide⟩) (pn_W "LatticeKeys$Sponge" (en_ok g) (ci := 3) (kn := 16) (fl := [(3, 17), (0, 0), (0, 0), (0, 0)]) hK hO kr29 rfl hP hD hS hA hE [] rfl rfl rfl) rfl rfl hl.1 rfl (lv_room (Nat.le_of_ble_eq_true rfl)) dDA_accepts_197 ⟨by omega, by omega⟩) (fun  u29 H locs hu29 hP hD hS => ?_)
            obtain ⟨s30, pl⟩ := u29
            obtain ⟨⟨eq29, hFc29, ⟨x33, hx_33, hb_33⟩, ⟨x34, hx_34, hb_34⟩, -⟩, hO⟩ := hu29
            have hO : okn g T s30 pl := hO
            have hP : va_P g.1 vcl ([] ++ pl) _ := hP
            have hD : va_D _ ([] ++ pl) := hD
            have hFc29 : frm (M_SP_squeeze 16 145) s29 s30 := hFc29
            have hb_33 : x33 ≤ x31 := hb_33
            have hb_34 : x34 = x31 := hb_34
            replace hR := bnd_step hR eq29
            have hF := frm_tr hF hFc29 (fun k hk => by unfold M_SP_squeeze at hk; unfold M_DA_accepts_1; omega)
            have hg31 : hgN 55 6 (s30.1 146) := by rw [hFc29 146 (by unfold M_SP_squeeze; omega)]; exact hg30
            refine W.widen (k := 0) (n := 0) (by omega) (by omega) ?_
            refine lv_aload_n hx hb dDA_accepts_200 rfl (lv_at hl 2 rfl) ?_
            refine lv_aload_n hx hb dDA_accepts_201 rfl (lv_at hl 3 rfl) ?_
            refine mp_i (cx := []) (wr := []) hP hD hS hA [] [] rfl rfl rfl (by decide) (va_runV (As := [.ref st]) (rest := []) F (N_DA_challengesAgree_1 l g _ T s30 pl hO hU h0 st k_h0 k_st) (cwV 1 hts (wg_app (wg_c kw_1287 (wg_c kw_1289 (wg_c ks_49 (wg_c kw_5 wg_n)))) kw_1290) rfl rfl rfl (by decide +kernel) ⟨by decide, by decide⟩) (pn_W "LatticeKeys$Dsa" (en_ok g) (ci := 6) (kn := 39) (fl := [(3, 16), (3, 22), (3, 37), (3, 40), (3, 97), (3, 105), (3, 114), (3, 123), (3, 131), (3, 140), (3, 141), (3, 142), (3, 143), (3, 144), (3, 145), (3, 146), (3, 147)]) hK hO k_h0 rfl hP hD hS hA hE [] rfl rfl rfl) rfl rfl hl.1 rfl (lv_room (Nat.le_of_ble_eq_true rfl)) dDA_accepts_202 ⟨by omega, by omega⟩) (fun r32 u30 H locs hu30 hP hD hS => ?_)
            obtain ⟨q22, pl⟩ := u30
            obtain ⟨⟨eq30, rfl, hFc30, ⟨x36, hx_36, hb_36⟩, -⟩, hO⟩ := hu30
            have hO : okn g T q22.2 pl := hO
            have hP : va_P g.1 vcl ([] ++ pl) _ := hP
            have hD : va_D _ ([] ++ pl) := hD
            have hFc30 : frm (M_DA_challengesAgree_1) s30 q22.2 := hFc30
            have hb_36 : x36 < 2 := hb_36
            replace hR := bnd_step hR eq30
            have hF := frm_tr hF hFc30 (fun k hk => by unfold M_DA_challengesAgree_1 at hk; unfold M_DA_accepts_1; omega)
            have hf23 : q22.2.1 16 3 = nI x33 := fc_F hx_33 hFc30 (by unfold M_DA_challengesAgree_1; omega)
            have hf24 : q22.2.1 16 1 = nI x34 := fc_F hx_34 hFc30 (by unfold M_DA_challengesAgree_1; omega)
            have hg32 : hgN 55 6 (q22.2.1 146) := by rw [hFc30 146 (by unfold M_DA_challengesAgree_1; omega)]; exact hg31
            obtain ⟨z21, ez21, hz21, hz22⟩ := cl_of (b := 2147483648) hx_36 (by omega) (by decide)
            replace hR := bnd_step hR ez21
            refine mi_as hz21 ?_
            refine W.widen (k := 0) (n := 0) (by omega) (by omega) ?_
            exact mp_zret hx hb hr hlk (nar_2 (by omega)) hP hD hS ((nI z21, q22.2), pl) ⟨⟨hR.symm, rfl, hF, trivial⟩, hO⟩ [] rfl rfl rfl (by omega) (by omega) dDA_accepts_205
          | succ n22 ih22 =>
            intro i22 fs21 s28 ps21 pl ls H locs hm22 hi21 hi22 hF hf25 hf26 hg29 hR hl hO hP hD hS
            refine lv_iload hx hb dDA_accepts_111 (lv_at hl 0 rfl) ?_
            refine lv_aload_n hx hb dDA_accepts_113 rfl (lv_at hl 3 rfl) ?_
            refine nw_get (C := "LatticeKeys$DsaSet") (TT := T_DS) (N := 17) hx hb hts (wg_ft i_DS) hown hK hO k_st (kn := 10) (ci := 2) (fl := [(1, 6), (1, 5), (1, 4), (1, 4), (1, 49), (1, 48), (1, 20), (1, 524288), (1, 16), (1, 4), (1, 261888), (1, 55), (1, 196), (1, 1952), (1, 4032), (1, 3248), (1, 3309)]) rfl hP rfl 0 (by decide) (hts _ (wg_t kw_302)) (fun _ h9 => h9) (cd := (1, 6)) rfl dDA_accepts_114 (fun v35 hv35 => ?_)
            obtain rfl := (show v35 = .int (nI 6) from hv35)
            refine mi_ge (tgt := 177) hx hb dDA_accepts_117 (by decide) (by omega) (by omega) (fun h24 => absurd h24 (by omega)) (fun h24 => ?_)
            refine lv_aload_n hx hb dDA_accepts_120 rfl (lv_at hl 2 rfl) ?_
            refine nw_get (C := "LatticeKeys$Dsa") (TT := T_DA) (N := 17) hx hb hts (wg_ft i_DA) hown hK hO k_h0 (kn := 39) (ci := 6) (fl := [(3, 16), (3, 22), (3, 37), (3, 40), (3, 97), (3, 105), (3, 114), (3, 123), (3, 131), (3, 140), (3, 141), (3, 142), (3, 143), (3, 144), (3, 145), (3, 146), (3, 147)]) rfl hP rfl 15 (by decide) (hts _ (wg_t kw_180)) (fun _ h9 => h9) (cd := (3, 146)) rfl dDA_accepts_121 (fun v36 hv36 => ?_)
            obtain ⟨r33, rfl, kr31⟩ := (show ∃ r : Nat, v36 = .ref r ∧ T r = some 146 from hv36)
            refine lv_aload_n hx hb dDA_accepts_124 rfl (lv_at hl 3 rfl) ?_
            refine nw_get (C := "LatticeKeys$DsaSet") (TT := T_DS) (N := 17) hx hb hts (wg_ft i_DS) hown hK hO k_st (kn := 10) (ci := 2) (fl := [(1, 6), (1, 5), (1, 4), (1, 4), (1, 49), (1, 48), (1, 20), (1, 524288), (1, 16), (1, 4), (1, 261888), (1, 55), (1, 196), (1, 1952), (1, 4032), (1, 3248), (1, 3309)]) rfl hP rfl 11 (by decide) (hts _ (wg_t kw_327)) (fun _ h9 => h9) (cd := (1, 55)) rfl dDA_accepts_125 (fun v37 hv37 => ?_)
            obtain rfl := (show v37 = .int (nI 55) from hv37)
            refine lv_iload hx hb dDA_accepts_128 (lv_at hl 0 rfl) ?_
            refine mi_iadd hx hb dDA_accepts_130 ?_
            refine nw_bald hx hb hK hO kr31 (k := 146) rfl hP (by omega) (by omega) dDA_accepts_131 ?_
            refine lv_sipush (v := nI 255) hx hb dDA_accepts_132 (by decide) ?_
            refine mi_iandT hx hb 8 dDA_accepts_135 (by decide) (by decide) (fun z22 ez22 hz23 => ?_)
            have hz23 : z22 < 256 := hz23
            replace hR := bnd_step hR ez22
            have hzlz22 : z22 ≤ 55 := by rw [ez22]; exact hg29 i22 (by omega)
            refine lv_istore (lv' := [(8, .int (nI z22)), (7, .int (nI i22)), (6, .int (nI fs21)), (0, .ref h0), (1, .ref st), (2, .ref pk)]) hx hb dDA_accepts_136 hl (by decide) rfl (fun ls hl => ?_)
            refine lv_aload_n hx hb dDA_accepts_138 rfl (lv_at hl 3 rfl) ?_
            refine lv_aload_n hx hb dDA_accepts_139 rfl (lv_at hl 4 rfl) ?_
            refine lv_aload_n hx hb dDA_accepts_140 rfl (lv_at hl 5 rfl) ?_
            refine lv_iload hx hb dDA_accepts_141 (lv_at hl 1 rfl) ?_
            refine mp_v (cx := []) (wr := []) hP hD hS hA [] [] rfl rfl rfl (by decide) (va_runV (As := [.ref st, .ref pk, .int (nI i22)]) (rest := []) F (N_DA_rebuildRow_1 l g _ T s28 pl hO hU h0 st pk pp i22 k_h0 k_st k_pk n_pk (by omega)) (cwV 3 hts (wg_app (wg_c kw_1273 (wg_c kw_1275 (wg_c ks_47 (wg_c kw_5 wg_n)))) kw_1276) rfl rfl rfl (by decide +kernel) ⟨by decide, by decide⟩) (pn_W "LatticeKeys$Dsa" (en_ok g) (ci := 6) (kn := 39) (fl := [(3, 16), (3, 22), (3, 37), (3, 40), (3, 97), (3, 105), (3, 114), (3, 123), (3, 131), (3, 140), (3, 141), (3, 142), (3, 143), (3, 144), (3, 145), (3, 146), (3, 147)]) hK hO k_h0 rfl hP hD hS hA hE [] rfl rfl rfl) rfl rfl hl.1 rfl (lv_room (Nat.le_of_ble_eq_true rfl)) dDA_accepts_143 ⟨by omega, by omega⟩) (fun  u31 H locs hu31 hP hD hS => ?_)
            obtain ⟨s31, pl⟩ := u31
            obtain ⟨⟨eq31, hFc31, -⟩, hO⟩ := hu31
            have hO : okn g T s31 pl := hO
            have hP : va_P g.1 vcl ([] ++ pl) _ := hP
            have hD : va_D _ ([] ++ pl) := hD
            have hFc31 : frm (M_DA_rebuildRow_1) s28 s31 := hFc31
            replace hR := bnd_step hR eq31
            have hF := frm_tr hF hFc31 (fun k hk => by unfold M_DA_rebuildRow_1 at hk; unfold M_DA_accepts_1; omega)
            have hf27 : s31.1 16 3 = nI ps21 := fc_F hf25 hFc31 (by unfold M_DA_rebuildRow_1; omega)
            have hf28 : s31.1 16 1 = nI x28 := fc_F hf26 hFc31 (by unfold M_DA_rebuildRow_1; omega)
            have hg33 : hgN 55 6 (s31.1 146) := by rw [hFc31 146 (by unfold M_DA_rebuildRow_1; omega)]; exact hg29
            refine W.widen (k := 0) (n := 0) (by omega) (by omega) ?_
            refine lv_aload_n hx hb dDA_accepts_146 rfl (lv_at hl 3 rfl) ?_
            refine lv_aload_n hx hb dDA_accepts_147 rfl (lv_at hl 4 rfl) ?_
            refine lv_aload_n hx hb dDA_accepts_148 rfl (lv_at hl 3 rfl) ?_
            refine nw_get (C := "LatticeKeys$Dsa") (TT := T_DA) (N := 17) hx hb hts (wg_ft i_DA) hown hK hO k_h0 (kn := 39) (ci := 6) (fl := [(3, 16), (3, 22), (3, 37), (3, 40), (3, 97), (3, 105), (3, 114), (3, 123), (3, 131), (3, 140), (3, 141), (3, 142), (3, 143), (3, 144), (3, 145), (3, 146), (3, 147)]) rfl hP rfl 8 (by decide) (hts _ (wg_t kw_173)) (fun _ h9 => h9) (cd := (3, 131)) rfl dDA_accepts_149 (fun v38 hv38 => ?_)
            obtain ⟨r34, rfl, kr32⟩ := (show ∃ r : Nat, v38 = .ref r ∧ T r = some 131 from hv38)
            refine lv_iload hx hb dDA_accepts_152 (lv_at hl 1 rfl) ?_
            refine nw_aald3 hx hb hK hO kr32 (k := 131) (b := 132) rfl hP (by omega) (by omega) dDA_accepts_154 (fun r35 kr33 => ?_)
            have hn21 : nsp (132 + i22) = (0, 256, []) := rows_ok 132 8 (by decide) _ (by omega)
            refine lv_iload hx hb dDA_accepts_155 (lv_at hl 2 rfl) ?_
            refine lv_iload hx hb dDA_accepts_157 (lv_at hl 0 rfl) ?_
            refine mp_v (cx := []) (wr := []) hP hD hS hA [] [] rfl rfl rfl (by decide) (va_runV (As := [.ref st, .ref r35, .int (nI fs21), .int (nI z22)]) (rest := []) F (N_DA_useHints_1 l g _ T s31 pl hO hU h0 st r35 (132 + i22) fs21 z22 k_h0 k_st kr33 hn21 (by omega) (by omega)) (cwV 4 hts (wg_app (wg_c kw_1277 (wg_c kw_1279 (wg_c ks_48 (wg_c kw_5 wg_n)))) kw_1280) rfl rfl rfl (by decide +kernel) ⟨by decide, by decide⟩) (pn_W "LatticeKeys$Dsa" (en_ok g) (ci := 6) (kn := 39) (fl := [(3, 16), (3, 22), (3, 37), (3, 40), (3, 97), (3, 105), (3, 114), (3, 123), (3, 131), (3, 140), (3, 141), (3, 142), (3, 143), (3, 144), (3, 145), (3, 146), (3, 147)]) hK hO k_h0 rfl hP hD hS hA hE [] rfl rfl rfl) rfl rfl hl.1 rfl (lv_room (Nat.le_of_ble_eq_true rfl)) dDA_accepts_159 ⟨by omega, by omega⟩) (fun  u32 H locs hu32 hP hD hS => ?_)
            obtain ⟨s32, pl⟩ := u32
            obtain ⟨⟨eq32, hFc32, -⟩, hO⟩ := hu32
            have hO : okn g T s32 pl := hO
            have hP : va_P g.1 vcl ([] ++ pl) _ := hP
            have hD : va_D _ ([] ++ pl) := hD
            have hFc32 : frm (M_DA_useHints_1) s31 s32 := hFc32
            replace hR := bnd_step hR eq32
            have hF := frm_tr hF hFc32 (fun k hk => by unfold M_DA_useHints_1 at hk; unfold M_DA_accepts_1; omega)
            have hf29 : s32.1 16 3 = nI ps21 := fc_F hf27 hFc32 (by unfold M_DA_useHints_1; omega)
            have hf30 : s32.1 16 1 = nI x28 := fc_F hf28 hFc32 (by unfold M_DA_useHints_1; omega)
            have hg34 : hgN 55 6 (s32.1 146) := by rw [hFc32 146 (by unfold M_DA_useHints_1; omega)]; exact hg33
            refine W.widen (k := 0) (n := 0) (by omega) (by omega) ?_
            refine lv_aload_n hx hb dDA_accepts_162 rfl (lv_at hl 3 rfl) ?_
            refine lv_aload_n hx hb dDA_accepts_163 rfl (lv_at hl 4 rfl) ?_
            refine mp_v (cx := []) (wr := []) hP hD hS hA [] [] rfl rfl rfl (by decide) (va_runV (As := [.ref st]) (rest := []) F (N_DA_absorbHigh_1 l g _ T s32 pl hO hU h0 st ps21 x28 k_h0 k_st hf29 hf30 (by omega) (by omega)) (cwV 1 hts (wg_app (wg_c kw_1210 (wg_c kw_1212 (wg_c ks_39 (wg_c kw_5 wg_n)))) kw_1213) rfl rfl rfl (by decide +kernel) ⟨by decide, by decide⟩) (pn_W "LatticeKeys$Dsa" (en_ok g) (ci := 6) (kn := 39) (fl := [(3, 16), (3, 22), (3, 37), (3, 40), (3, 97), (3, 105), (3, 114), (3, 123), (3, 131), (3, 140), (3, 141), (3, 142), (3, 143), (3, 144), (3, 145), (3, 146), (3, 147)]) hK hO k_h0 rfl hP hD hS hA hE [] rfl rfl rfl) rfl rfl hl.1 rfl (lv_room (Nat.le_of_ble_eq_true rfl)) dDA_accepts_164 ⟨by omega, by omega⟩) (fun  u33 H locs hu33 hP hD hS => ?_)
            obtain ⟨s33, pl⟩ := u33
            obtain ⟨⟨eq33, hFc33, ⟨x39, hx_39, hb_39⟩, ⟨x40, hx_40, hb_40⟩, -⟩, hO⟩ := hu33
            have hO : okn g T s33 pl := hO
            have hP : va_P g.1 vcl ([] ++ pl) _ := hP
            have hD : va_D _ ([] ++ pl) := hD
            have hFc33 : frm (M_DA_absorbHigh_1) s32 s33 := hFc33
            have hb_39 : x39 < 136 := hb_39
            have hb_40 : x40 = 136 := hb_40
            replace hR := bnd_step hR eq33
            have hF := frm_tr hF hFc33 (fun k hk => by unfold M_DA_absorbHigh_1 at hk; unfold M_DA_accepts_1; omega)
            have hg35 : hgN 55 6 (s33.1 146) := by rw [hFc33 146 (by unfold M_DA_absorbHigh_1; omega)]; exact hg34
            refine W.widen (k := 0) (n := 0) (by omega) (by omega) ?_
            refine lv_iload hx hb dDA_accepts_167 (lv_at hl 0 rfl) ?_
            refine lv_istore (lv' := [(6, .int (nI z22)), (8, .int (nI z22)), (7, .int (nI i22)), (0, .ref h0), (1, .ref st), (2, .ref pk)]) hx hb dDA_accepts_169 hl (by decide) rfl (fun ls hl => ?_)
            refine mi_iinc (k := 2) (x := i22) (d := 1) (y := i22 + 1) (lv' := [(7, .int (nI (i22 + 1))), (6, .int (nI z22)), (8, .int (nI z22)), (0, .ref h0), (1, .ref st), (2, .ref pk)]) hx hb dDA_accepts_171 hl rfl (by decide) rfl (by decide) rfl (fun ls hl => ?_)
            refine lv_goto (tgt := 111) hx hb dDA_accepts_174 (by decide) ?_
            exact ih22 (i22 + 1) z22 s33 x39 pl ls H locs (by omega) (by omega) (by omega) hF hx_39 (by have h9 := hx_40; rw [show x40 = x28 by omega] at h9; exact h9) hg35 hR (lv_sub hl [0, 1, 3, 4, 5] rfl) hO hP hD hS
        exact lp22 6 0 0 s27 x27 pl ls _ _ (by omega) (by omega) (by omega) hF hx_27 hx_28 hg28 hR (lv_sub hl [0, 1, 2, 3, 4] rfl) hO hP hD hS
      | succ n21 ih21 =>
        intro i21 s26 pl ls H locs hm21 hF hg27 hR hl hO hP hD hS
        refine lv_iload hx hb dDA_accepts_72 (lv_at hl 0 rfl) ?_
        refine lv_aload_n hx hb dDA_accepts_74 rfl (lv_at hl 2 rfl) ?_
        refine nw_get (C := "LatticeKeys$DsaSet") (TT := T_DS) (N := 17) hx hb hts (wg_ft i_DS) hown hK hO k_st (kn := 10) (ci := 2) (fl := [(1, 6), (1, 5), (1, 4), (1, 4), (1, 49), (1, 48), (1, 20), (1, 524288), (1, 16), (1, 4), (1, 261888), (1, 55), (1, 196), (1, 1952), (1, 4032), (1, 3248), (1, 3309)]) rfl hP rfl 1 (by decide) (hts _ (wg_t kw_305)) (fun _ h9 => h9) (cd := (1, 5)) rfl dDA_accepts_75 (fun v39 hv39 => ?_)
        obtain rfl := (show v39 = .int (nI 5) from hv39)
        refine mi_ge (tgt := 101) hx hb dDA_accepts_78 (by decide) (by omega) (by omega) (fun h25 => absurd h25 (by omega)) (fun h25 => ?_)
        refine lv_aload_n hx hb dDA_accepts_81 rfl (lv_at hl 1 rfl) ?_
        refine nw_get (C := "LatticeKeys$Dsa") (TT := T_DA) (N := 17) hx hb hts (wg_ft i_DA) hown hK hO k_h0 (kn := 39) (ci := 6) (fl := [(3, 16), (3, 22), (3, 37), (3, 40), (3, 97), (3, 105), (3, 114), (3, 123), (3, 131), (3, 140), (3, 141), (3, 142), (3, 143), (3, 144), (3, 145), (3, 146), (3, 147)]) rfl hP rfl 1 (by decide) (hts _ (wg_t kw_166)) (fun _ h9 => h9) (cd := (3, 22)) rfl dDA_accepts_82 (fun v40 hv40 => ?_)
        obtain ⟨r36, rfl, kr34⟩ := (show ∃ r : Nat, v40 = .ref r ∧ T r = some 22 from hv40)
        refine lv_aload_n hx hb dDA_accepts_85 rfl (lv_at hl 1 rfl) ?_
        refine nw_get (C := "LatticeKeys$Dsa") (TT := T_DA) (N := 17) hx hb hts (wg_ft i_DA) hown hK hO k_h0 (kn := 39) (ci := 6) (fl := [(3, 16), (3, 22), (3, 37), (3, 40), (3, 97), (3, 105), (3, 114), (3, 123), (3, 131), (3, 140), (3, 141), (3, 142), (3, 143), (3, 144), (3, 145), (3, 146), (3, 147)]) rfl hP rfl 7 (by decide) (hts _ (wg_t kw_172)) (fun _ h9 => h9) (cd := (3, 123)) rfl dDA_accepts_86 (fun v41 hv41 => ?_)
        obtain ⟨r37, rfl, kr35⟩ := (show ∃ r : Nat, v41 = .ref r ∧ T r = some 123 from hv41)
        refine lv_iload hx hb dDA_accepts_89 (lv_at hl 0 rfl) ?_
        refine nw_aald3 hx hb hK hO kr35 (k := 123) (b := 124) rfl hP (by omega) (by omega) dDA_accepts_91 (fun r38 kr36 => ?_)
        have hn22 : nsp (124 + i21) = (0, 256, []) := rows_ok 124 7 (by decide) _ (by omega)
        refine mp_v (cx := []) (wr := []) hP hD hS hA [] [] rfl rfl rfl (by decide) (va_runV (As := [.ref r38]) (rest := []) F (N_RG_transform_8 l g _ T s26 pl hO hU r36 r38 (124 + i21) kr34 kr36 hn22) (cwV 1 hts (wg_app (wg_c kw_711 (wg_c kw_637 (wg_c kw_638 (wg_c kw_4 wg_n)))) kw_639) rfl rfl rfl (by decide +kernel) ⟨by decide, by decide⟩) (pn_W "LatticeKeys$Ring" (en_ok g) (ci := 4) (kn := 22) (fl := [(1, 8380417), (1, 8), (1, 8347681), (3, 23)]) hK hO kr34 rfl hP hD hS hA hE [] rfl rfl rfl) rfl rfl hl.1 rfl (lv_room (Nat.le_of_ble_eq_true rfl)) dDA_accepts_92 ⟨by omega, by omega⟩) (fun  u34 H locs hu34 hP hD hS => ?_)
        obtain ⟨s34, pl⟩ := u34
        obtain ⟨⟨eq34, hFc34, -⟩, hO⟩ := hu34
        have hO : okn g T s34 pl := hO
        have hP : va_P g.1 vcl ([] ++ pl) _ := hP
        have hD : va_D _ ([] ++ pl) := hD
        have hFc34 : frm (M_RG_transform_8 (124 + i21)) s26 s34 := hFc34
        replace hR := bnd_step hR eq34
        have hF := frm_tr hF hFc34 (fun k hk => by unfold M_RG_transform_8 at hk; unfold M_DA_accepts_1; omega)
        have hg36 : hgN 55 6 (s34.1 146) := by rw [hFc34 146 (by unfold M_RG_transform_8; omega)]; exact hg27
        refine W.widen (k := 0) (n := 0) (by omega) (by omega) ?_
        refine mi_iinc (k := 0) (x := i21) (d := 1) (y := i21 + 1) (lv' := [(6, .int (nI (i21 + 1))), (0, .ref h0), (1, .ref st), (2, .ref pk)]) hx hb dDA_accepts_95 hl rfl (by decide) rfl (by decide) rfl (fun ls hl => ?_)
        refine lv_goto (tgt := 72) hx hb dDA_accepts_98 (by decide) ?_
        exact ih21 (i21 + 1) s34 pl ls H locs (by omega) hF hg36 hR (lv_sub hl [0, 1, 2, 3] rfl) hO hP hD hS
    exact lp21 5 0 s25 pl ls _ _ (by omega) hF hg26 hR (lv_sub hl [0, 1, 2, 3] rfl) hO hP hD hS
  · replace hR := hR.trans (if_pos h21)
    refine lv_iconst (v := nI 0) hx hb dDA_accepts_9 (by decide) ?_
    exact mp_zret hx hb hr hlk rfl hP hD hS ((nI 0, q21.2), pl) ⟨⟨hR.symm, rfl, hF, trivial⟩, hO⟩ [] rfl rfl rfl (by omega) (by omega) dDA_accepts_10
def M_DA_accepts_2 (k : Nat) : Prop := (115 ≤ k ∧ k < 123) ∨ (124 ≤ k ∧ k < 131) ∨ (132 ≤ k ∧ k < 140) ∨ (41 ≤ k ∧ k < 97) ∨ k = 140 ∨ k = 141 ∨ k = 143 ∨ k = 144 ∨ k = 145 ∨ k = 146 ∨ k = 147 ∨ k = 16 ∨ k = 18 ∨ (0 : Nat) = 1
noncomputable def F_DA_accepts_2_L1 (pp : Nat) : Nat → Nat → Nat → Sto → Int32 × Sto
  | 0, i22, fs21, s28 => bnd (F_SP_finish 16 17 s28) fun s29 => bnd (F_SP_squeeze 16 17 145 64 0 64 s29) fun s30 => bnd (F_DA_challengesAgree_2  s30) fun q22 => bnd (q22.1.toNatClampNeg) fun z21 => (nI z21, q22.2)
  | n22 + 1, i22, fs21, s28 => bnd (((s28.1 146 (75 + i22)) &&& nI 255).toNatClampNeg) fun z22 => bnd (F_DA_rebuildRow_2 pp i22 s28) fun s31 => bnd (F_DA_useHints_2 (132 + i22) fs21 z22 s31) fun s32 => bnd (F_DA_absorbHigh_2  s32) fun s33 => F_DA_accepts_2_L1 pp n22 (i22 + 1) z22 s33
noncomputable def F_DA_accepts_2_L0 (pp : Nat) : Nat → Nat → Sto → Int32 × Sto
  | 0, i21, s26 => bnd (F_DA_startChallenge  s26) fun s27 => F_DA_accepts_2_L1 pp 8 0 0 s27
  | n21 + 1, i21, s26 => bnd (F_RG_transform_8 (124 + i21) s26) fun s34 => F_DA_accepts_2_L0 pp n21 (i21 + 1) s34
noncomputable def F_DA_accepts_2 (pp : Nat) (ptp : Nat) (n : Nat) (len : Nat) (cl_ : Int32) (s : Sto) : Int32 × Sto := bnd (F_DA_readSignature_2 ptp n s) fun q21 => if (q21.1) = 0 then (nI 0, q21.2) else bnd (F_DA_digestOf pp 2592 q21.2) fun s21 => bnd (F_DA_digestMessage ptp n 4627 len cl_ s21) fun s22 => bnd (F_SA_expandMatrix_2 pp 2592 s22) fun s23 => bnd (F_SA_sampleBall_2 140 144 64 s23) fun s24 => bnd (F_RG_transform_8 140 s24) fun s25 => F_DA_accepts_2_L0 pp 7 0 s25
set_option maxHeartbeats 8000000 in
set_option maxRecDepth 100000 in
theorem N_DA_accepts_2 (l : Launch) (g : Gd) (sz : Nat) (T : TyN) (s : Sto) (pl : va_W) (hO : okn g T s pl) (hU : inj T) (h0 st pk tp : Nat) (pp : Nat) (ptp : Nat) (n : Nat) (len : Nat) (cl_ : Int32) (k_h0 : T h0 = some 39) (k_st : T st = some 11) (k_pk : T pk = some pp) (n_pk : nsp pp = (1, 2592, [])) (k_tp : T tp = some ptp) (n_tp : nsp ptp = (1, n, [])) (h1 : 4627 ≤ len) (h3 : len ≤ n) (h2 : n < 65536)  : Met l y_DA_accepts w_DA_accepts ({ frames := 5, cells := 0, slots := 0, locals := 152 } : Room) (va_Pc [.ref h0, .ref st, .ref pk, .ref tp, .int (nI len), .int cl_] (pr (en g) g.1 vcl sz ([] ++ pl))) (va_Qi (fun (r : Int32) (u : (Int32 × Sto) × va_W) => (u.1 = F_DA_accepts_2 pp ptp n len cl_ s ∧ r = u.1.1 ∧ frm (M_DA_accepts_2) s u.1.2 ∧ True) ∧ okn g T u.1.2 u.2) (po g.1 vcl (va_A ([] ++ pl) sz) (fun (u : (Int32 × Sto) × va_W) => [] ++ u.2)) (va_A ([] ++ pl) sz)) 0 0 (va_A ([] ++ pl) sz) := by
  refine mc_entry (cc := c_DA_accepts) (maxL := 9) (ret := (some .boolean)) (by decide) rfl (Nat.le_of_ble_eq_true rfl) ?_
  intro p e s0 m args below meth c ls F hr hlk hnm hsz hP hD hE hA hl
  obtain ⟨hx, hb, hml, hown, hts⟩ := id F
  have hK := hE.1
  generalize va_A ([] ++ pl) sz = A at hD hE hA ⊢
  have hS : va_S A s0.heap s0.heap [] := va_S.rf
  have hl : lv_has ls 9 [(0, .ref h0), (1, .ref st), (2, .ref pk), (3, .ref tp), (4, .int (nI len)), (5, .int cl_)] := hl
  have hR : F_DA_accepts_2 pp ptp n len cl_ s = F_DA_accepts_2 pp ptp n len cl_ s := rfl
  have hF : frm (M_DA_accepts_2) s s := frm_rf
  refine lv_aload_n hx hb dDA_accepts_0 rfl (lv_at hl 0 rfl) ?_
  refine lv_aload_n hx hb dDA_accepts_1 rfl (lv_at hl 1 rfl) ?_
  refine lv_aload_n hx hb dDA_accepts_2 rfl (lv_at hl 3 rfl) ?_
  refine mp_i (cx := []) (wr := []) hP hD hS hA [] [] rfl rfl rfl (by decide) (va_runV (As := [.ref st, .ref tp]) (rest := []) F (N_DA_readSignature_2 l g _ T s pl hO hU h0 st tp ptp n k_h0 k_st k_tp n_tp (by omega) (by omega)) (cwV 2 hts (wg_app (wg_c kw_1265 (wg_c kw_1267 (wg_c ks_45 (wg_c kw_5 wg_n)))) kw_1268) rfl rfl rfl (by decide +kernel) ⟨by decide, by decide⟩) (pn_W "LatticeKeys$Dsa" (en_ok g) (ci := 6) (kn := 39) (fl := [(3, 16), (3, 22), (3, 37), (3, 40), (3, 97), (3, 105), (3, 114), (3, 123), (3, 131), (3, 140), (3, 141), (3, 142), (3, 143), (3, 144), (3, 145), (3, 146), (3, 147)]) hK hO k_h0 rfl hP hD hS hA hE [] rfl rfl rfl) rfl rfl hl.1 rfl (lv_room (Nat.le_of_ble_eq_true rfl)) dDA_accepts_3 ⟨by omega, by omega⟩) (fun r21 u21 H locs hu21 hP hD hS => ?_)
  obtain ⟨q21, pl⟩ := u21
  obtain ⟨⟨eq21, rfl, hFc21, hxp21, -⟩, hO⟩ := hu21
  have hO : okn g T q21.2 pl := hO
  have hP : va_P g.1 vcl ([] ++ pl) _ := hP
  have hD : va_D _ ([] ++ pl) := hD
  have hFc21 : frm (M_DA_readSignature_2) s q21.2 := hFc21
  replace hR := bnd_step hR eq21
  have hF := frm_tr hF hFc21 (fun k hk => by unfold M_DA_readSignature_2 at hk; unfold M_DA_accepts_2; omega)
  refine W.widen (k := 0) (n := 0) (by omega) (by omega) ?_
  refine lv_if_ne (tgt := 11) hx hb dDA_accepts_6 (by decide) (fun h21 => ?_) (fun h21 => ?_)
  · replace hR := hR.trans (if_neg h21)
    have hg21 : hgN 75 8 (q21.2.1 146) := hxp21.resolve_left h21
    refine lv_aload_n hx hb dDA_accepts_11 rfl (lv_at hl 0 rfl) ?_
    refine lv_aload_n hx hb dDA_accepts_12 rfl (lv_at hl 2 rfl) ?_
    refine mp_v (cx := []) (wr := []) hP hD hS hA [] [] rfl rfl rfl (by decide) (va_runV (As := [.ref pk]) (rest := []) F (N_DA_digestOf l g _ T q21.2 pl hO hU h0 pk pp 2592 k_h0 k_pk n_pk (by omega)) (cwV 1 hts (wg_app (wg_c kw_736 (wg_c kw_738 (wg_c ks_18 (wg_c kw_5 wg_n)))) kw_739) rfl rfl rfl (by decide +kernel) ⟨by decide, by decide⟩) (pn_W "LatticeKeys$Dsa" (en_ok g) (ci := 6) (kn := 39) (fl := [(3, 16), (3, 22), (3, 37), (3, 40), (3, 97), (3, 105), (3, 114), (3, 123), (3, 131), (3, 140), (3, 141), (3, 142), (3, 143), (3, 144), (3, 145), (3, 146), (3, 147)]) hK hO k_h0 rfl hP hD hS hA hE [] rfl rfl rfl) rfl rfl hl.1 rfl (lv_room (Nat.le_of_ble_eq_true rfl)) dDA_accepts_13 ⟨by omega, by omega⟩) (fun  u22 H locs hu22 hP hD hS => ?_)
    obtain ⟨s21, pl⟩ := u22
    obtain ⟨⟨eq22, hFc22, -⟩, hO⟩ := hu22
    have hO : okn g T s21 pl := hO
    have hP : va_P g.1 vcl ([] ++ pl) _ := hP
    have hD : va_D _ ([] ++ pl) := hD
    have hFc22 : frm (M_DA_digestOf) q21.2 s21 := hFc22
    replace hR := bnd_step hR eq22
    have hF := frm_tr hF hFc22 (fun k hk => by unfold M_DA_digestOf at hk; unfold M_DA_accepts_2; omega)
    have hg22 : hgN 75 8 (s21.1 146) := by rw [hFc22 146 (by unfold M_DA_digestOf; omega)]; exact hg21
    refine W.widen (k := 0) (n := 0) (by omega) (by omega) ?_
    refine lv_aload_n hx hb dDA_accepts_16 rfl (lv_at hl 0 rfl) ?_
    refine lv_aload_n hx hb dDA_accepts_17 rfl (lv_at hl 3 rfl) ?_
    refine lv_aload_n hx hb dDA_accepts_18 rfl (lv_at hl 1 rfl) ?_
    refine nw_get (C := "LatticeKeys$DsaSet") (TT := T_DS) (N := 17) hx hb hts (wg_ft i_DS) hown hK hO k_st (kn := 11) (ci := 2) (fl := [(1, 8), (1, 7), (1, 2), (1, 3), (1, 60), (1, 64), (1, 20), (1, 524288), (1, 16), (1, 4), (1, 261888), (1, 75), (1, 120), (1, 2592), (1, 4896), (1, 4544), (1, 4627)]) rfl hP rfl 16 (by decide) (hts _ (wg_t kw_338)) (fun _ h9 => h9) (cd := (1, 4627)) rfl dDA_accepts_19 (fun v21 hv21 => ?_)
    obtain rfl := (show v21 = .int (nI 4627) from hv21)
    refine lv_iload hx hb dDA_accepts_22 (lv_at hl 4 rfl) ?_
    refine lv_iload hx hb dDA_accepts_24 (lv_at hl 5 rfl) ?_
    refine mp_v (cx := []) (wr := []) hP hD hS hA [] [] rfl rfl rfl (by decide) (va_runV (As := [.ref tp, .int (nI 4627), .int (nI len), .int cl_]) (rest := []) F (N_DA_digestMessage l g _ T s21 pl hO hU h0 tp ptp n 4627 len cl_ k_h0 k_tp n_tp (by omega) (by omega) (by omega)) (cwV 4 hts (wg_app (wg_c kw_1188 (wg_c kw_1190 (wg_c ks_36 (wg_c kw_5 wg_n)))) kw_1191) rfl rfl rfl (by decide +kernel) ⟨by decide, by decide⟩) (pn_W "LatticeKeys$Dsa" (en_ok g) (ci := 6) (kn := 39) (fl := [(3, 16), (3, 22), (3, 37), (3, 40), (3, 97), (3, 105), (3, 114), (3, 123), (3, 131), (3, 140), (3, 141), (3, 142), (3, 143), (3, 144), (3, 145), (3, 146), (3, 147)]) hK hO k_h0 rfl hP hD hS hA hE [] rfl rfl rfl) rfl rfl hl.1 rfl (lv_room (Nat.le_of_ble_eq_true rfl)) dDA_accepts_26 ⟨by omega, by omega⟩) (fun  u23 H locs hu23 hP hD hS => ?_)
    obtain ⟨s22, pl⟩ := u23
    obtain ⟨⟨eq23, hFc23, -⟩, hO⟩ := hu23
    have hO : okn g T s22 pl := hO
    have hP : va_P g.1 vcl ([] ++ pl) _ := hP
    have hD : va_D _ ([] ++ pl) := hD
    have hFc23 : frm (M_DA_digestMessage) s21 s22 := hFc23
    replace hR := bnd_step hR eq23
    have hF := frm_tr hF hFc23 (fun k hk => by unfold M_DA_digestMessage at hk; unfold M_DA_accepts_2; omega)
    have hg23 : hgN 75 8 (s22.1 146) := by rw [hFc23 146 (by unfold M_DA_digestMessage; omega)]; exact hg22
    refine W.widen (k := 0) (n := 0) (by omega) (by omega) ?_
    refine lv_aload_n hx hb dDA_accepts_29 rfl (lv_at hl 0 rfl) ?_
    refine nw_get (C := "LatticeKeys$Dsa") (TT := T_DA) (N := 17) hx hb hts (wg_ft i_DA) hown hK hO k_h0 (kn := 39) (ci := 6) (fl := [(3, 16), (3, 22), (3, 37), (3, 40), (3, 97), (3, 105), (3, 114), (3, 123), (3, 131), (3, 140), (3, 141), (3, 142), (3, 143), (3, 144), (3, 145), (3, 146), (3, 147)]) rfl hP rfl 2 (by decide) (hts _ (wg_t kw_167)) (fun _ h9 => h9) (cd := (3, 37)) rfl dDA_accepts_30 (fun v22 hv22 => ?_)
    obtain ⟨r22, rfl, kr21⟩ := (show ∃ r : Nat, v22 = .ref r ∧ T r = some 37 from hv22)
    refine lv_aload_n hx hb dDA_accepts_33 rfl (lv_at hl 1 rfl) ?_
    refine lv_aload_n hx hb dDA_accepts_34 rfl (lv_at hl 2 rfl) ?_
    refine lv_aload_n hx hb dDA_accepts_35 rfl (lv_at hl 0 rfl) ?_
    refine nw_get (C := "LatticeKeys$Dsa") (TT := T_DA) (N := 17) hx hb hts (wg_ft i_DA) hown hK hO k_h0 (kn := 39) (ci := 6) (fl := [(3, 16), (3, 22), (3, 37), (3, 40), (3, 97), (3, 105), (3, 114), (3, 123), (3, 131), (3, 140), (3, 141), (3, 142), (3, 143), (3, 144), (3, 145), (3, 146), (3, 147)]) rfl hP rfl 3 (by decide) (hts _ (wg_t kw_168)) (fun _ h9 => h9) (cd := (3, 40)) rfl dDA_accepts_36 (fun v23 hv23 => ?_)
    obtain ⟨r23, rfl, kr22⟩ := (show ∃ r : Nat, v23 = .ref r ∧ T r = some 40 from hv23)
    refine mp_v (cx := []) (wr := []) hP hD hS hA [] [] rfl rfl rfl (by decide) (va_runV (As := [.ref st, .ref pk, .ref r23]) (rest := []) F (N_SA_expandMatrix_2 l g _ T s22 pl hO hU r22 st pk r23 pp 2592 kr21 k_st k_pk n_pk kr22 (by omega) (by omega)) (cwV 3 hts (wg_app (wg_c kw_703 (wg_c kw_704 (wg_c kw_705 (wg_c kw_6 wg_n)))) kw_706) rfl rfl rfl (by decide +kernel) ⟨by decide, by decide⟩) (pn_W "LatticeKeys$DsaSampler" (en_ok g) (ci := 7) (kn := 37) (fl := [(3, 18), (3, 38)]) hK hO kr21 rfl hP hD hS hA hE [] rfl rfl rfl) rfl rfl hl.1 rfl (lv_room (Nat.le_of_ble_eq_true rfl)) dDA_accepts_39 ⟨by omega, by omega⟩) (fun  u24 H locs hu24 hP hD hS => ?_)
    obtain ⟨s23, pl⟩ := u24
    obtain ⟨⟨eq24, hFc24, -⟩, hO⟩ := hu24
    have hO : okn g T s23 pl := hO
    have hP : va_P g.1 vcl ([] ++ pl) _ := hP
    have hD : va_D _ ([] ++ pl) := hD
    have hFc24 : frm (M_SA_expandMatrix_2) s22 s23 := hFc24
    replace hR := bnd_step hR eq24
    have hF := frm_tr hF hFc24 (fun k hk => by unfold M_SA_expandMatrix_2 at hk; unfold M_DA_accepts_2; omega)
    have hg24 : hgN 75 8 (s23.1 146) := by rw [hFc24 146 (by unfold M_SA_expandMatrix_2; omega)]; exact hg23
    refine W.widen (k := 0) (n := 0) (by omega) (by omega) ?_
    refine lv_aload_n hx hb dDA_accepts_42 rfl (lv_at hl 0 rfl) ?_
    refine nw_get (C := "LatticeKeys$Dsa") (TT := T_DA) (N := 17) hx hb hts (wg_ft i_DA) hown hK hO k_h0 (kn := 39) (ci := 6) (fl := [(3, 16), (3, 22), (3, 37), (3, 40), (3, 97), (3, 105), (3, 114), (3, 123), (3, 131), (3, 140), (3, 141), (3, 142), (3, 143), (3, 144), (3, 145), (3, 146), (3, 147)]) rfl hP rfl 2 (by decide) (hts _ (wg_t kw_167)) (fun _ h9 => h9) (cd := (3, 37)) rfl dDA_accepts_43 (fun v24 hv24 => ?_)
    obtain ⟨r24, rfl, kr23⟩ := (show ∃ r : Nat, v24 = .ref r ∧ T r = some 37 from hv24)
    refine lv_aload_n hx hb dDA_accepts_46 rfl (lv_at hl 1 rfl) ?_
    refine lv_aload_n hx hb dDA_accepts_47 rfl (lv_at hl 0 rfl) ?_
    refine nw_get (C := "LatticeKeys$Dsa") (TT := T_DA) (N := 17) hx hb hts (wg_ft i_DA) hown hK hO k_h0 (kn := 39) (ci := 6) (fl := [(3, 16), (3, 22), (3, 37), (3, 40), (3, 97), (3, 105), (3, 114), (3, 123), (3, 131), (3, 140), (3, 141), (3, 142), (3, 143), (3, 144), (3, 145), (3, 146), (3, 147)]) rfl hP rfl 9 (by decide) (hts _ (wg_t kw_174)) (fun _ h9 => h9) (cd := (3, 140)) rfl dDA_accepts_48 (fun v25 hv25 => ?_)
    obtain ⟨r25, rfl, kr24⟩ := (show ∃ r : Nat, v25 = .ref r ∧ T r = some 140 from hv25)
    refine lv_aload_n hx hb dDA_accepts_51 rfl (lv_at hl 0 rfl) ?_
    refine nw_get (C := "LatticeKeys$Dsa") (TT := T_DA) (N := 17) hx hb hts (wg_ft i_DA) hown hK hO k_h0 (kn := 39) (ci := 6) (fl := [(3, 16), (3, 22), (3, 37), (3, 40), (3, 97), (3, 105), (3, 114), (3, 123), (3, 131), (3, 140), (3, 141), (3, 142), (3, 143), (3, 144), (3, 145), (3, 146), (3, 147)]) rfl hP rfl 13 (by decide) (hts _ (wg_t kw_178)) (fun _ h9 => h9) (cd := (3, 144)) rfl dDA_accepts_52 (fun v26 hv26 => ?_)
    obtain ⟨r26, rfl, kr25⟩ := (show ∃ r : Nat, v26 = .ref r ∧ T r = some 144 from hv26)
    refine mp_v (cx := []) (wr := []) hP hD hS hA [] [] rfl rfl rfl (by decide) (va_runV (As := [.ref st, .ref r25, .ref r26]) (rest := []) F (N_SA_sampleBall_2 l g _ T s23 pl hO hU r24 st r25 r26 140 144 64 kr23 k_st kr24 rfl kr25 rfl (by omega) (by omega)) (cwV 3 hts (wg_app (wg_c kw_1214 (wg_c kw_1215 (wg_c kw_1216 (wg_c kw_6 wg_n)))) kw_1217) rfl rfl rfl (by decide +kernel) ⟨by decide, by decide⟩) (pn_W "LatticeKeys$DsaSampler" (en_ok g) (ci := 7) (kn := 37) (fl := [(3, 18), (3, 38)]) hK hO kr23 rfl hP hD hS hA hE [] rfl rfl rfl) rfl rfl hl.1 rfl (lv_room (Nat.le_of_ble_eq_true rfl)) dDA_accepts_55 ⟨by omega, by omega⟩) (fun  u25 H locs hu25 hP hD hS => ?_)
    obtain ⟨s24, pl⟩ := u25
    obtain ⟨⟨eq25, hFc25, -⟩, hO⟩ := hu25
    have hO : okn g T s24 pl := hO
    have hP : va_P g.1 vcl ([] ++ pl) _ := hP
    have hD : va_D _ ([] ++ pl) := hD
    have hFc25 : frm (M_SA_sampleBall_2 140) s23 s24 := hFc25
    replace hR := bnd_step hR eq25
    have hF := frm_tr hF hFc25 (fun k hk => by unfold M_SA_sampleBall_2 at hk; unfold M_DA_accepts_2; omega)
    have hg25 : hgN 75 8 (s24.1 146) := by rw [hFc25 146 (by unfold M_SA_sampleBall_2; omega)]; exact hg24
    refine W.widen (k := 0) (n := 0) (by omega) (by omega) ?_
    refine lv_aload_n hx hb dDA_accepts_58 rfl (lv_at hl 0 rfl) ?_
    refine nw_get (C := "LatticeKeys$Dsa") (TT := T_DA) (N := 17) hx hb hts (wg_ft i_DA) hown hK hO k_h0 (kn := 39) (ci := 6) (fl := [(3, 16), (3, 22), (3, 37), (3, 40), (3, 97), (3, 105), (3, 114), (3, 123), (3, 131), (3, 140), (3, 141), (3, 142), (3, 143), (3, 144), (3, 145), (3, 146), (3, 147)]) rfl hP rfl 1 (by decide) (hts _ (wg_t kw_166)) (fun _ h9 => h9) (cd := (3, 22)) rfl dDA_accepts_59 (fun v27 hv27 => ?_)
    obtain ⟨r27, rfl, kr26⟩ := (show ∃ r : Nat, v27 = .ref r ∧ T r = some 22 from hv27)
    refine lv_aload_n hx hb dDA_accepts_62 rfl (lv_at hl 0 rfl) ?_
    refine nw_get (C := "LatticeKeys$Dsa") (TT := T_DA) (N := 17) hx hb hts (wg_ft i_DA) hown hK hO k_h0 (kn := 39) (ci := 6) (fl := [(3, 16), (3, 22), (3, 37), (3, 40), (3, 97), (3, 105), (3, 114), (3, 123), (3, 131), (3, 140), (3, 141), (3, 142), (3, 143), (3, 144), (3, 145), (3, 146), (3, 147)]) rfl hP rfl 9 (by decide) (hts _ (wg_t kw_174)) (fun _ h9 => h9) (cd := (3, 140)) rfl dDA_accepts_63 (fun v28 hv28 => ?_)
    obtain ⟨r28, rfl, kr27⟩ := (show ∃ r : Nat, v28 = .ref r ∧ T r = some 140 from hv28)
    refine mp_v (cx := []) (wr := []) hP hD hS hA [] [] rfl rfl rfl (by decide) (va_runV (As := [.ref r28]) (rest := []) F (N_RG_transform_8 l g _ T s24 pl hO hU r27 r28 140 kr26 kr27 rfl) (cwV 1 hts (wg_app (wg_c kw_711 (wg_c kw_637 (wg_c kw_638 (wg_c kw_4 wg_n)))) kw_639) rfl rfl rfl (by decide +kernel) ⟨by decide, by decide⟩) (pn_W "LatticeKeys$Ring" (en_ok g) (ci := 4) (kn := 22) (fl := [(1, 8380417), (1, 8), (1, 8347681), (3, 23)]) hK hO kr26 rfl hP hD hS hA hE [] rfl rfl rfl) rfl rfl hl.1 rfl (lv_room (Nat.le_of_ble_eq_true rfl)) dDA_accepts_66 ⟨by omega, by omega⟩) (fun  u26 H locs hu26 hP hD hS => ?_)
    obtain ⟨s25, pl⟩ := u26
    obtain ⟨⟨eq26, hFc26, -⟩, hO⟩ := hu26
    have hO : okn g T s25 pl := hO
    have hP : va_P g.1 vcl ([] ++ pl) _ := hP
    have hD : va_D _ ([] ++ pl) := hD
    have hFc26 : frm (M_RG_transform_8 140) s24 s25 := hFc26
    replace hR := bnd_step hR eq26
    have hF := frm_tr hF hFc26 (fun k hk => by unfold M_RG_transform_8 at hk; unfold M_DA_accepts_2; omega)
    have hg26 : hgN 75 8 (s25.1 146) := by rw [hFc26 146 (by unfold M_RG_transform_8; omega)]; exact hg25
    refine W.widen (k := 0) (n := 0) (by omega) (by omega) ?_
    refine lv_iconst (v := nI 0) hx hb dDA_accepts_69 (by decide) ?_
    refine lv_istore (lv' := [(6, .int (nI 0)), (0, .ref h0), (1, .ref st), (2, .ref pk), (3, .ref tp), (4, .int (nI len)), (5, .int cl_)]) hx hb dDA_accepts_70 hl (by decide) rfl (fun ls hl => ?_)
    have lp21 : ∀ (n21 : Nat) (i21 : Nat) (s26 : Sto) (pl : va_W) (ls : Array Slot) (H : Heap) (locs : List Loc), n21 + i21 = 7 → frm (M_DA_accepts_2) s s26 → (hgN 75 8 (s26.1 146)) → F_DA_accepts_2 pp ptp n len cl_ s = F_DA_accepts_2_L0 pp n21 i21 s26 → lv_has ls 9 [(6, .int (nI i21)), (0, .ref h0), (1, .ref st), (2, .ref pk)] → okn g T s26 pl → va_P g.1 vcl ([] ++ pl) H → va_D A ([] ++ pl) → va_S A s0.heap H locs → W p l e ({ frames := 5, cells := 0, slots := 0, locals := 152 } : Room) s0 m args below meth c H locs 0 0 (MQ below (va_Qi (fun (r : Int32) (u : (Int32 × Sto) × va_W) => (u.1 = F_DA_accepts_2 pp ptp n len cl_ s ∧ r = u.1.1 ∧ frm (M_DA_accepts_2) s u.1.2 ∧ True) ∧ okn g T u.1.2 u.2) (po g.1 vcl A (fun (u : (Int32 × Sto) × va_W) => [] ++ u.2)) A) args s0 0 0 A) (F0 m 72 ls []) := by
      intro n21
      induction n21 with
      | zero =>
        intro i21 s26 pl ls H locs hm21 hF hg27 hR hl hO hP hD hS
        refine lv_iload hx hb dDA_accepts_72 (lv_at hl 0 rfl) ?_
        refine lv_aload_n hx hb dDA_accepts_74 rfl (lv_at hl 2 rfl) ?_
        refine nw_get (C := "LatticeKeys$DsaSet") (TT := T_DS) (N := 17) hx hb hts (wg_ft i_DS) hown hK hO k_st (kn := 11) (ci := 2) (fl := [(1, 8), (1, 7), (1, 2), (1, 3), (1, 60), (1, 64), (1, 20), (1, 524288), (1, 16), (1, 4), (1, 261888), (1, 75), (1, 120), (1, 2592), (1, 4896), (1, 4544), (1, 4627)]) rfl hP rfl 1 (by decide) (hts _ (wg_t kw_305)) (fun _ h9 => h9) (cd := (1, 7)) rfl dDA_accepts_75 (fun v29 hv29 => ?_)
        obtain rfl := (show v29 = .int (nI 7) from hv29)
        refine mi_ge (tgt := 101) hx hb dDA_accepts_78 (by decide) (by omega) (by omega) (fun h22 => ?_) (fun h22 => absurd h22 (by omega))
        refine lv_aload_n hx hb dDA_accepts_101 rfl (lv_at hl 1 rfl) ?_
        refine mp_v (cx := []) (wr := []) hP hD hS hA [] [] rfl rfl rfl (by decide) (va_runV (As := []) (rest := []) F (N_DA_startChallenge l g _ T s26 pl hO hU h0 k_h0) (cwV 0 hts (wg_app (wg_c kw_1202 (wg_c kw_1204 (wg_c ks_38 (wg_c kw_5 wg_n)))) kw_1205) rfl rfl rfl (by decide +kernel) ⟨by decide, by decide⟩) (pn_W "LatticeKeys$Dsa" (en_ok g) (ci := 6) (kn := 39) (fl := [(3, 16), (3, 22), (3, 37), (3, 40), (3, 97), (3, 105), (3, 114), (3, 123), (3, 131), (3, 140), (3, 141), (3, 142), (3, 143), (3, 144), (3, 145), (3, 146), (3, 147)]) hK hO k_h0 rfl hP hD hS hA hE [] rfl rfl rfl) rfl rfl hl.1 rfl (lv_room (Nat.le_of_ble_eq_true rfl)) dDA_accepts_102 ⟨by omega, by omega⟩) (fun  u27 H locs hu27 hP hD hS => ?_)
        obtain ⟨s27, pl⟩ := u27
        obtain ⟨⟨eq27, hFc27, ⟨x27, hx_27, hb_27⟩, ⟨x28, hx_28, hb_28⟩, -⟩, hO⟩ := hu27
        have hO : okn g T s27 pl := hO
        have hP : va_P g.1 vcl ([] ++ pl) _ := hP
        have hD : va_D _ ([] ++ pl) := hD
        have hFc27 : frm (M_DA_startChallenge) s26 s27 := hFc27
        have hb_27 : x27 < 136 := hb_27
        have hb_28 : x28 = 136 := hb_28
        replace hR := bnd_step hR eq27
        have hF := frm_tr hF hFc27 (fun k hk => by unfold M_DA_startChallenge at hk; unfold M_DA_accepts_2; omega)
        have hg28 : hgN 75 8 (s27.1 146) := by rw [hFc27 146 (by unfold M_DA_startChallenge; omega)]; exact hg27
        refine W.widen (k := 0) (n := 0) (by omega) (by omega) ?_
        refine lv_iconst (v := nI 0) hx hb dDA_accepts_105 (by decide) ?_
        refine lv_istore (lv' := [(6, .int (nI 0)), (0, .ref h0), (1, .ref st), (2, .ref pk)]) hx hb dDA_accepts_106 hl (by decide) rfl (fun ls hl => ?_)
        refine lv_iconst (v := nI 0) hx hb dDA_accepts_108 (by decide) ?_
        refine lv_istore (lv' := [(7, .int (nI 0)), (6, .int (nI 0)), (0, .ref h0), (1, .ref st), (2, .ref pk)]) hx hb dDA_accepts_109 hl (by decide) rfl (fun ls hl => ?_)
        have lp22 : ∀ (n22 : Nat) (i22 : Nat) (fs21 : Nat) (s28 : Sto) (ps21 : Nat) (pl : va_W) (ls : Array Slot) (H : Heap) (locs : List Loc), n22 + i22 = 8 → (fs21 ≤ 255) → (ps21 < 136) → frm (M_DA_accepts_2) s s28 → s28.1 16 3 = nI ps21 → s28.1 16 1 = nI x28 → (hgN 75 8 (s28.1 146)) → F_DA_accepts_2 pp ptp n len cl_ s = F_DA_accepts_2_L1 pp n22 i22 fs21 s28 → lv_has ls 9 [(7, .int (nI i22)), (6, .int (nI fs21)), (0, .ref h0), (1, .ref st), (2, .ref pk)] → okn g T s28 pl → va_P g.1 vcl ([] ++ pl) H → va_D A ([] ++ pl) → va_S A s0.heap H locs → W p l e ({ frames := 5, cells := 0, slots := 0, locals := 152 } : Room) s0 m args below meth c H locs 0 0 (MQ below (va_Qi (fun (r : Int32) (u : (Int32 × Sto) × va_W) => (u.1 = F_DA_accepts_2 pp ptp n len cl_ s ∧ r = u.1.1 ∧ frm (M_DA_accepts_2) s u.1.2 ∧ True) ∧ okn g T u.1.2 u.2) (po g.1 vcl A (fun (u : (Int32 × Sto) × va_W) => [] ++ u.2)) A) args s0 0 0 A) (F0 m 111 ls []) := by
          intro n22
          induction n22 with
          | zero =>
            intro i22 fs21 s28 ps21 pl ls H locs hm22 hi21 hi22 hF hf21 hf22 hg29 hR hl hO hP hD hS
            refine lv_iload hx hb dDA_accepts_111 (lv_at hl 0 rfl) ?_
            refine lv_aload_n hx hb dDA_accepts_113 rfl (lv_at hl 3 rfl) ?_
            refine nw_get (C := "LatticeKeys$DsaSet") (TT := T_DS) (N := 17) hx hb hts (wg_ft i_DS) hown hK hO k_st (kn := 11) (ci := 2) (fl := [(1, 8), (1, 7), (1, 2), (1, 3), (1, 60), (1, 64), (1, 20), (1, 524288), (1, 16), (1, 4), (1, 261888), (1, 75), (1, 120), (1, 2592), (1, 4896), (1, 4544), (1, 4627)]) rfl hP rfl 0 (by decide) (hts _ (wg_t kw_302)) (fun _ h9 => h9) (cd := (1, 8)) rfl dDA_accepts_114 (fun v30 hv30 => ?_)
            obtain rfl := (show v30 = .int (nI 8) from hv30)
            refine mi_ge (tgt := 177) hx hb dDA_accepts_117 (by decide) (by omega) (by omega) (fun h23 => ?_) (fun h23 => absurd h23 (by omega))
            refine lv_aload_n hx hb dDA_accepts_177 rfl (lv_at hl 2 rfl) ?_
            refine nw_get (C := "LatticeKeys$Dsa") (TT := T_DA) (N := 17) hx hb hts (wg_ft i_DA) hown hK hO k_h0 (kn := 39) (ci := 6) (fl := [(3, 16), (3, 22), (3, 37), (3, 40), (3, 97), (3, 105), (3, 114), (3, 123), (3, 131), (3, 140), (3, 141), (3, 142), (3, 143), (3, 144), (3, 145), (3, 146), (3, 147)]) rfl hP rfl 0 (by decide) (hts _ (wg_t kw_165)) (fun _ h9 => h9) (cd := (3, 16)) rfl dDA_accepts_178 (fun v31 hv31 => ?_)
            obtain ⟨r29, rfl, kr28⟩ := (show ∃ r : Nat, v31 = .ref r ∧ T r = some 16 from hv31)
            refine mp_v (cx := []) (wr := []) hP hD hS hA [] [] rfl rfl rfl (by decide) (va_runV (As := []) (rest := []) F (N_SP_finish l g _ T s28 pl hO hU r29 16 17 ps21 x28 kr28 rfl rfl hf21 hf22 (by omega) (by omega)) (cwV 0 hts (wg_app (wg_c kw_672 (wg_c kw_611 (wg_c kw_612 (wg_c kw_2 wg_n)))) kw_613) rfl rfl rfl (by decide +kernel) ⟨by decide, by decide⟩) (pn_W "LatticeKeys$Sponge" (en_ok g) (ci := 3) (kn := 16) (fl := [(3, 17), (0, 0), (0, 0), (0, 0)]) hK hO kr28 rfl hP hD hS hA hE [] rfl rfl rfl) rfl rfl hl.1 rfl (lv_room (Nat.le_of_ble_eq_true rfl)) dDA_accepts_181 ⟨by omega, by omega⟩) (fun  u28 H locs hu28 hP hD hS => ?_)
            obtain ⟨s29, pl⟩ := u28
            obtain ⟨⟨eq28, hFc28, ⟨x30, hx_30, hb_30⟩, ⟨x31, hx_31, hb_31⟩, -⟩, hO⟩ := hu28
            have hO : okn g T s29 pl := hO
            have hP : va_P g.1 vcl ([] ++ pl) _ := hP
            have hD : va_D _ ([] ++ pl) := hD
            have hFc28 : frm (M_SP_finish 16) s28 s29 := hFc28
            have hb_30 : x30 = x28 := hb_30
            have hb_31 : x31 = x28 := hb_31
            replace hR := bnd_step hR eq28
            have hF := frm_tr hF hFc28 (fun k hk => by unfold M_SP_finish at hk; unfold M_DA_accepts_2; omega)
            have hg30 : hgN 75 8 (s29.1 146) := by rw [hFc28 146 (by unfold M_SP_finish; omega)]; exact hg29
            refine W.widen (k := 0) (n := 0) (by omega) (by omega) ?_
            refine lv_aload_n hx hb dDA_accepts_184 rfl (lv_at hl 2 rfl) ?_
            refine nw_get (C := "LatticeKeys$Dsa") (TT := T_DA) (N := 17) hx hb hts (wg_ft i_DA) hown hK hO k_h0 (kn := 39) (ci := 6) (fl := [(3, 16), (3, 22), (3, 37), (3, 40), (3, 97), (3, 105), (3, 114), (3, 123), (3, 131), (3, 140), (3, 141), (3, 142), (3, 143), (3, 144), (3, 145), (3, 146), (3, 147)]) rfl hP rfl 0 (by decide) (hts _ (wg_t kw_165)) (fun _ h9 => h9) (cd := (3, 16)) rfl dDA_accepts_185 (fun v32 hv32 => ?_)
            obtain ⟨r30, rfl, kr29⟩ := (show ∃ r : Nat, v32 = .ref r ∧ T r = some 16 from hv32)
            refine lv_aload_n hx hb dDA_accepts_188 rfl (lv_at hl 2 rfl) ?_
            refine nw_get (C := "LatticeKeys$Dsa") (TT := T_DA) (N := 17) hx hb hts (wg_ft i_DA) hown hK hO k_h0 (kn := 39) (ci := 6) (fl := [(3, 16), (3, 22), (3, 37), (3, 40), (3, 97), (3, 105), (3, 114), (3, 123), (3, 131), (3, 140), (3, 141), (3, 142), (3, 143), (3, 144), (3, 145), (3, 146), (3, 147)]) rfl hP rfl 14 (by decide) (hts _ (wg_t kw_179)) (fun _ h9 => h9) (cd := (3, 145)) rfl dDA_accepts_189 (fun v33 hv33 => ?_)
            obtain ⟨r31, rfl, kr30⟩ := (show ∃ r : Nat, v33 = .ref r ∧ T r = some 145 from hv33)
            refine lv_iconst (v := nI 0) hx hb dDA_accepts_192 (by decide) ?_
            refine lv_aload_n hx hb dDA_accepts_193 rfl (lv_at hl 3 rfl) ?_
            refine nw_get (C := "LatticeKeys$DsaSet") (TT := T_DS) (N := 17) hx hb hts (wg_ft i_DS) hown hK hO k_st (kn := 11) (ci := 2) (fl := [(1, 8), (1, 7), (1, 2), (1, 3), (1, 60), (1, 64), (1, 20), (1, 524288), (1, 16), (1, 4), (1, 261888), (1, 75), (1, 120), (1, 2592), (1, 4896), (1, 4544), (1, 4627)]) rfl hP rfl 5 (by decide) (hts _ (wg_t kw_315)) (fun _ h9 => h9) (cd := (1, 64)) rfl dDA_accepts_194 (fun v34 hv34 => ?_)
            obtain rfl := (show v34 = .int (nI 64) from hv34)
            refine mp_v (cx := []) (wr := []) hP hD hS hA [] [] rfl rfl rfl (by decide) (va_runV (As := [.ref r31, .int (nI 0), .int (nI 64)]) (rest := []) F (N_SP_squeeze l g _ T s29 pl hO hU r30 r31 16 17 145 64 0 64 x30 x31 kr29 rfl rfl kr30 rfl hx_30 hx_31 (by omega) (by omega) (by omega) (by omega)) (cwV 3 hts (wg_app (wg_c kw_673 (wg_c kw_615 (wg_c kw_616 (wg_c kw_2 wg_n)))) kw_617) rfl rfl rfl (by decide +kernel) ⟨by decide, by decide⟩) (pn_W "LatticeKeys$Sponge" (en_ok g) (ci := 3) (kn := 16) (fl := [(3, 17), (0, 0), (0, 0), (0, 0)]) hK hO kr29 rfl hP hD hS hA hE [] rfl rfl rfl) rfl rfl hl.1 rfl (lv_room (Nat.le_of_ble_eq_true rfl)) dDA_accepts_197 ⟨by omega, by omega⟩) (fun  u29 H locs hu29 hP hD hS => ?_)
            obtain ⟨s30, pl⟩ := u29
            obtain ⟨⟨eq29, hFc29, ⟨x33, hx_33, hb_33⟩, ⟨x34, hx_34, hb_34⟩, -⟩, hO⟩ := hu29
            have hO : okn g T s30 pl := hO
            have hP : va_P g.1 vcl ([] ++ pl) _ := hP
            have hD : va_D _ ([] ++ pl) := hD
            have hFc29 : frm (M_SP_squeeze 16 145) s29 s30 := hFc29
            have hb_33 : x33 ≤ x31 := hb_33
            have hb_34 : x34 = x31 := hb_34
            replace hR := bnd_step hR eq29
            have hF := frm_tr hF hFc29 (fun k hk => by unfold M_SP_squeeze at hk; unfold M_DA_accepts_2; omega)
            have hg31 : hgN 75 8 (s30.1 146) := by rw [hFc29 146 (by unfold M_SP_squeeze; omega)]; exact hg30
            refine W.widen (k := 0) (n := 0) (by omega) (by omega) ?_
            refine lv_aload_n hx hb dDA_accepts_200 rfl (lv_at hl 2 rfl) ?_
            refine lv_aload_n hx hb dDA_accepts_201 rfl (lv_at hl 3 rfl) ?_
            refine mp_i (cx := []) (wr := []) hP hD hS hA [] [] rfl rfl rfl (by decide) (va_runV (As := [.ref st]) (rest := []) F (N_DA_challengesAgree_2 l g _ T s30 pl hO hU h0 st k_h0 k_st) (cwV 1 hts (wg_app (wg_c kw_1287 (wg_c kw_1289 (wg_c ks_49 (wg_c kw_5 wg_n)))) kw_1290) rfl rfl rfl (by decide +kernel) ⟨by decide, by decide⟩) (pn_W "LatticeKeys$Dsa" (en_ok g) (ci := 6) (kn := 39) (fl := [(3, 16), (3, 22), (3, 37), (3, 40), (3, 97), (3, 105), (3, 114), (3, 123), (3, 131), (3, 140), (3, 141), (3, 142), (3, 143), (3, 144), (3, 145), (3, 146), (3, 147)]) hK hO k_h0 rfl hP hD hS hA hE [] rfl rfl rfl) rfl rfl hl.1 rfl (lv_room (Nat.le_of_ble_eq_true rfl)) dDA_accepts_202 ⟨by omega, by omega⟩) (fun r32 u30 H locs hu30 hP hD hS => ?_)
            obtain ⟨q22, pl⟩ := u30
            obtain ⟨⟨eq30, rfl, hFc30, ⟨x36, hx_36, hb_36⟩, -⟩, hO⟩ := hu30
            have hO : okn g T q22.2 pl := hO
            have hP : va_P g.1 vcl ([] ++ pl) _ := hP
            have hD : va_D _ ([] ++ pl) := hD
            have hFc30 : frm (M_DA_challengesAgree_2) s30 q22.2 := hFc30
            have hb_36 : x36 < 2 := hb_36
            replace hR := bnd_step hR eq30
            have hF := frm_tr hF hFc30 (fun k hk => by unfold M_DA_challengesAgree_2 at hk; unfold M_DA_accepts_2; omega)
            have hf23 : q22.2.1 16 3 = nI x33 := fc_F hx_33 hFc30 (by unfold M_DA_challengesAgree_2; omega)
            have hf24 : q22.2.1 16 1 = nI x34 := fc_F hx_34 hFc30 (by unfold M_DA_challengesAgree_2; omega)
            have hg32 : hgN 75 8 (q22.2.1 146) := by rw [hFc30 146 (by unfold M_DA_challengesAgree_2; omega)]; exact hg31
            obtain ⟨z21, ez21, hz21, hz22⟩ := cl_of (b := 2147483648) hx_36 (by omega) (by decide)
            replace hR := bnd_step hR ez21
            refine mi_as hz21 ?_
            refine W.widen (k := 0) (n := 0) (by omega) (by omega) ?_
            exact mp_zret hx hb hr hlk (nar_2 (by omega)) hP hD hS ((nI z21, q22.2), pl) ⟨⟨hR.symm, rfl, hF, trivial⟩, hO⟩ [] rfl rfl rfl (by omega) (by omega) dDA_accepts_205
          | succ n22 ih22 =>
            intro i22 fs21 s28 ps21 pl ls H locs hm22 hi21 hi22 hF hf25 hf26 hg29 hR hl hO hP hD hS
            refine lv_iload hx hb dDA_accepts_111 (lv_at hl 0 rfl) ?_
            refine lv_aload_n hx hb dDA_accepts_113 rfl (lv_at hl 3 rfl) ?_
            refine nw_get (C := "LatticeKeys$DsaSet") (TT := T_DS) (N := 17) hx hb hts (wg_ft i_DS) hown hK hO k_st (kn := 11) (ci := 2) (fl := [(1, 8), (1, 7), (1, 2), (1, 3), (1, 60), (1, 64), (1, 20), (1, 524288), (1, 16), (1, 4), (1, 261888), (1, 75), (1, 120), (1, 2592), (1, 4896), (1, 4544), (1, 4627)]) rfl hP rfl 0 (by decide) (hts _ (wg_t kw_302)) (fun _ h9 => h9) (cd := (1, 8)) rfl dDA_accepts_114 (fun v35 hv35 => ?_)
            obtain rfl := (show v35 = .int (nI 8) from hv35)
            refine mi_ge (tgt := 177) hx hb dDA_accepts_117 (by decide) (by omega) (by omega) (fun h24 => absurd h24 (by omega)) (fun h24 => ?_)
            refine lv_aload_n hx hb dDA_accepts_120 rfl (lv_at hl 2 rfl) ?_
            refine nw_get (C := "LatticeKeys$Dsa") (TT := T_DA) (N := 17) hx hb hts (wg_ft i_DA) hown hK hO k_h0 (kn := 39) (ci := 6) (fl := [(3, 16), (3, 22), (3, 37), (3, 40), (3, 97), (3, 105), (3, 114), (3, 123), (3, 131), (3, 140), (3, 141), (3, 142), (3, 143), (3, 144), (3, 145), (3, 146), (3, 147)]) rfl hP rfl 15 (by decide) (hts _ (wg_t kw_180)) (fun _ h9 => h9) (cd := (3, 146)) rfl dDA_accepts_121 (fun v36 hv36 => ?_)
            obtain ⟨r33, rfl, kr31⟩ := (show ∃ r : Nat, v36 = .ref r ∧ T r = some 146 from hv36)
            refine lv_aload_n hx hb dDA_accepts_124 rfl (lv_at hl 3 rfl) ?_
            refine nw_get (C := "LatticeKeys$DsaSet") (TT := T_DS) (N := 17) hx hb hts (wg_ft i_DS) hown hK hO k_st (kn := 11) (ci := 2) (fl := [(1, 8), (1, 7), (1, 2), (1, 3), (1, 60), (1, 64), (1, 20), (1, 524288), (1, 16), (1, 4), (1, 261888), (1, 75), (1, 120), (1, 2592), (1, 4896), (1, 4544), (1, 4627)]) rfl hP rfl 11 (by decide) (hts _ (wg_t kw_327)) (fun _ h9 => h9) (cd := (1, 75)) rfl dDA_accepts_125 (fun v37 hv37 => ?_)
            obtain rfl := (show v37 = .int (nI 75) from hv37)
            refine lv_iload hx hb dDA_accepts_128 (lv_at hl 0 rfl) ?_
            refine mi_iadd hx hb dDA_accepts_130 ?_
            refine nw_bald hx hb hK hO kr31 (k := 146) rfl hP (by omega) (by omega) dDA_accepts_131 ?_
            refine lv_sipush (v := nI 255) hx hb dDA_accepts_132 (by decide) ?_
            refine mi_iandT hx hb 8 dDA_accepts_135 (by decide) (by decide) (fun z22 ez22 hz23 => ?_)
            have hz23 : z22 < 256 := hz23
            replace hR := bnd_step hR ez22
            have hzlz22 : z22 ≤ 75 := by rw [ez22]; exact hg29 i22 (by omega)
            refine lv_istore (lv' := [(8, .int (nI z22)), (7, .int (nI i22)), (6, .int (nI fs21)), (0, .ref h0), (1, .ref st), (2, .ref pk)]) hx hb dDA_accepts_136 hl (by decide) rfl (fun ls hl => ?_)
            refine lv_aload_n hx hb dDA_accepts_138 rfl (lv_at hl 3 rfl) ?_
            refine lv_aload_n hx hb dDA_accepts_139 rfl (lv_at hl 4 rfl) ?_
            refine lv_aload_n hx hb dDA_accepts_140 rfl (lv_at hl 5 rfl) ?_
            refine lv_iload hx hb dDA_accepts_141 (lv_at hl 1 rfl) ?_
            refine mp_v (cx := []) (wr := []) hP hD hS hA [] [] rfl rfl rfl (by decide) (va_runV (As := [.ref st, .ref pk, .int (nI i22)]) (rest := []) F (N_DA_rebuildRow_2 l g _ T s28 pl hO hU h0 st pk pp i22 k_h0 k_st k_pk n_pk (by omega)) (cwV 3 hts (wg_app (wg_c kw_1273 (wg_c kw_1275 (wg_c ks_47 (wg_c kw_5 wg_n)))) kw_1276) rfl rfl rfl (by decide +kernel) ⟨by decide, by decide⟩) (pn_W "LatticeKeys$Dsa" (en_ok g) (ci := 6) (kn := 39) (fl := [(3, 16), (3, 22), (3, 37), (3, 40), (3, 97), (3, 105), (3, 114), (3, 123), (3, 131), (3, 140), (3, 141), (3, 142), (3, 143), (3, 144), (3, 145), (3, 146), (3, 147)]) hK hO k_h0 rfl hP hD hS hA hE [] rfl rfl rfl) rfl rfl hl.1 rfl (lv_room (Nat.le_of_ble_eq_true rfl)) dDA_accepts_143 ⟨by omega, by omega⟩) (fun  u31 H locs hu31 hP hD hS => ?_)
            obtain ⟨s31, pl⟩ := u31
            obtain ⟨⟨eq31, hFc31, -⟩, hO⟩ := hu31
            have hO : okn g T s31 pl := hO
            have hP : va_P g.1 vcl ([] ++ pl) _ := hP
            have hD : va_D _ ([] ++ pl) := hD
            have hFc31 : frm (M_DA_rebuildRow_2) s28 s31 := hFc31
            replace hR := bnd_step hR eq31
            have hF := frm_tr hF hFc31 (fun k hk => by unfold M_DA_rebuildRow_2 at hk; unfold M_DA_accepts_2; omega)
            have hf27 : s31.1 16 3 = nI ps21 := fc_F hf25 hFc31 (by unfold M_DA_rebuildRow_2; omega)
            have hf28 : s31.1 16 1 = nI x28 := fc_F hf26 hFc31 (by unfold M_DA_rebuildRow_2; omega)
            have hg33 : hgN 75 8 (s31.1 146) := by rw [hFc31 146 (by unfold M_DA_rebuildRow_2; omega)]; exact hg29
            refine W.widen (k := 0) (n := 0) (by omega) (by omega) ?_
            refine lv_aload_n hx hb dDA_accepts_146 rfl (lv_at hl 3 rfl) ?_
            refine lv_aload_n hx hb dDA_accepts_147 rfl (lv_at hl 4 rfl) ?_
            refine lv_aload_n hx hb dDA_accepts_148 rfl (lv_at hl 3 rfl) ?_
            refine nw_get (C := "LatticeKeys$Dsa") (TT := T_DA) (N := 17) hx hb hts (wg_ft i_DA) hown hK hO k_h0 (kn := 39) (ci := 6) (fl := [(3, 16), (3, 22), (3, 37), (3, 40), (3, 97), (3, 105), (3, 114), (3, 123), (3, 131), (3, 140), (3, 141), (3, 142), (3, 143), (3, 144), (3, 145), (3, 146), (3, 147)]) rfl hP rfl 8 (by decide) (hts _ (wg_t kw_173)) (fun _ h9 => h9) (cd := (3, 131)) rfl dDA_accepts_149 (fun v38 hv38 => ?_)
            obtain ⟨r34, rfl, kr32⟩ := (show ∃ r : Nat, v38 = .ref r ∧ T r = some 131 from hv38)
            refine lv_iload hx hb dDA_accepts_152 (lv_at hl 1 rfl) ?_
            refine nw_aald3 hx hb hK hO kr32 (k := 131) (b := 132) rfl hP (by omega) (by omega) dDA_accepts_154 (fun r35 kr33 => ?_)
            have hn21 : nsp (132 + i22) = (0, 256, []) := rows_ok 132 8 (by decide) _ (by omega)
            refine lv_iload hx hb dDA_accepts_155 (lv_at hl 2 rfl) ?_
            refine lv_iload hx hb dDA_accepts_157 (lv_at hl 0 rfl) ?_
            refine mp_v (cx := []) (wr := []) hP hD hS hA [] [] rfl rfl rfl (by decide) (va_runV (As := [.ref st, .ref r35, .int (nI fs21), .int (nI z22)]) (rest := []) F (N_DA_useHints_2 l g _ T s31 pl hO hU h0 st r35 (132 + i22) fs21 z22 k_h0 k_st kr33 hn21 (by omega) (by omega)) (cwV 4 hts (wg_app (wg_c kw_1277 (wg_c kw_1279 (wg_c ks_48 (wg_c kw_5 wg_n)))) kw_1280) rfl rfl rfl (by decide +kernel) ⟨by decide, by decide⟩) (pn_W "LatticeKeys$Dsa" (en_ok g) (ci := 6) (kn := 39) (fl := [(3, 16), (3, 22), (3, 37), (3, 40), (3, 97), (3, 105), (3, 114), (3, 123), (3, 131), (3, 140), (3, 141), (3, 142), (3, 143), (3, 144), (3, 145), (3, 146), (3, 147)]) hK hO k_h0 rfl hP hD hS hA hE [] rfl rfl rfl) rfl rfl hl.1 rfl (lv_room (Nat.le_of_ble_eq_true rfl)) dDA_accepts_159 ⟨by omega, by omega⟩) (fun  u32 H locs hu32 hP hD hS => ?_)
            obtain ⟨s32, pl⟩ := u32
            obtain ⟨⟨eq32, hFc32, -⟩, hO⟩ := hu32
            have hO : okn g T s32 pl := hO
            have hP : va_P g.1 vcl ([] ++ pl) _ := hP
            have hD : va_D _ ([] ++ pl) := hD
            have hFc32 : frm (M_DA_useHints_2) s31 s32 := hFc32
            replace hR := bnd_step hR eq32
            have hF := frm_tr hF hFc32 (fun k hk => by unfold M_DA_useHints_2 at hk; unfold M_DA_accepts_2; omega)
            have hf29 : s32.1 16 3 = nI ps21 := fc_F hf27 hFc32 (by unfold M_DA_useHints_2; omega)
            have hf30 : s32.1 16 1 = nI x28 := fc_F hf28 hFc32 (by unfold M_DA_useHints_2; omega)
            have hg34 : hgN 75 8 (s32.1 146) := by rw [hFc32 146 (by unfold M_DA_useHints_2; omega)]; exact hg33
            refine W.widen (k := 0) (n := 0) (by omega) (by omega) ?_
            refine lv_aload_n hx hb dDA_accepts_162 rfl (lv_at hl 3 rfl) ?_
            refine lv_aload_n hx hb dDA_accepts_163 rfl (lv_at hl 4 rfl) ?_
            refine mp_v (cx := []) (wr := []) hP hD hS hA [] [] rfl rfl rfl (by decide) (va_runV (As := [.ref st]) (rest := []) F (N_DA_absorbHigh_2 l g _ T s32 pl hO hU h0 st ps21 x28 k_h0 k_st hf29 hf30 (by omega) (by omega)) (cwV 1 hts (wg_app (wg_c kw_1210 (wg_c kw_1212 (wg_c ks_39 (wg_c kw_5 wg_n)))) kw_1213) rfl rfl rfl (by decide +kernel) ⟨by decide, by decide⟩) (pn_W "LatticeKeys$Dsa" (en_ok g) (ci := 6) (kn := 39) (fl := [(3, 16), (3, 22), (3, 37), (3, 40), (3, 97), (3, 105), (3, 114), (3, 123), (3, 131), (3, 140), (3, 141), (3, 142), (3, 143), (3, 144), (3, 145), (3, 146), (3, 147)]) hK hO k_h0 rfl hP hD hS hA hE [] rfl rfl rfl) rfl rfl hl.1 rfl (lv_room (Nat.le_of_ble_eq_true rfl)) dDA_accepts_164 ⟨by omega, by omega⟩) (fun  u33 H locs hu33 hP hD hS => ?_)
            obtain ⟨s33, pl⟩ := u33
            obtain ⟨⟨eq33, hFc33, ⟨x39, hx_39, hb_39⟩, ⟨x40, hx_40, hb_40⟩, -⟩, hO⟩ := hu33
            have hO : okn g T s33 pl := hO
            have hP : va_P g.1 vcl ([] ++ pl) _ := hP
            have hD : va_D _ ([] ++ pl) := hD
            have hFc33 : frm (M_DA_absorbHigh_2) s32 s33 := hFc33
            have hb_39 : x39 < 136 := hb_39
            have hb_40 : x40 = 136 := hb_40
            replace hR := bnd_step hR eq33
            have hF := frm_tr hF hFc33 (fun k hk => by unfold M_DA_absorbHigh_2 at hk; unfold M_DA_accepts_2; omega)
            have hg35 : hgN 75 8 (s33.1 146) := by rw [hFc33 146 (by unfold M_DA_absorbHigh_2; omega)]; exact hg34
            refine W.widen (k := 0) (n := 0) (by omega) (by omega) ?_
            refine lv_iload hx hb dDA_accepts_167 (lv_at hl 0 rfl) ?_
            refine lv_istore (lv' := [(6, .int (nI z22)), (8, .int (nI z22)), (7, .int (nI i22)), (0, .ref h0), (1, .ref st), (2, .ref pk)]) hx hb dDA_accepts_169 hl (by decide) rfl (fun ls hl => ?_)
            refine mi_iinc (k := 2) (x := i22) (d := 1) (y := i22 + 1) (lv' := [(7, .int (nI (i22 + 1))), (6, .int (nI z22)), (8, .int (nI z22)), (0, .ref h0), (1, .ref st), (2, .ref pk)]) hx hb dDA_accepts_171 hl rfl (by decide) rfl (by decide) rfl (fun ls hl => ?_)
            refine lv_goto (tgt := 111) hx hb dDA_accepts_174 (by decide) ?_
            exact ih22 (i22 + 1) z22 s33 x39 pl ls H locs (by omega) (by omega) (by omega) hF hx_39 (by have h9 := hx_40; rw [show x40 = x28 by omega] at h9; exact h9) hg35 hR (lv_sub hl [0, 1, 3, 4, 5] rfl) hO hP hD hS
        exact lp22 8 0 0 s27 x27 pl ls _ _ (by omega) (by omega) (by omega) hF hx_27 hx_28 hg28 hR (lv_sub hl [0, 1, 2, 3, 4] rfl) hO hP hD hS
      | succ n21 ih21 =>
        intro i21 s26 pl ls H locs hm21 hF hg27 hR hl hO hP hD hS
        refine lv_iload hx hb dDA_accepts_72 (lv_at hl 0 rfl) ?_
        refine lv_aload_n hx hb dDA_accepts_74 rfl (lv_at hl 2 rfl) ?_
        refine nw_get (C := "LatticeKeys$DsaSet") (TT := T_DS) (N := 17) hx hb hts (wg_ft i_DS) hown hK hO k_st (kn := 11) (ci := 2) (fl := [(1, 8), (1, 7), (1, 2), (1, 3), (1, 60), (1, 64), (1, 20), (1, 524288), (1, 16), (1, 4), (1, 261888), (1, 75), (1, 120), (1, 2592), (1, 4896), (1, 4544), (1, 4627)]) rfl hP rfl 1 (by decide) (hts _ (wg_t kw_305)) (fun _ h9 => h9) (cd := (1, 7)) rfl dDA_accepts_75 (fun v39 hv39 => ?_)
        obtain rfl := (show v39 = .int (nI 7) from hv39)
        refine mi_ge (tgt := 101) hx hb dDA_accepts_78 (by decide) (by omega) (by omega) (fun h25 => absurd h25 (by omega)) (fun h25 => ?_)
        refine lv_aload_n hx hb dDA_accepts_81 rfl (lv_at hl 1 rfl) ?_
        refine nw_get (C := "LatticeKeys$Dsa") (TT := T_DA) (N := 17) hx hb hts (wg_ft i_DA) hown hK hO k_h0 (kn := 39) (ci := 6) (fl := [(3, 16), (3, 22), (3, 37), (3, 40), (3, 97), (3, 105), (3, 114), (3, 123), (3, 131), (3, 140), (3, 141), (3, 142), (3, 143), (3, 144), (3, 145), (3, 146), (3, 147)]) rfl hP rfl 1 (by decide) (hts _ (wg_t kw_166)) (fun _ h9 => h9) (cd := (3, 22)) rfl dDA_accepts_82 (fun v40 hv40 => ?_)
        obtain ⟨r36, rfl, kr34⟩ := (show ∃ r : Nat, v40 = .ref r ∧ T r = some 22 from hv40)
        refine lv_aload_n hx hb dDA_accepts_85 rfl (lv_at hl 1 rfl) ?_
        refine nw_get (C := "LatticeKeys$Dsa") (TT := T_DA) (N := 17) hx hb hts (wg_ft i_DA) hown hK hO k_h0 (kn := 39) (ci := 6) (fl := [(3, 16), (3, 22), (3, 37), (3, 40), (3, 97), (3, 105), (3, 114), (3, 123), (3, 131), (3, 140), (3, 141), (3, 142), (3, 143), (3, 144), (3, 145), (3, 146), (3, 147)]) rfl hP rfl 7 (by decide) (hts _ (wg_t kw_172)) (fun _ h9 => h9) (cd := (3, 123)) rfl dDA_accepts_86 (fun v41 hv41 => ?_)
        obtain ⟨r37, rfl, kr35⟩ := (show ∃ r : Nat, v41 = .ref r ∧ T r = some 123 from hv41)
        refine lv_iload hx hb dDA_accepts_89 (lv_at hl 0 rfl) ?_
        refine nw_aald3 hx hb hK hO kr35 (k := 123) (b := 124) rfl hP (by omega) (by omega) dDA_accepts_91 (fun r38 kr36 => ?_)
        have hn22 : nsp (124 + i21) = (0, 256, []) := rows_ok 124 7 (by decide) _ (by omega)
        refine mp_v (cx := []) (wr := []) hP hD hS hA [] [] rfl rfl rfl (by decide) (va_runV (As := [.ref r38]) (rest := []) F (N_RG_transform_8 l g _ T s26 pl hO hU r36 r38 (124 + i21) kr34 kr36 hn22) (cwV 1 hts (wg_app (wg_c kw_711 (wg_c kw_637 (wg_c kw_638 (wg_c kw_4 wg_n)))) kw_639) rfl rfl rfl (by decide +kernel) ⟨by decide, by decide⟩) (pn_W "LatticeKeys$Ring" (en_ok g) (ci := 4) (kn := 22) (fl := [(1, 8380417), (1, 8), (1, 8347681), (3, 23)]) hK hO kr34 rfl hP hD hS hA hE [] rfl rfl rfl) rfl rfl hl.1 rfl (lv_room (Nat.le_of_ble_eq_true rfl)) dDA_accepts_92 ⟨by omega, by omega⟩) (fun  u34 H locs hu34 hP hD hS => ?_)
        obtain ⟨s34, pl⟩ := u34
        obtain ⟨⟨eq34, hFc34, -⟩, hO⟩ := hu34
        have hO : okn g T s34 pl := hO
        have hP : va_P g.1 vcl ([] ++ pl) _ := hP
        have hD : va_D _ ([] ++ pl) := hD
        have hFc34 : frm (M_RG_transform_8 (124 + i21)) s26 s34 := hFc34
        replace hR := bnd_step hR eq34
        have hF := frm_tr hF hFc34 (fun k hk => by unfold M_RG_transform_8 at hk; unfold M_DA_accepts_2; omega)
        have hg36 : hgN 75 8 (s34.1 146) := by rw [hFc34 146 (by unfold M_RG_transform_8; omega)]; exact hg27
        refine W.widen (k := 0) (n := 0) (by omega) (by omega) ?_
        refine mi_iinc (k := 0) (x := i21) (d := 1) (y := i21 + 1) (lv' := [(6, .int (nI (i21 + 1))), (0, .ref h0), (1, .ref st), (2, .ref pk)]) hx hb dDA_accepts_95 hl rfl (by decide) rfl (by decide) rfl (fun ls hl => ?_)
        refine lv_goto (tgt := 72) hx hb dDA_accepts_98 (by decide) ?_
        exact ih21 (i21 + 1) s34 pl ls H locs (by omega) hF hg36 hR (lv_sub hl [0, 1, 2, 3] rfl) hO hP hD hS
    exact lp21 7 0 s25 pl ls _ _ (by omega) hF hg26 hR (lv_sub hl [0, 1, 2, 3] rfl) hO hP hD hS
  · replace hR := hR.trans (if_pos h21)
    refine lv_iconst (v := nI 0) hx hb dDA_accepts_9 (by decide) ?_
    exact mp_zret hx hb hr hlk rfl hP hD hS ((nI 0, q21.2), pl) ⟨⟨hR.symm, rfl, hF, trivial⟩, hO⟩ [] rfl rfl rfl (by omega) (by omega) dDA_accepts_10
