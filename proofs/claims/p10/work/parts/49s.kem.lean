set_option linter.all false
abbrev c_KM_decapsulate : ByteArray := prog_6_method_4_code
abbrev y_KM_decapsulate : MethodName := ⟨"LatticeKeys$Kem", "decapsulate", "(LLatticeKeys$KemSet;LLatticeKeys$KeyPair;[B[B)V"⟩
abbrev w_KM_decapsulate : List Cond := Cond.code y_KM_decapsulate c_KM_decapsulate 7 none :: WG
theorem dKM_decapsulate_0 : decode c_KM_decapsulate 0 = .ok (.aload_n 0, 1) := by decide +kernel
theorem dKM_decapsulate_1 : decode c_KM_decapsulate 1 = .ok (.aload_n 1, 1) := by decide +kernel
theorem dKM_decapsulate_2 : decode c_KM_decapsulate 2 = .ok (.aload_n 2, 1) := by decide +kernel
theorem dKM_decapsulate_3 : decode c_KM_decapsulate 3 = .ok (.getfield 133, 3) := by decide +kernel
theorem dKM_decapsulate_6 : decode c_KM_decapsulate 6 = .ok (.aload_n 3, 1) := by decide +kernel
theorem dKM_decapsulate_7 : decode c_KM_decapsulate 7 = .ok (.invokevirtual 138, 3) := by decide +kernel
theorem dKM_decapsulate_10 : decode c_KM_decapsulate 10 = .ok (.aload_n 0, 1) := by decide +kernel
theorem dKM_decapsulate_11 : decode c_KM_decapsulate 11 = .ok (.aload_n 2, 1) := by decide +kernel
theorem dKM_decapsulate_12 : decode c_KM_decapsulate 12 = .ok (.getfield 133, 3) := by decide +kernel
theorem dKM_decapsulate_15 : decode c_KM_decapsulate 15 = .ok (.aload_n 1, 1) := by decide +kernel
theorem dKM_decapsulate_16 : decode c_KM_decapsulate 16 = .ok (.getfield 116, 3) := by decide +kernel
theorem dKM_decapsulate_19 : decode c_KM_decapsulate 19 = .ok (.invokevirtual 122, 3) := by decide +kernel
theorem dKM_decapsulate_22 : decode c_KM_decapsulate 22 = .ok (.aload_n 0, 1) := by decide +kernel
theorem dKM_decapsulate_23 : decode c_KM_decapsulate 23 = .ok (.aload_n 1, 1) := by decide +kernel
theorem dKM_decapsulate_24 : decode c_KM_decapsulate 24 = .ok (.aload_n 2, 1) := by decide +kernel
theorem dKM_decapsulate_25 : decode c_KM_decapsulate 25 = .ok (.getfield 141, 3) := by decide +kernel
theorem dKM_decapsulate_28 : decode c_KM_decapsulate 28 = .ok (.aload_n 0, 1) := by decide +kernel
theorem dKM_decapsulate_29 : decode c_KM_decapsulate 29 = .ok (.getfield 50, 3) := by decide +kernel
theorem dKM_decapsulate_32 : decode c_KM_decapsulate 32 = .ok (.invokevirtual 126, 3) := by decide +kernel
theorem dKM_decapsulate_35 : decode c_KM_decapsulate 35 = .ok (.iconst 0, 1) := by decide +kernel
theorem dKM_decapsulate_36 : decode c_KM_decapsulate 36 = .ok (.istore 5, 2) := by decide +kernel
theorem dKM_decapsulate_38 : decode c_KM_decapsulate 38 = .ok (.iconst 0, 1) := by decide +kernel
theorem dKM_decapsulate_39 : decode c_KM_decapsulate 39 = .ok (.istore 6, 2) := by decide +kernel
theorem dKM_decapsulate_41 : decode c_KM_decapsulate 41 = .ok (.iload 6, 2) := by decide +kernel
theorem dKM_decapsulate_43 : decode c_KM_decapsulate 43 = .ok (.aload_n 1, 1) := by decide +kernel
theorem dKM_decapsulate_44 : decode c_KM_decapsulate 44 = .ok (.getfield 130, 3) := by decide +kernel
theorem dKM_decapsulate_47 : decode c_KM_decapsulate 47 = .ok (.if_icmp .ge 26, 3) := by decide +kernel
theorem dKM_decapsulate_50 : decode c_KM_decapsulate 50 = .ok (.iload 5, 2) := by decide +kernel
theorem dKM_decapsulate_52 : decode c_KM_decapsulate 52 = .ok (.aload_n 3, 1) := by decide +kernel
theorem dKM_decapsulate_53 : decode c_KM_decapsulate 53 = .ok (.iload 6, 2) := by decide +kernel
theorem dKM_decapsulate_55 : decode c_KM_decapsulate 55 = .ok (.baload, 1) := by decide +kernel
theorem dKM_decapsulate_56 : decode c_KM_decapsulate 56 = .ok (.aload_n 0, 1) := by decide +kernel
theorem dKM_decapsulate_57 : decode c_KM_decapsulate 57 = .ok (.getfield 50, 3) := by decide +kernel
theorem dKM_decapsulate_60 : decode c_KM_decapsulate 60 = .ok (.iload 6, 2) := by decide +kernel
theorem dKM_decapsulate_62 : decode c_KM_decapsulate 62 = .ok (.baload, 1) := by decide +kernel
theorem dKM_decapsulate_63 : decode c_KM_decapsulate 63 = .ok (.ixor, 1) := by decide +kernel
theorem dKM_decapsulate_64 : decode c_KM_decapsulate 64 = .ok (.ior, 1) := by decide +kernel
theorem dKM_decapsulate_65 : decode c_KM_decapsulate 65 = .ok (.istore 5, 2) := by decide +kernel
theorem dKM_decapsulate_67 : decode c_KM_decapsulate 67 = .ok (.iinc 6 1, 3) := by decide +kernel
theorem dKM_decapsulate_70 : decode c_KM_decapsulate 70 = .ok (.goto (-29), 3) := by decide +kernel
theorem dKM_decapsulate_73 : decode c_KM_decapsulate 73 = .ok (.iload 5, 2) := by decide +kernel
theorem dKM_decapsulate_75 : decode c_KM_decapsulate 75 = .ok (.ifCond .ne 17, 3) := by decide +kernel
theorem dKM_decapsulate_78 : decode c_KM_decapsulate 78 = .ok (.aload_n 0, 1) := by decide +kernel
theorem dKM_decapsulate_79 : decode c_KM_decapsulate 79 = .ok (.getfield 44, 3) := by decide +kernel
theorem dKM_decapsulate_82 : decode c_KM_decapsulate 82 = .ok (.iconst 0, 1) := by decide +kernel
theorem dKM_decapsulate_83 : decode c_KM_decapsulate 83 = .ok (.aload 4, 2) := by decide +kernel
theorem dKM_decapsulate_85 : decode c_KM_decapsulate 85 = .ok (.iconst 0, 1) := by decide +kernel
theorem dKM_decapsulate_86 : decode c_KM_decapsulate 86 = .ok (.bipush 32, 2) := by decide +kernel
theorem dKM_decapsulate_88 : decode c_KM_decapsulate 88 = .ok (.invokestatic 79, 3) := by decide +kernel
theorem dKM_decapsulate_91 : decode c_KM_decapsulate 91 = .ok (.return_, 1) := by decide +kernel
theorem dKM_decapsulate_92 : decode c_KM_decapsulate 92 = .ok (.aload_n 0, 1) := by decide +kernel
theorem dKM_decapsulate_93 : decode c_KM_decapsulate 93 = .ok (.getfield 10, 3) := by decide +kernel
theorem dKM_decapsulate_96 : decode c_KM_decapsulate 96 = .ok (.iconst 3, 1) := by decide +kernel
theorem dKM_decapsulate_97 : decode c_KM_decapsulate 97 = .ok (.invokevirtual 53, 3) := by decide +kernel
theorem dKM_decapsulate_100 : decode c_KM_decapsulate 100 = .ok (.aload_n 0, 1) := by decide +kernel
theorem dKM_decapsulate_101 : decode c_KM_decapsulate 101 = .ok (.getfield 10, 3) := by decide +kernel
theorem dKM_decapsulate_104 : decode c_KM_decapsulate 104 = .ok (.aload_n 2, 1) := by decide +kernel
theorem dKM_decapsulate_105 : decode c_KM_decapsulate 105 = .ok (.getfield 133, 3) := by decide +kernel
theorem dKM_decapsulate_108 : decode c_KM_decapsulate 108 = .ok (.aload_n 1, 1) := by decide +kernel
theorem dKM_decapsulate_109 : decode c_KM_decapsulate 109 = .ok (.getfield 119, 3) := by decide +kernel
theorem dKM_decapsulate_112 : decode c_KM_decapsulate 112 = .ok (.bipush 32, 2) := by decide +kernel
theorem dKM_decapsulate_114 : decode c_KM_decapsulate 114 = .ok (.invokevirtual 57, 3) := by decide +kernel
theorem dKM_decapsulate_117 : decode c_KM_decapsulate 117 = .ok (.aload_n 0, 1) := by decide +kernel
theorem dKM_decapsulate_118 : decode c_KM_decapsulate 118 = .ok (.getfield 10, 3) := by decide +kernel
theorem dKM_decapsulate_121 : decode c_KM_decapsulate 121 = .ok (.aload_n 3, 1) := by decide +kernel
theorem dKM_decapsulate_122 : decode c_KM_decapsulate 122 = .ok (.iconst 0, 1) := by decide +kernel
theorem dKM_decapsulate_123 : decode c_KM_decapsulate 123 = .ok (.aload_n 1, 1) := by decide +kernel
theorem dKM_decapsulate_124 : decode c_KM_decapsulate 124 = .ok (.getfield 130, 3) := by decide +kernel
theorem dKM_decapsulate_127 : decode c_KM_decapsulate 127 = .ok (.invokevirtual 57, 3) := by decide +kernel
theorem dKM_decapsulate_130 : decode c_KM_decapsulate 130 = .ok (.aload_n 0, 1) := by decide +kernel
theorem dKM_decapsulate_131 : decode c_KM_decapsulate 131 = .ok (.getfield 10, 3) := by decide +kernel
theorem dKM_decapsulate_134 : decode c_KM_decapsulate 134 = .ok (.invokevirtual 70, 3) := by decide +kernel
theorem dKM_decapsulate_137 : decode c_KM_decapsulate 137 = .ok (.aload_n 0, 1) := by decide +kernel
theorem dKM_decapsulate_138 : decode c_KM_decapsulate 138 = .ok (.getfield 10, 3) := by decide +kernel
theorem dKM_decapsulate_141 : decode c_KM_decapsulate 141 = .ok (.aload 4, 2) := by decide +kernel
theorem dKM_decapsulate_143 : decode c_KM_decapsulate 143 = .ok (.iconst 0, 1) := by decide +kernel
theorem dKM_decapsulate_144 : decode c_KM_decapsulate 144 = .ok (.bipush 32, 2) := by decide +kernel
theorem dKM_decapsulate_146 : decode c_KM_decapsulate 146 = .ok (.invokevirtual 73, 3) := by decide +kernel
theorem dKM_decapsulate_149 : decode c_KM_decapsulate 149 = .ok (.return_, 1) := by decide +kernel
def M_KM_decapsulate_0 (pt : Nat) (k : Nat) : Prop := (26 ≤ k ∧ k < 30) ∨ k = 14 ∨ k = 30 ∨ k = 31 ∨ k = 32 ∨ k = 34 ∨ k = 35 ∨ k = 36 ∨ k = pt ∨ (0 : Nat) = 1
noncomputable def F_KM_decapsulate_0_L0 (psn : Nat) (pc_ : Nat) (n : Nat) (pt : Nat) : Nat → Nat → Int32 → Sto → Sto
  | 0, i21, z21, s24 => if z21 = 0 then bnd (sC s24 34 pt 0 0 32) fun s30 => s30 else bnd (F_SP_start_3 14 15 s24) fun s25 => bnd (F_SP_absorb 14 15 psn 1632 1600 32 s25) fun s26 => bnd (F_SP_absorb 14 15 pc_ n 0 768 s26) fun s27 => bnd (F_SP_finish 14 15 s27) fun s28 => bnd (F_SP_squeeze 14 15 pt 8192 0 32 s28) fun s29 => s29
  | n21 + 1, i21, z21, s24 => bnd ((z21 ||| ((s24.1 pc_ i21) ^^^ (s24.1 36 i21)))) fun z22 => F_KM_decapsulate_0_L0 psn pc_ n pt n21 (i21 + 1) z22 s24
noncomputable def F_KM_decapsulate_0 (kn : Nat) (pp : Nat) (psn : Nat) (pc_ : Nat) (n : Nat) (pt : Nat) (s : Sto) : Sto := bnd (F_KM_decrypt_0 psn pc_ n s) fun s21 => bnd (F_KM_deriveSeeds psn 1632 1568 s21) fun s22 => bnd (F_KM_encrypt_0 pp 36 1568 s22) fun s23 => F_KM_decapsulate_0_L0 psn pc_ n pt 768 0 (nI 0) s23
set_option maxHeartbeats 400000 in
set_option maxRecDepth 100000 in
theorem N_KM_decapsulate_0 (l : Launch) (g : Gd) (sz : Nat) (T : TyN) (s : Sto) (pl : va_W) (hO : okn g T s pl) (hU : inj T) (h0 st kp ct to : Nat) (kn : Nat) (pp : Nat) (psn : Nat) (pc_ : Nat) (n : Nat) (pt : Nat) (k_h0 : T h0 = some 24) (k_st : T st = some 5) (k_kp : T kp = some kn) (n_kp : nsp kn = (5, 13, [(1, 0), (3, pp), (3, psn)])) (n_pp : nsp pp = (1, 800, [])) (n_psn : nsp psn = (1, 1632, [])) (k_ct : T ct = some pc_) (n_ct : nsp pc_ = (1, n, [])) (k_to : T to = some pt) (n_to : nsp pt = (1, 8192, [])) (h1 : 768 ≤ n) (h2 : n < 65536)  : Met l y_KM_decapsulate w_KM_decapsulate ({ frames := 5, cells := 0, slots := 0, locals := 156 } : Room) (va_Pc [.ref h0, .ref st, .ref kp, .ref ct, .ref to] (pr (en g) g.1 vcl sz ([] ++ pl))) (va_Qv (fun (u : (Sto) × va_W) => (u.1 = F_KM_decapsulate_0 kn pp psn pc_ n pt s ∧ frm (M_KM_decapsulate_0 pt) s u.1 ∧ True) ∧ okn g T u.1 u.2) (po g.1 vcl (va_A ([] ++ pl) sz) (fun (u : (Sto) × va_W) => [] ++ u.2)) (va_A ([] ++ pl) sz)) 0 0 (va_A ([] ++ pl) sz) := by
  refine mc_entry (cc := c_KM_decapsulate) (maxL := 7) (ret := none) (by decide) rfl (Nat.le_of_ble_eq_true rfl) ?_
  intro p e s0 m args below meth c ls F hr hlk hnm hsz hP hD hE hA hl
  obtain ⟨hx, hb, hml, hown, hts⟩ := id F
  have hK := hE.1
  generalize va_A ([] ++ pl) sz = A at hD hE hA ⊢
  have hS : va_S A s0.heap s0.heap [] := va_S.rf
  have hl : lv_has ls 7 [(0, .ref h0), (1, .ref st), (2, .ref kp), (3, .ref ct), (4, .ref to)] := hl
  have hR : F_KM_decapsulate_0 kn pp psn pc_ n pt s = F_KM_decapsulate_0 kn pp psn pc_ n pt s := rfl
  have hF : frm (M_KM_decapsulate_0 pt) s s := frm_rf
  refine lv_aload_n hx hb dKM_decapsulate_0 rfl (lv_at hl 0 rfl) ?_
  refine lv_aload_n hx hb dKM_decapsulate_1 rfl (lv_at hl 1 rfl) ?_
  refine lv_aload_n hx hb dKM_decapsulate_2 rfl (lv_at hl 2 rfl) ?_
  refine nw_get (C := "LatticeKeys$KeyPair") (TT := T_KP) (N := 3) hx hb hts (wg_ft i_KP) hown hK hO k_kp (kn := kn) (ci := 13) (fl := [(1, 0), (3, pp), (3, psn)]) n_kp hP rfl 2 (by decide) (hts _ (wg_t kw_751)) (fun _ h9 => h9) (cd := (3, psn)) rfl dKM_decapsulate_3 (fun v21 hv21 => ?_)
  obtain ⟨r21, rfl, kr21⟩ := (show ∃ r : Nat, v21 = .ref r ∧ T r = some psn from hv21)
  refine lv_aload_n hx hb dKM_decapsulate_6 rfl (lv_at hl 3 rfl) ?_
  refine mp_v (cx := []) (wr := []) hP hD hS hA [] [] rfl rfl rfl (by decide) (va_runV (As := [.ref st, .ref r21, .ref ct]) (rest := []) F (N_KM_decrypt_0 l g _ T s pl hO hU h0 st r21 ct psn pc_ n k_h0 k_st kr21 n_psn k_ct n_ct (by omega) (by omega)) (cwV 3 hts (wg_app (wg_c kw_1150 (wg_c kw_1152 (wg_c ks_31 (wg_c kw_3 wg_n)))) kw_1153) rfl rfl rfl (by decide +kernel) ⟨by decide, by decide⟩) (pn_W "LatticeKeys$Kem" (en_ok g) (ci := 5) (kn := 24) (fl := [(3, 14), (3, 20), (3, 25), (3, 30), (3, 31), (3, 32), (3, 33), (3, 34), (3, 35), (3, 36)]) hK hO k_h0 rfl hP hD hS hA hE [] rfl rfl rfl) rfl rfl hl.1 rfl (lv_room (Nat.le_of_ble_eq_true rfl)) dKM_decapsulate_7 ⟨by omega, by omega⟩) (fun  u21 H locs hu21 hP hD hS => ?_)
  obtain ⟨s21, pl⟩ := u21
  obtain ⟨⟨eq21, hFc21, -⟩, hO⟩ := hu21
  have hO : okn g T s21 pl := hO
  have hP : va_P g.1 vcl ([] ++ pl) _ := hP
  have hD : va_D _ ([] ++ pl) := hD
  have hFc21 : frm (M_KM_decrypt_0) s s21 := hFc21
  replace hR := bnd_step hR eq21
  have hF := frm_tr hF hFc21 (fun k hk => by unfold M_KM_decrypt_0 at hk; unfold M_KM_decapsulate_0; omega)
  refine W.widen (k := 0) (n := 0) (by omega) (by omega) ?_
  refine lv_aload_n hx hb dKM_decapsulate_10 rfl (lv_at hl 0 rfl) ?_
  refine lv_aload_n hx hb dKM_decapsulate_11 rfl (lv_at hl 2 rfl) ?_
  refine nw_get (C := "LatticeKeys$KeyPair") (TT := T_KP) (N := 3) hx hb hts (wg_ft i_KP) hown hK hO k_kp (kn := kn) (ci := 13) (fl := [(1, 0), (3, pp), (3, psn)]) n_kp hP rfl 2 (by decide) (hts _ (wg_t kw_751)) (fun _ h9 => h9) (cd := (3, psn)) rfl dKM_decapsulate_12 (fun v22 hv22 => ?_)
  obtain ⟨r22, rfl, kr22⟩ := (show ∃ r : Nat, v22 = .ref r ∧ T r = some psn from hv22)
  refine lv_aload_n hx hb dKM_decapsulate_15 rfl (lv_at hl 1 rfl) ?_
  refine nw_get (C := "LatticeKeys$KemSet") (TT := T_KS) (N := 10) hx hb hts (wg_ft i_KS) hown hK hO k_st (kn := 5) (ci := 1) (fl := [(1, 2), (1, 3), (1, 10), (1, 4), (1, 800), (1, 1632), (1, 768), (1, 768), (1, 1568), (1, 1600)]) rfl hP rfl 8 (by decide) (hts _ (wg_t kw_250)) (fun _ h9 => h9) (cd := (1, 1568)) rfl dKM_decapsulate_16 (fun v23 hv23 => ?_)
  obtain rfl := (show v23 = .int (nI 1568) from hv23)
  refine mp_v (cx := []) (wr := []) hP hD hS hA [] [] rfl rfl rfl (by decide) (va_runV (As := [.ref r22, .int (nI 1568)]) (rest := []) F (N_KM_deriveSeeds l g _ T s21 pl hO hU h0 r22 psn 1632 1568 k_h0 kr22 n_psn (by omega) (by omega)) (cwV 2 hts (wg_app (wg_c kw_1114 (wg_c kw_1116 (wg_c ks_26 (wg_c kw_3 wg_n)))) kw_1117) rfl rfl rfl (by decide +kernel) ⟨by decide, by decide⟩) (pn_W "LatticeKeys$Kem" (en_ok g) (ci := 5) (kn := 24) (fl := [(3, 14), (3, 20), (3, 25), (3, 30), (3, 31), (3, 32), (3, 33), (3, 34), (3, 35), (3, 36)]) hK hO k_h0 rfl hP hD hS hA hE [] rfl rfl rfl) rfl rfl hl.1 rfl (lv_room (Nat.le_of_ble_eq_true rfl)) dKM_decapsulate_19 ⟨by omega, by omega⟩) (fun  u22 H locs hu22 hP hD hS => ?_)
  obtain ⟨s22, pl⟩ := u22
  obtain ⟨⟨eq22, hFc22, -⟩, hO⟩ := hu22
  have hO : okn g T s22 pl := hO
  have hP : va_P g.1 vcl ([] ++ pl) _ := hP
  have hD : va_D _ ([] ++ pl) := hD
  have hFc22 : frm (M_KM_deriveSeeds) s21 s22 := hFc22
  replace hR := bnd_step hR eq22
  have hF := frm_tr hF hFc22 (fun k hk => by unfold M_KM_deriveSeeds at hk; unfold M_KM_decapsulate_0; omega)
  refine W.widen (k := 0) (n := 0) (by omega) (by omega) ?_
  refine lv_aload_n hx hb dKM_decapsulate_22 rfl (lv_at hl 0 rfl) ?_
  refine lv_aload_n hx hb dKM_decapsulate_23 rfl (lv_at hl 1 rfl) ?_
  refine lv_aload_n hx hb dKM_decapsulate_24 rfl (lv_at hl 2 rfl) ?_
  refine nw_get (C := "LatticeKeys$KeyPair") (TT := T_KP) (N := 3) hx hb hts (wg_ft i_KP) hown hK hO k_kp (kn := kn) (ci := 13) (fl := [(1, 0), (3, pp), (3, psn)]) n_kp hP rfl 1 (by decide) (hts _ (wg_t kw_748)) (fun _ h9 => h9) (cd := (3, pp)) rfl dKM_decapsulate_25 (fun v24 hv24 => ?_)
  obtain ⟨r23, rfl, kr23⟩ := (show ∃ r : Nat, v24 = .ref r ∧ T r = some pp from hv24)
  refine lv_aload_n hx hb dKM_decapsulate_28 rfl (lv_at hl 0 rfl) ?_
  refine nw_get (C := "LatticeKeys$Kem") (TT := T_KM) (N := 10) hx hb hts (wg_ft i_KM) hown hK hO k_h0 (kn := 24) (ci := 5) (fl := [(3, 14), (3, 20), (3, 25), (3, 30), (3, 31), (3, 32), (3, 33), (3, 34), (3, 35), (3, 36)]) rfl hP rfl 9 (by decide) (hts _ (wg_t kw_116)) (fun _ h9 => h9) (cd := (3, 36)) rfl dKM_decapsulate_29 (fun v25 hv25 => ?_)
  obtain ⟨r24, rfl, kr24⟩ := (show ∃ r : Nat, v25 = .ref r ∧ T r = some 36 from hv25)
  refine mp_v (cx := []) (wr := []) hP hD hS hA [] [] rfl rfl rfl (by decide) (va_runV (As := [.ref st, .ref r23, .ref r24]) (rest := []) F (N_KM_encrypt_0 l g _ T s22 pl hO hU h0 st r23 r24 pp 36 1568 k_h0 k_st kr23 n_pp kr24 rfl (by omega) (by omega)) (cwV 3 hts (wg_app (wg_c kw_1118 (wg_c kw_1120 (wg_c ks_27 (wg_c kw_3 wg_n)))) kw_1121) rfl rfl rfl (by decide +kernel) ⟨by decide, by decide⟩) (pn_W "LatticeKeys$Kem" (en_ok g) (ci := 5) (kn := 24) (fl := [(3, 14), (3, 20), (3, 25), (3, 30), (3, 31), (3, 32), (3, 33), (3, 34), (3, 35), (3, 36)]) hK hO k_h0 rfl hP hD hS hA hE [] rfl rfl rfl) rfl rfl hl.1 rfl (lv_room (Nat.le_of_ble_eq_true rfl)) dKM_decapsulate_32 ⟨by omega, by omega⟩) (fun  u23 H locs hu23 hP hD hS => ?_)
  obtain ⟨s23, pl⟩ := u23
  obtain ⟨⟨eq23, hFc23, -⟩, hO⟩ := hu23
  have hO : okn g T s23 pl := hO
  have hP : va_P g.1 vcl ([] ++ pl) _ := hP
  have hD : va_D _ ([] ++ pl) := hD
  have hFc23 : frm (M_KM_encrypt_0 36) s22 s23 := hFc23
  replace hR := bnd_step hR eq23
  have hF := frm_tr hF hFc23 (fun k hk => by unfold M_KM_encrypt_0 at hk; unfold M_KM_decapsulate_0; omega)
  refine W.widen (k := 0) (n := 0) (by omega) (by omega) ?_
  refine lv_iconst (v := nI 0) hx hb dKM_decapsulate_35 (by decide) ?_
  refine lv_istore (lv' := [(5, .int (nI 0)), (0, .ref h0), (1, .ref st), (2, .ref kp), (3, .ref ct), (4, .ref to)]) hx hb dKM_decapsulate_36 hl (by decide) rfl (fun ls hl => ?_)
  refine lv_iconst (v := nI 0) hx hb dKM_decapsulate_38 (by decide) ?_
  refine lv_istore (lv' := [(6, .int (nI 0)), (5, .int (nI 0)), (0, .ref h0), (1, .ref st), (2, .ref kp), (3, .ref ct), (4, .ref to)]) hx hb dKM_decapsulate_39 hl (by decide) rfl (fun ls hl => ?_)
  have lp21 : ∀ (n21 : Nat) (i21 : Nat) (z21 : Int32) (s24 : Sto) (pl : va_W) (ls : Array Slot) (H : Heap) (locs : List Loc), n21 + i21 = 768 → frm (M_KM_decapsulate_0 pt) s s24 → F_KM_decapsulate_0 kn pp psn pc_ n pt s = F_KM_decapsulate_0_L0 psn pc_ n pt n21 i21 z21 s24 → lv_has ls 7 [(6, .int (nI i21)), (5, .int z21), (0, .ref h0), (1, .ref st), (2, .ref kp), (3, .ref ct), (4, .ref to)] → okn g T s24 pl → va_P g.1 vcl ([] ++ pl) H → va_D A ([] ++ pl) → va_S A s0.heap H locs → W p l e ({ frames := 5, cells := 0, slots := 0, locals := 156 } : Room) s0 m args below meth c H locs 0 0 (MQ below (va_Qv (fun (u : (Sto) × va_W) => (u.1 = F_KM_decapsulate_0 kn pp psn pc_ n pt s ∧ frm (M_KM_decapsulate_0 pt) s u.1 ∧ True) ∧ okn g T u.1 u.2) (po g.1 vcl A (fun (u : (Sto) × va_W) => [] ++ u.2)) A) args s0 0 0 A) (F0 m 41 ls []) := by
    intro n21
    induction n21 with
    | zero =>
      intro i21 z21 s24 pl ls H locs hm21 hF hR hl hO hP hD hS
      refine lv_iload hx hb dKM_decapsulate_41 (lv_at hl 0 rfl) ?_
      refine lv_aload_n hx hb dKM_decapsulate_43 rfl (lv_at hl 3 rfl) ?_
      refine nw_get (C := "LatticeKeys$KemSet") (TT := T_KS) (N := 10) hx hb hts (wg_ft i_KS) hown hK hO k_st (kn := 5) (ci := 1) (fl := [(1, 2), (1, 3), (1, 10), (1, 4), (1, 800), (1, 1632), (1, 768), (1, 768), (1, 1568), (1, 1600)]) rfl hP rfl 6 (by decide) (hts _ (wg_t kw_244)) (fun _ h9 => h9) (cd := (1, 768)) rfl dKM_decapsulate_44 (fun v26 hv26 => ?_)
      obtain rfl := (show v26 = .int (nI 768) from hv26)
      refine mi_ge (tgt := 73) hx hb dKM_decapsulate_47 (by decide) (by omega) (by omega) (fun h21 => ?_) (fun h21 => absurd h21 (by omega))
      refine lv_iload hx hb dKM_decapsulate_73 (lv_at hl 1 rfl) ?_
      refine lv_if_ne (tgt := 92) hx hb dKM_decapsulate_75 (by decide) (fun h22 => ?_) (fun h22 => ?_)
      · replace hR := hR.trans (if_neg h22)
        refine lv_aload_n hx hb dKM_decapsulate_92 rfl (lv_at hl 2 rfl) ?_
        refine nw_get (C := "LatticeKeys$Kem") (TT := T_KM) (N := 10) hx hb hts (wg_ft i_KM) hown hK hO k_h0 (kn := 24) (ci := 5) (fl := [(3, 14), (3, 20), (3, 25), (3, 30), (3, 31), (3, 32), (3, 33), (3, 34), (3, 35), (3, 36)]) rfl hP rfl 0 (by decide) (hts _ (wg_t kw_107)) (fun _ h9 => h9) (cd := (3, 14)) rfl dKM_decapsulate_93 (fun v27 hv27 => ?_)
        obtain ⟨r25, rfl, kr25⟩ := (show ∃ r : Nat, v27 = .ref r ∧ T r = some 14 from hv27)
        refine lv_iconst (v := nI 3) hx hb dKM_decapsulate_96 (by decide) ?_
        refine mp_v (cx := []) (wr := []) hP hD hS hA [] [] rfl rfl rfl (by decide) (va_runV (As := [.int (nI 3)]) (rest := []) F (N_SP_start_3 l g _ T s24 pl hO hU r25 14 15 kr25 rfl rfl) (cwV 1 hts (wg_app (wg_c kw_578 (wg_c kw_579 (wg_c kw_580 (wg_c kw_2 wg_n)))) kw_581) rfl rfl rfl (by decide +kernel) ⟨by decide, by decide⟩) (pn_W "LatticeKeys$Sponge" (en_ok g) (ci := 3) (kn := 14) (fl := [(3, 15), (0, 0), (0, 0), (0, 0)]) hK hO kr25 rfl hP hD hS hA hE [] rfl rfl rfl) rfl rfl hl.1 rfl (lv_room (Nat.le_of_ble_eq_true rfl)) dKM_decapsulate_97 ⟨by omega, by omega⟩) (fun  u24 H locs hu24 hP hD hS => ?_)
        obtain ⟨s25, pl⟩ := u24
        obtain ⟨⟨eq24, hFc24, ⟨x24, hx_24, hb_24⟩, ⟨x25, hx_25, hb_25⟩, -⟩, hO⟩ := hu24
        have hO : okn g T s25 pl := hO
        have hP : va_P g.1 vcl ([] ++ pl) _ := hP
        have hD : va_D _ ([] ++ pl) := hD
        have hFc24 : frm (M_SP_start_3 14) s24 s25 := hFc24
        have hb_24 : x24 = 0 := hb_24
        have hb_25 : x25 = 136 := hb_25
        replace hR := bnd_step hR eq24
        have hF := frm_tr hF hFc24 (fun k hk => by unfold M_SP_start_3 at hk; unfold M_KM_decapsulate_0; omega)
        refine W.widen (k := 0) (n := 0) (by omega) (by omega) ?_
        refine lv_aload_n hx hb dKM_decapsulate_100 rfl (lv_at hl 2 rfl) ?_
        refine nw_get (C := "LatticeKeys$Kem") (TT := T_KM) (N := 10) hx hb hts (wg_ft i_KM) hown hK hO k_h0 (kn := 24) (ci := 5) (fl := [(3, 14), (3, 20), (3, 25), (3, 30), (3, 31), (3, 32), (3, 33), (3, 34), (3, 35), (3, 36)]) rfl hP rfl 0 (by decide) (hts _ (wg_t kw_107)) (fun _ h9 => h9) (cd := (3, 14)) rfl dKM_decapsulate_101 (fun v28 hv28 => ?_)
        obtain ⟨r26, rfl, kr26⟩ := (show ∃ r : Nat, v28 = .ref r ∧ T r = some 14 from hv28)
        refine lv_aload_n hx hb dKM_decapsulate_104 rfl (lv_at hl 4 rfl) ?_
        refine nw_get (C := "LatticeKeys$KeyPair") (TT := T_KP) (N := 3) hx hb hts (wg_ft i_KP) hown hK hO k_kp (kn := kn) (ci := 13) (fl := [(1, 0), (3, pp), (3, psn)]) n_kp hP rfl 2 (by decide) (hts _ (wg_t kw_751)) (fun _ h9 => h9) (cd := (3, psn)) rfl dKM_decapsulate_105 (fun v29 hv29 => ?_)
        obtain ⟨r27, rfl, kr27⟩ := (show ∃ r : Nat, v29 = .ref r ∧ T r = some psn from hv29)
        refine lv_aload_n hx hb dKM_decapsulate_108 rfl (lv_at hl 3 rfl) ?_
        refine nw_get (C := "LatticeKeys$KemSet") (TT := T_KS) (N := 10) hx hb hts (wg_ft i_KS) hown hK hO k_st (kn := 5) (ci := 1) (fl := [(1, 2), (1, 3), (1, 10), (1, 4), (1, 800), (1, 1632), (1, 768), (1, 768), (1, 1568), (1, 1600)]) rfl hP rfl 9 (by decide) (hts _ (wg_t kw_252)) (fun _ h9 => h9) (cd := (1, 1600)) rfl dKM_decapsulate_109 (fun v30 hv30 => ?_)
        obtain rfl := (show v30 = .int (nI 1600) from hv30)
        refine lv_bipush (v := nI 32) hx hb dKM_decapsulate_112 (by decide) ?_
        refine mp_v (cx := []) (wr := []) hP hD hS hA [] [] rfl rfl rfl (by decide) (va_runV (As := [.ref r27, .int (nI 1600), .int (nI 32)]) (rest := []) F (N_SP_absorb l g _ T s25 pl hO hU r26 r27 14 15 psn 1632 1600 32 x24 x25 kr26 rfl rfl kr27 n_psn hx_24 hx_25 (by omega) (by omega) (by omega) (by omega)) (cwV 3 hts (wg_app (wg_c kw_585 (wg_c kw_586 (wg_c kw_587 (wg_c kw_2 wg_n)))) kw_588) rfl rfl rfl (by decide +kernel) ⟨by decide, by decide⟩) (pn_W "LatticeKeys$Sponge" (en_ok g) (ci := 3) (kn := 14) (fl := [(3, 15), (0, 0), (0, 0), (0, 0)]) hK hO kr26 rfl hP hD hS hA hE [] rfl rfl rfl) rfl rfl hl.1 rfl (lv_room (Nat.le_of_ble_eq_true rfl)) dKM_decapsulate_114 ⟨by omega, by omega⟩) (fun  u25 H locs hu25 hP hD hS => ?_)
        obtain ⟨s26, pl⟩ := u25
        obtain ⟨⟨eq25, hFc25, ⟨x27, hx_27, hb_27⟩, ⟨x28, hx_28, hb_28⟩, -⟩, hO⟩ := hu25
        have hO : okn g T s26 pl := hO
        have hP : va_P g.1 vcl ([] ++ pl) _ := hP
        have hD : va_D _ ([] ++ pl) := hD
        have hFc25 : frm (M_SP_absorb 14) s25 s26 := hFc25
        have hb_27 : x27 < x25 := hb_27
        have hb_28 : x28 = x25 := hb_28
        replace hR := bnd_step hR eq25
        have hF := frm_tr hF hFc25 (fun k hk => by unfold M_SP_absorb at hk; unfold M_KM_decapsulate_0; omega)
        refine W.widen (k := 0) (n := 0) (by omega) (by omega) ?_
        refine lv_aload_n hx hb dKM_decapsulate_117 rfl (lv_at hl 2 rfl) ?_
        refine nw_get (C := "LatticeKeys$Kem") (TT := T_KM) (N := 10) hx hb hts (wg_ft i_KM) hown hK hO k_h0 (kn := 24) (ci := 5) (fl := [(3, 14), (3, 20), (3, 25), (3, 30), (3, 31), (3, 32), (3, 33), (3, 34), (3, 35), (3, 36)]) rfl hP rfl 0 (by decide) (hts _ (wg_t kw_107)) (fun _ h9 => h9) (cd := (3, 14)) rfl dKM_decapsulate_118 (fun v31 hv31 => ?_)
        obtain ⟨r28, rfl, kr28⟩ := (show ∃ r : Nat, v31 = .ref r ∧ T r = some 14 from hv31)
        refine lv_aload_n hx hb dKM_decapsulate_121 rfl (lv_at hl 5 rfl) ?_
        refine lv_iconst (v := nI 0) hx hb dKM_decapsulate_122 (by decide) ?_
        refine lv_aload_n hx hb dKM_decapsulate_123 rfl (lv_at hl 3 rfl) ?_
        refine nw_get (C := "LatticeKeys$KemSet") (TT := T_KS) (N := 10) hx hb hts (wg_ft i_KS) hown hK hO k_st (kn := 5) (ci := 1) (fl := [(1, 2), (1, 3), (1, 10), (1, 4), (1, 800), (1, 1632), (1, 768), (1, 768), (1, 1568), (1, 1600)]) rfl hP rfl 6 (by decide) (hts _ (wg_t kw_244)) (fun _ h9 => h9) (cd := (1, 768)) rfl dKM_decapsulate_124 (fun v32 hv32 => ?_)
        obtain rfl := (show v32 = .int (nI 768) from hv32)
        refine mp_v (cx := []) (wr := []) hP hD hS hA [] [] rfl rfl rfl (by decide) (va_runV (As := [.ref ct, .int (nI 0), .int (nI 768)]) (rest := []) F (N_SP_absorb l g _ T s26 pl hO hU r28 ct 14 15 pc_ n 0 768 x27 x28 kr28 rfl rfl k_ct n_ct hx_27 hx_28 (by omega) (by omega) (by omega) (by omega)) (cwV 3 hts (wg_app (wg_c kw_585 (wg_c kw_586 (wg_c kw_587 (wg_c kw_2 wg_n)))) kw_588) rfl rfl rfl (by decide +kernel) ⟨by decide, by decide⟩) (pn_W "LatticeKeys$Sponge" (en_ok g) (ci := 3) (kn := 14) (fl := [(3, 15), (0, 0), (0, 0), (0, 0)]) hK hO kr28 rfl hP hD hS hA hE [] rfl rfl rfl) rfl rfl hl.1 rfl (lv_room (Nat.le_of_ble_eq_true rfl)) dKM_decapsulate_127 ⟨by omega, by omega⟩) (fun  u26 H locs hu26 hP hD hS => ?_)
        obtain ⟨s27, pl⟩ := u26
        obtain ⟨⟨eq26, hFc26, ⟨x30, hx_30, hb_30⟩, ⟨x31, hx_31, hb_31⟩, -⟩, hO⟩ := hu26
        have hO : okn g T s27 pl := hO
        have hP : va_P g.1 vcl ([] ++ pl) _ := hP
        have hD : va_D _ ([] ++ pl) := hD
        have hFc26 : frm (M_SP_absorb 14) s26 s27 := hFc26
        have hb_30 : x30 < x28 := hb_30
        have hb_31 : x31 = x28 := hb_31
        replace hR := bnd_step hR eq26
        have hF := frm_tr hF hFc26 (fun k hk => by unfold M_SP_absorb at hk; unfold M_KM_decapsulate_0; omega)
        refine W.widen (k := 0) (n := 0) (by omega) (by omega) ?_
        refine lv_aload_n hx hb dKM_decapsulate_130 rfl (lv_at hl 2 rfl) ?_
        refine nw_get (C := "LatticeKeys$Kem") (TT := T_KM) (N := 10) hx hb hts (wg_ft i_KM) hown hK hO k_h0 (kn := 24) (ci := 5) (fl := [(3, 14), (3, 20), (3, 25), (3, 30), (3, 31), (3, 32), (3, 33), (3, 34), (3, 35), (3, 36)]) rfl hP rfl 0 (by decide) (hts _ (wg_t kw_107)) (fun _ h9 => h9) (cd := (3, 14)) rfl dKM_decapsulate_131 (fun v33 hv33 => ?_)
        obtain ⟨r29, rfl, kr29⟩ := (show ∃ r : Nat, v33 = .ref r ∧ T r = some 14 from hv33)
        refine mp_v (cx := []) (wr := []) hP hD hS hA [] [] rfl rfl rfl (by decide) (va_runV (As := []) (rest := []) F (N_SP_finish l g _ T s27 pl hO hU r29 14 15 x30 x31 kr29 rfl rfl hx_30 hx_31 (by omega) (by omega)) (cwV 0 hts (wg_app (wg_c kw_610 (wg_c kw_611 (wg_c kw_612 (wg_c kw_2 wg_n)))) kw_613) rfl rfl rfl (by decide +kernel) ⟨by decide, by decide⟩) (pn_W "LatticeKeys$Sponge" (en_ok g) (ci := 3) (kn := 14) (fl := [(3, 15), (0, 0), (0, 0), (0, 0)]) hK hO kr29 rfl hP hD hS hA hE [] rfl rfl rfl) rfl rfl hl.1 rfl (lv_room (Nat.le_of_ble_eq_true rfl)) dKM_decapsulate_134 ⟨by omega, by omega⟩) (fun  u27 H locs hu27 hP hD hS => ?_)
        obtain ⟨s28, pl⟩ := u27
        obtain ⟨⟨eq27, hFc27, ⟨x33, hx_33, hb_33⟩, ⟨x34, hx_34, hb_34⟩, -⟩, hO⟩ := hu27
        have hO : okn g T s28 pl := hO
        have hP : va_P g.1 vcl ([] ++ pl) _ := hP
        have hD : va_D _ ([] ++ pl) := hD
        have hFc27 : frm (M_SP_finish 14) s27 s28 := hFc27
        have hb_33 : x33 = x31 := hb_33
        have hb_34 : x34 = x31 := hb_34
        replace hR := bnd_step hR eq27
        have hF := frm_tr hF hFc27 (fun k hk => by unfold M_SP_finish at hk; unfold M_KM_decapsulate_0; omega)
        refine W.widen (k := 0) (n := 0) (by omega) (by omega) ?_
        refine lv_aload_n hx hb dKM_decapsulate_137 rfl (lv_at hl 2 rfl) ?_
        refine nw_get (C := "LatticeKeys$Kem") (TT := T_KM) (N := 10) hx hb hts (wg_ft i_KM) hown hK hO k_h0 (kn := 24) (ci := 5) (fl := [(3, 14), (3, 20), (3, 25), (3, 30), (3, 31), (3, 32), (3, 33), (3, 34), (3, 35), (3, 36)]) rfl hP rfl 0 (by decide) (hts _ (wg_t kw_107)) (fun _ h9 => h9) (cd := (3, 14)) rfl dKM_decapsulate_138 (fun v34 hv34 => ?_)
        obtain ⟨r30, rfl, kr30⟩ := (show ∃ r : Nat, v34 = .ref r ∧ T r = some 14 from hv34)
        refine lv_aload hx hb dKM_decapsulate_141 (lv_at hl 6 rfl) ?_
        refine lv_iconst (v := nI 0) hx hb dKM_decapsulate_143 (by decide) ?_
        refine lv_bipush (v := nI 32) hx hb dKM_decapsulate_144 (by decide) ?_
        refine mp_v (cx := []) (wr := []) hP hD hS hA [] [] rfl rfl rfl (by decide) (va_runV (As := [.ref to, .int (nI 0), .int (nI 32)]) (rest := []) F (N_SP_squeeze l g _ T s28 pl hO hU r30 to 14 15 pt 8192 0 32 x33 x34 kr30 rfl rfl k_to n_to hx_33 hx_34 (by omega) (by omega) (by omega) (by omega)) (cwV 3 hts (wg_app (wg_c kw_614 (wg_c kw_615 (wg_c kw_616 (wg_c kw_2 wg_n)))) kw_617) rfl rfl rfl (by decide +kernel) ⟨by decide, by decide⟩) (pn_W "LatticeKeys$Sponge" (en_ok g) (ci := 3) (kn := 14) (fl := [(3, 15), (0, 0), (0, 0), (0, 0)]) hK hO kr30 rfl hP hD hS hA hE [] rfl rfl rfl) rfl rfl hl.1 rfl (lv_room (Nat.le_of_ble_eq_true rfl)) dKM_decapsulate_146 ⟨by omega, by omega⟩) (fun  u28 H locs hu28 hP hD hS => ?_)
        obtain ⟨s29, pl⟩ := u28
        obtain ⟨⟨eq28, hFc28, ⟨x36, hx_36, hb_36⟩, ⟨x37, hx_37, hb_37⟩, -⟩, hO⟩ := hu28
        have hO : okn g T s29 pl := hO
        have hP : va_P g.1 vcl ([] ++ pl) _ := hP
        have hD : va_D _ ([] ++ pl) := hD
        have hFc28 : frm (M_SP_squeeze 14 pt) s28 s29 := hFc28
        have hb_36 : x36 ≤ x34 := hb_36
        have hb_37 : x37 = x34 := hb_37
        replace hR := bnd_step hR eq28
        have hF := frm_tr hF hFc28 (fun k hk => by unfold M_SP_squeeze at hk; unfold M_KM_decapsulate_0; omega)
        refine W.widen (k := 0) (n := 0) (by omega) (by omega) ?_
        exact mp_vret hx hb hr hlk hP hD hS (s29, pl) ⟨⟨hR.symm, hF, trivial⟩, hO⟩ [] rfl rfl rfl (by omega) (by omega) dKM_decapsulate_149
      · replace hR := hR.trans (if_pos h22)
        refine lv_aload_n hx hb dKM_decapsulate_78 rfl (lv_at hl 2 rfl) ?_
        refine nw_get (C := "LatticeKeys$Kem") (TT := T_KM) (N := 10) hx hb hts (wg_ft i_KM) hown hK hO k_h0 (kn := 24) (ci := 5) (fl := [(3, 14), (3, 20), (3, 25), (3, 30), (3, 31), (3, 32), (3, 33), (3, 34), (3, 35), (3, 36)]) rfl hP rfl 7 (by decide) (hts _ (wg_t kw_114)) (fun _ h9 => h9) (cd := (3, 34)) rfl dKM_decapsulate_79 (fun v35 hv35 => ?_)
        obtain ⟨r31, rfl, kr31⟩ := (show ∃ r : Nat, v35 = .ref r ∧ T r = some 34 from hv35)
        refine lv_iconst (v := nI 0) hx hb dKM_decapsulate_82 (by decide) ?_
        refine lv_aload hx hb dKM_decapsulate_83 (lv_at hl 6 rfl) ?_
        refine lv_iconst (v := nI 0) hx hb dKM_decapsulate_85 (by decide) ?_
        refine lv_bipush (v := nI 32) hx hb dKM_decapsulate_86 (by decide) ?_
        refine nw_copyb hx hb (hml.trans hl.1.symm) hown (hts _ (wg_t kw_622)) (hts _ (wg_t kw_526)) (hts _ (wg_t kw_525)) (hts _ (wg_t kw_19)) hK hO hU kr31 (k0 := 34) rfl k_to (k1 := pt) n_to hP hD hS (sp := 0) (dp := 0) (n := 32) (by omega) (by omega) (by omega) (by decide) (Nat.le_of_ble_eq_true rfl) dKM_decapsulate_88 (fun s30 pl H locs es21 hO hP hD hS => ?_)
        replace hR := bnd_step hR es21
        have hF := frm_sC hF es21 (by unfold M_KM_decapsulate_0; omega)
        exact mp_vret hx hb hr hlk hP hD hS (s30, pl) ⟨⟨hR.symm, hF, trivial⟩, hO⟩ [] rfl rfl rfl (by omega) (by omega) dKM_decapsulate_91
    | succ n21 ih21 =>
      intro i21 z21 s24 pl ls H locs hm21 hF hR hl hO hP hD hS
      refine lv_iload hx hb dKM_decapsulate_41 (lv_at hl 0 rfl) ?_
      refine lv_aload_n hx hb dKM_decapsulate_43 rfl (lv_at hl 3 rfl) ?_
      refine nw_get (C := "LatticeKeys$KemSet") (TT := T_KS) (N := 10) hx hb hts (wg_ft i_KS) hown hK hO k_st (kn := 5) (ci := 1) (fl := [(1, 2), (1, 3), (1, 10), (1, 4), (1, 800), (1, 1632), (1, 768), (1, 768), (1, 1568), (1, 1600)]) rfl hP rfl 6 (by decide) (hts _ (wg_t kw_244)) (fun _ h9 => h9) (cd := (1, 768)) rfl dKM_decapsulate_44 (fun v36 hv36 => ?_)
      obtain rfl := (show v36 = .int (nI 768) from hv36)
      refine mi_ge (tgt := 73) hx hb dKM_decapsulate_47 (by decide) (by omega) (by omega) (fun h23 => absurd h23 (by omega)) (fun h23 => ?_)
      refine lv_iload hx hb dKM_decapsulate_50 (lv_at hl 1 rfl) ?_
      refine lv_aload_n hx hb dKM_decapsulate_52 rfl (lv_at hl 5 rfl) ?_
      refine lv_iload hx hb dKM_decapsulate_53 (lv_at hl 0 rfl) ?_
      refine nw_bald hx hb hK hO k_ct (k := pc_) n_ct hP (by omega) (by omega) dKM_decapsulate_55 ?_
      refine lv_aload_n hx hb dKM_decapsulate_56 rfl (lv_at hl 2 rfl) ?_
      refine nw_get (C := "LatticeKeys$Kem") (TT := T_KM) (N := 10) hx hb hts (wg_ft i_KM) hown hK hO k_h0 (kn := 24) (ci := 5) (fl := [(3, 14), (3, 20), (3, 25), (3, 30), (3, 31), (3, 32), (3, 33), (3, 34), (3, 35), (3, 36)]) rfl hP rfl 9 (by decide) (hts _ (wg_t kw_116)) (fun _ h9 => h9) (cd := (3, 36)) rfl dKM_decapsulate_57 (fun v37 hv37 => ?_)
      obtain ⟨r32, rfl, kr32⟩ := (show ∃ r : Nat, v37 = .ref r ∧ T r = some 36 from hv37)
      refine lv_iload hx hb dKM_decapsulate_60 (lv_at hl 0 rfl) ?_
      refine nw_bald hx hb hK hO kr32 (k := 36) rfl hP (by omega) (by omega) dKM_decapsulate_62 ?_
      refine lv_ixor hx hb dKM_decapsulate_63 ?_
      refine lv_ior hx hb dKM_decapsulate_64 ?_
      refine mi_eqv (fun z22 ez21 => ?_)
      replace hR := bnd_step hR ez21
      refine lv_istore (lv' := [(5, .int z22), (6, .int (nI i21)), (0, .ref h0), (1, .ref st), (2, .ref kp), (3, .ref ct), (4, .ref to)]) hx hb dKM_decapsulate_65 hl (by decide) rfl (fun ls hl => ?_)
      refine mi_iinc (k := 1) (x := i21) (d := 1) (y := i21 + 1) (lv' := [(6, .int (nI (i21 + 1))), (5, .int z22), (0, .ref h0), (1, .ref st), (2, .ref kp), (3, .ref ct), (4, .ref to)]) hx hb dKM_decapsulate_67 hl rfl (by decide) rfl (by decide) rfl (fun ls hl => ?_)
      refine lv_goto (tgt := 41) hx hb dKM_decapsulate_70 (by decide) ?_
      exact ih21 (i21 + 1) z22 s24 pl ls H locs (by omega) hF hR (lv_sub hl [0, 1, 2, 3, 4, 5, 6] rfl) hO hP hD hS
  exact lp21 768 0 (nI 0) s23 pl ls _ _ (by omega) hF hR (lv_sub hl [0, 1, 2, 3, 4, 5, 6] rfl) hO hP hD hS
def M_KM_decapsulate_1 (pt : Nat) (k : Nat) : Prop := (26 ≤ k ∧ k < 30) ∨ k = 14 ∨ k = 30 ∨ k = 31 ∨ k = 32 ∨ k = 34 ∨ k = 35 ∨ k = 36 ∨ k = pt ∨ (0 : Nat) = 1
noncomputable def F_KM_decapsulate_1_L0 (psn : Nat) (pc_ : Nat) (n : Nat) (pt : Nat) : Nat → Nat → Int32 → Sto → Sto
  | 0, i21, z21, s24 => if z21 = 0 then bnd (sC s24 34 pt 0 0 32) fun s30 => s30 else bnd (F_SP_start_3 14 15 s24) fun s25 => bnd (F_SP_absorb 14 15 psn 2400 2368 32 s25) fun s26 => bnd (F_SP_absorb 14 15 pc_ n 0 1088 s26) fun s27 => bnd (F_SP_finish 14 15 s27) fun s28 => bnd (F_SP_squeeze 14 15 pt 8192 0 32 s28) fun s29 => s29
  | n21 + 1, i21, z21, s24 => bnd ((z21 ||| ((s24.1 pc_ i21) ^^^ (s24.1 36 i21)))) fun z22 => F_KM_decapsulate_1_L0 psn pc_ n pt n21 (i21 + 1) z22 s24
noncomputable def F_KM_decapsulate_1 (kn : Nat) (pp : Nat) (psn : Nat) (pc_ : Nat) (n : Nat) (pt : Nat) (s : Sto) : Sto := bnd (F_KM_decrypt_1 psn pc_ n s) fun s21 => bnd (F_KM_deriveSeeds psn 2400 2336 s21) fun s22 => bnd (F_KM_encrypt_1 pp 36 1568 s22) fun s23 => F_KM_decapsulate_1_L0 psn pc_ n pt 1088 0 (nI 0) s23
set_option maxHeartbeats 400000 in
set_option maxRecDepth 100000 in
theorem N_KM_decapsulate_1 (l : Launch) (g : Gd) (sz : Nat) (T : TyN) (s : Sto) (pl : va_W) (hO : okn g T s pl) (hU : inj T) (h0 st kp ct to : Nat) (kn : Nat) (pp : Nat) (psn : Nat) (pc_ : Nat) (n : Nat) (pt : Nat) (k_h0 : T h0 = some 24) (k_st : T st = some 6) (k_kp : T kp = some kn) (n_kp : nsp kn = (5, 13, [(1, 1), (3, pp), (3, psn)])) (n_pp : nsp pp = (1, 1184, [])) (n_psn : nsp psn = (1, 2400, [])) (k_ct : T ct = some pc_) (n_ct : nsp pc_ = (1, n, [])) (k_to : T to = some pt) (n_to : nsp pt = (1, 8192, [])) (h1 : 1088 ≤ n) (h2 : n < 65536)  : Met l y_KM_decapsulate w_KM_decapsulate ({ frames := 5, cells := 0, slots := 0, locals := 156 } : Room) (va_Pc [.ref h0, .ref st, .ref kp, .ref ct, .ref to] (pr (en g) g.1 vcl sz ([] ++ pl))) (va_Qv (fun (u : (Sto) × va_W) => (u.1 = F_KM_decapsulate_1 kn pp psn pc_ n pt s ∧ frm (M_KM_decapsulate_1 pt) s u.1 ∧ True) ∧ okn g T u.1 u.2) (po g.1 vcl (va_A ([] ++ pl) sz) (fun (u : (Sto) × va_W) => [] ++ u.2)) (va_A ([] ++ pl) sz)) 0 0 (va_A ([] ++ pl) sz) := by
  refine mc_entry (cc := c_KM_decapsulate) (maxL := 7) (ret := none) (by decide) rfl (Nat.le_of_ble_eq_true rfl) ?_
  intro p e s0 m args below meth c ls F hr hlk hnm hsz hP hD hE hA hl
  obtain ⟨hx, hb, hml, hown, hts⟩ := id F
  have hK := hE.1
  generalize va_A ([] ++ pl) sz = A at hD hE hA ⊢
  have hS : va_S A s0.heap s0.heap [] := va_S.rf
  have hl : lv_has ls 7 [(0, .ref h0), (1, .ref st), (2, .ref kp), (3, .ref ct), (4, .ref to)] := hl
  have hR : F_KM_decapsulate_1 kn pp psn pc_ n pt s = F_KM_decapsulate_1 kn pp psn pc_ n pt s := rfl
  have hF : frm (M_KM_decapsulate_1 pt) s s := frm_rf
  refine lv_aload_n hx hb dKM_decapsulate_0 rfl (lv_at hl 0 rfl) ?_
  refine lv_aload_n hx hb dKM_decapsulate_1 rfl (lv_at hl 1 rfl) ?_
  refine lv_aload_n hx hb dKM_decapsulate_2 rfl (lv_at hl 2 rfl) ?_
  refine nw_get (C := "LatticeKeys$KeyPair") (TT := T_KP) (N := 3) hx hb hts (wg_ft i_KP) hown hK hO k_kp (kn := kn) (ci := 13) (fl := [(1, 1), (3, pp), (3, psn)]) n_kp hP rfl 2 (by decide) (hts _ (wg_t kw_751)) (fun _ h9 => h9) (cd := (3, psn)) rfl dKM_decapsulate_3 (fun v21 hv21 => ?_)
  obtain ⟨r21, rfl, kr21⟩ := (show ∃ r : Nat, v21 = .ref r ∧ T r = some psn from hv21)
  refine lv_aload_n hx hb dKM_decapsulate_6 rfl (lv_at hl 3 rfl) ?_
  refine mp_v (cx := []) (wr := []) hP hD hS hA [] [] rfl rfl rfl (by decide) (va_runV (As := [.ref st, .ref r21, .ref ct]) (rest := []) F (N_KM_decrypt_1 l g _ T s pl hO hU h0 st r21 ct psn pc_ n k_h0 k_st kr21 n_psn k_ct n_ct (by omega) (by omega)) (cwV 3 hts (wg_app (wg_c kw_1150 (wg_c kw_1152 (wg_c ks_31 (wg_c kw_3 wg_n)))) kw_1153) rfl rfl rfl (by decide +kernel) ⟨by decide, by decide⟩) (pn_W "LatticeKeys$Kem" (en_ok g) (ci := 5) (kn := 24) (fl := [(3, 14), (3, 20), (3, 25), (3, 30), (3, 31), (3, 32), (3, 33), (3, 34), (3, 35), (3, 36)]) hK hO k_h0 rfl hP hD hS hA hE [] rfl rfl rfl) rfl rfl hl.1 rfl (lv_room (Nat.le_of_ble_eq_true rfl)) dKM_decapsulate_7 ⟨by omega, by omega⟩) (fun  u21 H locs hu21 hP hD hS => ?_)
  obtain ⟨s21, pl⟩ := u21
  obtain ⟨⟨eq21, hFc21, -⟩, hO⟩ := hu21
  have hO : okn g T s21 pl := hO
  have hP : va_P g.1 vcl ([] ++ pl) _ := hP
  have hD : va_D _ ([] ++ pl) := hD
  have hFc21 : frm (M_KM_decrypt_1) s s21 := hFc21
  replace hR := bnd_step hR eq21
  have hF := frm_tr hF hFc21 (fun k hk => by unfold M_KM_decrypt_1 at hk; unfold M_KM_decapsulate_1; omega)
  refine W.widen (k := 0) (n := 0) (by omega) (by omega) ?_
  refine lv_aload_n hx hb dKM_decapsulate_10 rfl (lv_at hl 0 rfl) ?_
  refine lv_aload_n hx hb dKM_decapsulate_11 rfl (lv_at hl 2 rfl) ?_
  refine nw_get (C := "LatticeKeys$KeyPair") (TT := T_KP) (N := 3) hx hb hts (wg_ft i_KP) hown hK hO k_kp (kn := kn) (ci := 13) (fl := [(1, 1), (3, pp), (3, psn)]) n_kp hP rfl 2 (by decide) (hts _ (wg_t kw_751)) (fun _ h9 => h9) (cd := (3, psn)) rfl dKM_decapsulate_12 (fun v22 hv22 => ?_)
  obtain ⟨r22, rfl, kr22⟩ := (show ∃ r : Nat, v22 = .ref r ∧ T r = some psn from hv22)
  refine lv_aload_n hx hb dKM_decapsulate_15 rfl (lv_at hl 1 rfl) ?_
  refine nw_get (C := "LatticeKeys$KemSet") (TT := T_KS) (N := 10) hx hb hts (wg_ft i_KS) hown hK hO k_st (kn := 6) (ci := 1) (fl := [(1, 3), (1, 2), (1, 10), (1, 4), (1, 1184), (1, 2400), (1, 1088), (1, 1152), (1, 2336), (1, 2368)]) rfl hP rfl 8 (by decide) (hts _ (wg_t kw_250)) (fun _ h9 => h9) (cd := (1, 2336)) rfl dKM_decapsulate_16 (fun v23 hv23 => ?_)
  obtain rfl := (show v23 = .int (nI 2336) from hv23)
  refine mp_v (cx := []) (wr := []) hP hD hS hA [] [] rfl rfl rfl (by decide) (va_runV (As := [.ref r22, .int (nI 2336)]) (rest := []) F (N_KM_deriveSeeds l g _ T s21 pl hO hU h0 r22 psn 2400 2336 k_h0 kr22 n_psn (by omega) (by omega)) (cwV 2 hts (wg_app (wg_c kw_1114 (wg_c kw_1116 (wg_c ks_26 (wg_c kw_3 wg_n)))) kw_1117) rfl rfl rfl (by decide +kernel) ⟨by decide, by decide⟩) (pn_W "LatticeKeys$Kem" (en_ok g) (ci := 5) (kn := 24) (fl := [(3, 14), (3, 20), (3, 25), (3, 30), (3, 31), (3, 32), (3, 33), (3, 34), (3, 35), (3, 36)]) hK hO k_h0 rfl hP hD hS hA hE [] rfl rfl rfl) rfl rfl hl.1 rfl (lv_room (Nat.le_of_ble_eq_true rfl)) dKM_decapsulate_19 ⟨by omega, by omega⟩) (fun  u22 H locs hu22 hP hD hS => ?_)
  obtain ⟨s22, pl⟩ := u22
  obtain ⟨⟨eq22, hFc22, -⟩, hO⟩ := hu22
  have hO : okn g T s22 pl := hO
  have hP : va_P g.1 vcl ([] ++ pl) _ := hP
  have hD : va_D _ ([] ++ pl) := hD
  have hFc22 : frm (M_KM_deriveSeeds) s21 s22 := hFc22
  replace hR := bnd_step hR eq22
  have hF := frm_tr hF hFc22 (fun k hk => by unfold M_KM_deriveSeeds at hk; unfold M_KM_decapsulate_1; omega)
  refine W.widen (k := 0) (n := 0) (by omega) (by omega) ?_
  refine lv_aload_n hx hb dKM_decapsulate_22 rfl (lv_at hl 0 rfl) ?_
  refine lv_aload_n hx hb dKM_decapsulate_23 rfl (lv_at hl 1 rfl) ?_
  refine lv_aload_n hx hb dKM_decapsulate_24 rfl (lv_at hl 2 rfl) ?_
  refine nw_get (C := "LatticeKeys$KeyPair") (TT := T_KP) (N := 3) hx hb hts (wg_ft i_KP) hown hK hO k_kp (kn := kn) (ci := 13) (fl := [(1, 1), (3, pp), (3, psn)]) n_kp hP rfl 1 (by decide) (hts _ (wg_t kw_748)) (fun _ h9 => h9) (cd := (3, pp)) rfl dKM_decapsulate_25 (fun v24 hv24 => ?_)
  obtain ⟨r23, rfl, kr23⟩ := (show ∃ r : Nat, v24 = .ref r ∧ T r = some pp from hv24)
  refine lv_aload_n hx hb dKM_decapsulate_28 rfl (lv_at hl 0 rfl) ?_
  refine nw_get (C := "LatticeKeys$Kem") (TT := T_KM) (N := 10) hx hb hts (wg_ft i_KM) hown hK hO k_h0 (kn := 24) (ci := 5) (fl := [(3, 14), (3, 20), (3, 25), (3, 30), (3, 31), (3, 32), (3, 33), (3, 34), (3, 35), (3, 36)]) rfl hP rfl 9 (by decide) (hts _ (wg_t kw_116)) (fun _ h9 => h9) (cd := (3, 36)) rfl dKM_decapsulate_29 (fun v25 hv25 => ?_)
  obtain ⟨r24, rfl, kr24⟩ := (show ∃ r : Nat, v25 = .ref r ∧ T r = some 36 from hv25)
  refine mp_v (cx := []) (wr := []) hP hD hS hA [] [] rfl rfl rfl (by decide) (va_runV (As := [.ref st, .ref r23, .ref r24]) (rest := []) F (N_KM_encrypt_1 l g _ T s22 pl hO hU h0 st r23 r24 pp 36 1568 k_h0 k_st kr23 n_pp kr24 rfl (by omega) (by omega)) (cwV 3 hts (wg_app (wg_c kw_1118 (wg_c kw_1120 (wg_c ks_27 (wg_c kw_3 wg_n)))) kw_1121) rfl rfl rfl (by decide +kernel) ⟨by decide, by decide⟩) (pn_W "LatticeKeys$Kem" (en_ok g) (ci := 5) (kn := 24) (fl := [(3, 14), (3, 20), (3, 25), (3, 30), (3, 31), (3, 32), (3, 33), (3, 34), (3, 35), (3, 36)]) hK hO k_h0 rfl hP hD hS hA hE [] rfl rfl rfl) rfl rfl hl.1 rfl (lv_room (Nat.le_of_ble_eq_true rfl)) dKM_decapsulate_32 ⟨by omega, by omega⟩) (fun  u23 H locs hu23 hP hD hS => ?_)
  obtain ⟨s23, pl⟩ := u23
  obtain ⟨⟨eq23, hFc23, -⟩, hO⟩ := hu23
  have hO : okn g T s23 pl := hO
  have hP : va_P g.1 vcl ([] ++ pl) _ := hP
  have hD : va_D _ ([] ++ pl) := hD
  have hFc23 : frm (M_KM_encrypt_1 36) s22 s23 := hFc23
  replace hR := bnd_step hR eq23
  have hF := frm_tr hF hFc23 (fun k hk => by unfold M_KM_encrypt_1 at hk; unfold M_KM_decapsulate_1; omega)
  refine W.widen (k := 0) (n := 0) (by omega) (by omega) ?_
  refine lv_iconst (v := nI 0) hx hb dKM_decapsulate_35 (by decide) ?_
  refine lv_istore (lv' := [(5, .int (nI 0)), (0, .ref h0), (1, .ref st), (2, .ref kp), (3, .ref ct), (4, .ref to)]) hx hb dKM_decapsulate_36 hl (by decide) rfl (fun ls hl => ?_)
  refine lv_iconst (v := nI 0) hx hb dKM_decapsulate_38 (by decide) ?_
  refine lv_istore (lv' := [(6, .int (nI 0)), (5, .int (nI 0)), (0, .ref h0), (1, .ref st), (2, .ref kp), (3, .ref ct), (4, .ref to)]) hx hb dKM_decapsulate_39 hl (by decide) rfl (fun ls hl => ?_)
  have lp21 : ∀ (n21 : Nat) (i21 : Nat) (z21 : Int32) (s24 : Sto) (pl : va_W) (ls : Array Slot) (H : Heap) (locs : List Loc), n21 + i21 = 1088 → frm (M_KM_decapsulate_1 pt) s s24 → F_KM_decapsulate_1 kn pp psn pc_ n pt s = F_KM_decapsulate_1_L0 psn pc_ n pt n21 i21 z21 s24 → lv_has ls 7 [(6, .int (nI i21)), (5, .int z21), (0, .ref h0), (1, .ref st), (2, .ref kp), (3, .ref ct), (4, .ref to)] → okn g T s24 pl → va_P g.1 vcl ([] ++ pl) H → va_D A ([] ++ pl) → va_S A s0.heap H locs → W p l e ({ frames := 5, cells := 0, slots := 0, locals := 156 } : Room) s0 m args below meth c H locs 0 0 (MQ below (va_Qv (fun (u : (Sto) × va_W) => (u.1 = F_KM_decapsulate_1 kn pp psn pc_ n pt s ∧ frm (M_KM_decapsulate_1 pt) s u.1 ∧ True) ∧ okn g T u.1 u.2) (po g.1 vcl A (fun (u : (Sto) × va_W) => [] ++ u.2)) A) args s0 0 0 A) (F0 m 41 ls []) := by
    intro n21
    induction n21 with
    | zero =>
      intro i21 z21 s24 pl ls H locs hm21 hF hR hl hO hP hD hS
      refine lv_iload hx hb dKM_decapsulate_41 (lv_at hl 0 rfl) ?_
      refine lv_aload_n hx hb dKM_decapsulate_43 rfl (lv_at hl 3 rfl) ?_
      refine nw_get (C := "LatticeKeys$KemSet") (TT := T_KS) (N := 10) hx hb hts (wg_ft i_KS) hown hK hO k_st (kn := 6) (ci := 1) (fl := [(1, 3), (1, 2), (1, 10), (1, 4), (1, 1184), (1, 2400), (1, 1088), (1, 1152), (1, 2336), (1, 2368)]) rfl hP rfl 6 (by decide) (hts _ (wg_t kw_244)) (fun _ h9 => h9) (cd := (1, 1088)) rfl dKM_decapsulate_44 (fun v26 hv26 => ?_)
      obtain rfl := (show v26 = .int (nI 1088) from hv26)
      refine mi_ge (tgt := 73) hx hb dKM_decapsulate_47 (by decide) (by omega) (by omega) (fun h21 => ?_) (fun h21 => absurd h21 (by omega))
      refine lv_iload hx hb dKM_decapsulate_73 (lv_at hl 1 rfl) ?_
      refine lv_if_ne (tgt := 92) hx hb dKM_decapsulate_75 (by decide) (fun h22 => ?_) (fun h22 => ?_)
      · replace hR := hR.trans (if_neg h22)
        refine lv_aload_n hx hb dKM_decapsulate_92 rfl (lv_at hl 2 rfl) ?_
        refine nw_get (C := "LatticeKeys$Kem") (TT := T_KM) (N := 10) hx hb hts (wg_ft i_KM) hown hK hO k_h0 (kn := 24) (ci := 5) (fl := [(3, 14), (3, 20), (3, 25), (3, 30), (3, 31), (3, 32), (3, 33), (3, 34), (3, 35), (3, 36)]) rfl hP rfl 0 (by decide) (hts _ (wg_t kw_107)) (fun _ h9 => h9) (cd := (3, 14)) rfl dKM_decapsulate_93 (fun v27 hv27 => ?_)
        obtain ⟨r25, rfl, kr25⟩ := (show ∃ r : Nat, v27 = .ref r ∧ T r = some 14 from hv27)
        refine lv_iconst (v := nI 3) hx hb dKM_decapsulate_96 (by decide) ?_
        refine mp_v (cx := []) (wr := []) hP hD hS hA [] [] rfl rfl rfl (by decide) (va_runV (As := [.int (nI 3)]) (rest := []) F (N_SP_start_3 l g _ T s24 pl hO hU r25 14 15 kr25 rfl rfl) (cwV 1 hts (wg_app (wg_c kw_578 (wg_c kw_579 (wg_c kw_580 (wg_c kw_2 wg_n)))) kw_581) rfl rfl rfl (by decide +kernel) ⟨by decide, by decide⟩) (pn_W "LatticeKeys$Sponge" (en_ok g) (ci := 3) (kn := 14) (fl := [(3, 15), (0, 0), (0, 0), (0, 0)]) hK hO kr25 rfl hP hD hS hA hE [] rfl rfl rfl) rfl rfl hl.1 rfl (lv_room (Nat.le_of_ble_eq_true rfl)) dKM_decapsulate_97 ⟨by omega, by omega⟩) (fun  u24 H locs hu24 hP hD hS => ?_)
        obtain ⟨s25, pl⟩ := u24
        obtain ⟨⟨eq24, hFc24, ⟨x24, hx_24, hb_24⟩, ⟨x25, hx_25, hb_25⟩, -⟩, hO⟩ := hu24
        have hO : okn g T s25 pl := hO
        have hP : va_P g.1 vcl ([] ++ pl) _ := hP
        have hD : va_D _ ([] ++ pl) := hD
        have hFc24 : frm (M_SP_start_3 14) s24 s25 := hFc24
        have hb_24 : x24 = 0 := hb_24
        have hb_25 : x25 = 136 := hb_25
        replace hR := bnd_step hR eq24
        have hF := frm_tr hF hFc24 (fun k hk => by unfold M_SP_start_3 at hk; unfold M_KM_decapsulate_1; omega)
        refine W.widen (k := 0) (n := 0) (by omega) (by omega) ?_
        refine lv_aload_n hx hb dKM_decapsulate_100 rfl (lv_at hl 2 rfl) ?_
        refine nw_get (C := "LatticeKeys$Kem") (TT := T_KM) (N := 10) hx hb hts (wg_ft i_KM) hown hK hO k_h0 (kn := 24) (ci := 5) (fl := [(3, 14), (3, 20), (3, 25), (3, 30), (3, 31), (3, 32), (3, 33), (3, 34), (3, 35), (3, 36)]) rfl hP rfl 0 (by decide) (hts _ (wg_t kw_107)) (fun _ h9 => h9) (cd := (3, 14)) rfl dKM_decapsulate_101 (fun v28 hv28 => ?_)
        obtain ⟨r26, rfl, kr26⟩ := (show ∃ r : Nat, v28 = .ref r ∧ T r = some 14 from hv28)
        refine lv_aload_n hx hb dKM_decapsulate_104 rfl (lv_at hl 4 rfl) ?_
        refine nw_get (C := "LatticeKeys$KeyPair") (TT := T_KP) (N := 3) hx hb hts (wg_ft i_KP) hown hK hO k_kp (kn := kn) (ci := 13) (fl := [(1, 1), (3, pp), (3, psn)]) n_kp hP rfl 2 (by decide) (hts _ (wg_t kw_751)) (fun _ h9 => h9) (cd := (3, psn)) rfl dKM_decapsulate_105 (fun v29 hv29 => ?_)
        obtain ⟨r27, rfl, kr27⟩ := (show ∃ r : Nat, v29 = .ref r ∧ T r = some psn from hv29)
        refine lv_aload_n hx hb dKM_decapsulate_108 rfl (lv_at hl 3 rfl) ?_
        refine nw_get (C := "LatticeKeys$KemSet") (TT := T_KS) (N := 10) hx hb hts (wg_ft i_KS) hown hK hO k_st (kn := 6) (ci := 1) (fl := [(1, 3), (1, 2), (1, 10), (1, 4), (1, 1184), (1, 2400), (1, 1088), (1, 1152), (1, 2336), (1, 2368)]) rfl hP rfl 9 (by decide) (hts _ (wg_t kw_252)) (fun _ h9 => h9) (cd := (1, 2368)) rfl dKM_decapsulate_109 (fun v30 hv30 => ?_)
        obtain rfl := (show v30 = .int (nI 2368) from hv30)
        refine lv_bipush (v := nI 32) hx hb dKM_decapsulate_112 (by decide) ?_
        refine mp_v (cx := []) (wr := []) hP hD hS hA [] [] rfl rfl rfl (by decide) (va_runV (As := [.ref r27, .int (nI 2368), .int (nI 32)]) (rest := []) F (N_SP_absorb l g _ T s25 pl hO hU r26 r27 14 15 psn 2400 2368 32 x24 x25 kr26 rfl rfl kr27 n_psn hx_24 hx_25 (by omega) (by omega) (by omega) (by omega)) (cwV 3 hts (wg_app (wg_c kw_585 (wg_c kw_586 (wg_c kw_587 (wg_c kw_2 wg_n)))) kw_588) rfl rfl rfl (by decide +kernel) ⟨by decide, by decide⟩) (pn_W "LatticeKeys$Sponge" (en_ok g) (ci := 3) (kn := 14) (fl := [(3, 15), (0, 0), (0, 0), (0, 0)]) hK hO kr26 rfl hP hD hS hA hE [] rfl rfl rfl) rfl rfl hl.1 rfl (lv_room (Nat.le_of_ble_eq_true rfl)) dKM_decapsulate_114 ⟨by omega, by omega⟩) (fun  u25 H locs hu25 hP hD hS => ?_)
        obtain ⟨s26, pl⟩ := u25
        obtain ⟨⟨eq25, hFc25, ⟨x27, hx_27, hb_27⟩, ⟨x28, hx_28, hb_28⟩, -⟩, hO⟩ := hu25
        have hO : okn g T s26 pl := hO
        have hP : va_P g.1 vcl ([] ++ pl) _ := hP
        have hD : va_D _ ([] ++ pl) := hD
        have hFc25 : frm (M_SP_absorb 14) s25 s26 := hFc25
        have hb_27 : x27 < x25 := hb_27
        have hb_28 : x28 = x25 := hb_28
        replace hR := bnd_step hR eq25
        have hF := frm_tr hF hFc25 (fun k hk => by unfold M_SP_absorb at hk; unfold M_KM_decapsulate_1; omega)
        refine W.widen (k := 0) (n := 0) (by omega) (by omega) ?_
        refine lv_aload_n hx hb dKM_decapsulate_117 rfl (lv_at hl 2 rfl) ?_
        refine nw_get (C := "LatticeKeys$Kem") (TT := T_KM) (N := 10) hx hb hts (wg_ft i_KM) hown hK hO k_h0 (kn := 24) (ci := 5) (fl := [(3, 14), (3, 20), (3, 25), (3, 30), (3, 31), (3, 32), (3, 33), (3, 34), (3, 35), (3, 36)]) rfl hP rfl 0 (by decide) (hts _ (wg_t kw_107)) (fun _ h9 => h9) (cd := (3, 14)) rfl dKM_decapsulate_118 (fun v31 hv31 => ?_)
        obtain ⟨r28, rfl, kr28⟩ := (show ∃ r : Nat, v31 = .ref r ∧ T r = some 14 from hv31)
        refine lv_aload_n hx hb dKM_decapsulate_121 rfl (lv_at hl 5 rfl) ?_
        refine lv_iconst (v := nI 0) hx hb dKM_decapsulate_122 (by decide) ?_
        refine lv_aload_n hx hb dKM_decapsulate_123 rfl (lv_at hl 3 rfl) ?_
        refine nw_get (C := "LatticeKeys$KemSet") (TT := T_KS) (N := 10) hx hb hts (wg_ft i_KS) hown hK hO k_st (kn := 6) (ci := 1) (fl := [(1, 3), (1, 2), (1, 10), (1, 4), (1, 1184), (1, 2400), (1, 1088), (1, 1152), (1, 2336), (1, 2368)]) rfl hP rfl 6 (by decide) (hts _ (wg_t kw_244)) (fun _ h9 => h9) (cd := (1, 1088)) rfl dKM_decapsulate_124 (fun v32 hv32 => ?_)
        obtain rfl := (show v32 = .int (nI 1088) from hv32)
        refine mp_v (cx := []) (wr := []) hP hD hS hA [] [] rfl rfl rfl (by decide) (va_runV (As := [.ref ct, .int (nI 0), .int (nI 1088)]) (rest := []) F (N_SP_absorb l g _ T s26 pl hO hU r28 ct 14 15 pc_ n 0 1088 x27 x28 kr28 rfl rfl k_ct n_ct hx_27 hx_28 (by omega) (by omega) (by omega) (by omega)) (cwV 3 hts (wg_app (wg_c kw_585 (wg_c kw_586 (wg_c kw_587 (wg_c kw_2 wg_n)))) kw_588) rfl rfl rfl (by decide +kernel) ⟨by decide, by decide⟩) (pn_W "LatticeKeys$Sponge" (en_ok g) (ci := 3) (kn := 14) (fl := [(3, 15), (0, 0), (0, 0), (0, 0)]) hK hO kr28 rfl hP hD hS hA hE [] rfl rfl rfl) rfl rfl hl.1 rfl (lv_room (Nat.le_of_ble_eq_true rfl)) dKM_decapsulate_127 ⟨by omega, by omega⟩) (fun  u26 H locs hu26 hP hD hS => ?_)
        obtain ⟨s27, pl⟩ := u26
        obtain ⟨⟨eq26, hFc26, ⟨x30, hx_30, hb_30⟩, ⟨x31, hx_31, hb_31⟩, -⟩, hO⟩ := hu26
        have hO : okn g T s27 pl := hO
        have hP : va_P g.1 vcl ([] ++ pl) _ := hP
        have hD : va_D _ ([] ++ pl) := hD
        have hFc26 : frm (M_SP_absorb 14) s26 s27 := hFc26
        have hb_30 : x30 < x28 := hb_30
        have hb_31 : x31 = x28 := hb_31
        replace hR := bnd_step hR eq26
        have hF := frm_tr hF hFc26 (fun k hk => by unfold M_SP_absorb at hk; unfold M_KM_decapsulate_1; omega)
        refine W.widen (k := 0) (n := 0) (by omega) (by omega) ?_
        refine lv_aload_n hx hb dKM_decapsulate_130 rfl (lv_at hl 2 rfl) ?_
        refine nw_get (C := "LatticeKeys$Kem") (TT := T_KM) (N := 10) hx hb hts (wg_ft i_KM) hown hK hO k_h0 (kn := 24) (ci := 5) (fl := [(3, 14), (3, 20), (3, 25), (3, 30), (3, 31), (3, 32), (3, 33), (3, 34), (3, 35), (3, 36)]) rfl hP rfl 0 (by decide) (hts _ (wg_t kw_107)) (fun _ h9 => h9) (cd := (3, 14)) rfl dKM_decapsulate_131 (fun v33 hv33 => ?_)
        obtain ⟨r29, rfl, kr29⟩ := (show ∃ r : Nat, v33 = .ref r ∧ T r = some 14 from hv33)
        refine mp_v (cx := []) (wr := []) hP hD hS hA [] [] rfl rfl rfl (by decide) (va_runV (As := []) (rest := []) F (N_SP_finish l g _ T s27 pl hO hU r29 14 15 x30 x31 kr29 rfl rfl hx_30 hx_31 (by omega) (by omega)) (cwV 0 hts (wg_app (wg_c kw_610 (wg_c kw_611 (wg_c kw_612 (wg_c kw_2 wg_n)))) kw_613) rfl rfl rfl (by decide +kernel) ⟨by decide, by decide⟩) (pn_W "LatticeKeys$Sponge" (en_ok g) (ci := 3) (kn := 14) (fl := [(3, 15), (0, 0), (0, 0), (0, 0)]) hK hO kr29 rfl hP hD hS hA hE [] rfl rfl rfl) rfl rfl hl.1 rfl (lv_room (Nat.le_of_ble_eq_true rfl)) dKM_decapsulate_134 ⟨by omega, by omega⟩) (fun  u27 H locs hu27 hP hD hS => ?_)
        obtain ⟨s28, pl⟩ := u27
        obtain ⟨⟨eq27, hFc27, ⟨x33, hx_33, hb_33⟩, ⟨x34, hx_34, hb_34⟩, -⟩, hO⟩ := hu27
        have hO : okn g T s28 pl := hO
        have hP : va_P g.1 vcl ([] ++ pl) _ := hP
        have hD : va_D _ ([] ++ pl) := hD
        have hFc27 : frm (M_SP_finish 14) s27 s28 := hFc27
        have hb_33 : x33 = x31 := hb_33
        have hb_34 : x34 = x31 := hb_34
        replace hR := bnd_step hR eq27
        have hF := frm_tr hF hFc27 (fun k hk => by unfold M_SP_finish at hk; unfold M_KM_decapsulate_1; omega)
        refine W.widen (k := 0) (n := 0) (by omega) (by omega) ?_
        refine lv_aload_n hx hb dKM_decapsulate_137 rfl (lv_at hl 2 rfl) ?_
        refine nw_get (C := "LatticeKeys$Kem") (TT := T_KM) (N := 10) hx hb hts (wg_ft i_KM) hown hK hO k_h0 (kn := 24) (ci := 5) (fl := [(3, 14), (3, 20), (3, 25), (3, 30), (3, 31), (3, 32), (3, 33), (3, 34), (3, 35), (3, 36)]) rfl hP rfl 0 (by decide) (hts _ (wg_t kw_107)) (fun _ h9 => h9) (cd := (3, 14)) rfl dKM_decapsulate_138 (fun v34 hv34 => ?_)
        obtain ⟨r30, rfl, kr30⟩ := (show ∃ r : Nat, v34 = .ref r ∧ T r = some 14 from hv34)
        refine lv_aload hx hb dKM_decapsulate_141 (lv_at hl 6 rfl) ?_
        refine lv_iconst (v := nI 0) hx hb dKM_decapsulate_143 (by decide) ?_
        refine lv_bipush (v := nI 32) hx hb dKM_decapsulate_144 (by decide) ?_
        refine mp_v (cx := []) (wr := []) hP hD hS hA [] [] rfl rfl rfl (by decide) (va_runV (As := [.ref to, .int (nI 0), .int (nI 32)]) (rest := []) F (N_SP_squeeze l g _ T s28 pl hO hU r30 to 14 15 pt 8192 0 32 x33 x34 kr30 rfl rfl k_to n_to hx_33 hx_34 (by omega) (by omega) (by omega) (by omega)) (cwV 3 hts (wg_app (wg_c kw_614 (wg_c kw_615 (wg_c kw_616 (wg_c kw_2 wg_n)))) kw_617) rfl rfl rfl (by decide +kernel) ⟨by decide, by decide⟩) (pn_W "LatticeKeys$Sponge" (en_ok g) (ci := 3) (kn := 14) (fl := [(3, 15), (0, 0), (0, 0), (0, 0)]) hK hO kr30 rfl hP hD hS hA hE [] rfl rfl rfl) rfl rfl hl.1 rfl (lv_room (Nat.le_of_ble_eq_true rfl)) dKM_decapsulate_146 ⟨by omega, by omega⟩) (fun  u28 H locs hu28 hP hD hS => ?_)
        obtain ⟨s29, pl⟩ := u28
        obtain ⟨⟨eq28, hFc28, ⟨x36, hx_36, hb_36⟩, ⟨x37, hx_37, hb_37⟩, -⟩, hO⟩ := hu28
        have hO : okn g T s29 pl := hO
        have hP : va_P g.1 vcl ([] ++ pl) _ := hP
        have hD : va_D _ ([] ++ pl) := hD
        have hFc28 : frm (M_SP_squeeze 14 pt) s28 s29 := hFc28
        have hb_36 : x36 ≤ x34 := hb_36
        have hb_37 : x37 = x34 := hb_37
        replace hR := bnd_step hR eq28
        have hF := frm_tr hF hFc28 (fun k hk => by unfold M_SP_squeeze at hk; unfold M_KM_decapsulate_1; omega)
        refine W.widen (k := 0) (n := 0) (by omega) (by omega) ?_
        exact mp_vret hx hb hr hlk hP hD hS (s29, pl) ⟨⟨hR.symm, hF, trivial⟩, hO⟩ [] rfl rfl rfl (by omega) (by omega) dKM_decapsulate_149
      · replace hR := hR.trans (if_pos h22)
        refine lv_aload_n hx hb dKM_decapsulate_78 rfl (lv_at hl 2 rfl) ?_
        refine nw_get (C := "LatticeKeys$Kem") (TT := T_KM) (N := 10) hx hb hts (wg_ft i_KM) hown hK hO k_h0 (kn := 24) (ci := 5) (fl := [(3, 14), (3, 20), (3, 25), (3, 30), (3, 31), (3, 32), (3, 33), (3, 34), (3, 35), (3, 36)]) rfl hP rfl 7 (by decide) (hts _ (wg_t kw_114)) (fun _ h9 => h9) (cd := (3, 34)) rfl dKM_decapsulate_79 (fun v35 hv35 => ?_)
        obtain ⟨r31, rfl, kr31⟩ := (show ∃ r : Nat, v35 = .ref r ∧ T r = some 34 from hv35)
        refine lv_iconst (v := nI 0) hx hb dKM_decapsulate_82 (by decide) ?_
        refine lv_aload hx hb dKM_decapsulate_83 (lv_at hl 6 rfl) ?_
        refine lv_iconst (v := nI 0) hx hb dKM_decapsulate_85 (by decide) ?_
        refine lv_bipush (v := nI 32) hx hb dKM_decapsulate_86 (by decide) ?_
        refine nw_copyb hx hb (hml.trans hl.1.symm) hown (hts _ (wg_t kw_622)) (hts _ (wg_t kw_526)) (hts _ (wg_t kw_525)) (hts _ (wg_t kw_19)) hK hO hU kr31 (k0 := 34) rfl k_to (k1 := pt) n_to hP hD hS (sp := 0) (dp := 0) (n := 32) (by omega) (by omega) (by omega) (by decide) (Nat.le_of_ble_eq_true rfl) dKM_decapsulate_88 (fun s30 pl H locs es21 hO hP hD hS => ?_)
        replace hR := bnd_step hR es21
        have hF := frm_sC hF es21 (by unfold M_KM_decapsulate_1; omega)
        exact mp_vret hx hb hr hlk hP hD hS (s30, pl) ⟨⟨hR.symm, hF, trivial⟩, hO⟩ [] rfl rfl rfl (by omega) (by omega) dKM_decapsulate_91
    | succ n21 ih21 =>
      intro i21 z21 s24 pl ls H locs hm21 hF hR hl hO hP hD hS
      refine lv_iload hx hb dKM_decapsulate_41 (lv_at hl 0 rfl) ?_
      refine lv_aload_n hx hb dKM_decapsulate_43 rfl (lv_at hl 3 rfl) ?_
      refine nw_get (C := "LatticeKeys$KemSet") (TT := T_KS) (N := 10) hx hb hts (wg_ft i_KS) hown hK hO k_st (kn := 6) (ci := 1) (fl := [(1, 3), (1, 2), (1, 10), (1, 4), (1, 1184), (1, 2400), (1, 1088), (1, 1152), (1, 2336), (1, 2368)]) rfl hP rfl 6 (by decide) (hts _ (wg_t kw_244)) (fun _ h9 => h9) (cd := (1, 1088)) rfl dKM_decapsulate_44 (fun v36 hv36 => ?_)
      obtain rfl := (show v36 = .int (nI 1088) from hv36)
      refine mi_ge (tgt := 73) hx hb dKM_decapsulate_47 (by decide) (by omega) (by omega) (fun h23 => absurd h23 (by omega)) (fun h23 => ?_)
      refine lv_iload hx hb dKM_decapsulate_50 (lv_at hl 1 rfl) ?_
      refine lv_aload_n hx hb dKM_decapsulate_52 rfl (lv_at hl 5 rfl) ?_
      refine lv_iload hx hb dKM_decapsulate_53 (lv_at hl 0 rfl) ?_
      refine nw_bald hx hb hK hO k_ct (k := pc_) n_ct hP (by omega) (by omega) dKM_decapsulate_55 ?_
      refine lv_aload_n hx hb dKM_decapsulate_56 rfl (lv_at hl 2 rfl) ?_
      refine nw_get (C := "LatticeKeys$Kem") (TT := T_KM) (N := 10) hx hb hts (wg_ft i_KM) hown hK hO k_h0 (kn := 24) (ci := 5) (fl := [(3, 14), (3, 20), (3, 25), (3, 30), (3, 31), (3, 32), (3, 33), (3, 34), (3, 35), (3, 36)]) rfl hP rfl 9 (by decide) (hts _ (wg_t kw_116)) (fun _ h9 => h9) (cd := (3, 36)) rfl dKM_decapsulate_57 (fun v37 hv37 => ?_)
      obtain ⟨r32, rfl, kr32⟩ := (show ∃ r : Nat, v37 = .ref r ∧ T r = some 36 from hv37)
      refine lv_iload hx hb dKM_decapsulate_60 (lv_at hl 0 rfl) ?_
      refine nw_bald hx hb hK hO kr32 (k := 36) rfl hP (by omega) (by omega) dKM_decapsulate_62 ?_
      refine lv_ixor hx hb dKM_decapsulate_63 ?_
      refine lv_ior hx hb dKM_decapsulate_64 ?_
      refine mi_eqv (fun z22 ez21 => ?_)
      replace hR := bnd_step hR ez21
      refine lv_istore (lv' := [(5, .int z22), (6, .int (nI i21)), (0, .ref h0), (1, .ref st), (2, .ref kp), (3, .ref ct), (4, .ref to)]) hx hb dKM_decapsulate_65 hl (by decide) rfl (fun ls hl => ?_)
      refine mi_iinc (k := 1) (x := i21) (d := 1) (y := i21 + 1) (lv' := [(6, .int (nI (i21 + 1))), (5, .int z22), (0, .ref h0), (1, .ref st), (2, .ref kp), (3, .ref ct), (4, .ref to)]) hx hb dKM_decapsulate_67 hl rfl (by decide) rfl (by decide) rfl (fun ls hl => ?_)
      refine lv_goto (tgt := 41) hx hb dKM_decapsulate_70 (by decide) ?_
      exact ih21 (i21 + 1) z22 s24 pl ls H locs (by omega) hF hR (lv_sub hl [0, 1, 2, 3, 4, 5, 6] rfl) hO hP hD hS
  exact lp21 1088 0 (nI 0) s23 pl ls _ _ (by omega) hF hR (lv_sub hl [0, 1, 2, 3, 4, 5, 6] rfl) hO hP hD hS
def M_KM_decapsulate_2 (pt : Nat) (k : Nat) : Prop := (26 ≤ k ∧ k < 30) ∨ k = 14 ∨ k = 30 ∨ k = 31 ∨ k = 32 ∨ k = 34 ∨ k = 35 ∨ k = 36 ∨ k = pt ∨ (0 : Nat) = 1
noncomputable def F_KM_decapsulate_2_L0 (psn : Nat) (pc_ : Nat) (n : Nat) (pt : Nat) : Nat → Nat → Int32 → Sto → Sto
  | 0, i21, z21, s24 => if z21 = 0 then bnd (sC s24 34 pt 0 0 32) fun s30 => s30 else bnd (F_SP_start_3 14 15 s24) fun s25 => bnd (F_SP_absorb 14 15 psn 3168 3136 32 s25) fun s26 => bnd (F_SP_absorb 14 15 pc_ n 0 1568 s26) fun s27 => bnd (F_SP_finish 14 15 s27) fun s28 => bnd (F_SP_squeeze 14 15 pt 8192 0 32 s28) fun s29 => s29
  | n21 + 1, i21, z21, s24 => bnd ((z21 ||| ((s24.1 pc_ i21) ^^^ (s24.1 36 i21)))) fun z22 => F_KM_decapsulate_2_L0 psn pc_ n pt n21 (i21 + 1) z22 s24
noncomputable def F_KM_decapsulate_2 (kn : Nat) (pp : Nat) (psn : Nat) (pc_ : Nat) (n : Nat) (pt : Nat) (s : Sto) : Sto := bnd (F_KM_decrypt_2 psn pc_ n s) fun s21 => bnd (F_KM_deriveSeeds psn 3168 3104 s21) fun s22 => bnd (F_KM_encrypt_2 pp 36 1568 s22) fun s23 => F_KM_decapsulate_2_L0 psn pc_ n pt 1568 0 (nI 0) s23
set_option maxHeartbeats 400000 in
set_option maxRecDepth 100000 in
theorem N_KM_decapsulate_2 (l : Launch) (g : Gd) (sz : Nat) (T : TyN) (s : Sto) (pl : va_W) (hO : okn g T s pl) (hU : inj T) (h0 st kp ct to : Nat) (kn : Nat) (pp : Nat) (psn : Nat) (pc_ : Nat) (n : Nat) (pt : Nat) (k_h0 : T h0 = some 24) (k_st : T st = some 7) (k_kp : T kp = some kn) (n_kp : nsp kn = (5, 13, [(1, 2), (3, pp), (3, psn)])) (n_pp : nsp pp = (1, 1568, [])) (n_psn : nsp psn = (1, 3168, [])) (k_ct : T ct = some pc_) (n_ct : nsp pc_ = (1, n, [])) (k_to : T to = some pt) (n_to : nsp pt = (1, 8192, [])) (h1 : 1568 ≤ n) (h2 : n < 65536)  : Met l y_KM_decapsulate w_KM_decapsulate ({ frames := 5, cells := 0, slots := 0, locals := 156 } : Room) (va_Pc [.ref h0, .ref st, .ref kp, .ref ct, .ref to] (pr (en g) g.1 vcl sz ([] ++ pl))) (va_Qv (fun (u : (Sto) × va_W) => (u.1 = F_KM_decapsulate_2 kn pp psn pc_ n pt s ∧ frm (M_KM_decapsulate_2 pt) s u.1 ∧ True) ∧ okn g T u.1 u.2) (po g.1 vcl (va_A ([] ++ pl) sz) (fun (u : (Sto) × va_W) => [] ++ u.2)) (va_A ([] ++ pl) sz)) 0 0 (va_A ([] ++ pl) sz) := by
  refine mc_entry (cc := c_KM_decapsulate) (maxL := 7) (ret := none) (by decide) rfl (Nat.le_of_ble_eq_true rfl) ?_
  intro p e s0 m args below meth c ls F hr hlk hnm hsz hP hD hE hA hl
  obtain ⟨hx, hb, hml, hown, hts⟩ := id F
  have hK := hE.1
  generalize va_A ([] ++ pl) sz = A at hD hE hA ⊢
  have hS : va_S A s0.heap s0.heap [] := va_S.rf
  have hl : lv_has ls 7 [(0, .ref h0), (1, .ref st), (2, .ref kp), (3, .ref ct), (4, .ref to)] := hl
  have hR : F_KM_decapsulate_2 kn pp psn pc_ n pt s = F_KM_decapsulate_2 kn pp psn pc_ n pt s := rfl
  have hF : frm (M_KM_decapsulate_2 pt) s s := frm_rf
  refine lv_aload_n hx hb dKM_decapsulate_0 rfl (lv_at hl 0 rfl) ?_
  refine lv_aload_n hx hb dKM_decapsulate_1 rfl (lv_at hl 1 rfl) ?_
  refine lv_aload_n hx hb dKM_decapsulate_2 rfl (lv_at hl 2 rfl) ?_
  refine nw_get (C := "LatticeKeys$KeyPair") (TT := T_KP) (N := 3) hx hb hts (wg_ft i_KP) hown hK hO k_kp (kn := kn) (ci := 13) (fl := [(1, 2), (3, pp), (3, psn)]) n_kp hP rfl 2 (by decide) (hts _ (wg_t kw_751)) (fun _ h9 => h9) (cd := (3, psn)) rfl dKM_decapsulate_3 (fun v21 hv21 => ?_)
  obtain ⟨r21, rfl, kr21⟩ := (show ∃ r : Nat, v21 = .ref r ∧ T r = some psn from hv21)
  refine lv_aload_n hx hb dKM_decapsulate_6 rfl (lv_at hl 3 rfl) ?_
  refine mp_v (cx := []) (wr := []) hP hD hS hA [] [] rfl rfl rfl (by decide) (va_runV (As := [.ref st, .ref r21, .ref ct]) (rest := []) F (N_KM_decrypt_2 l g _ T s pl hO hU h0 st r21 ct psn pc_ n k_h0 k_st kr21 n_psn k_ct n_ct (by omega) (by omega)) (cwV 3 hts (wg_app (wg_c kw_1150 (wg_c kw_1152 (wg_c ks_31 (wg_c kw_3 wg_n)))) kw_1153) rfl rfl rfl (by decide +kernel) ⟨by decide, by decide⟩) (pn_W "LatticeKeys$Kem" (en_ok g) (ci := 5) (kn := 24) (fl := [(3, 14), (3, 20), (3, 25), (3, 30), (3, 31), (3, 32), (3, 33), (3, 34), (3, 35), (3, 36)]) hK hO k_h0 rfl hP hD hS hA hE [] rfl rfl rfl) rfl rfl hl.1 rfl (lv_room (Nat.le_of_ble_eq_true rfl)) dKM_decapsulate_7 ⟨by omega, by omega⟩) (fun  u21 H locs hu21 hP hD hS => ?_)
  obtain ⟨s21, pl⟩ := u21
  obtain ⟨⟨eq21, hFc21, -⟩, hO⟩ := hu21
  have hO : okn g T s21 pl := hO
  have hP : va_P g.1 vcl ([] ++ pl) _ := hP
  have hD : va_D _ ([] ++ pl) := hD
  have hFc21 : frm (M_KM_decrypt_2) s s21 := hFc21
  replace hR := bnd_step hR eq21
  have hF := frm_tr hF hFc21 (fun k hk => by unfold M_KM_decrypt_2 at hk; unfold M_KM_decapsulate_2; omega)
  refine W.widen (k := 0) (n := 0) (by omega) (by omega) ?_
  refine lv_aload_n hx hb dKM_decapsulate_10 rfl (lv_at hl 0 rfl) ?_
  refine lv_aload_n hx hb dKM_decapsulate_11 rfl (lv_at hl 2 rfl) ?_
  refine nw_get (C := "LatticeKeys$KeyPair") (TT := T_KP) (N := 3) hx hb hts (wg_ft i_KP) hown hK hO k_kp (kn := kn) (ci := 13) (fl := [(1, 2), (3, pp), (3, psn)]) n_kp hP rfl 2 (by decide) (hts _ (wg_t kw_751)) (fun _ h9 => h9) (cd := (3, psn)) rfl dKM_decapsulate_12 (fun v22 hv22 => ?_)
  obtain ⟨r22, rfl, kr22⟩ := (show ∃ r : Nat, v22 = .ref r ∧ T r = some psn from hv22)
  refine lv_aload_n hx hb dKM_decapsulate_15 rfl (lv_at hl 1 rfl) ?_
  refine nw_get (C := "LatticeKeys$KemSet") (TT := T_KS) (N := 10) hx hb hts (wg_ft i_KS) hown hK hO k_st (kn := 7) (ci := 1) (fl := [(1, 4), (1, 2), (1, 11), (1, 5), (1, 1568), (1, 3168), (1, 1568), (1, 1536), (1, 3104), (1, 3136)]) rfl hP rfl 8 (by decide) (hts _ (wg_t kw_250)) (fun _ h9 => h9) (cd := (1, 3104)) rfl dKM_decapsulate_16 (fun v23 hv23 => ?_)
  obtain rfl := (show v23 = .int (nI 3104) from hv23)
  refine mp_v (cx := []) (wr := []) hP hD hS hA [] [] rfl rfl rfl (by decide) (va_runV (As := [.ref r22, .int (nI 3104)]) (rest := []) F (N_KM_deriveSeeds l g _ T s21 pl hO hU h0 r22 psn 3168 3104 k_h0 kr22 n_psn (by omega) (by omega)) (cwV 2 hts (wg_app (wg_c kw_1114 (wg_c kw_1116 (wg_c ks_26 (wg_c kw_3 wg_n)))) kw_1117) rfl rfl rfl (by decide +kernel) ⟨by decide, by decide⟩) (pn_W "LatticeKeys$Kem" (en_ok g) (ci := 5) (kn := 24) (fl := [(3, 14), (3, 20), (3, 25), (3, 30), (3, 31), (3, 32), (3, 33), (3, 34), (3, 35), (3, 36)]) hK hO k_h0 rfl hP hD hS hA hE [] rfl rfl rfl) rfl rfl hl.1 rfl (lv_room (Nat.le_of_ble_eq_true rfl)) dKM_decapsulate_19 ⟨by omega, by omega⟩) (fun  u22 H locs hu22 hP hD hS => ?_)
  obtain ⟨s22, pl⟩ := u22
  obtain ⟨⟨eq22, hFc22, -⟩, hO⟩ := hu22
  have hO : okn g T s22 pl := hO
  have hP : va_P g.1 vcl ([] ++ pl) _ := hP
  have hD : va_D _ ([] ++ pl) := hD
  have hFc22 : frm (M_KM_deriveSeeds) s21 s22 := hFc22
  replace hR := bnd_step hR eq22
  have hF := frm_tr hF hFc22 (fun k hk => by unfold M_KM_deriveSeeds at hk; unfold M_KM_decapsulate_2; omega)
  refine W.widen (k := 0) (n := 0) (by omega) (by omega) ?_
  refine lv_aload_n hx hb dKM_decapsulate_22 rfl (lv_at hl 0 rfl) ?_
  refine lv_aload_n hx hb dKM_decapsulate_23 rfl (lv_at hl 1 rfl) ?_
  refine lv_aload_n hx hb dKM_decapsulate_24 rfl (lv_at hl 2 rfl) ?_
  refine nw_get (C := "LatticeKeys$KeyPair") (TT := T_KP) (N := 3) hx hb hts (wg_ft i_KP) hown hK hO k_kp (kn := kn) (ci := 13) (fl := [(1, 2), (3, pp), (3, psn)]) n_kp hP rfl 1 (by decide) (hts _ (wg_t kw_748)) (fun _ h9 => h9) (cd := (3, pp)) rfl dKM_decapsulate_25 (fun v24 hv24 => ?_)
  obtain ⟨r23, rfl, kr23⟩ := (show ∃ r : Nat, v24 = .ref r ∧ T r = some pp from hv24)
  refine lv_aload_n hx hb dKM_decapsulate_28 rfl (lv_at hl 0 rfl) ?_
  refine nw_get (C := "LatticeKeys$Kem") (TT := T_KM) (N := 10) hx hb hts (wg_ft i_KM) hown hK hO k_h0 (kn := 24) (ci := 5) (fl := [(3, 14), (3, 20), (3, 25), (3, 30), (3, 31), (3, 32), (3, 33), (3, 34), (3, 35), (3, 36)]) rfl hP rfl 9 (by decide) (hts _ (wg_t kw_116)) (fun _ h9 => h9) (cd := (3, 36)) rfl dKM_decapsulate_29 (fun v25 hv25 => ?_)
  obtain ⟨r24, rfl, kr24⟩ := (show ∃ r : Nat, v25 = .ref r ∧ T r = some 36 from hv25)
  refine mp_v (cx := []) (wr := []) hP hD hS hA [] [] rfl rfl rfl (by decide) (va_runV (As := [.ref st, .ref r23, .ref r24]) (rest := []) F (N_KM_encrypt_2 l g _ T s22 pl hO hU h0 st r23 r24 pp 36 1568 k_h0 k_st kr23 n_pp kr24 rfl (by omega) (by omega)) (cwV 3 hts (wg_app (wg_c kw_1118 (wg_c kw_1120 (wg_c ks_27 (wg_c kw_3 wg_n)))) kw_1121) rfl rfl rfl (by decide +kernel) ⟨by decide, by decide⟩) (pn_W "LatticeKeys$Kem" (en_ok g) (ci := 5) (kn := 24) (fl := [(3, 14), (3, 20), (3, 25), (3, 30), (3, 31), (3, 32), (3, 33), (3, 34), (3, 35), (3, 36)]) hK hO k_h0 rfl hP hD hS hA hE [] rfl rfl rfl) rfl rfl hl.1 rfl (lv_room (Nat.le_of_ble_eq_true rfl)) dKM_decapsulate_32 ⟨by omega, by omega⟩) (fun  u23 H locs hu23 hP hD hS => ?_)
  obtain ⟨s23, pl⟩ := u23
  obtain ⟨⟨eq23, hFc23, -⟩, hO⟩ := hu23
  have hO : okn g T s23 pl := hO
  have hP : va_P g.1 vcl ([] ++ pl) _ := hP
  have hD : va_D _ ([] ++ pl) := hD
  have hFc23 : frm (M_KM_encrypt_2 36) s22 s23 := hFc23
  replace hR := bnd_step hR eq23
  have hF := frm_tr hF hFc23 (fun k hk => by unfold M_KM_encrypt_2 at hk; unfold M_KM_decapsulate_2; omega)
  refine W.widen (k := 0) (n := 0) (by omega) (by omega) ?_
  refine lv_iconst (v := nI 0) hx hb dKM_decapsulate_35 (by decide) ?_
  refine lv_istore (lv' := [(5, .int (nI 0)), (0, .ref h0), (1, .ref st), (2, .ref kp), (3, .ref ct), (4, .ref to)]) hx hb dKM_decapsulate_36 hl (by decide) rfl (fun ls hl => ?_)
  refine lv_iconst (v := nI 0) hx hb dKM_decapsulate_38 (by decide) ?_
  refine lv_istore (lv' := [(6, .int (nI 0)), (5, .int (nI 0)), (0, .ref h0), (1, .ref st), (2, .ref kp), (3, .ref ct), (4, .ref to)]) hx hb dKM_decapsulate_39 hl (by decide) rfl (fun ls hl => ?_)
  have lp21 : ∀ (n21 : Nat) (i21 : Nat) (z21 : Int32) (s24 : Sto) (pl : va_W) (ls : Array Slot) (H : Heap) (locs : List Loc), n21 + i21 = 1568 → frm (M_KM_decapsulate_2 pt) s s24 → F_KM_decapsulate_2 kn pp psn pc_ n pt s = F_KM_decapsulate_2_L0 psn pc_ n pt n21 i21 z21 s24 → lv_has ls 7 [(6, .int (nI i21)), (5, .int z21), (0, .ref h0), (1, .ref st), (2, .ref kp), (3, .ref ct), (4, .ref to)] → okn g T s24 pl → va_P g.1 vcl ([] ++ pl) H → va_D A ([] ++ pl) → va_S A s0.heap H locs → W p l e ({ frames := 5, cells := 0, slots := 0, locals := 156 } : Room) s0 m args below meth c H locs 0 0 (MQ below (va_Qv (fun (u : (Sto) × va_W) => (u.1 = F_KM_decapsulate_2 kn pp psn pc_ n pt s ∧ frm (M_KM_decapsulate_2 pt) s u.1 ∧ True) ∧ okn g T u.1 u.2) (po g.1 vcl A (fun (u : (Sto) × va_W) => [] ++ u.2)) A) args s0 0 0 A) (F0 m 41 ls []) := by
    intro n21
    induction n21 with
    | zero =>
      intro i21 z21 s24 pl ls H locs hm21 hF hR hl hO hP hD hS
      refine lv_iload hx hb dKM_decapsulate_41 (lv_at hl 0 rfl) ?_
      refine lv_aload_n hx hb dKM_decapsulate_43 rfl (lv_at hl 3 rfl) ?_
      refine nw_get (C := "LatticeKeys$KemSet") (TT := T_KS) (N := 10) hx hb hts (wg_ft i_KS) hown hK hO k_st (kn := 7) (ci := 1) (fl := [(1, 4), (1, 2), (1, 11), (1, 5), (1, 1568), (1, 3168), (1, 1568), (1, 1536), (1, 3104), (1, 3136)]) rfl hP rfl 6 (by decide) (hts _ (wg_t kw_244)) (fun _ h9 => h9) (cd := (1, 1568)) rfl dKM_decapsulate_44 (fun v26 hv26 => ?_)
      obtain rfl := (show v26 = .int (nI 1568) from hv26)
      refine mi_ge (tgt := 73) hx hb dKM_decapsulate_47 (by decide) (by omega) (by omega) (fun h21 => ?_) (fun h21 => absurd h21 (by omega))
      refine lv_iload hx hb dKM_decapsulate_73 (lv_at hl 1 rfl) ?_
      refine lv_if_ne (tgt := 92) hx hb dKM_decapsulate_75 (by decide) (fun h22 => ?_) (fun h22 => ?_)
      · replace hR := hR.trans (if_neg h22)
        refine lv_aload_n hx hb dKM_decapsulate_92 rfl (lv_at hl 2 rfl) ?_
        refine nw_get (C := "LatticeKeys$Kem") (TT := T_KM) (N := 10) hx hb hts (wg_ft i_KM) hown hK hO k_h0 (kn := 24) (ci := 5) (fl := [(3, 14), (3, 20), (3, 25), (3, 30), (3, 31), (3, 32), (3, 33), (3, 34), (3, 35), (3, 36)]) rfl hP rfl 0 (by decide) (hts _ (wg_t kw_107)) (fun _ h9 => h9) (cd := (3, 14)) rfl dKM_decapsulate_93 (fun v27 hv27 => ?_)
        obtain ⟨r25, rfl, kr25⟩ := (show ∃ r : Nat, v27 = .ref r ∧ T r = some 14 from hv27)
        refine lv_iconst (v := nI 3) hx hb dKM_decapsulate_96 (by decide) ?_
        refine mp_v (cx := []) (wr := []) hP hD hS hA [] [] rfl rfl rfl (by decide) (va_runV (As := [.int (nI 3)]) (rest := []) F (N_SP_start_3 l g _ T s24 pl hO hU r25 14 15 kr25 rfl rfl) (cwV 1 hts (wg_app (wg_c kw_578 (wg_c kw_579 (wg_c kw_580 (wg_c kw_2 wg_n)))) kw_581) rfl rfl rfl (by decide +kernel) ⟨by decide, by decide⟩) (pn_W "LatticeKeys$Sponge" (en_ok g) (ci := 3) (kn := 14) (fl := [(3, 15), (0, 0), (0, 0), (0, 0)]) hK hO kr25 rfl hP hD hS hA hE [] rfl rfl rfl) rfl rfl hl.1 rfl (lv_room (Nat.le_of_ble_eq_true rfl)) dKM_decapsulate_97 ⟨by omega, by omega⟩) (fun  u24 H locs hu24 hP hD hS => ?_)
        obtain ⟨s25, pl⟩ := u24
        obtain ⟨⟨eq24, hFc24, ⟨x24, hx_24, hb_24⟩, ⟨x25, hx_25, hb_25⟩, -⟩, hO⟩ := hu24
        have hO : okn g T s25 pl := hO
        have hP : va_P g.1 vcl ([] ++ pl) _ := hP
        have hD : va_D _ ([] ++ pl) := hD
        have hFc24 : frm (M_SP_start_3 14) s24 s25 := hFc24
        have hb_24 : x24 = 0 := hb_24
        have hb_25 : x25 = 136 := hb_25
        replace hR := bnd_step hR eq24
        have hF := frm_tr hF hFc24 (fun k hk => by unfold M_SP_start_3 at hk; unfold M_KM_decapsulate_2; omega)
        refine W.widen (k := 0) (n := 0) (by omega) (by omega) ?_
        refine lv_aload_n hx hb dKM_decapsulate_100 rfl (lv_at hl 2 rfl) ?_
        refine nw_get (C := "LatticeKeys$Kem") (TT := T_KM) (N := 10) hx hb hts (wg_ft i_KM) hown hK hO k_h0 (kn := 24) (ci := 5) (fl := [(3, 14), (3, 20), (3, 25), (3, 30), (3, 31), (3, 32), (3, 33), (3, 34), (3, 35), (3, 36)]) rfl hP rfl 0 (by decide) (hts _ (wg_t kw_107)) (fun _ h9 => h9) (cd := (3, 14)) rfl dKM_decapsulate_101 (fun v28 hv28 => ?_)
        obtain ⟨r26, rfl, kr26⟩ := (show ∃ r : Nat, v28 = .ref r ∧ T r = some 14 from hv28)
        refine lv_aload_n hx hb dKM_decapsulate_104 rfl (lv_at hl 4 rfl) ?_
        refine nw_get (C := "LatticeKeys$KeyPair") (TT := T_KP) (N := 3) hx hb hts (wg_ft i_KP) hown hK hO k_kp (kn := kn) (ci := 13) (fl := [(1, 2), (3, pp), (3, psn)]) n_kp hP rfl 2 (by decide) (hts _ (wg_t kw_751)) (fun _ h9 => h9) (cd := (3, psn)) rfl dKM_decapsulate_105 (fun v29 hv29 => ?_)
        obtain ⟨r27, rfl, kr27⟩ := (show ∃ r : Nat, v29 = .ref r ∧ T r = some psn from hv29)
        refine lv_aload_n hx hb dKM_decapsulate_108 rfl (lv_at hl 3 rfl) ?_
        refine nw_get (C := "LatticeKeys$KemSet") (TT := T_KS) (N := 10) hx hb hts (wg_ft i_KS) hown hK hO k_st (kn := 7) (ci := 1) (fl := [(1, 4), (1, 2), (1, 11), (1, 5), (1, 1568), (1, 3168), (1, 1568), (1, 1536), (1, 3104), (1, 3136)]) rfl hP rfl 9 (by decide) (hts _ (wg_t kw_252)) (fun _ h9 => h9) (cd := (1, 3136)) rfl dKM_decapsulate_109 (fun v30 hv30 => ?_)
        obtain rfl := (show v30 = .int (nI 3136) from hv30)
        refine lv_bipush (v := nI 32) hx hb dKM_decapsulate_112 (by decide) ?_
        refine mp_v (cx := []) (wr := []) hP hD hS hA [] [] rfl rfl rfl (by decide) (va_runV (As := [.ref r27, .int (nI 3136), .int (nI 32)]) (rest := []) F (N_SP_absorb l g _ T s25 pl hO hU r26 r27 14 15 psn 3168 3136 32 x24 x25 kr26 rfl rfl kr27 n_psn hx_24 hx_25 (by omega) (by omega) (by omega) (by omega)) (cwV 3 hts (wg_app (wg_c kw_585 (wg_c kw_586 (wg_c kw_587 (wg_c kw_2 wg_n)))) kw_588) rfl rfl rfl (by decide +kernel) ⟨by decide, by decide⟩) (pn_W "LatticeKeys$Sponge" (en_ok g) (ci := 3) (kn := 14) (fl := [(3, 15), (0, 0), (0, 0), (0, 0)]) hK hO kr26 rfl hP hD hS hA hE [] rfl rfl rfl) rfl rfl hl.1 rfl (lv_room (Nat.le_of_ble_eq_true rfl)) dKM_decapsulate_114 ⟨by omega, by omega⟩) (fun  u25 H locs hu25 hP hD hS => ?_)
        obtain ⟨s26, pl⟩ := u25
        obtain ⟨⟨eq25, hFc25, ⟨x27, hx_27, hb_27⟩, ⟨x28, hx_28, hb_28⟩, -⟩, hO⟩ := hu25
        have hO : okn g T s26 pl := hO
        have hP : va_P g.1 vcl ([] ++ pl) _ := hP
        have hD : va_D _ ([] ++ pl) := hD
        have hFc25 : frm (M_SP_absorb 14) s25 s26 := hFc25
        have hb_27 : x27 < x25 := hb_27
        have hb_28 : x28 = x25 := hb_28
        replace hR := bnd_step hR eq25
        have hF := frm_tr hF hFc25 (fun k hk => by unfold M_SP_absorb at hk; unfold M_KM_decapsulate_2; omega)
        refine W.widen (k := 0) (n := 0) (by omega) (by omega) ?_
        refine lv_aload_n hx hb dKM_decapsulate_117 rfl (lv_at hl 2 rfl) ?_
        refine nw_get (C := "LatticeKeys$Kem") (TT := T_KM) (N := 10) hx hb hts (wg_ft i_KM) hown hK hO k_h0 (kn := 24) (ci := 5) (fl := [(3, 14), (3, 20), (3, 25), (3, 30), (3, 31), (3, 32), (3, 33), (3, 34), (3, 35), (3, 36)]) rfl hP rfl 0 (by decide) (hts _ (wg_t kw_107)) (fun _ h9 => h9) (cd := (3, 14)) rfl dKM_decapsulate_118 (fun v31 hv31 => ?_)
        obtain ⟨r28, rfl, kr28⟩ := (show ∃ r : Nat, v31 = .ref r ∧ T r = some 14 from hv31)
        refine lv_aload_n hx hb dKM_decapsulate_121 rfl (lv_at hl 5 rfl) ?_
        refine lv_iconst (v := nI 0) hx hb dKM_decapsulate_122 (by decide) ?_
        refine lv_aload_n hx hb dKM_decapsulate_123 rfl (lv_at hl 3 rfl) ?_
        refine nw_get (C := "LatticeKeys$KemSet") (TT := T_KS) (N := 10) hx hb hts (wg_ft i_KS) hown hK hO k_st (kn := 7) (ci := 1) (fl := [(1, 4), (1, 2), (1, 11), (1, 5), (1, 1568), (1, 3168), (1, 1568), (1, 1536), (1, 3104), (1, 3136)]) rfl hP rfl 6 (by decide) (hts _ (wg_t kw_244)) (fun _ h9 => h9) (cd := (1, 1568)) rfl dKM_decapsulate_124 (fun v32 hv32 => ?_)
        obtain rfl := (show v32 = .int (nI 1568) from hv32)
        refine mp_v (cx := []) (wr := []) hP hD hS hA [] [] rfl rfl rfl (by decide) (va_runV (As := [.ref ct, .int (nI 0), .int (nI 1568)]) (rest := []) F (N_SP_absorb l g _ T s26 pl hO hU r28 ct 14 15 pc_ n 0 1568 x27 x28 kr28 rfl rfl k_ct n_ct hx_27 hx_28 (by omega) (by omega) (by omega) (by omega)) (cwV 3 hts (wg_app (wg_c kw_585 (wg_c kw_586 (wg_c kw_587 (wg_c kw_2 wg_n)))) kw_588) rfl rfl rfl (by decide +kernel) ⟨by decide, by decide⟩) (pn_W "LatticeKeys$Sponge" (en_ok g) (ci := 3) (kn := 14) (fl := [(3, 15), (0, 0), (0, 0), (0, 0)]) hK hO kr28 rfl hP hD hS hA hE [] rfl rfl rfl) rfl rfl hl.1 rfl (lv_room (Nat.le_of_ble_eq_true rfl)) dKM_decapsulate_127 ⟨by omega, by omega⟩) (fun  u26 H locs hu26 hP hD hS => ?_)
        obtain ⟨s27, pl⟩ := u26
        obtain ⟨⟨eq26, hFc26, ⟨x30, hx_30, hb_30⟩, ⟨x31, hx_31, hb_31⟩, -⟩, hO⟩ := hu26
        have hO : okn g T s27 pl := hO
        have hP : va_P g.1 vcl ([] ++ pl) _ := hP
        have hD : va_D _ ([] ++ pl) := hD
        have hFc26 : frm (M_SP_absorb 14) s26 s27 := hFc26
        have hb_30 : x30 < x28 := hb_30
        have hb_31 : x31 = x28 := hb_31
        replace hR := bnd_step hR eq26
        have hF := frm_tr hF hFc26 (fun k hk => by unfold M_SP_absorb at hk; unfold M_KM_decapsulate_2; omega)
        refine W.widen (k := 0) (n := 0) (by omega) (by omega) ?_
        refine lv_aload_n hx hb dKM_decapsulate_130 rfl (lv_at hl 2 rfl) ?_
        refine nw_get (C := "LatticeKeys$Kem") (TT := T_KM) (N := 10) hx hb hts (wg_ft i_KM) hown hK hO k_h0 (kn := 24) (ci := 5) (fl := [(3, 14), (3, 20), (3, 25), (3, 30), (3, 31), (3, 32), (3, 33), (3, 34), (3, 35), (3, 36)]) rfl hP rfl 0 (by decide) (hts _ (wg_t kw_107)) (fun _ h9 => h9) (cd := (3, 14)) rfl dKM_decapsulate_131 (fun v33 hv33 => ?_)
        obtain ⟨r29, rfl, kr29⟩ := (show ∃ r : Nat, v33 = .ref r ∧ T r = some 14 from hv33)
        refine mp_v (cx := []) (wr := []) hP hD hS hA [] [] rfl rfl rfl (by decide) (va_runV (As := []) (rest := []) F (N_SP_finish l g _ T s27 pl hO hU r29 14 15 x30 x31 kr29 rfl rfl hx_30 hx_31 (by omega) (by omega)) (cwV 0 hts (wg_app (wg_c kw_610 (wg_c kw_611 (wg_c kw_612 (wg_c kw_2 wg_n)))) kw_613) rfl rfl rfl (by decide +kernel) ⟨by decide, by decide⟩) (pn_W "LatticeKeys$Sponge" (en_ok g) (ci := 3) (kn := 14) (fl := [(3, 15), (0, 0), (0, 0), (0, 0)]) hK hO kr29 rfl hP hD hS hA hE [] rfl rfl rfl) rfl rfl hl.1 rfl (lv_room (Nat.le_of_ble_eq_true rfl)) dKM_decapsulate_134 ⟨by omega, by omega⟩) (fun  u27 H locs hu27 hP hD hS => ?_)
        obtain ⟨s28, pl⟩ := u27
        obtain ⟨⟨eq27, hFc27, ⟨x33, hx_33, hb_33⟩, ⟨x34, hx_34, hb_34⟩, -⟩, hO⟩ := hu27
        have hO : okn g T s28 pl := hO
        have hP : va_P g.1 vcl ([] ++ pl) _ := hP
        have hD : va_D _ ([] ++ pl) := hD
        have hFc27 : frm (M_SP_finish 14) s27 s28 := hFc27
        have hb_33 : x33 = x31 := hb_33
        have hb_34 : x34 = x31 := hb_34
        replace hR := bnd_step hR eq27
        have hF := frm_tr hF hFc27 (fun k hk => by unfold M_SP_finish at hk; unfold M_KM_decapsulate_2; omega)
        refine W.widen (k := 0) (n := 0) (by omega) (by omega) ?_
        refine lv_aload_n hx hb dKM_decapsulate_137 rfl (lv_at hl 2 rfl) ?_
        refine nw_get (C := "LatticeKeys$Kem") (TT := T_KM) (N := 10) hx hb hts (wg_ft i_KM) hown hK hO k_h0 (kn := 24) (ci := 5) (fl := [(3, 14), (3, 20), (3, 25), (3, 30), (3, 31), (3, 32), (3, 33), (3, 34), (3, 35), (3, 36)]) rfl hP rfl 0 (by decide) (hts _ (wg_t kw_107)) (fun _ h9 => h9) (cd := (3, 14)) rfl dKM_decapsulate_138 (fun v34 hv34 => ?_)
        obtain ⟨r30, rfl, kr30⟩ := (show ∃ r : Nat, v34 = .ref r ∧ T r = some 14 from hv34)
        refine lv_aload hx hb dKM_decapsulate_141 (lv_at hl 6 rfl) ?_
        refine lv_iconst (v := nI 0) hx hb dKM_decapsulate_143 (by decide) ?_
        refine lv_bipush (v := nI 32) hx hb dKM_decapsulate_144 (by decide) ?_
        refine mp_v (cx := []) (wr := []) hP hD hS hA [] [] rfl rfl rfl (by decide) (va_runV (As := [.ref to, .int (nI 0), .int (nI 32)]) (rest := []) F (N_SP_squeeze l g _ T s28 pl hO hU r30 to 14 15 pt 8192 0 32 x33 x34 kr30 rfl rfl k_to n_to hx_33 hx_34 (by omega) (by omega) (by omega) (by omega)) (cwV 3 hts (wg_app (wg_c kw_614 (wg_c kw_615 (wg_c kw_616 (wg_c kw_2 wg_n)))) kw_617) rfl rfl rfl (by decide +kernel) ⟨by decide, by decide⟩) (pn_W "LatticeKeys$Sponge" (en_ok g) (ci := 3) (kn := 14) (fl := [(3, 15), (0, 0), (0, 0), (0, 0)]) hK hO kr30 rfl hP hD hS hA hE [] rfl rfl rfl) rfl rfl hl.1 rfl (lv_room (Nat.le_of_ble_eq_true rfl)) dKM_decapsulate_146 ⟨by omega, by omega⟩) (fun  u28 H locs hu28 hP hD hS => ?_)
        obtain ⟨s29, pl⟩ := u28
        obtain ⟨⟨eq28, hFc28, ⟨x36, hx_36, hb_36⟩, ⟨x37, hx_37, hb_37⟩, -⟩, hO⟩ := hu28
        have hO : okn g T s29 pl := hO
        have hP : va_P g.1 vcl ([] ++ pl) _ := hP
        have hD : va_D _ ([] ++ pl) := hD
        have hFc28 : frm (M_SP_squeeze 14 pt) s28 s29 := hFc28
        have hb_36 : x36 ≤ x34 := hb_36
        have hb_37 : x37 = x34 := hb_37
        replace hR := bnd_step hR eq28
        have hF := frm_tr hF hFc28 (fun k hk => by unfold M_SP_squeeze at hk; unfold M_KM_decapsulate_2; omega)
        refine W.widen (k := 0) (n := 0) (by omega) (by omega) ?_
        exact mp_vret hx hb hr hlk hP hD hS (s29, pl) ⟨⟨hR.symm, hF, trivial⟩, hO⟩ [] rfl rfl rfl (by omega) (by omega) dKM_decapsulate_149
      · replace hR := hR.trans (if_pos h22)
        refine lv_aload_n hx hb dKM_decapsulate_78 rfl (lv_at hl 2 rfl) ?_
        refine nw_get (C := "LatticeKeys$Kem") (TT := T_KM) (N := 10) hx hb hts (wg_ft i_KM) hown hK hO k_h0 (kn := 24) (ci := 5) (fl := [(3, 14), (3, 20), (3, 25), (3, 30), (3, 31), (3, 32), (3, 33), (3, 34), (3, 35), (3, 36)]) rfl hP rfl 7 (by decide) (hts _ (wg_t kw_114)) (fun _ h9 => h9) (cd := (3, 34)) rfl dKM_decapsulate_79 (fun v35 hv35 => ?_)
        obtain ⟨r31, rfl, kr31⟩ := (show ∃ r : Nat, v35 = .ref r ∧ T r = some 34 from hv35)
        refine lv_iconst (v := nI 0) hx hb dKM_decapsulate_82 (by decide) ?_
        refine lv_aload hx hb dKM_decapsulate_83 (lv_at hl 6 rfl) ?_
        refine lv_iconst (v := nI 0) hx hb dKM_decapsulate_85 (by decide) ?_
        refine lv_bipush (v := nI 32) hx hb dKM_decapsulate_86 (by decide) ?_
        refine nw_copyb hx hb (hml.trans hl.1.symm) hown (hts _ (wg_t kw_622)) (hts _ (wg_t kw_526)) (hts _ (wg_t kw_525)) (hts _ (wg_t kw_19)) hK hO hU kr31 (k0 := 34) rfl k_to (k1 := pt) n_to hP hD hS (sp := 0) (dp := 0) (n := 32) (by omega) (by omega) (by omega) (by decide) (Nat.le_of_ble_eq_true rfl) dKM_decapsulate_88 (fun s30 pl H locs es21 hO hP hD hS => ?_)
        replace hR := bnd_step hR es21
        have hF := frm_sC hF es21 (by unfold M_KM_decapsulate_2; omega)
        exact mp_vret hx hb hr hlk hP hD hS (s30, pl) ⟨⟨hR.symm, hF, trivial⟩, hO⟩ [] rfl rfl rfl (by omega) (by omega) dKM_decapsulate_91
    | succ n21 ih21 =>
      intro i21 z21 s24 pl ls H locs hm21 hF hR hl hO hP hD hS
      refine lv_iload hx hb dKM_decapsulate_41 (lv_at hl 0 rfl) ?_
      refine lv_aload_n hx hb dKM_decapsulate_43 rfl (lv_at hl 3 rfl) ?_
      refine nw_get (C := "LatticeKeys$KemSet") (TT := T_KS) (N := 10) hx hb hts (wg_ft i_KS) hown hK hO k_st (kn := 7) (ci := 1) (fl := [(1, 4), (1, 2), (1, 11), (1, 5), (1, 1568), (1, 3168), (1, 1568), (1, 1536), (1, 3104), (1, 3136)]) rfl hP rfl 6 (by decide) (hts _ (wg_t kw_244)) (fun _ h9 => h9) (cd := (1, 1568)) rfl dKM_decapsulate_44 (fun v36 hv36 => ?_)
      obtain rfl := (show v36 = .int (nI 1568) from hv36)
      refine mi_ge (tgt := 73) hx hb dKM_decapsulate_47 (by decide) (by omega) (by omega) (fun h23 => absurd h23 (by omega)) (fun h23 => ?_)
      refine lv_iload hx hb dKM_decapsulate_50 (lv_at hl 1 rfl) ?_
      refine lv_aload_n hx hb dKM_decapsulate_52 rfl (lv_at hl 5 rfl) ?_
      refine lv_iload hx hb dKM_decapsulate_53 (lv_at hl 0 rfl) ?_
      refine nw_bald hx hb hK hO k_ct (k := pc_) n_ct hP (by omega) (by omega) dKM_decapsulate_55 ?_
      refine lv_aload_n hx hb dKM_decapsulate_56 rfl (lv_at hl 2 rfl) ?_
      refine nw_get (C := "LatticeKeys$Kem") (TT := T_KM) (N := 10) hx hb hts (wg_ft i_KM) hown hK hO k_h0 (kn := 24) (ci := 5) (fl := [(3, 14), (3, 20), (3, 25), (3, 30), (3, 31), (3, 32), (3, 33), (3, 34), (3, 35), (3, 36)]) rfl hP rfl 9 (by decide) (hts _ (wg_t kw_116)) (fun _ h9 => h9) (cd := (3, 36)) rfl dKM_decapsulate_57 (fun v37 hv37 => ?_)
      obtain ⟨r32, rfl, kr32⟩ := (show ∃ r : Nat, v37 = .ref r ∧ T r = some 36 from hv37)
      refine lv_iload hx hb dKM_decapsulate_60 (lv_at hl 0 rfl) ?_
      refine nw_bald hx hb hK hO kr32 (k := 36) rfl hP (by omega) (by omega) dKM_decapsulate_62 ?_
      refine lv_ixor hx hb dKM_decapsulate_63 ?_
      refine lv_ior hx hb dKM_decapsulate_64 ?_
      refine mi_eqv (fun z22 ez21 => ?_)
      replace hR := bnd_step hR ez21
      refine lv_istore (lv' := [(5, .int z22), (6, .int (nI i21)), (0, .ref h0), (1, .ref st), (2, .ref kp), (3, .ref ct), (4, .ref to)]) hx hb dKM_decapsulate_65 hl (by decide) rfl (fun ls hl => ?_)
      refine mi_iinc (k := 1) (x := i21) (d := 1) (y := i21 + 1) (lv' := [(6, .int (nI (i21 + 1))), (5, .int z22), (0, .ref h0), (1, .ref st), (2, .ref kp), (3, .ref ct), (4, .ref to)]) hx hb dKM_decapsulate_67 hl rfl (by decide) rfl (by decide) rfl (fun ls hl => ?_)
      refine lv_goto (tgt := 41) hx hb dKM_decapsulate_70 (by decide) ?_
      exact ih21 (i21 + 1) z22 s24 pl ls H locs (by omega) hF hR (lv_sub hl [0, 1, 2, 3, 4, 5, 6] rfl) hO hP hD hS
  exact lp21 1568 0 (nI 0) s23 pl ls _ _ (by omega) hF hR (lv_sub hl [0, 1, 2, 3, 4, 5, 6] rfl) hO hP hD hS
