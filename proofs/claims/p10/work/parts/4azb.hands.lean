set_option linter.all false
set_option maxHeartbeats 3000000 in
set_option maxRecDepth 100000 in
theorem N_MH_verify_1 (l : Launch) (g : Gd) (sz : Nat) (T : TyN) (s : Sto) (pl : va_W) (hO : okn g T s pl) (hU : inj T) (h0 pk b : Nat) (pp : Nat) (pb : Nat) (cl_ : Int32) (ed : Nat) (k_h0 : T h0 = some 225) (k_pk : T pk = some pp) (n_pk : nsp pp = (1, 2592, [])) (k_b : T b = some pb) (n_b : nsp pb = (1, 16384, [])) (h1 : 3309 ≤ ed) (h3 : ed ≤ 16384) (hE : E_MH_verify_1 pp pb cl_ ed s)  : Met l y_MH_verify w_MH_verify ({ frames := 5, cells := 0, slots := 0, locals := 116 } : Room) (va_Pc [.ref h0, .int (nI 1), .ref pk, .ref b, .int cl_, .int (nI ed)] (pr (en g) g.1 vcl sz ([] ++ pl))) (va_Qi (fun (r : Int32) (u : (Int32 × Sto) × va_W) => (u.1 = F_MH_verify_1 pp pb cl_ ed s ∧ r = u.1.1 ∧ frm (M_MH_verify_1) s u.1.2 ∧ (∃ x : Nat, u.1.1 = nI x ∧ x < 2) ∧ True) ∧ okn g T u.1.2 u.2) (po g.1 vcl (va_A ([] ++ pl) sz) (fun (u : (Int32 × Sto) × va_W) => [] ++ u.2)) (va_A ([] ++ pl) sz)) 0 0 (va_A ([] ++ pl) sz) := by
  refine mc_entry (cc := c_MH_verify) (maxL := 11) (ret := (some .boolean)) (by decide) rfl (Nat.le_of_ble_eq_true rfl) ?_
  intro p e s0 m args below meth c ls F hr hlk hnm hsz hP hD hEn hA hl
  obtain ⟨hx, hb, hml, hown, hts⟩ := id F
  have hK := hEn.1
  generalize va_A ([] ++ pl) sz = A at hD hEn hA ⊢
  have hS : va_S A s0.heap s0.heap [] := va_S.rf
  have hl : lv_has ls 11 [(0, .ref h0), (1, .int (nI 1)), (2, .ref pk), (3, .ref b), (4, .int cl_), (5, .int (nI ed))] := hl
  have hR : F_MH_verify_1 pp pb cl_ ed s = F_MH_verify_1 pp pb cl_ ed s := rfl
  have hF : frm (M_MH_verify_1) s s := frm_rf
  have ne_172_pp : 172 ≠ pp := nsp_ne (p := 172) rfl n_pk (show (5 : Nat) ≠ 1 by decide)
  have ne_172_pb : 172 ≠ pb := nsp_ne (p := 172) rfl n_b (show (5 : Nat) ≠ 1 by decide)
  have ne_225_pp : 225 ≠ pp := nsp_ne (p := 225) rfl n_pk (show (5 : Nat) ≠ 1 by decide)
  have ne_225_pb : 225 ≠ pb := nsp_ne (p := 225) rfl n_b (show (5 : Nat) ≠ 1 by decide)
  refine lv_aload_n hx hb dMH_verify_0 rfl (lv_at hl 0 rfl) ?_
  refine lv_iload_n hx hb dMH_verify_1 rfl (lv_at hl 1 rfl) ?_
  refine mp_v (cx := []) (wr := []) hP hD hS hA [] [] rfl rfl rfl (by decide) (va_runV (As := [.int (nI 1)]) (rest := []) F (N_MH_as_1 l g _ T s pl hO hU h0 k_h0) (cwV 1 hts (wg_app (wg_c kw_1702 (wg_c kw_1704 (wg_c ks_60 (wg_c kw_13 wg_n)))) kw_1705) rfl rfl rfl (by decide +kernel) ⟨by decide, by decide⟩) (pn_W "LatticeKeysModel$Hands" (en_ok g) (ci := 12) (kn := 225) (fl := [(3, 172), (3, 181), (3, 226), (3, 291), (3, 299), (3, 308), (3, 317), (3, 326), (3, 334), (3, 342), (3, 350), (3, 359), (3, 368), (3, 369), (3, 370), (3, 371), (3, 372), (3, 373), (3, 374), (3, 375), (3, 376), (3, 377), (3, 378), (0, 0), (0, 0), (0, 0), (0, 0), (0, 0), (0, 0), (0, 0), (0, 0)]) hK hO k_h0 rfl hP hD hS hA hEn [] rfl rfl rfl) rfl rfl hl.1 rfl (lv_room (Nat.le_of_ble_eq_true rfl)) dMH_verify_2 ⟨by omega, by omega⟩) (fun  u21 H locs hu21 hP hD hS => ?_)
  obtain ⟨s21, pl⟩ := u21
  obtain ⟨⟨eq21, hFc21, ⟨x21, hx_21, hb_21⟩, ⟨x22, hx_22, hb_22⟩, ⟨x23, hx_23, hb_23⟩, ⟨x24, hx_24, hb_24⟩, ⟨x25, hx_25, hb_25⟩, ⟨x26, hx_26, hb_26⟩, ⟨x27, hx_27, hb_27⟩, ⟨x28, hx_28, hb_28⟩, -⟩, hO⟩ := hu21
  have hO : okn g T s21 pl := hO
  have hP : va_P g.1 vcl ([] ++ pl) _ := hP
  have hD : va_D _ ([] ++ pl) := hD
  have hFc21 : frm (M_MH_as_1) s s21 := hFc21
  have hb_21 : x21 = 1 := hb_21
  have hb_22 : x22 = 6 := hb_22
  have hb_23 : x23 = 5 := hb_23
  have hb_24 : x24 = 4 := hb_24
  have hb_25 : x25 = 524288 := hb_25
  have hb_26 : x26 = 261888 := hb_26
  have hb_27 : x27 = 196 := hb_27
  have hb_28 : x28 = 48 := hb_28
  replace hR := bnd_step hR eq21
  first | rw [bnd_step rfl eq21] at hE | rw [E_MH_verify_1_L0, bnd_step rfl eq21] at hE | rw [E_MH_verify_1_L1, bnd_step rfl eq21] at hE | rw [E_MH_verify_1_L7, bnd_step rfl eq21] at hE | replace hE := bndP_step hE eq21
  have hF := frm_tr hF hFc21 (fun k hk => by unfold M_MH_as_1 at hk; unfold M_MH_verify_1; omega)
  subst hb_21
  subst hb_22
  subst hb_23
  subst hb_24
  subst hb_25
  subst hb_26
  subst hb_27
  subst hb_28
  refine W.widen (k := 0) (n := 0) (by omega) (by omega) ?_
  refine lv_aload_n hx hb dMH_verify_5 rfl (lv_at hl 0 rfl) ?_
  refine nw_get (C := "LatticeKeysModel$Hands") (TT := T_MH) (N := 31) hx hb hts (wg_ft i_MH) hown hK hO k_h0 (kn := 225) (ci := 12) (fl := [(3, 172), (3, 181), (3, 226), (3, 291), (3, 299), (3, 308), (3, 317), (3, 326), (3, 334), (3, 342), (3, 350), (3, 359), (3, 368), (3, 369), (3, 370), (3, 371), (3, 372), (3, 373), (3, 374), (3, 375), (3, 376), (3, 377), (3, 378), (0, 0), (0, 0), (0, 0), (0, 0), (0, 0), (0, 0), (0, 0), (0, 0)]) rfl hP rfl 23 (by decide) (hts _ (wg_t kw_1455)) (fun _ h9 => h9) (cd := (0, 0)) rfl dMH_verify_6 (fun v21 hv21 => ?_)
  obtain rfl := (show v21 = .int (s21.1 225 23) from hv21)
  obtain ⟨z21, ez21, hz21, hz22⟩ := cl_of (b := 2147483648) hx_21 (by omega) (by decide)
  replace hR := bnd_step hR ez21
  first | rw [bnd_step rfl ez21] at hE | rw [E_MH_verify_1_L0, bnd_step rfl ez21] at hE | rw [E_MH_verify_1_L1, bnd_step rfl ez21] at hE | rw [E_MH_verify_1_L7, bnd_step rfl ez21] at hE | replace hE := bndP_step hE ez21
  refine mi_as hz21 ?_
  subst hz22
  refine lv_if_ne (tgt := 17) hx hb dMH_verify_9 (by decide) (fun h21 => ?_) (fun h21 => absurd h21 (by decide))
  refine lv_bipush (v := nI 20) hx hb dMH_verify_17 (by decide) ?_
  refine lv_istore (lv' := [(6, .int (nI 20)), (0, .ref h0), (1, .int (nI 1)), (2, .ref pk), (3, .ref b), (4, .int cl_), (5, .int (nI ed))]) hx hb dMH_verify_19 hl (by decide) rfl (fun ls hl => ?_)
  refine lv_bipush (v := nI 8) hx hb dMH_verify_21 (by decide) ?_
  refine lv_aload_n hx hb dMH_verify_23 rfl (lv_at hl 1 rfl) ?_
  refine nw_get (C := "LatticeKeysModel$Hands") (TT := T_MH) (N := 31) hx hb hts (wg_ft i_MH) hown hK hO k_h0 (kn := 225) (ci := 12) (fl := [(3, 172), (3, 181), (3, 226), (3, 291), (3, 299), (3, 308), (3, 317), (3, 326), (3, 334), (3, 342), (3, 350), (3, 359), (3, 368), (3, 369), (3, 370), (3, 371), (3, 372), (3, 373), (3, 374), (3, 375), (3, 376), (3, 377), (3, 378), (0, 0), (0, 0), (0, 0), (0, 0), (0, 0), (0, 0), (0, 0), (0, 0)]) rfl hP rfl 30 (by decide) (hts _ (wg_t kw_1462)) (fun _ h9 => h9) (cd := (0, 0)) rfl dMH_verify_24 (fun v22 hv22 => ?_)
  obtain rfl := (show v22 = .int (s21.1 225 30) from hv22)
  obtain ⟨z22, ez22, hz23, hz24⟩ := cl_of (b := 2147483648) hx_28 (by omega) (by decide)
  replace hR := bnd_step hR ez22
  first | rw [bnd_step rfl ez22] at hE | rw [E_MH_verify_1_L0, bnd_step rfl ez22] at hE | rw [E_MH_verify_1_L1, bnd_step rfl ez22] at hE | rw [E_MH_verify_1_L7, bnd_step rfl ez22] at hE | replace hE := bndP_step hE ez22
  refine mi_as hz23 ?_
  subst hz24
  refine mi_imul hx hb dMH_verify_27 ?_
  refine mi_as (show nI (8 * 48) = nI 384 from rfl) ?_
  refine lv_istore (lv' := [(7, .int (nI 384)), (6, .int (nI 20)), (0, .ref h0), (1, .int (nI 1)), (2, .ref pk), (3, .ref b), (4, .int cl_), (5, .int (nI ed))]) hx hb dMH_verify_28 hl (by decide) rfl (fun ls hl => ?_)
  refine lv_iconst (v := nI 1) hx hb dMH_verify_30 (by decide) ?_
  refine lv_istore (lv' := [(8, .int (nI 1)), (7, .int (nI 384)), (6, .int (nI 20)), (0, .ref h0), (1, .int (nI 1)), (2, .ref pk), (3, .ref b), (4, .int cl_), (5, .int (nI ed))]) hx hb dMH_verify_31 hl (by decide) rfl (fun ls hl => ?_)
  refine lv_iconst (v := nI 0) hx hb dMH_verify_33 (by decide) ?_
  refine lv_istore (lv' := [(9, .int (nI 0)), (8, .int (nI 1)), (7, .int (nI 384)), (6, .int (nI 20)), (0, .ref h0), (1, .int (nI 1)), (2, .ref pk), (3, .ref b), (4, .int cl_), (5, .int (nI ed))]) hx hb dMH_verify_34 hl (by decide) rfl (fun ls hl => ?_)
  have lp21 : ∀ (n21 : Nat) (i21 : Nat) (s22 : Sto) (pl : va_W) (ls : Array Slot) (H : Heap) (locs : List Loc), n21 + i21 = 48 → frm (M_MH_verify_1) s s22 → s22.1 225 23 = nI 1 → s22.1 225 24 = nI 6 → s22.1 225 25 = nI 5 → s22.1 225 26 = nI 4 → s22.1 225 27 = nI 524288 → s22.1 225 28 = nI 261888 → s22.1 225 29 = nI 196 → s22.1 225 30 = nI 48 → E_MH_verify_1_L0 pp pb cl_ ed n21 i21 s22 → F_MH_verify_1 pp pb cl_ ed s = F_MH_verify_1_L0 pp pb cl_ ed n21 i21 s22 → lv_has ls 11 [(9, .int (nI i21)), (8, .int (nI 1)), (7, .int (nI 384)), (6, .int (nI 20)), (0, .ref h0), (2, .ref pk), (3, .ref b), (4, .int cl_), (5, .int (nI ed))] → okn g T s22 pl → va_P g.1 vcl ([] ++ pl) H → va_D A ([] ++ pl) → va_S A s0.heap H locs → W p l e ({ frames := 5, cells := 0, slots := 0, locals := 116 } : Room) s0 m args below meth c H locs 0 0 (MQ below (va_Qi (fun (r : Int32) (u : (Int32 × Sto) × va_W) => (u.1 = F_MH_verify_1 pp pb cl_ ed s ∧ r = u.1.1 ∧ frm (M_MH_verify_1) s u.1.2 ∧ (∃ x : Nat, u.1.1 = nI x ∧ x < 2) ∧ True) ∧ okn g T u.1.2 u.2) (po g.1 vcl A (fun (u : (Int32 × Sto) × va_W) => [] ++ u.2)) A) args s0 0 0 A) (F0 m 36 ls []) := by
    intro n21
    induction n21 with
    | zero =>
      intro i21 s22 pl ls H locs hm21 hF hf21 hf22 hf23 hf24 hf25 hf26 hf27 hf28 hE hR hl hO hP hD hS
      refine lv_iload hx hb dMH_verify_36 (lv_at hl 0 rfl) ?_
      refine lv_aload_n hx hb dMH_verify_38 rfl (lv_at hl 4 rfl) ?_
      refine nw_get (C := "LatticeKeysModel$Hands") (TT := T_MH) (N := 31) hx hb hts (wg_ft i_MH) hown hK hO k_h0 (kn := 225) (ci := 12) (fl := [(3, 172), (3, 181), (3, 226), (3, 291), (3, 299), (3, 308), (3, 317), (3, 326), (3, 334), (3, 342), (3, 350), (3, 359), (3, 368), (3, 369), (3, 370), (3, 371), (3, 372), (3, 373), (3, 374), (3, 375), (3, 376), (3, 377), (3, 378), (0, 0), (0, 0), (0, 0), (0, 0), (0, 0), (0, 0), (0, 0), (0, 0)]) rfl hP rfl 30 (by decide) (hts _ (wg_t kw_1462)) (fun _ h9 => h9) (cd := (0, 0)) rfl dMH_verify_39 (fun v23 hv23 => ?_)
      obtain rfl := (show v23 = .int (s22.1 225 30) from hv23)
      obtain ⟨z23, ez23, hz25, hz26⟩ := cl_of (b := 2147483648) hf28 (by omega) (by decide)
      replace hR := bnd_step hR ez23
      first | rw [bnd_step rfl ez23] at hE | rw [E_MH_verify_1_L0, bnd_step rfl ez23] at hE | rw [E_MH_verify_1_L1, bnd_step rfl ez23] at hE | rw [E_MH_verify_1_L7, bnd_step rfl ez23] at hE | replace hE := bndP_step hE ez23
      refine mi_as hz25 ?_
      subst hz26
      refine mi_ge (tgt := 62) hx hb dMH_verify_42 (by decide) (by omega) (by omega) (fun h22 => ?_) (fun h22 => absurd h22 (by omega))
      refine lv_iconst (v := nI 0) hx hb dMH_verify_62 (by decide) ?_
      refine lv_istore (lv' := [(9, .int (nI 0)), (8, .int (nI 1)), (7, .int (nI 384)), (6, .int (nI 20)), (0, .ref h0), (2, .ref pk), (3, .ref b), (4, .int cl_), (5, .int (nI ed))]) hx hb dMH_verify_63 hl (by decide) rfl (fun ls hl => ?_)
      have lp22 : ∀ (n22 : Nat) (i22 : Nat) (z24 : Int32) (az21 : Nat) (s23 : Sto) (pl : va_W) (ls : Array Slot) (H : Heap) (locs : List Loc), n22 + i22 = 5 → (az21 = 384 + 5120 * i22) → frm (M_MH_verify_1) s s23 → s23.1 225 23 = nI 1 → s23.1 225 24 = nI 6 → s23.1 225 25 = nI 5 → s23.1 225 26 = nI 4 → s23.1 225 27 = nI 524288 → s23.1 225 28 = nI 261888 → s23.1 225 29 = nI 196 → s23.1 225 30 = nI 48 → E_MH_verify_1_L1 pp pb cl_ ed n22 i22 z24 az21 s23 → F_MH_verify_1 pp pb cl_ ed s = F_MH_verify_1_L1 pp pb cl_ ed n22 i22 z24 az21 s23 → lv_has ls 11 [(9, .int (nI i22)), (8, .int z24), (7, .int (nI az21)), (6, .int (nI 20)), (0, .ref h0), (2, .ref pk), (3, .ref b), (4, .int cl_), (5, .int (nI ed))] → okn g T s23 pl → va_P g.1 vcl ([] ++ pl) H → va_D A ([] ++ pl) → va_S A s0.heap H locs → W p l e ({ frames := 5, cells := 0, slots := 0, locals := 116 } : Room) s0 m args below meth c H locs 0 0 (MQ below (va_Qi (fun (r : Int32) (u : (Int32 × Sto) × va_W) => (u.1 = F_MH_verify_1 pp pb cl_ ed s ∧ r = u.1.1 ∧ frm (M_MH_verify_1) s u.1.2 ∧ (∃ x : Nat, u.1.1 = nI x ∧ x < 2) ∧ True) ∧ okn g T u.1.2 u.2) (po g.1 vcl A (fun (u : (Int32 × Sto) × va_W) => [] ++ u.2)) A) args s0 0 0 A) (F0 m 65 ls []) := by
        intro n22
        induction n22 with
        | zero =>
          intro i22 z24 az21 s23 pl ls H locs hm22 hi21 hF hf29 hf30 hf31 hf32 hf33 hf34 hf35 hf36 hE hR hl hO hP hD hS
          refine lv_iload hx hb dMH_verify_65 (lv_at hl 0 rfl) ?_
          refine lv_aload_n hx hb dMH_verify_67 rfl (lv_at hl 4 rfl) ?_
          refine nw_get (C := "LatticeKeysModel$Hands") (TT := T_MH) (N := 31) hx hb hts (wg_ft i_MH) hown hK hO k_h0 (kn := 225) (ci := 12) (fl := [(3, 172), (3, 181), (3, 226), (3, 291), (3, 299), (3, 308), (3, 317), (3, 326), (3, 334), (3, 342), (3, 350), (3, 359), (3, 368), (3, 369), (3, 370), (3, 371), (3, 372), (3, 373), (3, 374), (3, 375), (3, 376), (3, 377), (3, 378), (0, 0), (0, 0), (0, 0), (0, 0), (0, 0), (0, 0), (0, 0), (0, 0)]) rfl hP rfl 25 (by decide) (hts _ (wg_t kw_1457)) (fun _ h9 => h9) (cd := (0, 0)) rfl dMH_verify_68 (fun v24 hv24 => ?_)
          obtain rfl := (show v24 = .int (s23.1 225 25) from hv24)
          obtain ⟨z25, ez24, hz27, hz28⟩ := cl_of (b := 2147483648) hf31 (by omega) (by decide)
          replace hR := bnd_step hR ez24
          first | rw [bnd_step rfl ez24] at hE | rw [E_MH_verify_1_L0, bnd_step rfl ez24] at hE | rw [E_MH_verify_1_L1, bnd_step rfl ez24] at hE | rw [E_MH_verify_1_L7, bnd_step rfl ez24] at hE | replace hE := bndP_step hE ez24
          refine mi_as hz27 ?_
          subst hz28
          refine mi_ge (tgt := 164) hx hb dMH_verify_71 (by decide) (by omega) (by omega) (fun h23 => ?_) (fun h23 => absurd h23 (by omega))
          refine lv_iload hx hb dMH_verify_164 (lv_at hl 1 rfl) ?_
          refine lv_if_eq (tgt := 182) hx hb dMH_verify_166 (by decide) (fun h24 => ?_) (fun h24 => ?_)
          · replace hR := hR.trans (if_pos h24)
            first | rw [if_pos h24] at hE | rw [E_MH_verify_1_L0, if_pos h24] at hE | rw [E_MH_verify_1_L1, if_pos h24] at hE | rw [E_MH_verify_1_L2, if_pos h24] at hE | rw [E_MH_verify_1_L3, if_pos h24] at hE | rw [E_MH_verify_1_L4, if_pos h24] at hE | rw [E_MH_verify_1_L5, if_pos h24] at hE | rw [E_MH_verify_1_L6, if_pos h24] at hE | rw [E_MH_verify_1_L7, if_pos h24] at hE | rw [E_MH_verify_1_L8, if_pos h24] at hE | replace hE := iteP_pos h24 hE
            refine lv_iconst (v := nI 0) hx hb dMH_verify_182 (by decide) ?_
            exact mp_zret hx hb hr hlk rfl hP hD hS ((nI 0, s23), pl) ⟨⟨hR.symm, rfl, hF, ⟨0, rfl, by omega⟩, trivial⟩, hO⟩ [] rfl rfl rfl (by omega) (by omega) dMH_verify_183
          · replace hR := hR.trans (if_neg h24)
            first | rw [if_neg h24] at hE | rw [E_MH_verify_1_L0, if_neg h24] at hE | rw [E_MH_verify_1_L1, if_neg h24] at hE | rw [E_MH_verify_1_L2, if_neg h24] at hE | rw [E_MH_verify_1_L3, if_neg h24] at hE | rw [E_MH_verify_1_L4, if_neg h24] at hE | rw [E_MH_verify_1_L5, if_neg h24] at hE | rw [E_MH_verify_1_L6, if_neg h24] at hE | rw [E_MH_verify_1_L7, if_neg h24] at hE | rw [E_MH_verify_1_L8, if_neg h24] at hE | replace hE := iteP_neg h24 hE
            refine lv_aload_n hx hb dMH_verify_169 rfl (lv_at hl 4 rfl) ?_
            refine lv_aload_n hx hb dMH_verify_170 rfl (lv_at hl 6 rfl) ?_
            refine lv_iload hx hb dMH_verify_171 (lv_at hl 2 rfl) ?_
            refine lv_bipush (v := nI 8) hx hb dMH_verify_173 (by decide) ?_
            refine mi_idiv hx hb dMH_verify_175 (by omega) (by omega) (by omega) ?_
            refine mp_i (cx := []) (wr := []) hP hD hS hA [] [] rfl rfl rfl (by decide) (va_runV (As := [.ref b, .int (nI (az21 / 8))]) (rest := []) F (N_MH_readHints_1 l g _ T s23 pl hO hU h0 b pb (az21 / 8) k_h0 k_b n_b hf29 hf30 hf31 hf32 hf33 hf34 hf35 hf36 (by omega)) (cwV 2 hts (wg_app (wg_c kw_1929 (wg_c kw_1931 (wg_c ks_81 (wg_c kw_13 wg_n)))) kw_1932) rfl rfl rfl (by decide +kernel) ⟨by decide, by decide⟩) (pn_W "LatticeKeysModel$Hands" (en_ok g) (ci := 12) (kn := 225) (fl := [(3, 172), (3, 181), (3, 226), (3, 291), (3, 299), (3, 308), (3, 317), (3, 326), (3, 334), (3, 342), (3, 350), (3, 359), (3, 368), (3, 369), (3, 370), (3, 371), (3, 372), (3, 373), (3, 374), (3, 375), (3, 376), (3, 377), (3, 378), (0, 0), (0, 0), (0, 0), (0, 0), (0, 0), (0, 0), (0, 0), (0, 0)]) hK hO k_h0 rfl hP hD hS hA hEn [] rfl rfl rfl) rfl rfl hl.1 rfl (lv_room (Nat.le_of_ble_eq_true rfl)) dMH_verify_176 ⟨by omega, by omega⟩) (fun r21 u22 H locs hu22 hP hD hS => ?_)
            obtain ⟨q21, pl⟩ := u22
            obtain ⟨⟨eq22, rfl, hFc22, -⟩, hO⟩ := hu22
            have hO : okn g T q21.2 pl := hO
            have hP : va_P g.1 vcl ([] ++ pl) _ := hP
            have hD : va_D _ ([] ++ pl) := hD
            have hFc22 : frm (M_MH_readHints_1) s23 q21.2 := hFc22
            replace hR := bnd_step hR eq22
            first | rw [bnd_step rfl eq22] at hE | rw [E_MH_verify_1_L0, bnd_step rfl eq22] at hE | rw [E_MH_verify_1_L1, bnd_step rfl eq22] at hE | rw [E_MH_verify_1_L7, bnd_step rfl eq22] at hE | replace hE := bndP_step hE eq22
            have hF := frm_tr hF hFc22 (fun k hk => by unfold M_MH_readHints_1 at hk; unfold M_MH_verify_1; omega)
            have hf37 : q21.2.1 225 23 = nI 1 := fc_F hf29 hFc22 (by unfold M_MH_readHints_1; omega)
            have hf38 : q21.2.1 225 24 = nI 6 := fc_F hf30 hFc22 (by unfold M_MH_readHints_1; omega)
            have hf39 : q21.2.1 225 25 = nI 5 := fc_F hf31 hFc22 (by unfold M_MH_readHints_1; omega)
            have hf40 : q21.2.1 225 26 = nI 4 := fc_F hf32 hFc22 (by unfold M_MH_readHints_1; omega)
            have hf41 : q21.2.1 225 27 = nI 524288 := fc_F hf33 hFc22 (by unfold M_MH_readHints_1; omega)
            have hf42 : q21.2.1 225 28 = nI 261888 := fc_F hf34 hFc22 (by unfold M_MH_readHints_1; omega)
            have hf43 : q21.2.1 225 29 = nI 196 := fc_F hf35 hFc22 (by unfold M_MH_readHints_1; omega)
            have hf44 : q21.2.1 225 30 = nI 48 := fc_F hf36 hFc22 (by unfold M_MH_readHints_1; omega)
            refine W.widen (k := 0) (n := 0) (by omega) (by omega) ?_
            refine lv_if_ne (tgt := 184) hx hb dMH_verify_179 (by decide) (fun h25 => ?_) (fun h25 => ?_)
            · replace hR := hR.trans (if_neg h25)
              first | rw [if_neg h25] at hE | rw [E_MH_verify_1_L0, if_neg h25] at hE | rw [E_MH_verify_1_L1, if_neg h25] at hE | rw [E_MH_verify_1_L2, if_neg h25] at hE | rw [E_MH_verify_1_L3, if_neg h25] at hE | rw [E_MH_verify_1_L4, if_neg h25] at hE | rw [E_MH_verify_1_L5, if_neg h25] at hE | rw [E_MH_verify_1_L6, if_neg h25] at hE | rw [E_MH_verify_1_L7, if_neg h25] at hE | rw [E_MH_verify_1_L8, if_neg h25] at hE | replace hE := iteP_neg h25 hE
              refine lv_aload_n hx hb dMH_verify_184 rfl (lv_at hl 4 rfl) ?_
              refine nw_get (C := "LatticeKeysModel$Hands") (TT := T_MH) (N := 31) hx hb hts (wg_ft i_MH) hown hK hO k_h0 (kn := 225) (ci := 12) (fl := [(3, 172), (3, 181), (3, 226), (3, 291), (3, 299), (3, 308), (3, 317), (3, 326), (3, 334), (3, 342), (3, 350), (3, 359), (3, 368), (3, 369), (3, 370), (3, 371), (3, 372), (3, 373), (3, 374), (3, 375), (3, 376), (3, 377), (3, 378), (0, 0), (0, 0), (0, 0), (0, 0), (0, 0), (0, 0), (0, 0), (0, 0)]) rfl hP rfl 0 (by decide) (hts _ (wg_t kw_1432)) (fun _ h9 => h9) (cd := (3, 172)) rfl dMH_verify_185 (fun v25 hv25 => ?_)
              obtain ⟨r22, rfl, kr21⟩ := (show ∃ r : Nat, v25 = .ref r ∧ T r = some 172 from hv25)
              refine mp_v (cx := []) (wr := []) hP hD hS hA [] [] rfl rfl rfl (by decide) (va_runV (As := []) (rest := []) F (N_MS_shake l g _ T q21.2 pl hO hU r22 kr21) (cwV 0 hts (wg_app (wg_c kw_1718 (wg_c kw_1661 (wg_c kw_1662 (wg_c kw_10 wg_n)))) kw_1663) rfl rfl rfl (by decide +kernel) ⟨by decide, by decide⟩) (pn_W "LatticeKeysModel$Sponge" (en_ok g) (ci := 9) (kn := 172) (fl := [(3, 173), (3, 174), (3, 175), (3, 176), (3, 177), (0, 0), (0, 0), (0, 0)]) hK hO kr21 rfl hP hD hS hA hEn [] rfl rfl rfl) rfl rfl hl.1 rfl (lv_room (Nat.le_of_ble_eq_true rfl)) dMH_verify_188 ⟨by omega, by omega⟩) (fun  u23 H locs hu23 hP hD hS => ?_)
              obtain ⟨s24, pl⟩ := u23
              obtain ⟨⟨eq23, hFc23, ⟨x31, hx_31, hb_31⟩, ⟨x32, hx_32, hb_32⟩, -⟩, hO⟩ := hu23
              have hO : okn g T s24 pl := hO
              have hP : va_P g.1 vcl ([] ++ pl) _ := hP
              have hD : va_D _ ([] ++ pl) := hD
              have hFc23 : frm (M_MS_shake) q21.2 s24 := hFc23
              have hb_31 : x31 = 0 := hb_31
              have hb_32 : x32 = 136 := hb_32
              replace hR := bnd_step hR eq23
              first | rw [bnd_step rfl eq23] at hE | rw [E_MH_verify_1_L0, bnd_step rfl eq23] at hE | rw [E_MH_verify_1_L1, bnd_step rfl eq23] at hE | rw [E_MH_verify_1_L7, bnd_step rfl eq23] at hE | replace hE := bndP_step hE eq23
              have hF := frm_tr hF hFc23 (fun k hk => by unfold M_MS_shake at hk; unfold M_MH_verify_1; omega)
              have hf45 : s24.1 225 23 = nI 1 := fc_F hf37 hFc23 (by unfold M_MS_shake; omega)
              have hf46 : s24.1 225 24 = nI 6 := fc_F hf38 hFc23 (by unfold M_MS_shake; omega)
              have hf47 : s24.1 225 25 = nI 5 := fc_F hf39 hFc23 (by unfold M_MS_shake; omega)
              have hf48 : s24.1 225 26 = nI 4 := fc_F hf40 hFc23 (by unfold M_MS_shake; omega)
              have hf49 : s24.1 225 27 = nI 524288 := fc_F hf41 hFc23 (by unfold M_MS_shake; omega)
              have hf50 : s24.1 225 28 = nI 261888 := fc_F hf42 hFc23 (by unfold M_MS_shake; omega)
              have hf51 : s24.1 225 29 = nI 196 := fc_F hf43 hFc23 (by unfold M_MS_shake; omega)
              have hf52 : s24.1 225 30 = nI 48 := fc_F hf44 hFc23 (by unfold M_MS_shake; omega)
              refine W.widen (k := 0) (n := 0) (by omega) (by omega) ?_
              refine lv_aload_n hx hb dMH_verify_191 rfl (lv_at hl 4 rfl) ?_
              refine nw_get (C := "LatticeKeysModel$Hands") (TT := T_MH) (N := 31) hx hb hts (wg_ft i_MH) hown hK hO k_h0 (kn := 225) (ci := 12) (fl := [(3, 172), (3, 181), (3, 226), (3, 291), (3, 299), (3, 308), (3, 317), (3, 326), (3, 334), (3, 342), (3, 350), (3, 359), (3, 368), (3, 369), (3, 370), (3, 371), (3, 372), (3, 373), (3, 374), (3, 375), (3, 376), (3, 377), (3, 378), (0, 0), (0, 0), (0, 0), (0, 0), (0, 0), (0, 0), (0, 0), (0, 0)]) rfl hP rfl 0 (by decide) (hts _ (wg_t kw_1432)) (fun _ h9 => h9) (cd := (3, 172)) rfl dMH_verify_192 (fun v26 hv26 => ?_)
              obtain ⟨r23, rfl, kr22⟩ := (show ∃ r : Nat, v26 = .ref r ∧ T r = some 172 from hv26)
              refine lv_aload_n hx hb dMH_verify_195 rfl (lv_at hl 5 rfl) ?_
              refine lv_iconst (v := nI 0) hx hb dMH_verify_196 (by decide) ?_
              refine lv_aload_n hx hb dMH_verify_197 rfl (lv_at hl 4 rfl) ?_
              refine nw_get (C := "LatticeKeysModel$Hands") (TT := T_MH) (N := 31) hx hb hts (wg_ft i_MH) hown hK hO k_h0 (kn := 225) (ci := 12) (fl := [(3, 172), (3, 181), (3, 226), (3, 291), (3, 299), (3, 308), (3, 317), (3, 326), (3, 334), (3, 342), (3, 350), (3, 359), (3, 368), (3, 369), (3, 370), (3, 371), (3, 372), (3, 373), (3, 374), (3, 375), (3, 376), (3, 377), (3, 378), (0, 0), (0, 0), (0, 0), (0, 0), (0, 0), (0, 0), (0, 0), (0, 0)]) rfl hP rfl 23 (by decide) (hts _ (wg_t kw_1455)) (fun _ h9 => h9) (cd := (0, 0)) rfl dMH_verify_198 (fun v27 hv27 => ?_)
              obtain rfl := (show v27 = .int (s24.1 225 23) from hv27)
              obtain ⟨z26, ez25, hz29, hz30⟩ := cl_of (b := 2147483648) hf45 (by omega) (by decide)
              replace hR := bnd_step hR ez25
              first | rw [bnd_step rfl ez25] at hE | rw [E_MH_verify_1_L0, bnd_step rfl ez25] at hE | rw [E_MH_verify_1_L1, bnd_step rfl ez25] at hE | rw [E_MH_verify_1_L7, bnd_step rfl ez25] at hE | replace hE := bndP_step hE ez25
              refine mi_as hz29 ?_
              subst hz30
              refine mp_i (cx := []) (wr := []) hP hD hS hA [] [] rfl rfl rfl (by decide) (va_runS (As := [.int (nI 1)]) (rest := [.int (nI 0), .ref pk, .ref r23]) F (N_MH_openSize_1 l g _ T s24 pl hO hU ) (va_cwS 1 hts (wg_app (wg_c kw_1744 (wg_c kw_1745 (wg_c kw_13 wg_n))) kw_1746) rfl rfl rfl (by decide +kernel) ⟨by decide, by decide⟩) (pp_S (en_ok g) hP hD hS hA hEn [] rfl rfl) rfl rfl hl.1 rfl (lv_room (Nat.le_of_ble_eq_true rfl)) dMH_verify_201 ⟨by omega, by omega⟩) (fun r24 u24 H locs hu24 hP hD hS => ?_)
              obtain ⟨q22, pl⟩ := u24
              obtain ⟨⟨eq24, rfl, hFc24, ⟨x34, hx_34, hb_34⟩, hxp24, -⟩, hO⟩ := hu24
              have hO : okn g T q22.2 pl := hO
              have hP : va_P g.1 vcl ([] ++ pl) _ := hP
              have hD : va_D _ ([] ++ pl) := hD
              have hFc24 : frm (M_MH_openSize_1) s24 q22.2 := hFc24
              have hb_34 : x34 < 1953 := hb_34
              replace hR := bnd_step hR eq24
              first | rw [bnd_step rfl eq24] at hE | rw [E_MH_verify_1_L0, bnd_step rfl eq24] at hE | rw [E_MH_verify_1_L1, bnd_step rfl eq24] at hE | rw [E_MH_verify_1_L7, bnd_step rfl eq24] at hE | replace hE := bndP_step hE eq24
              have hF := frm_tr hF hFc24 (fun k hk => by unfold M_MH_openSize_1 at hk; unfold M_MH_verify_1; omega)
              have hf53 : q22.2.1 225 23 = nI 1 := fc_F hf45 hFc24 (by unfold M_MH_openSize_1; omega)
              have hf54 : q22.2.1 225 24 = nI 6 := fc_F hf46 hFc24 (by unfold M_MH_openSize_1; omega)
              have hf55 : q22.2.1 225 25 = nI 5 := fc_F hf47 hFc24 (by unfold M_MH_openSize_1; omega)
              have hf56 : q22.2.1 225 26 = nI 4 := fc_F hf48 hFc24 (by unfold M_MH_openSize_1; omega)
              have hf57 : q22.2.1 225 27 = nI 524288 := fc_F hf49 hFc24 (by unfold M_MH_openSize_1; omega)
              have hf58 : q22.2.1 225 28 = nI 261888 := fc_F hf50 hFc24 (by unfold M_MH_openSize_1; omega)
              have hf59 : q22.2.1 225 29 = nI 196 := fc_F hf51 hFc24 (by unfold M_MH_openSize_1; omega)
              have hf60 : q22.2.1 225 30 = nI 48 := fc_F hf52 hFc24 (by unfold M_MH_openSize_1; omega)
              have hf61 : q22.2.1 172 6 = nI x31 := fc_F hx_31 hFc24 (by unfold M_MH_openSize_1; omega)
              have hf62 : q22.2.1 172 5 = nI x32 := fc_F hx_32 hFc24 (by unfold M_MH_openSize_1; omega)
              obtain ⟨z27, ez26, hz31, hz32⟩ := cl_of (b := 2147483648) hx_34 (by omega) (by decide)
              replace hR := bnd_step hR ez26
              first | rw [bnd_step rfl ez26] at hE | rw [E_MH_verify_1_L0, bnd_step rfl ez26] at hE | rw [E_MH_verify_1_L1, bnd_step rfl ez26] at hE | rw [E_MH_verify_1_L7, bnd_step rfl ez26] at hE | replace hE := bndP_step hE ez26
              refine mi_as hz31 ?_
              have hsz21 : z27 = 1952 := (nI_eq (by omega) (by omega)).mp (hz31.symm.trans hxp24)
              subst hsz21
              refine W.widen (k := 0) (n := 0) (by omega) (by omega) ?_
              refine mp_v (cx := []) (wr := []) hP hD hS hA [] [] rfl rfl rfl (by decide) (va_runV (As := [.ref pk, .int (nI 0), .int (nI 1952)]) (rest := []) F (N_MS_puts l g _ T q22.2 pl hO hU r23 pk pp 2592 0 1952 x31 x32 kr22 k_pk n_pk hf61 hf62 (by omega) (by omega) (by omega) (by omega)) (cwV 3 hts (wg_app (wg_c kw_1719 (wg_c kw_1612 (wg_c kw_1613 (wg_c kw_10 wg_n)))) kw_1614) rfl rfl rfl (by decide +kernel) ⟨by decide, by decide⟩) (pn_W "LatticeKeysModel$Sponge" (en_ok g) (ci := 9) (kn := 172) (fl := [(3, 173), (3, 174), (3, 175), (3, 176), (3, 177), (0, 0), (0, 0), (0, 0)]) hK hO kr22 rfl hP hD hS hA hEn [] rfl rfl rfl) rfl rfl hl.1 rfl (lv_room (Nat.le_of_ble_eq_true rfl)) dMH_verify_204 ⟨by omega, by omega⟩) (fun  u25 H locs hu25 hP hD hS => ?_)
              obtain ⟨s25, pl⟩ := u25
              obtain ⟨⟨eq25, hFc25, ⟨x35, hx_35, hb_35⟩, ⟨x36, hx_36, hb_36⟩, -⟩, hO⟩ := hu25
              have hO : okn g T s25 pl := hO
              have hP : va_P g.1 vcl ([] ++ pl) _ := hP
              have hD : va_D _ ([] ++ pl) := hD
              have hFc25 : frm (M_MS_puts) q22.2 s25 := hFc25
              have hb_35 : x35 < x32 := hb_35
              have hb_36 : x36 = x32 := hb_36
              replace hR := bnd_step hR eq25
              first | rw [bnd_step rfl eq25] at hE | rw [E_MH_verify_1_L0, bnd_step rfl eq25] at hE | rw [E_MH_verify_1_L1, bnd_step rfl eq25] at hE | rw [E_MH_verify_1_L7, bnd_step rfl eq25] at hE | replace hE := bndP_step hE eq25
              have hF := frm_tr hF hFc25 (fun k hk => by unfold M_MS_puts at hk; unfold M_MH_verify_1; omega)
              have hf63 : s25.1 225 23 = nI 1 := fc_F hf53 hFc25 (by unfold M_MS_puts; omega)
              have hf64 : s25.1 225 24 = nI 6 := fc_F hf54 hFc25 (by unfold M_MS_puts; omega)
              have hf65 : s25.1 225 25 = nI 5 := fc_F hf55 hFc25 (by unfold M_MS_puts; omega)
              have hf66 : s25.1 225 26 = nI 4 := fc_F hf56 hFc25 (by unfold M_MS_puts; omega)
              have hf67 : s25.1 225 27 = nI 524288 := fc_F hf57 hFc25 (by unfold M_MS_puts; omega)
              have hf68 : s25.1 225 28 = nI 261888 := fc_F hf58 hFc25 (by unfold M_MS_puts; omega)
              have hf69 : s25.1 225 29 = nI 196 := fc_F hf59 hFc25 (by unfold M_MS_puts; omega)
              have hf70 : s25.1 225 30 = nI 48 := fc_F hf60 hFc25 (by unfold M_MS_puts; omega)
              refine W.widen (k := 0) (n := 0) (by omega) (by omega) ?_
              refine lv_aload_n hx hb dMH_verify_207 rfl (lv_at hl 4 rfl) ?_
              refine nw_get (C := "LatticeKeysModel$Hands") (TT := T_MH) (N := 31) hx hb hts (wg_ft i_MH) hown hK hO k_h0 (kn := 225) (ci := 12) (fl := [(3, 172), (3, 181), (3, 226), (3, 291), (3, 299), (3, 308), (3, 317), (3, 326), (3, 334), (3, 342), (3, 350), (3, 359), (3, 368), (3, 369), (3, 370), (3, 371), (3, 372), (3, 373), (3, 374), (3, 375), (3, 376), (3, 377), (3, 378), (0, 0), (0, 0), (0, 0), (0, 0), (0, 0), (0, 0), (0, 0), (0, 0)]) rfl hP rfl 0 (by decide) (hts _ (wg_t kw_1432)) (fun _ h9 => h9) (cd := (3, 172)) rfl dMH_verify_208 (fun v28 hv28 => ?_)
              obtain ⟨r25, rfl, kr23⟩ := (show ∃ r : Nat, v28 = .ref r ∧ T r = some 172 from hv28)
              refine mp_v (cx := []) (wr := []) hP hD hS hA [] [] rfl rfl rfl (by decide) (va_runV (As := []) (rest := []) F (N_MS_end l g _ T s25 pl hO hU r25 x35 x36 kr23 hx_35 hx_36 (by omega) (by omega)) (cwV 0 hts (wg_app (wg_c kw_1721 (wg_c kw_1634 (wg_c kw_1635 (wg_c kw_10 wg_n)))) kw_1636) rfl rfl rfl (by decide +kernel) ⟨by decide, by decide⟩) (pn_W "LatticeKeysModel$Sponge" (en_ok g) (ci := 9) (kn := 172) (fl := [(3, 173), (3, 174), (3, 175), (3, 176), (3, 177), (0, 0), (0, 0), (0, 0)]) hK hO kr23 rfl hP hD hS hA hEn [] rfl rfl rfl) rfl rfl hl.1 rfl (lv_room (Nat.le_of_ble_eq_true rfl)) dMH_verify_211 ⟨by omega, by omega⟩) (fun  u26 H locs hu26 hP hD hS => ?_)
              obtain ⟨s26, pl⟩ := u26
              obtain ⟨⟨eq26, hFc26, ⟨x38, hx_38, hb_38⟩, ⟨x39, hx_39, hb_39⟩, -⟩, hO⟩ := hu26
              have hO : okn g T s26 pl := hO
              have hP : va_P g.1 vcl ([] ++ pl) _ := hP
              have hD : va_D _ ([] ++ pl) := hD
              have hFc26 : frm (M_MS_end) s25 s26 := hFc26
              have hb_38 : x38 = 0 := hb_38
              have hb_39 : x39 = x36 := hb_39
              replace hR := bnd_step hR eq26
              first | rw [bnd_step rfl eq26] at hE | rw [E_MH_verify_1_L0, bnd_step rfl eq26] at hE | rw [E_MH_verify_1_L1, bnd_step rfl eq26] at hE | rw [E_MH_verify_1_L7, bnd_step rfl eq26] at hE | replace hE := bndP_step hE eq26
              have hF := frm_tr hF hFc26 (fun k hk => by unfold M_MS_end at hk; unfold M_MH_verify_1; omega)
              have hf71 : s26.1 225 23 = nI 1 := fc_F hf63 hFc26 (by unfold M_MS_end; omega)
              have hf72 : s26.1 225 24 = nI 6 := fc_F hf64 hFc26 (by unfold M_MS_end; omega)
              have hf73 : s26.1 225 25 = nI 5 := fc_F hf65 hFc26 (by unfold M_MS_end; omega)
              have hf74 : s26.1 225 26 = nI 4 := fc_F hf66 hFc26 (by unfold M_MS_end; omega)
              have hf75 : s26.1 225 27 = nI 524288 := fc_F hf67 hFc26 (by unfold M_MS_end; omega)
              have hf76 : s26.1 225 28 = nI 261888 := fc_F hf68 hFc26 (by unfold M_MS_end; omega)
              have hf77 : s26.1 225 29 = nI 196 := fc_F hf69 hFc26 (by unfold M_MS_end; omega)
              have hf78 : s26.1 225 30 = nI 48 := fc_F hf70 hFc26 (by unfold M_MS_end; omega)
              refine W.widen (k := 0) (n := 0) (by omega) (by omega) ?_
              refine lv_aload_n hx hb dMH_verify_214 rfl (lv_at hl 4 rfl) ?_
              refine nw_get (C := "LatticeKeysModel$Hands") (TT := T_MH) (N := 31) hx hb hts (wg_ft i_MH) hown hK hO k_h0 (kn := 225) (ci := 12) (fl := [(3, 172), (3, 181), (3, 226), (3, 291), (3, 299), (3, 308), (3, 317), (3, 326), (3, 334), (3, 342), (3, 350), (3, 359), (3, 368), (3, 369), (3, 370), (3, 371), (3, 372), (3, 373), (3, 374), (3, 375), (3, 376), (3, 377), (3, 378), (0, 0), (0, 0), (0, 0), (0, 0), (0, 0), (0, 0), (0, 0), (0, 0)]) rfl hP rfl 0 (by decide) (hts _ (wg_t kw_1432)) (fun _ h9 => h9) (cd := (3, 172)) rfl dMH_verify_215 (fun v29 hv29 => ?_)
              obtain ⟨r26, rfl, kr24⟩ := (show ∃ r : Nat, v29 = .ref r ∧ T r = some 172 from hv29)
              refine lv_aload_n hx hb dMH_verify_218 rfl (lv_at hl 4 rfl) ?_
              refine nw_get (C := "LatticeKeysModel$Hands") (TT := T_MH) (N := 31) hx hb hts (wg_ft i_MH) hown hK hO k_h0 (kn := 225) (ci := 12) (fl := [(3, 172), (3, 181), (3, 226), (3, 291), (3, 299), (3, 308), (3, 317), (3, 326), (3, 334), (3, 342), (3, 350), (3, 359), (3, 368), (3, 369), (3, 370), (3, 371), (3, 372), (3, 373), (3, 374), (3, 375), (3, 376), (3, 377), (3, 378), (0, 0), (0, 0), (0, 0), (0, 0), (0, 0), (0, 0), (0, 0), (0, 0)]) rfl hP rfl 22 (by decide) (hts _ (wg_t kw_1454)) (fun _ h9 => h9) (cd := (3, 378)) rfl dMH_verify_219 (fun v30 hv30 => ?_)
              obtain ⟨r27, rfl, kr25⟩ := (show ∃ r : Nat, v30 = .ref r ∧ T r = some 378 from hv30)
              refine lv_iconst (v := nI 0) hx hb dMH_verify_222 (by decide) ?_
              refine lv_bipush (v := nI 64) hx hb dMH_verify_223 (by decide) ?_
              refine mp_v (cx := []) (wr := []) hP hD hS hA [] [] rfl rfl rfl (by decide) (va_runV (As := [.ref r27, .int (nI 0), .int (nI 64)]) (rest := []) F (N_MS_take l g _ T s26 pl hO hU r26 r27 378 64 0 64 x38 x39 kr24 kr25 rfl hx_38 hx_39 (by omega) (by omega) (by omega) (by omega)) (cwV 3 hts (wg_app (wg_c kw_1722 (wg_c kw_1638 (wg_c kw_1639 (wg_c kw_10 wg_n)))) kw_1640) rfl rfl rfl (by decide +kernel) ⟨by decide, by decide⟩) (pn_W "LatticeKeysModel$Sponge" (en_ok g) (ci := 9) (kn := 172) (fl := [(3, 173), (3, 174), (3, 175), (3, 176), (3, 177), (0, 0), (0, 0), (0, 0)]) hK hO kr24 rfl hP hD hS hA hEn [] rfl rfl rfl) rfl rfl hl.1 rfl (lv_room (Nat.le_of_ble_eq_true rfl)) dMH_verify_225 ⟨by omega, by omega⟩) (fun  u27 H locs hu27 hP hD hS => ?_)
              obtain ⟨s27, pl⟩ := u27
              obtain ⟨⟨eq27, hFc27, ⟨x41, hx_41, hb_41⟩, ⟨x42, hx_42, hb_42⟩, -⟩, hO⟩ := hu27
              have hO : okn g T s27 pl := hO
              have hP : va_P g.1 vcl ([] ++ pl) _ := hP
              have hD : va_D _ ([] ++ pl) := hD
              have hFc27 : frm (M_MS_take 378) s26 s27 := hFc27
              have hb_41 : x41 ≤ x39 := hb_41
              have hb_42 : x42 = x39 := hb_42
              replace hR := bnd_step hR eq27
              first | rw [bnd_step rfl eq27] at hE | rw [E_MH_verify_1_L0, bnd_step rfl eq27] at hE | rw [E_MH_verify_1_L1, bnd_step rfl eq27] at hE | rw [E_MH_verify_1_L7, bnd_step rfl eq27] at hE | replace hE := bndP_step hE eq27
              have hF := frm_tr hF hFc27 (fun k hk => by unfold M_MS_take at hk; unfold M_MH_verify_1; omega)
              have hf79 : s27.1 225 23 = nI 1 := fc_F hf71 hFc27 (by unfold M_MS_take; omega)
              have hf80 : s27.1 225 24 = nI 6 := fc_F hf72 hFc27 (by unfold M_MS_take; omega)
              have hf81 : s27.1 225 25 = nI 5 := fc_F hf73 hFc27 (by unfold M_MS_take; omega)
              have hf82 : s27.1 225 26 = nI 4 := fc_F hf74 hFc27 (by unfold M_MS_take; omega)
              have hf83 : s27.1 225 27 = nI 524288 := fc_F hf75 hFc27 (by unfold M_MS_take; omega)
              have hf84 : s27.1 225 28 = nI 261888 := fc_F hf76 hFc27 (by unfold M_MS_take; omega)
              have hf85 : s27.1 225 29 = nI 196 := fc_F hf77 hFc27 (by unfold M_MS_take; omega)
              have hf86 : s27.1 225 30 = nI 48 := fc_F hf78 hFc27 (by unfold M_MS_take; omega)
              refine W.widen (k := 0) (n := 0) (by omega) (by omega) ?_
              refine lv_aload_n hx hb dMH_verify_228 rfl (lv_at hl 4 rfl) ?_
              refine lv_aload_n hx hb dMH_verify_229 rfl (lv_at hl 4 rfl) ?_
              refine nw_get (C := "LatticeKeysModel$Hands") (TT := T_MH) (N := 31) hx hb hts (wg_ft i_MH) hown hK hO k_h0 (kn := 225) (ci := 12) (fl := [(3, 172), (3, 181), (3, 226), (3, 291), (3, 299), (3, 308), (3, 317), (3, 326), (3, 334), (3, 342), (3, 350), (3, 359), (3, 368), (3, 369), (3, 370), (3, 371), (3, 372), (3, 373), (3, 374), (3, 375), (3, 376), (3, 377), (3, 378), (0, 0), (0, 0), (0, 0), (0, 0), (0, 0), (0, 0), (0, 0), (0, 0)]) rfl hP rfl 22 (by decide) (hts _ (wg_t kw_1454)) (fun _ h9 => h9) (cd := (3, 378)) rfl dMH_verify_230 (fun v31 hv31 => ?_)
              obtain ⟨r28, rfl, kr26⟩ := (show ∃ r : Nat, v31 = .ref r ∧ T r = some 378 from hv31)
              refine lv_iconst (v := nI 0) hx hb dMH_verify_233 (by decide) ?_
              refine lv_aload_n hx hb dMH_verify_234 rfl (lv_at hl 6 rfl) ?_
              refine lv_aload_n hx hb dMH_verify_235 rfl (lv_at hl 4 rfl) ?_
              refine nw_get (C := "LatticeKeysModel$Hands") (TT := T_MH) (N := 31) hx hb hts (wg_ft i_MH) hown hK hO k_h0 (kn := 225) (ci := 12) (fl := [(3, 172), (3, 181), (3, 226), (3, 291), (3, 299), (3, 308), (3, 317), (3, 326), (3, 334), (3, 342), (3, 350), (3, 359), (3, 368), (3, 369), (3, 370), (3, 371), (3, 372), (3, 373), (3, 374), (3, 375), (3, 376), (3, 377), (3, 378), (0, 0), (0, 0), (0, 0), (0, 0), (0, 0), (0, 0), (0, 0), (0, 0)]) rfl hP rfl 23 (by decide) (hts _ (wg_t kw_1455)) (fun _ h9 => h9) (cd := (0, 0)) rfl dMH_verify_236 (fun v32 hv32 => ?_)
              obtain rfl := (show v32 = .int (s27.1 225 23) from hv32)
              obtain ⟨z28, ez27, hz33, hz34⟩ := cl_of (b := 2147483648) hf79 (by omega) (by decide)
              replace hR := bnd_step hR ez27
              first | rw [bnd_step rfl ez27] at hE | rw [E_MH_verify_1_L0, bnd_step rfl ez27] at hE | rw [E_MH_verify_1_L1, bnd_step rfl ez27] at hE | rw [E_MH_verify_1_L7, bnd_step rfl ez27] at hE | replace hE := bndP_step hE ez27
              refine mi_as hz33 ?_
              subst hz34
              refine mp_i (cx := []) (wr := []) hP hD hS hA [] [] rfl rfl rfl (by decide) (va_runS (As := [.int (nI 1)]) (rest := [.ref b, .int (nI 0), .ref r28, .ref h0]) F (N_MH_markSize_1 l g _ T s27 pl hO hU ) (va_cwS 1 hts (wg_app (wg_c kw_1933 (wg_c kw_1919 (wg_c kw_13 wg_n))) kw_1920) rfl rfl rfl (by decide +kernel) ⟨by decide, by decide⟩) (pp_S (en_ok g) hP hD hS hA hEn [] rfl rfl) rfl rfl hl.1 rfl (lv_room (Nat.le_of_ble_eq_true rfl)) dMH_verify_239 ⟨by omega, by omega⟩) (fun r29 u28 H locs hu28 hP hD hS => ?_)
              obtain ⟨q23, pl⟩ := u28
              obtain ⟨⟨eq28, rfl, hFc28, ⟨x44, hx_44, hb_44⟩, hxp28, -⟩, hO⟩ := hu28
              have hO : okn g T q23.2 pl := hO
              have hP : va_P g.1 vcl ([] ++ pl) _ := hP
              have hD : va_D _ ([] ++ pl) := hD
              have hFc28 : frm (M_MH_markSize_1) s27 q23.2 := hFc28
              have hb_44 : x44 < 3310 := hb_44
              replace hR := bnd_step hR eq28
              first | rw [bnd_step rfl eq28] at hE | rw [E_MH_verify_1_L0, bnd_step rfl eq28] at hE | rw [E_MH_verify_1_L1, bnd_step rfl eq28] at hE | rw [E_MH_verify_1_L7, bnd_step rfl eq28] at hE | replace hE := bndP_step hE eq28
              have hF := frm_tr hF hFc28 (fun k hk => by unfold M_MH_markSize_1 at hk; unfold M_MH_verify_1; omega)
              have hf87 : q23.2.1 225 23 = nI 1 := fc_F hf79 hFc28 (by unfold M_MH_markSize_1; omega)
              have hf88 : q23.2.1 225 24 = nI 6 := fc_F hf80 hFc28 (by unfold M_MH_markSize_1; omega)
              have hf89 : q23.2.1 225 25 = nI 5 := fc_F hf81 hFc28 (by unfold M_MH_markSize_1; omega)
              have hf90 : q23.2.1 225 26 = nI 4 := fc_F hf82 hFc28 (by unfold M_MH_markSize_1; omega)
              have hf91 : q23.2.1 225 27 = nI 524288 := fc_F hf83 hFc28 (by unfold M_MH_markSize_1; omega)
              have hf92 : q23.2.1 225 28 = nI 261888 := fc_F hf84 hFc28 (by unfold M_MH_markSize_1; omega)
              have hf93 : q23.2.1 225 29 = nI 196 := fc_F hf85 hFc28 (by unfold M_MH_markSize_1; omega)
              have hf94 : q23.2.1 225 30 = nI 48 := fc_F hf86 hFc28 (by unfold M_MH_markSize_1; omega)
              have hf95 : q23.2.1 172 6 = nI x41 := fc_F hx_41 hFc28 (by unfold M_MH_markSize_1; omega)
              have hf96 : q23.2.1 172 5 = nI x42 := fc_F hx_42 hFc28 (by unfold M_MH_markSize_1; omega)
              obtain ⟨z29, ez28, hz35, hz36⟩ := cl_of (b := 2147483648) hx_44 (by omega) (by decide)
              replace hR := bnd_step hR ez28
              first | rw [bnd_step rfl ez28] at hE | rw [E_MH_verify_1_L0, bnd_step rfl ez28] at hE | rw [E_MH_verify_1_L1, bnd_step rfl ez28] at hE | rw [E_MH_verify_1_L7, bnd_step rfl ez28] at hE | replace hE := bndP_step hE ez28
              refine mi_as hz35 ?_
              have hsz22 : z29 = 3309 := (nI_eq (by omega) (by omega)).mp (hz35.symm.trans hxp28)
              subst hsz22
              refine W.widen (k := 0) (n := 0) (by omega) (by omega) ?_
              refine lv_iload hx hb dMH_verify_242 (lv_at hl 7 rfl) ?_
              refine lv_iload hx hb dMH_verify_244 (lv_at hl 8 rfl) ?_
              refine mp_v (cx := []) (wr := []) hP hD hS hA [] [] rfl rfl rfl (by decide) (va_runV (As := [.ref r28, .int (nI 0), .ref b, .int (nI 3309), .int cl_, .int (nI ed)]) (rest := []) F (N_MH_message_1 l g _ T q23.2 pl hO hU h0 r28 b 378 64 0 pb 16384 3309 cl_ ed k_h0 kr26 rfl k_b n_b hf87 hf88 hf89 hf90 hf91 hf92 hf93 hf94 (by omega) (by omega) (by omega) (by omega) (by omega)) (cwV 6 hts (wg_app (wg_c kw_1868 (wg_c kw_1870 (wg_c ks_71 (wg_c kw_13 wg_n)))) kw_1871) rfl rfl rfl (by decide +kernel) ⟨by decide, by decide⟩) (pn_W "LatticeKeysModel$Hands" (en_ok g) (ci := 12) (kn := 225) (fl := [(3, 172), (3, 181), (3, 226), (3, 291), (3, 299), (3, 308), (3, 317), (3, 326), (3, 334), (3, 342), (3, 350), (3, 359), (3, 368), (3, 369), (3, 370), (3, 371), (3, 372), (3, 373), (3, 374), (3, 375), (3, 376), (3, 377), (3, 378), (0, 0), (0, 0), (0, 0), (0, 0), (0, 0), (0, 0), (0, 0), (0, 0)]) hK hO k_h0 rfl hP hD hS hA hEn [] rfl rfl rfl) rfl rfl hl.1 rfl (lv_room (Nat.le_of_ble_eq_true rfl)) dMH_verify_246 ⟨by omega, by omega⟩) (fun  u29 H locs hu29 hP hD hS => ?_)
              obtain ⟨s28, pl⟩ := u29
              obtain ⟨⟨eq29, hFc29, -⟩, hO⟩ := hu29
              have hO : okn g T s28 pl := hO
              have hP : va_P g.1 vcl ([] ++ pl) _ := hP
              have hD : va_D _ ([] ++ pl) := hD
              have hFc29 : frm (M_MH_message_1) q23.2 s28 := hFc29
              replace hR := bnd_step hR eq29
              first | rw [bnd_step rfl eq29] at hE | rw [E_MH_verify_1_L0, bnd_step rfl eq29] at hE | rw [E_MH_verify_1_L1, bnd_step rfl eq29] at hE | rw [E_MH_verify_1_L7, bnd_step rfl eq29] at hE | replace hE := bndP_step hE eq29
              have hF := frm_tr hF hFc29 (fun k hk => by unfold M_MH_message_1 at hk; unfold M_MH_verify_1; omega)
              have hf97 : s28.1 225 23 = nI 1 := fc_F hf87 hFc29 (by unfold M_MH_message_1; omega)
              have hf98 : s28.1 225 24 = nI 6 := fc_F hf88 hFc29 (by unfold M_MH_message_1; omega)
              have hf99 : s28.1 225 25 = nI 5 := fc_F hf89 hFc29 (by unfold M_MH_message_1; omega)
              have hf100 : s28.1 225 26 = nI 4 := fc_F hf90 hFc29 (by unfold M_MH_message_1; omega)
              have hf101 : s28.1 225 27 = nI 524288 := fc_F hf91 hFc29 (by unfold M_MH_message_1; omega)
              have hf102 : s28.1 225 28 = nI 261888 := fc_F hf92 hFc29 (by unfold M_MH_message_1; omega)
              have hf103 : s28.1 225 29 = nI 196 := fc_F hf93 hFc29 (by unfold M_MH_message_1; omega)
              have hf104 : s28.1 225 30 = nI 48 := fc_F hf94 hFc29 (by unfold M_MH_message_1; omega)
              refine W.widen (k := 0) (n := 0) (by omega) (by omega) ?_
              refine lv_aload_n hx hb dMH_verify_249 rfl (lv_at hl 4 rfl) ?_
              refine lv_aload_n hx hb dMH_verify_250 rfl (lv_at hl 5 rfl) ?_
              refine mp_v (cx := []) (wr := []) hP hD hS hA [] [] rfl rfl rfl (by decide) (va_runV (As := [.ref pk]) (rest := []) F (N_MH_expand_1 l g _ T s28 pl hO hU h0 pk pp 2592 k_h0 k_pk n_pk hf97 hf98 hf99 hf100 hf101 hf102 hf103 hf104 (by omega) (by omega) hE.1) (cwV 1 hts (wg_app (wg_c kw_1723 (wg_c kw_1725 (wg_c ks_61 (wg_c kw_13 wg_n)))) kw_1726) rfl rfl rfl (by decide +kernel) ⟨by decide, by decide⟩) (pn_W "LatticeKeysModel$Hands" (en_ok g) (ci := 12) (kn := 225) (fl := [(3, 172), (3, 181), (3, 226), (3, 291), (3, 299), (3, 308), (3, 317), (3, 326), (3, 334), (3, 342), (3, 350), (3, 359), (3, 368), (3, 369), (3, 370), (3, 371), (3, 372), (3, 373), (3, 374), (3, 375), (3, 376), (3, 377), (3, 378), (0, 0), (0, 0), (0, 0), (0, 0), (0, 0), (0, 0), (0, 0), (0, 0)]) hK hO k_h0 rfl hP hD hS hA hEn [] rfl rfl rfl) rfl rfl hl.1 rfl (lv_room (Nat.le_of_ble_eq_true rfl)) dMH_verify_251 ⟨by omega, by omega⟩) (fun  u30 H locs hu30 hP hD hS => ?_)
              obtain ⟨s29, pl⟩ := u30
              obtain ⟨⟨eq30, hFc30, -⟩, hO⟩ := hu30
              have hO : okn g T s29 pl := hO
              have hP : va_P g.1 vcl ([] ++ pl) _ := hP
              have hD : va_D _ ([] ++ pl) := hD
              have hFc30 : frm (M_MH_expand_1) s28 s29 := hFc30
              rw [and_iff_right hE.1] at hE
              replace hR := bnd_step hR eq30
              first | rw [bnd_step rfl eq30] at hE | rw [E_MH_verify_1_L0, bnd_step rfl eq30] at hE | rw [E_MH_verify_1_L1, bnd_step rfl eq30] at hE | rw [E_MH_verify_1_L7, bnd_step rfl eq30] at hE | replace hE := bndP_step hE eq30
              have hF := frm_tr hF hFc30 (fun k hk => by unfold M_MH_expand_1 at hk; unfold M_MH_verify_1; omega)
              have hf105 : s29.1 225 23 = nI 1 := fc_F hf97 hFc30 (by unfold M_MH_expand_1; omega)
              have hf106 : s29.1 225 24 = nI 6 := fc_F hf98 hFc30 (by unfold M_MH_expand_1; omega)
              have hf107 : s29.1 225 25 = nI 5 := fc_F hf99 hFc30 (by unfold M_MH_expand_1; omega)
              have hf108 : s29.1 225 26 = nI 4 := fc_F hf100 hFc30 (by unfold M_MH_expand_1; omega)
              have hf109 : s29.1 225 27 = nI 524288 := fc_F hf101 hFc30 (by unfold M_MH_expand_1; omega)
              have hf110 : s29.1 225 28 = nI 261888 := fc_F hf102 hFc30 (by unfold M_MH_expand_1; omega)
              have hf111 : s29.1 225 29 = nI 196 := fc_F hf103 hFc30 (by unfold M_MH_expand_1; omega)
              have hf112 : s29.1 225 30 = nI 48 := fc_F hf104 hFc30 (by unfold M_MH_expand_1; omega)
              refine W.widen (k := 0) (n := 0) (by omega) (by omega) ?_
              refine lv_aload_n hx hb dMH_verify_254 rfl (lv_at hl 4 rfl) ?_
              refine lv_aload_n hx hb dMH_verify_255 rfl (lv_at hl 4 rfl) ?_
              refine nw_get (C := "LatticeKeysModel$Hands") (TT := T_MH) (N := 31) hx hb hts (wg_ft i_MH) hown hK hO k_h0 (kn := 225) (ci := 12) (fl := [(3, 172), (3, 181), (3, 226), (3, 291), (3, 299), (3, 308), (3, 317), (3, 326), (3, 334), (3, 342), (3, 350), (3, 359), (3, 368), (3, 369), (3, 370), (3, 371), (3, 372), (3, 373), (3, 374), (3, 375), (3, 376), (3, 377), (3, 378), (0, 0), (0, 0), (0, 0), (0, 0), (0, 0), (0, 0), (0, 0), (0, 0)]) rfl hP rfl 20 (by decide) (hts _ (wg_t kw_1452)) (fun _ h9 => h9) (cd := (3, 376)) rfl dMH_verify_256 (fun v33 hv33 => ?_)
              obtain ⟨r30, rfl, kr27⟩ := (show ∃ r : Nat, v33 = .ref r ∧ T r = some 376 from hv33)
              refine mp_v (cx := []) (wr := []) hP hD hS hA [] [] rfl rfl rfl (by decide) (va_runV (As := [.ref r30]) (rest := []) F (N_MH_ball_1 l g _ T s29 pl hO hU h0 r30 376 k_h0 kr27 rfl hf105 hf106 hf107 hf108 hf109 hf110 hf111 hf112 hE.1) (cwV 1 hts (wg_app (wg_c kw_1893 (wg_c kw_1895 (wg_c ks_77 (wg_c kw_13 wg_n)))) kw_1896) rfl rfl rfl (by decide +kernel) ⟨by decide, by decide⟩) (pn_W "LatticeKeysModel$Hands" (en_ok g) (ci := 12) (kn := 225) (fl := [(3, 172), (3, 181), (3, 226), (3, 291), (3, 299), (3, 308), (3, 317), (3, 326), (3, 334), (3, 342), (3, 350), (3, 359), (3, 368), (3, 369), (3, 370), (3, 371), (3, 372), (3, 373), (3, 374), (3, 375), (3, 376), (3, 377), (3, 378), (0, 0), (0, 0), (0, 0), (0, 0), (0, 0), (0, 0), (0, 0), (0, 0)]) hK hO k_h0 rfl hP hD hS hA hEn [] rfl rfl rfl) rfl rfl hl.1 rfl (lv_room (Nat.le_of_ble_eq_true rfl)) dMH_verify_259 ⟨by omega, by omega⟩) (fun  u31 H locs hu31 hP hD hS => ?_)
              obtain ⟨s30, pl⟩ := u31
              obtain ⟨⟨eq31, hFc31, -⟩, hO⟩ := hu31
              have hO : okn g T s30 pl := hO
              have hP : va_P g.1 vcl ([] ++ pl) _ := hP
              have hD : va_D _ ([] ++ pl) := hD
              have hFc31 : frm (M_MH_ball_1) s29 s30 := hFc31
              rw [and_iff_right hE.1] at hE
              replace hR := bnd_step hR eq31
              first | rw [bnd_step rfl eq31] at hE | rw [E_MH_verify_1_L0, bnd_step rfl eq31] at hE | rw [E_MH_verify_1_L1, bnd_step rfl eq31] at hE | rw [E_MH_verify_1_L7, bnd_step rfl eq31] at hE | replace hE := bndP_step hE eq31
              have hF := frm_tr hF hFc31 (fun k hk => by unfold M_MH_ball_1 at hk; unfold M_MH_verify_1; omega)
              have hf113 : s30.1 225 23 = nI 1 := fc_F hf105 hFc31 (by unfold M_MH_ball_1; omega)
              have hf114 : s30.1 225 24 = nI 6 := fc_F hf106 hFc31 (by unfold M_MH_ball_1; omega)
              have hf115 : s30.1 225 25 = nI 5 := fc_F hf107 hFc31 (by unfold M_MH_ball_1; omega)
              have hf116 : s30.1 225 26 = nI 4 := fc_F hf108 hFc31 (by unfold M_MH_ball_1; omega)
              have hf117 : s30.1 225 27 = nI 524288 := fc_F hf109 hFc31 (by unfold M_MH_ball_1; omega)
              have hf118 : s30.1 225 28 = nI 261888 := fc_F hf110 hFc31 (by unfold M_MH_ball_1; omega)
              have hf119 : s30.1 225 29 = nI 196 := fc_F hf111 hFc31 (by unfold M_MH_ball_1; omega)
              have hf120 : s30.1 225 30 = nI 48 := fc_F hf112 hFc31 (by unfold M_MH_ball_1; omega)
              refine W.widen (k := 0) (n := 0) (by omega) (by omega) ?_
              refine lv_iconst (v := nI 0) hx hb dMH_verify_262 (by decide) ?_
              refine lv_istore (lv' := [(9, .int (nI 0)), (8, .int z24), (7, .int (nI az21)), (6, .int (nI 20)), (0, .ref h0), (2, .ref pk), (3, .ref b), (4, .int cl_), (5, .int (nI ed))]) hx hb dMH_verify_263 hl (by decide) rfl (fun ls hl => ?_)
              clear hE
              have lp23 : ∀ (n23 : Nat) (i23 : Nat) (s31 : Sto) (pl : va_W) (ls : Array Slot) (H : Heap) (locs : List Loc), n23 + i23 = 5 → frm (M_MH_verify_1) s s31 → s31.1 225 23 = nI 1 → s31.1 225 24 = nI 6 → s31.1 225 25 = nI 5 → s31.1 225 26 = nI 4 → s31.1 225 27 = nI 524288 → s31.1 225 28 = nI 261888 → s31.1 225 29 = nI 196 → s31.1 225 30 = nI 48 → F_MH_verify_1 pp pb cl_ ed s = F_MH_verify_1_L2 pp n23 i23 s31 → lv_has ls 11 [(9, .int (nI i23)), (0, .ref h0), (2, .ref pk)] → okn g T s31 pl → va_P g.1 vcl ([] ++ pl) H → va_D A ([] ++ pl) → va_S A s0.heap H locs → W p l e ({ frames := 5, cells := 0, slots := 0, locals := 116 } : Room) s0 m args below meth c H locs 0 0 (MQ below (va_Qi (fun (r : Int32) (u : (Int32 × Sto) × va_W) => (u.1 = F_MH_verify_1 pp pb cl_ ed s ∧ r = u.1.1 ∧ frm (M_MH_verify_1) s u.1.2 ∧ (∃ x : Nat, u.1.1 = nI x ∧ x < 2) ∧ True) ∧ okn g T u.1.2 u.2) (po g.1 vcl A (fun (u : (Int32 × Sto) × va_W) => [] ++ u.2)) A) args s0 0 0 A) (F0 m 265 ls []) := by
                intro n23
                induction n23 with
                | zero =>
                  intro i23 s31 pl ls H locs hm23 hF hf121 hf122 hf123 hf124 hf125 hf126 hf127 hf128 hR hl hO hP hD hS
                  refine lv_iload hx hb dMH_verify_265 (lv_at hl 0 rfl) ?_
                  refine lv_aload_n hx hb dMH_verify_267 rfl (lv_at hl 1 rfl) ?_
                  refine nw_get (C := "LatticeKeysModel$Hands") (TT := T_MH) (N := 31) hx hb hts (wg_ft i_MH) hown hK hO k_h0 (kn := 225) (ci := 12) (fl := [(3, 172), (3, 181), (3, 226), (3, 291), (3, 299), (3, 308), (3, 317), (3, 326), (3, 334), (3, 342), (3, 350), (3, 359), (3, 368), (3, 369), (3, 370), (3, 371), (3, 372), (3, 373), (3, 374), (3, 375), (3, 376), (3, 377), (3, 378), (0, 0), (0, 0), (0, 0), (0, 0), (0, 0), (0, 0), (0, 0), (0, 0)]) rfl hP rfl 25 (by decide) (hts _ (wg_t kw_1457)) (fun _ h9 => h9) (cd := (0, 0)) rfl dMH_verify_268 (fun v34 hv34 => ?_)
                  obtain rfl := (show v34 = .int (s31.1 225 25) from hv34)
                  obtain ⟨z30, ez29, hz37, hz38⟩ := cl_of (b := 2147483648) hf123 (by omega) (by decide)
                  replace hR := bnd_step hR ez29
                  refine mi_as hz37 ?_
                  subst hz38
                  refine mi_ge (tgt := 303) hx hb dMH_verify_271 (by decide) (by omega) (by omega) (fun h26 => ?_) (fun h26 => absurd h26 (by omega))
                  refine lv_iconst (v := nI 0) hx hb dMH_verify_303 (by decide) ?_
                  refine lv_istore (lv' := [(9, .int (nI 0)), (0, .ref h0), (2, .ref pk)]) hx hb dMH_verify_304 hl (by decide) rfl (fun ls hl => ?_)
                  have lp24 : ∀ (n24 : Nat) (i24 : Nat) (s32 : Sto) (pl : va_W) (ls : Array Slot) (H : Heap) (locs : List Loc), n24 + i24 = 6 → frm (M_MH_verify_1) s s32 → s32.1 225 23 = nI 1 → s32.1 225 24 = nI 6 → s32.1 225 25 = nI 5 → s32.1 225 26 = nI 4 → s32.1 225 27 = nI 524288 → s32.1 225 28 = nI 261888 → s32.1 225 29 = nI 196 → s32.1 225 30 = nI 48 → F_MH_verify_1 pp pb cl_ ed s = F_MH_verify_1_L3 pp n24 i24 s32 → lv_has ls 11 [(9, .int (nI i24)), (0, .ref h0), (2, .ref pk)] → okn g T s32 pl → va_P g.1 vcl ([] ++ pl) H → va_D A ([] ++ pl) → va_S A s0.heap H locs → W p l e ({ frames := 5, cells := 0, slots := 0, locals := 116 } : Room) s0 m args below meth c H locs 0 0 (MQ below (va_Qi (fun (r : Int32) (u : (Int32 × Sto) × va_W) => (u.1 = F_MH_verify_1 pp pb cl_ ed s ∧ r = u.1.1 ∧ frm (M_MH_verify_1) s u.1.2 ∧ (∃ x : Nat, u.1.1 = nI x ∧ x < 2) ∧ True) ∧ okn g T u.1.2 u.2) (po g.1 vcl A (fun (u : (Int32 × Sto) × va_W) => [] ++ u.2)) A) args s0 0 0 A) (F0 m 306 ls []) := by
                    intro n24
                    induction n24 with
                    | zero =>
                      intro i24 s32 pl ls H locs hm24 hF hf129 hf130 hf131 hf132 hf133 hf134 hf135 hf136 hR hl hO hP hD hS
                      refine lv_iload hx hb dMH_verify_306 (lv_at hl 0 rfl) ?_
                      refine lv_aload_n hx hb dMH_verify_308 rfl (lv_at hl 1 rfl) ?_
                      refine nw_get (C := "LatticeKeysModel$Hands") (TT := T_MH) (N := 31) hx hb hts (wg_ft i_MH) hown hK hO k_h0 (kn := 225) (ci := 12) (fl := [(3, 172), (3, 181), (3, 226), (3, 291), (3, 299), (3, 308), (3, 317), (3, 326), (3, 334), (3, 342), (3, 350), (3, 359), (3, 368), (3, 369), (3, 370), (3, 371), (3, 372), (3, 373), (3, 374), (3, 375), (3, 376), (3, 377), (3, 378), (0, 0), (0, 0), (0, 0), (0, 0), (0, 0), (0, 0), (0, 0), (0, 0)]) rfl hP rfl 24 (by decide) (hts _ (wg_t kw_1456)) (fun _ h9 => h9) (cd := (0, 0)) rfl dMH_verify_309 (fun v35 hv35 => ?_)
                      obtain rfl := (show v35 = .int (s32.1 225 24) from hv35)
                      obtain ⟨z31, ez30, hz39, hz40⟩ := cl_of (b := 2147483648) hf130 (by omega) (by decide)
                      replace hR := bnd_step hR ez30
                      refine mi_as hz39 ?_
                      subst hz40
                      refine mi_ge (tgt := 448) hx hb dMH_verify_312 (by decide) (by omega) (by omega) (fun h27 => ?_) (fun h27 => absurd h27 (by omega))
                      refine lv_aload_n hx hb dMH_verify_448 rfl (lv_at hl 1 rfl) ?_
                      refine lv_iconst (v := nI 1) hx hb dMH_verify_449 (by decide) ?_
                      refine lv_aload_n hx hb dMH_verify_450 rfl (lv_at hl 1 rfl) ?_
                      refine nw_get (C := "LatticeKeysModel$Hands") (TT := T_MH) (N := 31) hx hb hts (wg_ft i_MH) hown hK hO k_h0 (kn := 225) (ci := 12) (fl := [(3, 172), (3, 181), (3, 226), (3, 291), (3, 299), (3, 308), (3, 317), (3, 326), (3, 334), (3, 342), (3, 350), (3, 359), (3, 368), (3, 369), (3, 370), (3, 371), (3, 372), (3, 373), (3, 374), (3, 375), (3, 376), (3, 377), (3, 378), (0, 0), (0, 0), (0, 0), (0, 0), (0, 0), (0, 0), (0, 0), (0, 0)]) rfl hP rfl 21 (by decide) (hts _ (wg_t kw_1453)) (fun _ h9 => h9) (cd := (3, 377)) rfl dMH_verify_451 (fun v36 hv36 => ?_)
                      obtain ⟨r31, rfl, kr28⟩ := (show ∃ r : Nat, v36 = .ref r ∧ T r = some 377 from hv36)
                      refine mp_v (cx := []) (wr := []) hP hD hS hA [] [] rfl rfl rfl (by decide) (va_runV (As := [.int (nI 1), .ref r31]) (rest := []) F (N_MH_marked_1 l g _ T s32 pl hO hU h0 r31 (nI 1) 377 k_h0 kr28 rfl hf129 hf130 hf131 hf132 hf133 hf134 hf135 hf136) (cwV 2 hts (wg_app (wg_c kw_1876 (wg_c kw_1878 (wg_c ks_73 (wg_c kw_13 wg_n)))) kw_1879) rfl rfl rfl (by decide +kernel) ⟨by decide, by decide⟩) (pn_W "LatticeKeysModel$Hands" (en_ok g) (ci := 12) (kn := 225) (fl := [(3, 172), (3, 181), (3, 226), (3, 291), (3, 299), (3, 308), (3, 317), (3, 326), (3, 334), (3, 342), (3, 350), (3, 359), (3, 368), (3, 369), (3, 370), (3, 371), (3, 372), (3, 373), (3, 374), (3, 375), (3, 376), (3, 377), (3, 378), (0, 0), (0, 0), (0, 0), (0, 0), (0, 0), (0, 0), (0, 0), (0, 0)]) hK hO k_h0 rfl hP hD hS hA hEn [] rfl rfl rfl) rfl rfl hl.1 rfl (lv_room (Nat.le_of_ble_eq_true rfl)) dMH_verify_454 ⟨by omega, by omega⟩) (fun  u32 H locs hu32 hP hD hS => ?_)
                      obtain ⟨s33, pl⟩ := u32
                      obtain ⟨⟨eq32, hFc32, -⟩, hO⟩ := hu32
                      have hO : okn g T s33 pl := hO
                      have hP : va_P g.1 vcl ([] ++ pl) _ := hP
                      have hD : va_D _ ([] ++ pl) := hD
                      have hFc32 : frm (M_MH_marked_1 377) s32 s33 := hFc32
                      replace hR := bnd_step hR eq32
                      have hF := frm_tr hF hFc32 (fun k hk => by unfold M_MH_marked_1 at hk; unfold M_MH_verify_1; omega)
                      have hf137 : s33.1 225 23 = nI 1 := fc_F hf129 hFc32 (by unfold M_MH_marked_1; omega)
                      have hf138 : s33.1 225 24 = nI 6 := fc_F hf130 hFc32 (by unfold M_MH_marked_1; omega)
                      have hf139 : s33.1 225 25 = nI 5 := fc_F hf131 hFc32 (by unfold M_MH_marked_1; omega)
                      have hf140 : s33.1 225 26 = nI 4 := fc_F hf132 hFc32 (by unfold M_MH_marked_1; omega)
                      have hf141 : s33.1 225 27 = nI 524288 := fc_F hf133 hFc32 (by unfold M_MH_marked_1; omega)
                      have hf142 : s33.1 225 28 = nI 261888 := fc_F hf134 hFc32 (by unfold M_MH_marked_1; omega)
                      have hf143 : s33.1 225 29 = nI 196 := fc_F hf135 hFc32 (by unfold M_MH_marked_1; omega)
                      have hf144 : s33.1 225 30 = nI 48 := fc_F hf136 hFc32 (by unfold M_MH_marked_1; omega)
                      refine W.widen (k := 0) (n := 0) (by omega) (by omega) ?_
                      refine lv_iconst (v := nI 0) hx hb dMH_verify_457 (by decide) ?_
                      refine lv_istore (lv' := [(9, .int (nI 0)), (0, .ref h0), (2, .ref pk)]) hx hb dMH_verify_458 hl (by decide) rfl (fun ls hl => ?_)
                      have lp25 : ∀ (n25 : Nat) (i25 : Nat) (s34 : Sto) (pl : va_W) (ls : Array Slot) (H : Heap) (locs : List Loc), n25 + i25 = 48 → frm (M_MH_verify_1) s s34 → s34.1 225 23 = nI 1 → s34.1 225 24 = nI 6 → s34.1 225 25 = nI 5 → s34.1 225 26 = nI 4 → s34.1 225 27 = nI 524288 → s34.1 225 28 = nI 261888 → s34.1 225 29 = nI 196 → s34.1 225 30 = nI 48 → F_MH_verify_1 pp pb cl_ ed s = F_MH_verify_1_L4 n25 i25 s34 → lv_has ls 11 [(9, .int (nI i25)), (0, .ref h0)] → okn g T s34 pl → va_P g.1 vcl ([] ++ pl) H → va_D A ([] ++ pl) → va_S A s0.heap H locs → W p l e ({ frames := 5, cells := 0, slots := 0, locals := 116 } : Room) s0 m args below meth c H locs 0 0 (MQ below (va_Qi (fun (r : Int32) (u : (Int32 × Sto) × va_W) => (u.1 = F_MH_verify_1 pp pb cl_ ed s ∧ r = u.1.1 ∧ frm (M_MH_verify_1) s u.1.2 ∧ (∃ x : Nat, u.1.1 = nI x ∧ x < 2) ∧ True) ∧ okn g T u.1.2 u.2) (po g.1 vcl A (fun (u : (Int32 × Sto) × va_W) => [] ++ u.2)) A) args s0 0 0 A) (F0 m 460 ls []) := by
                        intro n25
                        induction n25 with
                        | zero =>
                          intro i25 s34 pl ls H locs hm25 hF hf145 hf146 hf147 hf148 hf149 hf150 hf151 hf152 hR hl hO hP hD hS
                          refine lv_iload hx hb dMH_verify_460 (lv_at hl 0 rfl) ?_
                          refine lv_aload_n hx hb dMH_verify_462 rfl (lv_at hl 1 rfl) ?_
                          refine nw_get (C := "LatticeKeysModel$Hands") (TT := T_MH) (N := 31) hx hb hts (wg_ft i_MH) hown hK hO k_h0 (kn := 225) (ci := 12) (fl := [(3, 172), (3, 181), (3, 226), (3, 291), (3, 299), (3, 308), (3, 317), (3, 326), (3, 334), (3, 342), (3, 350), (3, 359), (3, 368), (3, 369), (3, 370), (3, 371), (3, 372), (3, 373), (3, 374), (3, 375), (3, 376), (3, 377), (3, 378), (0, 0), (0, 0), (0, 0), (0, 0), (0, 0), (0, 0), (0, 0), (0, 0)]) rfl hP rfl 30 (by decide) (hts _ (wg_t kw_1462)) (fun _ h9 => h9) (cd := (0, 0)) rfl dMH_verify_463 (fun v37 hv37 => ?_)
                          obtain rfl := (show v37 = .int (s34.1 225 30) from hv37)
                          obtain ⟨z32, ez31, hz41, hz42⟩ := cl_of (b := 2147483648) hf152 (by omega) (by decide)
                          replace hR := bnd_step hR ez31
                          refine mi_as hz41 ?_
                          subst hz42
                          refine mi_ge (tgt := 494) hx hb dMH_verify_466 (by decide) (by omega) (by omega) (fun h28 => ?_) (fun h28 => absurd h28 (by omega))
                          refine lv_iconst (v := nI 1) hx hb dMH_verify_494 (by decide) ?_
                          exact mp_zret hx hb hr hlk rfl hP hD hS ((nI 1, s34), pl) ⟨⟨hR.symm, rfl, hF, ⟨1, rfl, by omega⟩, trivial⟩, hO⟩ [] rfl rfl rfl (by omega) (by omega) dMH_verify_495
                        | succ n25 ih25 =>
                          intro i25 s34 pl ls H locs hm25 hF hf153 hf154 hf155 hf156 hf157 hf158 hf159 hf160 hR hl hO hP hD hS
                          refine lv_iload hx hb dMH_verify_460 (lv_at hl 0 rfl) ?_
                          refine lv_aload_n hx hb dMH_verify_462 rfl (lv_at hl 1 rfl) ?_
                          refine nw_get (C := "LatticeKeysModel$Hands") (TT := T_MH) (N := 31) hx hb hts (wg_ft i_MH) hown hK hO k_h0 (kn := 225) (ci := 12) (fl := [(3, 172), (3, 181), (3, 226), (3, 291), (3, 299), (3, 308), (3, 317), (3, 326), (3, 334), (3, 342), (3, 350), (3, 359), (3, 368), (3, 369), (3, 370), (3, 371), (3, 372), (3, 373), (3, 374), (3, 375), (3, 376), (3, 377), (3, 378), (0, 0), (0, 0), (0, 0), (0, 0), (0, 0), (0, 0), (0, 0), (0, 0)]) rfl hP rfl 30 (by decide) (hts _ (wg_t kw_1462)) (fun _ h9 => h9) (cd := (0, 0)) rfl dMH_verify_463 (fun v38 hv38 => ?_)
                          obtain rfl := (show v38 = .int (s34.1 225 30) from hv38)
                          obtain ⟨z33, ez32, hz43, hz44⟩ := cl_of (b := 2147483648) hf160 (by omega) (by decide)
                          replace hR := bnd_step hR ez32
                          refine mi_as hz43 ?_
                          subst hz44
                          refine mi_ge (tgt := 494) hx hb dMH_verify_466 (by decide) (by omega) (by omega) (fun h29 => absurd h29 (by omega)) (fun h29 => ?_)
                          refine lv_aload_n hx hb dMH_verify_469 rfl (lv_at hl 1 rfl) ?_
                          refine nw_get (C := "LatticeKeysModel$Hands") (TT := T_MH) (N := 31) hx hb hts (wg_ft i_MH) hown hK hO k_h0 (kn := 225) (ci := 12) (fl := [(3, 172), (3, 181), (3, 226), (3, 291), (3, 299), (3, 308), (3, 317), (3, 326), (3, 334), (3, 342), (3, 350), (3, 359), (3, 368), (3, 369), (3, 370), (3, 371), (3, 372), (3, 373), (3, 374), (3, 375), (3, 376), (3, 377), (3, 378), (0, 0), (0, 0), (0, 0), (0, 0), (0, 0), (0, 0), (0, 0), (0, 0)]) rfl hP rfl 21 (by decide) (hts _ (wg_t kw_1453)) (fun _ h9 => h9) (cd := (3, 377)) rfl dMH_verify_470 (fun v39 hv39 => ?_)
                          obtain ⟨r32, rfl, kr29⟩ := (show ∃ r : Nat, v39 = .ref r ∧ T r = some 377 from hv39)
                          refine lv_iload hx hb dMH_verify_473 (lv_at hl 0 rfl) ?_
                          refine nw_bald hx hb hK hO kr29 (k := 377) rfl hP (by omega) (by omega) dMH_verify_475 ?_
                          refine lv_aload_n hx hb dMH_verify_476 rfl (lv_at hl 1 rfl) ?_
                          refine nw_get (C := "LatticeKeysModel$Hands") (TT := T_MH) (N := 31) hx hb hts (wg_ft i_MH) hown hK hO k_h0 (kn := 225) (ci := 12) (fl := [(3, 172), (3, 181), (3, 226), (3, 291), (3, 299), (3, 308), (3, 317), (3, 326), (3, 334), (3, 342), (3, 350), (3, 359), (3, 368), (3, 369), (3, 370), (3, 371), (3, 372), (3, 373), (3, 374), (3, 375), (3, 376), (3, 377), (3, 378), (0, 0), (0, 0), (0, 0), (0, 0), (0, 0), (0, 0), (0, 0), (0, 0)]) rfl hP rfl 20 (by decide) (hts _ (wg_t kw_1452)) (fun _ h9 => h9) (cd := (3, 376)) rfl dMH_verify_477 (fun v40 hv40 => ?_)
                          obtain ⟨r33, rfl, kr30⟩ := (show ∃ r : Nat, v40 = .ref r ∧ T r = some 376 from hv40)
                          refine lv_iload hx hb dMH_verify_480 (lv_at hl 0 rfl) ?_
                          refine nw_bald hx hb hK hO kr30 (k := 376) rfl hP (by omega) (by omega) dMH_verify_482 ?_
                          refine lv_icmp_eq (tgt := 488) hx hb dMH_verify_483 (by decide) (fun h30 => ?_) (fun h30 => ?_)
                          · replace hR := hR.trans (if_pos h30)
                            refine mi_iinc (k := 0) (x := i25) (d := 1) (y := i25 + 1) (lv' := [(9, .int (nI (i25 + 1))), (0, .ref h0)]) hx hb dMH_verify_488 hl rfl (by decide) rfl (by decide) rfl (fun ls hl => ?_)
                            refine lv_goto (tgt := 460) hx hb dMH_verify_491 (by decide) ?_
                            exact ih25 (i25 + 1) s34 pl ls H locs (by omega) hF hf153 hf154 hf155 hf156 hf157 hf158 hf159 hf160 hR (lv_sub hl [0, 1] rfl) hO hP hD hS
                          · replace hR := hR.trans (if_neg h30)
                            refine lv_iconst (v := nI 0) hx hb dMH_verify_486 (by decide) ?_
                            exact mp_zret hx hb hr hlk rfl hP hD hS ((nI 0, s34), pl) ⟨⟨hR.symm, rfl, hF, ⟨0, rfl, by omega⟩, trivial⟩, hO⟩ [] rfl rfl rfl (by omega) (by omega) dMH_verify_487
                      exact lp25 48 0 s33 pl ls _ _ (by omega) hF hf137 hf138 hf139 hf140 hf141 hf142 hf143 hf144 hR (lv_sub hl [0, 1] rfl) hO hP hD hS
                    | succ n24 ih24 =>
                      intro i24 s32 pl ls H locs hm24 hF hf161 hf162 hf163 hf164 hf165 hf166 hf167 hf168 hR hl hO hP hD hS
                      refine lv_iload hx hb dMH_verify_306 (lv_at hl 0 rfl) ?_
                      refine lv_aload_n hx hb dMH_verify_308 rfl (lv_at hl 1 rfl) ?_
                      refine nw_get (C := "LatticeKeysModel$Hands") (TT := T_MH) (N := 31) hx hb hts (wg_ft i_MH) hown hK hO k_h0 (kn := 225) (ci := 12) (fl := [(3, 172), (3, 181), (3, 226), (3, 291), (3, 299), (3, 308), (3, 317), (3, 326), (3, 334), (3, 342), (3, 350), (3, 359), (3, 368), (3, 369), (3, 370), (3, 371), (3, 372), (3, 373), (3, 374), (3, 375), (3, 376), (3, 377), (3, 378), (0, 0), (0, 0), (0, 0), (0, 0), (0, 0), (0, 0), (0, 0), (0, 0)]) rfl hP rfl 24 (by decide) (hts _ (wg_t kw_1456)) (fun _ h9 => h9) (cd := (0, 0)) rfl dMH_verify_309 (fun v41 hv41 => ?_)
                      obtain rfl := (show v41 = .int (s32.1 225 24) from hv41)
                      obtain ⟨z34, ez33, hz45, hz46⟩ := cl_of (b := 2147483648) hf162 (by omega) (by decide)
                      replace hR := bnd_step hR ez33
                      refine mi_as hz45 ?_
                      subst hz46
                      refine mi_ge (tgt := 448) hx hb dMH_verify_312 (by decide) (by omega) (by omega) (fun h31 => absurd h31 (by omega)) (fun h31 => ?_)
                      refine lv_aload_n hx hb dMH_verify_315 rfl (lv_at hl 1 rfl) ?_
                      refine lv_iload hx hb dMH_verify_316 (lv_at hl 0 rfl) ?_
                      refine lv_aload_n hx hb dMH_verify_318 rfl (lv_at hl 1 rfl) ?_
                      refine nw_get (C := "LatticeKeysModel$Hands") (TT := T_MH) (N := 31) hx hb hts (wg_ft i_MH) hown hK hO k_h0 (kn := 225) (ci := 12) (fl := [(3, 172), (3, 181), (3, 226), (3, 291), (3, 299), (3, 308), (3, 317), (3, 326), (3, 334), (3, 342), (3, 350), (3, 359), (3, 368), (3, 369), (3, 370), (3, 371), (3, 372), (3, 373), (3, 374), (3, 375), (3, 376), (3, 377), (3, 378), (0, 0), (0, 0), (0, 0), (0, 0), (0, 0), (0, 0), (0, 0), (0, 0)]) rfl hP rfl 10 (by decide) (hts _ (wg_t kw_1442)) (fun _ h9 => h9) (cd := (3, 350)) rfl dMH_verify_319 (fun v42 hv42 => ?_)
                      obtain ⟨r34, rfl, kr31⟩ := (show ∃ r : Nat, v42 = .ref r ∧ T r = some 350 from hv42)
                      refine lv_iload hx hb dMH_verify_322 (lv_at hl 0 rfl) ?_
                      refine nw_aald3 hx hb hK hO kr31 (k := 350) (b := 351) rfl hP (by omega) (by omega) dMH_verify_324 (fun r35 kr32 => ?_)
                      have hn21 : nsp (351 + i24) = (0, 256, []) := rows_ok 351 8 (by decide) _ (by omega)
                      refine mp_v (cx := []) (wr := []) hP hD hS hA [] [] rfl rfl rfl (by decide) (va_runV (As := [.int (nI i24), .ref r35]) (rest := []) F (N_MH_rowBy_1 l g _ T s32 pl hO hU h0 r35 i24 (351 + i24) k_h0 kr32 hn21 hf161 hf162 hf163 hf164 hf165 hf166 hf167 hf168 (by omega)) (cwV 2 hts (wg_app (wg_c kw_1734 (wg_c kw_1736 (wg_c ks_63 (wg_c kw_13 wg_n)))) kw_1737) rfl rfl rfl (by decide +kernel) ⟨by decide, by decide⟩) (pn_W "LatticeKeysModel$Hands" (en_ok g) (ci := 12) (kn := 225) (fl := [(3, 172), (3, 181), (3, 226), (3, 291), (3, 299), (3, 308), (3, 317), (3, 326), (3, 334), (3, 342), (3, 350), (3, 359), (3, 368), (3, 369), (3, 370), (3, 371), (3, 372), (3, 373), (3, 374), (3, 375), (3, 376), (3, 377), (3, 378), (0, 0), (0, 0), (0, 0), (0, 0), (0, 0), (0, 0), (0, 0), (0, 0)]) hK hO k_h0 rfl hP hD hS hA hEn [] rfl rfl rfl) rfl rfl hl.1 rfl (lv_room (Nat.le_of_ble_eq_true rfl)) dMH_verify_325 ⟨by omega, by omega⟩) (fun  u33 H locs hu33 hP hD hS => ?_)
                      obtain ⟨s35, pl⟩ := u33
                      obtain ⟨⟨eq33, hFc33, -⟩, hO⟩ := hu33
                      have hO : okn g T s35 pl := hO
                      have hP : va_P g.1 vcl ([] ++ pl) _ := hP
                      have hD : va_D _ ([] ++ pl) := hD
                      have hFc33 : frm (M_MH_rowBy_1 (351 + i24)) s32 s35 := hFc33
                      replace hR := bnd_step hR eq33
                      have hF := frm_tr hF hFc33 (fun k hk => by unfold M_MH_rowBy_1 at hk; unfold M_MH_verify_1; omega)
                      have hf169 : s35.1 225 23 = nI 1 := fc_F hf161 hFc33 (by unfold M_MH_rowBy_1; omega)
                      have hf170 : s35.1 225 24 = nI 6 := fc_F hf162 hFc33 (by unfold M_MH_rowBy_1; omega)
                      have hf171 : s35.1 225 25 = nI 5 := fc_F hf163 hFc33 (by unfold M_MH_rowBy_1; omega)
                      have hf172 : s35.1 225 26 = nI 4 := fc_F hf164 hFc33 (by unfold M_MH_rowBy_1; omega)
                      have hf173 : s35.1 225 27 = nI 524288 := fc_F hf165 hFc33 (by unfold M_MH_rowBy_1; omega)
                      have hf174 : s35.1 225 28 = nI 261888 := fc_F hf166 hFc33 (by unfold M_MH_rowBy_1; omega)
                      have hf175 : s35.1 225 29 = nI 196 := fc_F hf167 hFc33 (by unfold M_MH_rowBy_1; omega)
                      have hf176 : s35.1 225 30 = nI 48 := fc_F hf168 hFc33 (by unfold M_MH_rowBy_1; omega)
                      refine W.widen (k := 0) (n := 0) (by omega) (by omega) ?_
                      refine lv_iconst (v := nI 0) hx hb dMH_verify_328 (by decide) ?_
                      refine lv_istore (lv' := [(10, .int (nI 0)), (9, .int (nI i24)), (0, .ref h0), (2, .ref pk)]) hx hb dMH_verify_329 hl (by decide) rfl (fun ls hl => ?_)
                      have lp26 : ∀ (n26 : Nat) (i26 : Nat) (s36 : Sto) (pl : va_W) (ls : Array Slot) (H : Heap) (locs : List Loc), n26 + i26 = 256 → frm (M_MH_verify_1) s s36 → s36.1 225 23 = nI 1 → s36.1 225 24 = nI 6 → s36.1 225 25 = nI 5 → s36.1 225 26 = nI 4 → s36.1 225 27 = nI 524288 → s36.1 225 28 = nI 261888 → s36.1 225 29 = nI 196 → s36.1 225 30 = nI 48 → F_MH_verify_1 pp pb cl_ ed s = F_MH_verify_1_L5 pp i24 (F_MH_verify_1_L3 pp n24) n26 i26 s36 → lv_has ls 11 [(10, .int (nI i26)), (9, .int (nI i24)), (0, .ref h0), (2, .ref pk)] → okn g T s36 pl → va_P g.1 vcl ([] ++ pl) H → va_D A ([] ++ pl) → va_S A s0.heap H locs → W p l e ({ frames := 5, cells := 0, slots := 0, locals := 116 } : Room) s0 m args below meth c H locs 0 0 (MQ below (va_Qi (fun (r : Int32) (u : (Int32 × Sto) × va_W) => (u.1 = F_MH_verify_1 pp pb cl_ ed s ∧ r = u.1.1 ∧ frm (M_MH_verify_1) s u.1.2 ∧ (∃ x : Nat, u.1.1 = nI x ∧ x < 2) ∧ True) ∧ okn g T u.1.2 u.2) (po g.1 vcl A (fun (u : (Int32 × Sto) × va_W) => [] ++ u.2)) A) args s0 0 0 A) (F0 m 331 ls []) := by
                        intro n26
                        induction n26 with
                        | zero =>
                          intro i26 s36 pl ls H locs hm26 hF hf177 hf178 hf179 hf180 hf181 hf182 hf183 hf184 hR hl hO hP hD hS
                          refine lv_iload hx hb dMH_verify_331 (lv_at hl 0 rfl) ?_
                          refine lv_sipush (v := nI 256) hx hb dMH_verify_333 (by decide) ?_
                          refine mi_ge (tgt := 380) hx hb dMH_verify_336 (by decide) (by omega) (by omega) (fun h32 => ?_) (fun h32 => absurd h32 (by omega))
                          refine lv_aload_n hx hb dMH_verify_380 rfl (lv_at hl 2 rfl) ?_
                          refine lv_aload_n hx hb dMH_verify_381 rfl (lv_at hl 2 rfl) ?_
                          refine nw_get (C := "LatticeKeysModel$Hands") (TT := T_MH) (N := 31) hx hb hts (wg_ft i_MH) hown hK hO k_h0 (kn := 225) (ci := 12) (fl := [(3, 172), (3, 181), (3, 226), (3, 291), (3, 299), (3, 308), (3, 317), (3, 326), (3, 334), (3, 342), (3, 350), (3, 359), (3, 368), (3, 369), (3, 370), (3, 371), (3, 372), (3, 373), (3, 374), (3, 375), (3, 376), (3, 377), (3, 378), (0, 0), (0, 0), (0, 0), (0, 0), (0, 0), (0, 0), (0, 0), (0, 0)]) rfl hP rfl 6 (by decide) (hts _ (wg_t kw_1438)) (fun _ h9 => h9) (cd := (3, 317)) rfl dMH_verify_382 (fun v43 hv43 => ?_)
                          obtain ⟨r36, rfl, kr33⟩ := (show ∃ r : Nat, v43 = .ref r ∧ T r = some 317 from hv43)
                          refine lv_iload hx hb dMH_verify_385 (lv_at hl 1 rfl) ?_
                          refine nw_aald3 hx hb hK hO kr33 (k := 317) (b := 318) rfl hP (by omega) (by omega) dMH_verify_387 (fun r37 kr34 => ?_)
                          have hn22 : nsp (318 + i24) = (0, 256, []) := rows_ok 318 8 (by decide) _ (by omega)
                          refine lv_aload_n hx hb dMH_verify_388 rfl (lv_at hl 2 rfl) ?_
                          refine nw_get (C := "LatticeKeysModel$Hands") (TT := T_MH) (N := 31) hx hb hts (wg_ft i_MH) hown hK hO k_h0 (kn := 225) (ci := 12) (fl := [(3, 172), (3, 181), (3, 226), (3, 291), (3, 299), (3, 308), (3, 317), (3, 326), (3, 334), (3, 342), (3, 350), (3, 359), (3, 368), (3, 369), (3, 370), (3, 371), (3, 372), (3, 373), (3, 374), (3, 375), (3, 376), (3, 377), (3, 378), (0, 0), (0, 0), (0, 0), (0, 0), (0, 0), (0, 0), (0, 0), (0, 0)]) rfl hP rfl 13 (by decide) (hts _ (wg_t kw_1445)) (fun _ h9 => h9) (cd := (3, 369)) rfl dMH_verify_389 (fun v44 hv44 => ?_)
                          obtain ⟨r38, rfl, kr35⟩ := (show ∃ r : Nat, v44 = .ref r ∧ T r = some 369 from hv44)
                          refine mp_v (cx := []) (wr := []) hP hD hS hA [] [] rfl rfl rfl (by decide) (va_runV (As := [.ref r37, .ref r38]) (rest := []) F (N_MH_turned_1 l g _ T s36 pl hO hU h0 r37 r38 (318 + i24) 369 k_h0 kr34 hn22 kr35 rfl hf177 hf178 hf179 hf180 hf181 hf182 hf183 hf184) (cwV 2 hts (wg_app (wg_c kw_1901 (wg_c kw_1903 (wg_c ks_79 (wg_c kw_13 wg_n)))) kw_1904) rfl rfl rfl (by decide +kernel) ⟨by decide, by decide⟩) (pn_W "LatticeKeysModel$Hands" (en_ok g) (ci := 12) (kn := 225) (fl := [(3, 172), (3, 181), (3, 226), (3, 291), (3, 299), (3, 308), (3, 317), (3, 326), (3, 334), (3, 342), (3, 350), (3, 359), (3, 368), (3, 369), (3, 370), (3, 371), (3, 372), (3, 373), (3, 374), (3, 375), (3, 376), (3, 377), (3, 378), (0, 0), (0, 0), (0, 0), (0, 0), (0, 0), (0, 0), (0, 0), (0, 0)]) hK hO k_h0 rfl hP hD hS hA hEn [] rfl rfl rfl) rfl rfl hl.1 rfl (lv_room (Nat.le_of_ble_eq_true rfl)) dMH_verify_392 ⟨by omega, by omega⟩) (fun  u34 H locs hu34 hP hD hS => ?_)
                          obtain ⟨s37, pl⟩ := u34
                          obtain ⟨⟨eq34, hFc34, -⟩, hO⟩ := hu34
                          have hO : okn g T s37 pl := hO
                          have hP : va_P g.1 vcl ([] ++ pl) _ := hP
                          have hD : va_D _ ([] ++ pl) := hD
                          have hFc34 : frm (M_MH_turned_1 369) s36 s37 := hFc34
                          replace hR := bnd_step hR eq34
                          have hF := frm_tr hF hFc34 (fun k hk => by unfold M_MH_turned_1 at hk; unfold M_MH_verify_1; omega)
                          have hf185 : s37.1 225 23 = nI 1 := fc_F hf177 hFc34 (by unfold M_MH_turned_1; omega)
                          have hf186 : s37.1 225 24 = nI 6 := fc_F hf178 hFc34 (by unfold M_MH_turned_1; omega)
                          have hf187 : s37.1 225 25 = nI 5 := fc_F hf179 hFc34 (by unfold M_MH_turned_1; omega)
                          have hf188 : s37.1 225 26 = nI 4 := fc_F hf180 hFc34 (by unfold M_MH_turned_1; omega)
                          have hf189 : s37.1 225 27 = nI 524288 := fc_F hf181 hFc34 (by unfold M_MH_turned_1; omega)
                          have hf190 : s37.1 225 28 = nI 261888 := fc_F hf182 hFc34 (by unfold M_MH_turned_1; omega)
                          have hf191 : s37.1 225 29 = nI 196 := fc_F hf183 hFc34 (by unfold M_MH_turned_1; omega)
                          have hf192 : s37.1 225 30 = nI 48 := fc_F hf184 hFc34 (by unfold M_MH_turned_1; omega)
                          refine W.widen (k := 0) (n := 0) (by omega) (by omega) ?_
                          refine lv_iconst (v := nI 0) hx hb dMH_verify_395 (by decide) ?_
                          refine lv_istore (lv' := [(10, .int (nI 0)), (9, .int (nI i24)), (0, .ref h0), (2, .ref pk)]) hx hb dMH_verify_396 hl (by decide) rfl (fun ls hl => ?_)
                          have lp27 : ∀ (n27 : Nat) (i27 : Nat) (s38 : Sto) (pl : va_W) (ls : Array Slot) (H : Heap) (locs : List Loc), n27 + i27 = 256 → frm (M_MH_verify_1) s s38 → s38.1 225 23 = nI 1 → s38.1 225 24 = nI 6 → s38.1 225 25 = nI 5 → s38.1 225 26 = nI 4 → s38.1 225 27 = nI 524288 → s38.1 225 28 = nI 261888 → s38.1 225 29 = nI 196 → s38.1 225 30 = nI 48 → F_MH_verify_1 pp pb cl_ ed s = F_MH_verify_1_L6 i24 (F_MH_verify_1_L3 pp n24) n27 i27 s38 → lv_has ls 11 [(10, .int (nI i27)), (9, .int (nI i24)), (0, .ref h0), (2, .ref pk)] → okn g T s38 pl → va_P g.1 vcl ([] ++ pl) H → va_D A ([] ++ pl) → va_S A s0.heap H locs → W p l e ({ frames := 5, cells := 0, slots := 0, locals := 116 } : Room) s0 m args below meth c H locs 0 0 (MQ below (va_Qi (fun (r : Int32) (u : (Int32 × Sto) × va_W) => (u.1 = F_MH_verify_1 pp pb cl_ ed s ∧ r = u.1.1 ∧ frm (M_MH_verify_1) s u.1.2 ∧ (∃ x : Nat, u.1.1 = nI x ∧ x < 2) ∧ True) ∧ okn g T u.1.2 u.2) (po g.1 vcl A (fun (u : (Int32 × Sto) × va_W) => [] ++ u.2)) A) args s0 0 0 A) (F0 m 398 ls []) := by
                            intro n27
                            induction n27 with
                            | zero =>
                              intro i27 s38 pl ls H locs hm27 hF hf193 hf194 hf195 hf196 hf197 hf198 hf199 hf200 hR hl hO hP hD hS
                              refine lv_iload hx hb dMH_verify_398 (lv_at hl 0 rfl) ?_
                              refine lv_sipush (v := nI 256) hx hb dMH_verify_400 (by decide) ?_
                              refine mi_ge (tgt := 442) hx hb dMH_verify_403 (by decide) (by omega) (by omega) (fun h33 => ?_) (fun h33 => absurd h33 (by omega))
                              refine mi_iinc (k := 1) (x := i24) (d := 1) (y := i24 + 1) (lv' := [(9, .int (nI (i24 + 1))), (10, .int (nI i27)), (0, .ref h0), (2, .ref pk)]) hx hb dMH_verify_442 hl rfl (by decide) rfl (by decide) rfl (fun ls hl => ?_)
                              refine lv_goto (tgt := 306) hx hb dMH_verify_445 (by decide) ?_
                              exact ih24 (i24 + 1) s38 pl ls H locs (by omega) hF hf193 hf194 hf195 hf196 hf197 hf198 hf199 hf200 hR (lv_sub hl [0, 2, 3] rfl) hO hP hD hS
                            | succ n27 ih27 =>
                              intro i27 s38 pl ls H locs hm27 hF hf201 hf202 hf203 hf204 hf205 hf206 hf207 hf208 hR hl hO hP hD hS
                              refine lv_iload hx hb dMH_verify_398 (lv_at hl 0 rfl) ?_
                              refine lv_sipush (v := nI 256) hx hb dMH_verify_400 (by decide) ?_
                              refine mi_ge (tgt := 442) hx hb dMH_verify_403 (by decide) (by omega) (by omega) (fun h34 => absurd h34 (by omega)) (fun h34 => ?_)
                              refine lv_aload_n hx hb dMH_verify_406 rfl (lv_at hl 2 rfl) ?_
                              refine nw_get (C := "LatticeKeysModel$Hands") (TT := T_MH) (N := 31) hx hb hts (wg_ft i_MH) hown hK hO k_h0 (kn := 225) (ci := 12) (fl := [(3, 172), (3, 181), (3, 226), (3, 291), (3, 299), (3, 308), (3, 317), (3, 326), (3, 334), (3, 342), (3, 350), (3, 359), (3, 368), (3, 369), (3, 370), (3, 371), (3, 372), (3, 373), (3, 374), (3, 375), (3, 376), (3, 377), (3, 378), (0, 0), (0, 0), (0, 0), (0, 0), (0, 0), (0, 0), (0, 0), (0, 0)]) rfl hP rfl 10 (by decide) (hts _ (wg_t kw_1442)) (fun _ h9 => h9) (cd := (3, 350)) rfl dMH_verify_407 (fun v45 hv45 => ?_)
                              obtain ⟨r39, rfl, kr36⟩ := (show ∃ r : Nat, v45 = .ref r ∧ T r = some 350 from hv45)
                              refine lv_iload hx hb dMH_verify_410 (lv_at hl 1 rfl) ?_
                              refine nw_aald3 hx hb hK hO kr36 (k := 350) (b := 351) rfl hP (by omega) (by omega) dMH_verify_412 (fun r40 kr37 => ?_)
                              have hn23 : nsp (351 + i24) = (0, 256, []) := rows_ok 351 8 (by decide) _ (by omega)
                              refine lv_iload hx hb dMH_verify_413 (lv_at hl 0 rfl) ?_
                              refine lv_aload_n hx hb dMH_verify_415 rfl (lv_at hl 2 rfl) ?_
                              refine nw_get (C := "LatticeKeysModel$Hands") (TT := T_MH) (N := 31) hx hb hts (wg_ft i_MH) hown hK hO k_h0 (kn := 225) (ci := 12) (fl := [(3, 172), (3, 181), (3, 226), (3, 291), (3, 299), (3, 308), (3, 317), (3, 326), (3, 334), (3, 342), (3, 350), (3, 359), (3, 368), (3, 369), (3, 370), (3, 371), (3, 372), (3, 373), (3, 374), (3, 375), (3, 376), (3, 377), (3, 378), (0, 0), (0, 0), (0, 0), (0, 0), (0, 0), (0, 0), (0, 0), (0, 0)]) rfl hP rfl 10 (by decide) (hts _ (wg_t kw_1442)) (fun _ h9 => h9) (cd := (3, 350)) rfl dMH_verify_416 (fun v46 hv46 => ?_)
                              obtain ⟨r41, rfl, kr38⟩ := (show ∃ r : Nat, v46 = .ref r ∧ T r = some 350 from hv46)
                              refine lv_iload hx hb dMH_verify_419 (lv_at hl 1 rfl) ?_
                              refine nw_aald3 hx hb hK hO kr38 (k := 350) (b := 351) rfl hP (by omega) (by omega) dMH_verify_421 (fun r42 kr39 => ?_)
                              have hn24 : nsp (351 + i24) = (0, 256, []) := rows_ok 351 8 (by decide) _ (by omega)
                              refine lv_iload hx hb dMH_verify_422 (lv_at hl 0 rfl) ?_
                              refine nw_iald hx hb hK hO kr39 (k := (351 + i24)) hn24 hP (by omega) (by omega) dMH_verify_424 ?_
                              refine lv_aload_n hx hb dMH_verify_425 rfl (lv_at hl 2 rfl) ?_
                              refine nw_get (C := "LatticeKeysModel$Hands") (TT := T_MH) (N := 31) hx hb hts (wg_ft i_MH) hown hK hO k_h0 (kn := 225) (ci := 12) (fl := [(3, 172), (3, 181), (3, 226), (3, 291), (3, 299), (3, 308), (3, 317), (3, 326), (3, 334), (3, 342), (3, 350), (3, 359), (3, 368), (3, 369), (3, 370), (3, 371), (3, 372), (3, 373), (3, 374), (3, 375), (3, 376), (3, 377), (3, 378), (0, 0), (0, 0), (0, 0), (0, 0), (0, 0), (0, 0), (0, 0), (0, 0)]) rfl hP rfl 13 (by decide) (hts _ (wg_t kw_1445)) (fun _ h9 => h9) (cd := (3, 369)) rfl dMH_verify_426 (fun v47 hv47 => ?_)
                              obtain ⟨r43, rfl, kr40⟩ := (show ∃ r : Nat, v47 = .ref r ∧ T r = some 369 from hv47)
                              refine lv_iload hx hb dMH_verify_429 (lv_at hl 0 rfl) ?_
                              refine nw_iald hx hb hK hO kr40 (k := 369) rfl hP (by omega) (by omega) dMH_verify_431 ?_
                              refine mp_i (cx := []) (wr := []) hP hD hS hA [] [] rfl rfl rfl (by decide) (va_runS (As := [.int ((s38.1 ((351 + i24)) i27)), .int ((s38.1 369 i27))]) (rest := [.int (nI i27), .ref r40]) F (N_MH_minus l g _ T s38 pl hO hU (s38.1 ((351 + i24)) i27) (s38.1 369 i27)) (va_cwS 2 hts (wg_app (wg_c kw_1865 (wg_c kw_1866 (wg_c kw_13 wg_n))) kw_1867) rfl rfl rfl (by decide +kernel) ⟨by decide, by decide⟩) (pp_S (en_ok g) hP hD hS hA hEn [] rfl rfl) rfl rfl hl.1 rfl (lv_room (Nat.le_of_ble_eq_true rfl)) dMH_verify_432 ⟨by omega, by omega⟩) (fun r44 u35 H locs hu35 hP hD hS => ?_)
                              obtain ⟨q24, pl⟩ := u35
                              obtain ⟨⟨eq35, rfl, hFc35, -⟩, hO⟩ := hu35
                              have hO : okn g T q24.2 pl := hO
                              have hP : va_P g.1 vcl ([] ++ pl) _ := hP
                              have hD : va_D _ ([] ++ pl) := hD
                              have hFc35 : frm (M_MH_minus) s38 q24.2 := hFc35
                              replace hR := bnd_step hR eq35
                              have hF := frm_tr hF hFc35 (fun k hk => by unfold M_MH_minus at hk; unfold M_MH_verify_1; omega)
                              have hf209 : q24.2.1 225 23 = nI 1 := fc_F hf201 hFc35 (by unfold M_MH_minus; omega)
                              have hf210 : q24.2.1 225 24 = nI 6 := fc_F hf202 hFc35 (by unfold M_MH_minus; omega)
                              have hf211 : q24.2.1 225 25 = nI 5 := fc_F hf203 hFc35 (by unfold M_MH_minus; omega)
                              have hf212 : q24.2.1 225 26 = nI 4 := fc_F hf204 hFc35 (by unfold M_MH_minus; omega)
                              have hf213 : q24.2.1 225 27 = nI 524288 := fc_F hf205 hFc35 (by unfold M_MH_minus; omega)
                              have hf214 : q24.2.1 225 28 = nI 261888 := fc_F hf206 hFc35 (by unfold M_MH_minus; omega)
                              have hf215 : q24.2.1 225 29 = nI 196 := fc_F hf207 hFc35 (by unfold M_MH_minus; omega)
                              have hf216 : q24.2.1 225 30 = nI 48 := fc_F hf208 hFc35 (by unfold M_MH_minus; omega)
                              refine W.widen (k := 0) (n := 0) (by omega) (by omega) ?_
                              refine nw_iast hx hb hK hO hU kr37 (k := (351 + i24)) hn23 hP hD hS (by omega) (by omega) dMH_verify_435 (fun s39 pl H locs es21 hO hP hD hS => ?_)
                              replace hR := bnd_step hR es21
                              have hF := frm_sI hF es21 (by unfold M_MH_verify_1; omega)
                              have hf217 : s39.1 225 23 = nI 1 := fc_ne hf209 es21 (by omega)
                              have hf218 : s39.1 225 24 = nI 6 := fc_ne hf210 es21 (by omega)
                              have hf219 : s39.1 225 25 = nI 5 := fc_ne hf211 es21 (by omega)
                              have hf220 : s39.1 225 26 = nI 4 := fc_ne hf212 es21 (by omega)
                              have hf221 : s39.1 225 27 = nI 524288 := fc_ne hf213 es21 (by omega)
                              have hf222 : s39.1 225 28 = nI 261888 := fc_ne hf214 es21 (by omega)
                              have hf223 : s39.1 225 29 = nI 196 := fc_ne hf215 es21 (by omega)
                              have hf224 : s39.1 225 30 = nI 48 := fc_ne hf216 es21 (by omega)
                              refine mi_iinc (k := 0) (x := i27) (d := 1) (y := i27 + 1) (lv' := [(10, .int (nI (i27 + 1))), (9, .int (nI i24)), (0, .ref h0), (2, .ref pk)]) hx hb dMH_verify_436 hl rfl (by decide) rfl (by decide) rfl (fun ls hl => ?_)
                              refine lv_goto (tgt := 398) hx hb dMH_verify_439 (by decide) ?_
                              exact ih27 (i27 + 1) s39 pl ls H locs (by omega) hF hf217 hf218 hf219 hf220 hf221 hf222 hf223 hf224 hR (lv_sub hl [0, 1, 2, 3] rfl) hO hP hD hS
                          exact lp27 256 0 s37 pl ls _ _ (by omega) hF hf185 hf186 hf187 hf188 hf189 hf190 hf191 hf192 hR (lv_sub hl [0, 1, 2, 3] rfl) hO hP hD hS
                        | succ n26 ih26 =>
                          intro i26 s36 pl ls H locs hm26 hF hf225 hf226 hf227 hf228 hf229 hf230 hf231 hf232 hR hl hO hP hD hS
                          refine lv_iload hx hb dMH_verify_331 (lv_at hl 0 rfl) ?_
                          refine lv_sipush (v := nI 256) hx hb dMH_verify_333 (by decide) ?_
                          refine mi_ge (tgt := 380) hx hb dMH_verify_336 (by decide) (by omega) (by omega) (fun h35 => absurd h35 (by omega)) (fun h35 => ?_)
                          refine lv_aload_n hx hb dMH_verify_339 rfl (lv_at hl 2 rfl) ?_
                          refine nw_get (C := "LatticeKeysModel$Hands") (TT := T_MH) (N := 31) hx hb hts (wg_ft i_MH) hown hK hO k_h0 (kn := 225) (ci := 12) (fl := [(3, 172), (3, 181), (3, 226), (3, 291), (3, 299), (3, 308), (3, 317), (3, 326), (3, 334), (3, 342), (3, 350), (3, 359), (3, 368), (3, 369), (3, 370), (3, 371), (3, 372), (3, 373), (3, 374), (3, 375), (3, 376), (3, 377), (3, 378), (0, 0), (0, 0), (0, 0), (0, 0), (0, 0), (0, 0), (0, 0), (0, 0)]) rfl hP rfl 6 (by decide) (hts _ (wg_t kw_1438)) (fun _ h9 => h9) (cd := (3, 317)) rfl dMH_verify_340 (fun v48 hv48 => ?_)
                          obtain ⟨r45, rfl, kr41⟩ := (show ∃ r : Nat, v48 = .ref r ∧ T r = some 317 from hv48)
                          refine lv_iload hx hb dMH_verify_343 (lv_at hl 1 rfl) ?_
                          refine nw_aald3 hx hb hK hO kr41 (k := 317) (b := 318) rfl hP (by omega) (by omega) dMH_verify_345 (fun r46 kr42 => ?_)
                          have hn25 : nsp (318 + i24) = (0, 256, []) := rows_ok 318 8 (by decide) _ (by omega)
                          refine lv_iload hx hb dMH_verify_346 (lv_at hl 0 rfl) ?_
                          refine lv_aload_n hx hb dMH_verify_348 rfl (lv_at hl 3 rfl) ?_
                          refine lv_sipush (v := nI 256) hx hb dMH_verify_349 (by decide) ?_
                          refine lv_sipush (v := nI 2560) hx hb dMH_verify_352 (by decide) ?_
                          refine lv_iload hx hb dMH_verify_355 (lv_at hl 1 rfl) ?_
                          refine mi_imul hx hb dMH_verify_357 ?_
                          refine mi_iadd hx hb dMH_verify_358 ?_
                          refine lv_bipush (v := nI 10) hx hb dMH_verify_359 (by decide) ?_
                          refine lv_iload hx hb dMH_verify_361 (lv_at hl 0 rfl) ?_
                          refine mi_imul hx hb dMH_verify_363 ?_
                          refine mi_iadd hx hb dMH_verify_364 ?_
                          refine lv_bipush (v := nI 10) hx hb dMH_verify_365 (by decide) ?_
                          refine mp_i (cx := []) (wr := []) hP hD hS hA [] [] rfl rfl rfl (by decide) (va_runSN (As := [.ref pk, .int (nI ((256 + (2560 * i24)) + (10 * i26))), .int (nI 10)]) (rest := [.int (nI i26), .ref r46]) F (N_M_unpack l g _ T s36 pl hO hU pk pp 2592 ((256 + (2560 * i24)) + (10 * i26)) 10 k_pk n_pk (by omega) (by omega) (by omega)) ⟨va_cnB 3 hts (wg_in kw_1667) rfl rfl rfl (hEn.2.2.2.2.2.2.2.2.2.2) (hts _ (wg_t kw_9)) (by decide +kernel) ⟨by decide, by decide⟩, hts _ (wg_t kw_1666), trivial⟩ (pp_S (en_ok g) hP hD hS hA hEn [] rfl rfl) rfl rfl hl.1 rfl (lv_room (Nat.le_of_ble_eq_true rfl)) dMH_verify_367 ⟨by omega, by omega⟩) (fun r47 u36 H locs hu36 hP hD hS => ?_)
                          obtain ⟨q25, pl⟩ := u36
                          obtain ⟨⟨eq36, rfl, hFc36, -⟩, hO⟩ := hu36
                          have hO : okn g T q25.2 pl := hO
                          have hP : va_P g.1 vcl ([] ++ pl) _ := hP
                          have hD : va_D _ ([] ++ pl) := hD
                          have hFc36 : frm (M_M_unpack) s36 q25.2 := hFc36
                          replace hR := bnd_step hR eq36
                          have hF := frm_tr hF hFc36 (fun k hk => by unfold M_M_unpack at hk; unfold M_MH_verify_1; omega)
                          have hf233 : q25.2.1 225 23 = nI 1 := fc_F hf225 hFc36 (by unfold M_M_unpack; omega)
                          have hf234 : q25.2.1 225 24 = nI 6 := fc_F hf226 hFc36 (by unfold M_M_unpack; omega)
                          have hf235 : q25.2.1 225 25 = nI 5 := fc_F hf227 hFc36 (by unfold M_M_unpack; omega)
                          have hf236 : q25.2.1 225 26 = nI 4 := fc_F hf228 hFc36 (by unfold M_M_unpack; omega)
                          have hf237 : q25.2.1 225 27 = nI 524288 := fc_F hf229 hFc36 (by unfold M_M_unpack; omega)
                          have hf238 : q25.2.1 225 28 = nI 261888 := fc_F hf230 hFc36 (by unfold M_M_unpack; omega)
                          have hf239 : q25.2.1 225 29 = nI 196 := fc_F hf231 hFc36 (by unfold M_M_unpack; omega)
                          have hf240 : q25.2.1 225 30 = nI 48 := fc_F hf232 hFc36 (by unfold M_M_unpack; omega)
                          refine W.widen (k := 0) (n := 0) (by omega) (by omega) ?_
                          refine lv_bipush (v := nI 13) hx hb dMH_verify_370 (by decide) ?_
                          refine lv_ishl hx hb dMH_verify_372 ?_
                          refine nw_iast hx hb hK hO hU kr42 (k := (318 + i24)) hn25 hP hD hS (by omega) (by omega) dMH_verify_373 (fun s40 pl H locs es22 hO hP hD hS => ?_)
                          replace hR := bnd_step hR es22
                          have hF := frm_sI hF es22 (by unfold M_MH_verify_1; omega)
                          have hf241 : s40.1 225 23 = nI 1 := fc_ne hf233 es22 (by omega)
                          have hf242 : s40.1 225 24 = nI 6 := fc_ne hf234 es22 (by omega)
                          have hf243 : s40.1 225 25 = nI 5 := fc_ne hf235 es22 (by omega)
                          have hf244 : s40.1 225 26 = nI 4 := fc_ne hf236 es22 (by omega)
                          have hf245 : s40.1 225 27 = nI 524288 := fc_ne hf237 es22 (by omega)
                          have hf246 : s40.1 225 28 = nI 261888 := fc_ne hf238 es22 (by omega)
                          have hf247 : s40.1 225 29 = nI 196 := fc_ne hf239 es22 (by omega)
                          have hf248 : s40.1 225 30 = nI 48 := fc_ne hf240 es22 (by omega)
                          refine mi_iinc (k := 0) (x := i26) (d := 1) (y := i26 + 1) (lv' := [(10, .int (nI (i26 + 1))), (9, .int (nI i24)), (0, .ref h0), (2, .ref pk)]) hx hb dMH_verify_374 hl rfl (by decide) rfl (by decide) rfl (fun ls hl => ?_)
                          refine lv_goto (tgt := 331) hx hb dMH_verify_377 (by decide) ?_
                          exact ih26 (i26 + 1) s40 pl ls H locs (by omega) hF hf241 hf242 hf243 hf244 hf245 hf246 hf247 hf248 hR (lv_sub hl [0, 1, 2, 3] rfl) hO hP hD hS
                      exact lp26 256 0 s35 pl ls _ _ (by omega) hF hf169 hf170 hf171 hf172 hf173 hf174 hf175 hf176 hR (lv_sub hl [0, 1, 2, 3] rfl) hO hP hD hS
                  exact lp24 6 0 s31 pl ls _ _ (by omega) hF hf121 hf122 hf123 hf124 hf125 hf126 hf127 hf128 hR (lv_sub hl [0, 1, 2] rfl) hO hP hD hS
                | succ n23 ih23 =>
                  intro i23 s31 pl ls H locs hm23 hF hf249 hf250 hf251 hf252 hf253 hf254 hf255 hf256 hR hl hO hP hD hS
                  refine lv_iload hx hb dMH_verify_265 (lv_at hl 0 rfl) ?_
                  refine lv_aload_n hx hb dMH_verify_267 rfl (lv_at hl 1 rfl) ?_
                  refine nw_get (C := "LatticeKeysModel$Hands") (TT := T_MH) (N := 31) hx hb hts (wg_ft i_MH) hown hK hO k_h0 (kn := 225) (ci := 12) (fl := [(3, 172), (3, 181), (3, 226), (3, 291), (3, 299), (3, 308), (3, 317), (3, 326), (3, 334), (3, 342), (3, 350), (3, 359), (3, 368), (3, 369), (3, 370), (3, 371), (3, 372), (3, 373), (3, 374), (3, 375), (3, 376), (3, 377), (3, 378), (0, 0), (0, 0), (0, 0), (0, 0), (0, 0), (0, 0), (0, 0), (0, 0)]) rfl hP rfl 25 (by decide) (hts _ (wg_t kw_1457)) (fun _ h9 => h9) (cd := (0, 0)) rfl dMH_verify_268 (fun v49 hv49 => ?_)
                  obtain rfl := (show v49 = .int (s31.1 225 25) from hv49)
                  obtain ⟨z35, ez34, hz47, hz48⟩ := cl_of (b := 2147483648) hf251 (by omega) (by decide)
                  replace hR := bnd_step hR ez34
                  refine mi_as hz47 ?_
                  subst hz48
                  refine mi_ge (tgt := 303) hx hb dMH_verify_271 (by decide) (by omega) (by omega) (fun h36 => absurd h36 (by omega)) (fun h36 => ?_)
                  refine lv_aload_n hx hb dMH_verify_274 rfl (lv_at hl 1 rfl) ?_
                  refine nw_get (C := "LatticeKeysModel$Hands") (TT := T_MH) (N := 31) hx hb hts (wg_ft i_MH) hown hK hO k_h0 (kn := 225) (ci := 12) (fl := [(3, 172), (3, 181), (3, 226), (3, 291), (3, 299), (3, 308), (3, 317), (3, 326), (3, 334), (3, 342), (3, 350), (3, 359), (3, 368), (3, 369), (3, 370), (3, 371), (3, 372), (3, 373), (3, 374), (3, 375), (3, 376), (3, 377), (3, 378), (0, 0), (0, 0), (0, 0), (0, 0), (0, 0), (0, 0), (0, 0), (0, 0)]) rfl hP rfl 1 (by decide) (hts _ (wg_t kw_1433)) (fun _ h9 => h9) (cd := (3, 181)) rfl dMH_verify_275 (fun v50 hv50 => ?_)
                  obtain ⟨r48, rfl, kr43⟩ := (show ∃ r : Nat, v50 = .ref r ∧ T r = some 181 from hv50)
                  refine lv_aload_n hx hb dMH_verify_278 rfl (lv_at hl 1 rfl) ?_
                  refine nw_get (C := "LatticeKeysModel$Hands") (TT := T_MH) (N := 31) hx hb hts (wg_ft i_MH) hown hK hO k_h0 (kn := 225) (ci := 12) (fl := [(3, 172), (3, 181), (3, 226), (3, 291), (3, 299), (3, 308), (3, 317), (3, 326), (3, 334), (3, 342), (3, 350), (3, 359), (3, 368), (3, 369), (3, 370), (3, 371), (3, 372), (3, 373), (3, 374), (3, 375), (3, 376), (3, 377), (3, 378), (0, 0), (0, 0), (0, 0), (0, 0), (0, 0), (0, 0), (0, 0), (0, 0)]) rfl hP rfl 8 (by decide) (hts _ (wg_t kw_1440)) (fun _ h9 => h9) (cd := (3, 334)) rfl dMH_verify_279 (fun v51 hv51 => ?_)
                  obtain ⟨r49, rfl, kr44⟩ := (show ∃ r : Nat, v51 = .ref r ∧ T r = some 334 from hv51)
                  refine lv_iload hx hb dMH_verify_282 (lv_at hl 0 rfl) ?_
                  refine nw_aald3 hx hb hK hO kr44 (k := 334) (b := 335) rfl hP (by omega) (by omega) dMH_verify_284 (fun r50 kr45 => ?_)
                  have hn26 : nsp (335 + i23) = (0, 256, []) := rows_ok 335 7 (by decide) _ (by omega)
                  refine lv_aload_n hx hb dMH_verify_285 rfl (lv_at hl 1 rfl) ?_
                  refine nw_get (C := "LatticeKeysModel$Hands") (TT := T_MH) (N := 31) hx hb hts (wg_ft i_MH) hown hK hO k_h0 (kn := 225) (ci := 12) (fl := [(3, 172), (3, 181), (3, 226), (3, 291), (3, 299), (3, 308), (3, 317), (3, 326), (3, 334), (3, 342), (3, 350), (3, 359), (3, 368), (3, 369), (3, 370), (3, 371), (3, 372), (3, 373), (3, 374), (3, 375), (3, 376), (3, 377), (3, 378), (0, 0), (0, 0), (0, 0), (0, 0), (0, 0), (0, 0), (0, 0), (0, 0)]) rfl hP rfl 9 (by decide) (hts _ (wg_t kw_1441)) (fun _ h9 => h9) (cd := (3, 342)) rfl dMH_verify_286 (fun v52 hv52 => ?_)
                  obtain ⟨r51, rfl, kr46⟩ := (show ∃ r : Nat, v52 = .ref r ∧ T r = some 342 from hv52)
                  refine lv_iload hx hb dMH_verify_289 (lv_at hl 0 rfl) ?_
                  refine nw_aald3 hx hb hK hO kr46 (k := 342) (b := 343) rfl hP (by omega) (by omega) dMH_verify_291 (fun r52 kr47 => ?_)
                  have hn27 : nsp (343 + i23) = (0, 256, []) := rows_ok 343 7 (by decide) _ (by omega)
                  refine lv_iconst (v := nI 1) hx hb dMH_verify_292 (by decide) ?_
                  refine lv_iconst (v := nI 0) hx hb dMH_verify_293 (by decide) ?_
                  refine mp_v (cx := []) (wr := []) hP hD hS hA [] [] rfl rfl rfl (by decide) (va_runV (As := [.ref r50, .ref r52, .int (nI 1), .int (nI 0)]) (rest := []) F (N_MR_forth_8_0 l g _ T s31 pl hO hU r48 r50 r52 (335 + i23) (343 + i23) kr43 kr45 hn26 kr47 hn27) (cwV 4 hts (wg_app (wg_c kw_1733 (wg_c kw_1673 (wg_c kw_1674 (wg_c kw_12 wg_n)))) kw_1675) rfl rfl rfl (by decide +kernel) ⟨by decide, by decide⟩) (pn_W "LatticeKeysModel$Ring" (en_ok g) (ci := 10) (kn := 181) (fl := [(1, 8380417), (1, 256), (3, 182), (3, 183), (4, 8347681)]) hK hO kr43 rfl hP hD hS hA hEn [] rfl rfl rfl) rfl rfl hl.1 rfl (lv_room (Nat.le_of_ble_eq_true rfl)) dMH_verify_294 ⟨by omega, by omega⟩) (fun  u37 H locs hu37 hP hD hS => ?_)
                  obtain ⟨s41, pl⟩ := u37
                  obtain ⟨⟨eq37, hFc37, -⟩, hO⟩ := hu37
                  have hO : okn g T s41 pl := hO
                  have hP : va_P g.1 vcl ([] ++ pl) _ := hP
                  have hD : va_D _ ([] ++ pl) := hD
                  have hFc37 : frm (M_MR_forth_8_0 (343 + i23)) s31 s41 := hFc37
                  replace hR := bnd_step hR eq37
                  have hF := frm_tr hF hFc37 (fun k hk => by unfold M_MR_forth_8_0 at hk; unfold M_MH_verify_1; omega)
                  have hf257 : s41.1 225 23 = nI 1 := fc_F hf249 hFc37 (by unfold M_MR_forth_8_0; omega)
                  have hf258 : s41.1 225 24 = nI 6 := fc_F hf250 hFc37 (by unfold M_MR_forth_8_0; omega)
                  have hf259 : s41.1 225 25 = nI 5 := fc_F hf251 hFc37 (by unfold M_MR_forth_8_0; omega)
                  have hf260 : s41.1 225 26 = nI 4 := fc_F hf252 hFc37 (by unfold M_MR_forth_8_0; omega)
                  have hf261 : s41.1 225 27 = nI 524288 := fc_F hf253 hFc37 (by unfold M_MR_forth_8_0; omega)
                  have hf262 : s41.1 225 28 = nI 261888 := fc_F hf254 hFc37 (by unfold M_MR_forth_8_0; omega)
                  have hf263 : s41.1 225 29 = nI 196 := fc_F hf255 hFc37 (by unfold M_MR_forth_8_0; omega)
                  have hf264 : s41.1 225 30 = nI 48 := fc_F hf256 hFc37 (by unfold M_MR_forth_8_0; omega)
                  refine W.widen (k := 0) (n := 0) (by omega) (by omega) ?_
                  refine mi_iinc (k := 0) (x := i23) (d := 1) (y := i23 + 1) (lv' := [(9, .int (nI (i23 + 1))), (0, .ref h0), (2, .ref pk)]) hx hb dMH_verify_297 hl rfl (by decide) rfl (by decide) rfl (fun ls hl => ?_)
                  refine lv_goto (tgt := 265) hx hb dMH_verify_300 (by decide) ?_
                  exact ih23 (i23 + 1) s41 pl ls H locs (by omega) hF hf257 hf258 hf259 hf260 hf261 hf262 hf263 hf264 hR (lv_sub hl [0, 1, 2] rfl) hO hP hD hS
              exact lp23 5 0 s30 pl ls _ _ (by omega) hF hf113 hf114 hf115 hf116 hf117 hf118 hf119 hf120 hR (lv_sub hl [0, 4, 5] rfl) hO hP hD hS
            · replace hR := hR.trans (if_pos h25)
              first | rw [if_pos h25] at hE | rw [E_MH_verify_1_L0, if_pos h25] at hE | rw [E_MH_verify_1_L1, if_pos h25] at hE | rw [E_MH_verify_1_L2, if_pos h25] at hE | rw [E_MH_verify_1_L3, if_pos h25] at hE | rw [E_MH_verify_1_L4, if_pos h25] at hE | rw [E_MH_verify_1_L5, if_pos h25] at hE | rw [E_MH_verify_1_L6, if_pos h25] at hE | rw [E_MH_verify_1_L7, if_pos h25] at hE | rw [E_MH_verify_1_L8, if_pos h25] at hE | replace hE := iteP_pos h25 hE
              refine lv_iconst (v := nI 0) hx hb dMH_verify_182 (by decide) ?_
              exact mp_zret hx hb hr hlk rfl hP hD hS ((nI 0, q21.2), pl) ⟨⟨hR.symm, rfl, hF, ⟨0, rfl, by omega⟩, trivial⟩, hO⟩ [] rfl rfl rfl (by omega) (by omega) dMH_verify_183
        | succ n22 ih22 =>
          intro i22 z24 az21 s23 pl ls H locs hm22 hi21 hF hf265 hf266 hf267 hf268 hf269 hf270 hf271 hf272 hE hR hl hO hP hD hS
          refine lv_iload hx hb dMH_verify_65 (lv_at hl 0 rfl) ?_
          refine lv_aload_n hx hb dMH_verify_67 rfl (lv_at hl 4 rfl) ?_
          refine nw_get (C := "LatticeKeysModel$Hands") (TT := T_MH) (N := 31) hx hb hts (wg_ft i_MH) hown hK hO k_h0 (kn := 225) (ci := 12) (fl := [(3, 172), (3, 181), (3, 226), (3, 291), (3, 299), (3, 308), (3, 317), (3, 326), (3, 334), (3, 342), (3, 350), (3, 359), (3, 368), (3, 369), (3, 370), (3, 371), (3, 372), (3, 373), (3, 374), (3, 375), (3, 376), (3, 377), (3, 378), (0, 0), (0, 0), (0, 0), (0, 0), (0, 0), (0, 0), (0, 0), (0, 0)]) rfl hP rfl 25 (by decide) (hts _ (wg_t kw_1457)) (fun _ h9 => h9) (cd := (0, 0)) rfl dMH_verify_68 (fun v53 hv53 => ?_)
          obtain rfl := (show v53 = .int (s23.1 225 25) from hv53)
          obtain ⟨z36, ez35, hz49, hz50⟩ := cl_of (b := 2147483648) hf267 (by omega) (by decide)
          replace hR := bnd_step hR ez35
          first | rw [bnd_step rfl ez35] at hE | rw [E_MH_verify_1_L0, bnd_step rfl ez35] at hE | rw [E_MH_verify_1_L1, bnd_step rfl ez35] at hE | rw [E_MH_verify_1_L7, bnd_step rfl ez35] at hE | replace hE := bndP_step hE ez35
          refine mi_as hz49 ?_
          subst hz50
          refine mi_ge (tgt := 164) hx hb dMH_verify_71 (by decide) (by omega) (by omega) (fun h37 => absurd h37 (by omega)) (fun h37 => ?_)
          refine lv_iconst (v := nI 0) hx hb dMH_verify_74 (by decide) ?_
          refine lv_istore (lv' := [(10, .int (nI 0)), (9, .int (nI i22)), (8, .int z24), (7, .int (nI az21)), (6, .int (nI 20)), (0, .ref h0), (2, .ref pk), (3, .ref b), (4, .int cl_), (5, .int (nI ed))]) hx hb dMH_verify_75 hl (by decide) rfl (fun ls hl => ?_)
          have lp28 : ∀ (n28 : Nat) (i28 : Nat) (z37 : Int32) (az22 : Nat) (s42 : Sto) (pl : va_W) (ls : Array Slot) (H : Heap) (locs : List Loc), n28 + i28 = 256 → (az22 = 384 + 5120 * i22 + 20 * i28) → frm (M_MH_verify_1) s s42 → s42.1 225 23 = nI 1 → s42.1 225 24 = nI 6 → s42.1 225 25 = nI 5 → s42.1 225 26 = nI 4 → s42.1 225 27 = nI 524288 → s42.1 225 28 = nI 261888 → s42.1 225 29 = nI 196 → s42.1 225 30 = nI 48 → E_MH_verify_1_L7 pb i22 (E_MH_verify_1_L1 pp pb cl_ ed n22) n28 i28 z37 az22 s42 → F_MH_verify_1 pp pb cl_ ed s = F_MH_verify_1_L7 pb i22 (F_MH_verify_1_L1 pp pb cl_ ed n22) n28 i28 z37 az22 s42 → lv_has ls 11 [(10, .int (nI i28)), (9, .int (nI i22)), (8, .int z37), (7, .int (nI az22)), (6, .int (nI 20)), (0, .ref h0), (2, .ref pk), (3, .ref b), (4, .int cl_), (5, .int (nI ed))] → okn g T s42 pl → va_P g.1 vcl ([] ++ pl) H → va_D A ([] ++ pl) → va_S A s0.heap H locs → W p l e ({ frames := 5, cells := 0, slots := 0, locals := 116 } : Room) s0 m args below meth c H locs 0 0 (MQ below (va_Qi (fun (r : Int32) (u : (Int32 × Sto) × va_W) => (u.1 = F_MH_verify_1 pp pb cl_ ed s ∧ r = u.1.1 ∧ frm (M_MH_verify_1) s u.1.2 ∧ (∃ x : Nat, u.1.1 = nI x ∧ x < 2) ∧ True) ∧ okn g T u.1.2 u.2) (po g.1 vcl A (fun (u : (Int32 × Sto) × va_W) => [] ++ u.2)) A) args s0 0 0 A) (F0 m 77 ls []) := by
            intro n28
            induction n28 with
            | zero =>
              intro i28 z37 az22 s42 pl ls H locs hm28 hi22 hF hf273 hf274 hf275 hf276 hf277 hf278 hf279 hf280 hE hR hl hO hP hD hS
              refine lv_iload hx hb dMH_verify_77 (lv_at hl 0 rfl) ?_
              refine lv_sipush (v := nI 256) hx hb dMH_verify_79 (by decide) ?_
              refine mi_ge (tgt := 158) hx hb dMH_verify_82 (by decide) (by omega) (by omega) (fun h38 => ?_) (fun h38 => absurd h38 (by omega))
              refine mi_iinc (k := 1) (x := i22) (d := 1) (y := i22 + 1) (lv' := [(9, .int (nI (i22 + 1))), (10, .int (nI i28)), (8, .int z37), (7, .int (nI az22)), (6, .int (nI 20)), (0, .ref h0), (2, .ref pk), (3, .ref b), (4, .int cl_), (5, .int (nI ed))]) hx hb dMH_verify_158 hl rfl (by decide) rfl (by decide) rfl (fun ls hl => ?_)
              refine lv_goto (tgt := 65) hx hb dMH_verify_161 (by decide) ?_
              exact ih22 (i22 + 1) z37 az22 s42 pl ls H locs (by omega) (by omega) hF hf273 hf274 hf275 hf276 hf277 hf278 hf279 hf280 hE hR (lv_sub hl [0, 2, 3, 4, 5, 6, 7, 8, 9] rfl) hO hP hD hS
            | succ n28 ih28 =>
              intro i28 z37 az22 s42 pl ls H locs hm28 hi22 hF hf281 hf282 hf283 hf284 hf285 hf286 hf287 hf288 hE hR hl hO hP hD hS
              refine lv_iload hx hb dMH_verify_77 (lv_at hl 0 rfl) ?_
              refine lv_sipush (v := nI 256) hx hb dMH_verify_79 (by decide) ?_
              refine mi_ge (tgt := 158) hx hb dMH_verify_82 (by decide) (by omega) (by omega) (fun h39 => absurd h39 (by omega)) (fun h39 => ?_)
              refine lv_aload_n hx hb dMH_verify_85 rfl (lv_at hl 5 rfl) ?_
              refine nw_get (C := "LatticeKeysModel$Hands") (TT := T_MH) (N := 31) hx hb hts (wg_ft i_MH) hown hK hO k_h0 (kn := 225) (ci := 12) (fl := [(3, 172), (3, 181), (3, 226), (3, 291), (3, 299), (3, 308), (3, 317), (3, 326), (3, 334), (3, 342), (3, 350), (3, 359), (3, 368), (3, 369), (3, 370), (3, 371), (3, 372), (3, 373), (3, 374), (3, 375), (3, 376), (3, 377), (3, 378), (0, 0), (0, 0), (0, 0), (0, 0), (0, 0), (0, 0), (0, 0), (0, 0)]) rfl hP rfl 8 (by decide) (hts _ (wg_t kw_1440)) (fun _ h9 => h9) (cd := (3, 334)) rfl dMH_verify_86 (fun v54 hv54 => ?_)
              obtain ⟨r53, rfl, kr48⟩ := (show ∃ r : Nat, v54 = .ref r ∧ T r = some 334 from hv54)
              refine lv_iload hx hb dMH_verify_89 (lv_at hl 1 rfl) ?_
              refine nw_aald3 hx hb hK hO kr48 (k := 334) (b := 335) rfl hP (by omega) (by omega) dMH_verify_91 (fun r54 kr49 => ?_)
              have hn28 : nsp (335 + i22) = (0, 256, []) := rows_ok 335 7 (by decide) _ (by omega)
              refine lv_iload hx hb dMH_verify_92 (lv_at hl 0 rfl) ?_
              refine lv_aload_n hx hb dMH_verify_94 rfl (lv_at hl 5 rfl) ?_
              refine nw_get (C := "LatticeKeysModel$Hands") (TT := T_MH) (N := 31) hx hb hts (wg_ft i_MH) hown hK hO k_h0 (kn := 225) (ci := 12) (fl := [(3, 172), (3, 181), (3, 226), (3, 291), (3, 299), (3, 308), (3, 317), (3, 326), (3, 334), (3, 342), (3, 350), (3, 359), (3, 368), (3, 369), (3, 370), (3, 371), (3, 372), (3, 373), (3, 374), (3, 375), (3, 376), (3, 377), (3, 378), (0, 0), (0, 0), (0, 0), (0, 0), (0, 0), (0, 0), (0, 0), (0, 0)]) rfl hP rfl 27 (by decide) (hts _ (wg_t kw_1459)) (fun _ h9 => h9) (cd := (0, 0)) rfl dMH_verify_95 (fun v55 hv55 => ?_)
              obtain rfl := (show v55 = .int (s42.1 225 27) from hv55)
              obtain ⟨z38, ez36, hz51, hz52⟩ := cl_of (b := 2147483648) hf285 (by omega) (by decide)
              replace hR := bnd_step hR ez36
              first | rw [bnd_step rfl ez36] at hE | rw [E_MH_verify_1_L0, bnd_step rfl ez36] at hE | rw [E_MH_verify_1_L1, bnd_step rfl ez36] at hE | rw [E_MH_verify_1_L7, bnd_step rfl ez36] at hE | replace hE := bndP_step hE ez36
              refine mi_as hz51 ?_
              subst hz52
              refine lv_aload_n hx hb dMH_verify_98 rfl (lv_at hl 7 rfl) ?_
              refine lv_iload hx hb dMH_verify_99 (lv_at hl 3 rfl) ?_
              refine lv_iload hx hb dMH_verify_101 (lv_at hl 4 rfl) ?_
              refine mp_i (cx := []) (wr := []) hP hD hS hA [] [] rfl rfl rfl (by decide) (va_runSN (As := [.ref b, .int (nI az22), .int (nI 20)]) (rest := [.int (nI 524288), .int (nI i28), .ref r54]) F (N_M_unpack l g _ T s42 pl hO hU b pb 16384 az22 20 k_b n_b (by omega) (by omega) (by omega)) ⟨va_cnB 3 hts (wg_in kw_1667) rfl rfl rfl (hEn.2.2.2.2.2.2.2.2.2.2) (hts _ (wg_t kw_9)) (by decide +kernel) ⟨by decide, by decide⟩, hts _ (wg_t kw_1666), trivial⟩ (pp_S (en_ok g) hP hD hS hA hEn [] rfl rfl) rfl rfl hl.1 rfl (lv_room (Nat.le_of_ble_eq_true rfl)) dMH_verify_103 ⟨by omega, by omega⟩) (fun r55 u38 H locs hu38 hP hD hS => ?_)
              obtain ⟨q26, pl⟩ := u38
              obtain ⟨⟨eq38, rfl, hFc38, -⟩, hO⟩ := hu38
              have hO : okn g T q26.2 pl := hO
              have hP : va_P g.1 vcl ([] ++ pl) _ := hP
              have hD : va_D _ ([] ++ pl) := hD
              have hFc38 : frm (M_M_unpack) s42 q26.2 := hFc38
              replace hR := bnd_step hR eq38
              first | rw [bnd_step rfl eq38] at hE | rw [E_MH_verify_1_L0, bnd_step rfl eq38] at hE | rw [E_MH_verify_1_L1, bnd_step rfl eq38] at hE | rw [E_MH_verify_1_L7, bnd_step rfl eq38] at hE | replace hE := bndP_step hE eq38
              have hF := frm_tr hF hFc38 (fun k hk => by unfold M_M_unpack at hk; unfold M_MH_verify_1; omega)
              have hf289 : q26.2.1 225 23 = nI 1 := fc_F hf281 hFc38 (by unfold M_M_unpack; omega)
              have hf290 : q26.2.1 225 24 = nI 6 := fc_F hf282 hFc38 (by unfold M_M_unpack; omega)
              have hf291 : q26.2.1 225 25 = nI 5 := fc_F hf283 hFc38 (by unfold M_M_unpack; omega)
              have hf292 : q26.2.1 225 26 = nI 4 := fc_F hf284 hFc38 (by unfold M_M_unpack; omega)
              have hf293 : q26.2.1 225 27 = nI 524288 := fc_F hf285 hFc38 (by unfold M_M_unpack; omega)
              have hf294 : q26.2.1 225 28 = nI 261888 := fc_F hf286 hFc38 (by unfold M_M_unpack; omega)
              have hf295 : q26.2.1 225 29 = nI 196 := fc_F hf287 hFc38 (by unfold M_M_unpack; omega)
              have hf296 : q26.2.1 225 30 = nI 48 := fc_F hf288 hFc38 (by unfold M_M_unpack; omega)
              refine W.widen (k := 0) (n := 0) (by omega) (by omega) ?_
              refine mp_i (cx := []) (wr := []) hP hD hS hA [] [] rfl rfl rfl (by decide) (va_runS (As := [.int (nI 524288), .int q26.1]) (rest := [.int (nI i28), .ref r54]) F (N_MH_minus l g _ T q26.2 pl hO hU (nI 524288) (q26.1)) (va_cwS 2 hts (wg_app (wg_c kw_1865 (wg_c kw_1866 (wg_c kw_13 wg_n))) kw_1867) rfl rfl rfl (by decide +kernel) ⟨by decide, by decide⟩) (pp_S (en_ok g) hP hD hS hA hEn [] rfl rfl) rfl rfl hl.1 rfl (lv_room (Nat.le_of_ble_eq_true rfl)) dMH_verify_106 ⟨by omega, by omega⟩) (fun r56 u39 H locs hu39 hP hD hS => ?_)
              obtain ⟨q27, pl⟩ := u39
              obtain ⟨⟨eq39, rfl, hFc39, -⟩, hO⟩ := hu39
              have hO : okn g T q27.2 pl := hO
              have hP : va_P g.1 vcl ([] ++ pl) _ := hP
              have hD : va_D _ ([] ++ pl) := hD
              have hFc39 : frm (M_MH_minus) q26.2 q27.2 := hFc39
              replace hR := bnd_step hR eq39
              first | rw [bnd_step rfl eq39] at hE | rw [E_MH_verify_1_L0, bnd_step rfl eq39] at hE | rw [E_MH_verify_1_L1, bnd_step rfl eq39] at hE | rw [E_MH_verify_1_L7, bnd_step rfl eq39] at hE | replace hE := bndP_step hE eq39
              have hF := frm_tr hF hFc39 (fun k hk => by unfold M_MH_minus at hk; unfold M_MH_verify_1; omega)
              have hf297 : q27.2.1 225 23 = nI 1 := fc_F hf289 hFc39 (by unfold M_MH_minus; omega)
              have hf298 : q27.2.1 225 24 = nI 6 := fc_F hf290 hFc39 (by unfold M_MH_minus; omega)
              have hf299 : q27.2.1 225 25 = nI 5 := fc_F hf291 hFc39 (by unfold M_MH_minus; omega)
              have hf300 : q27.2.1 225 26 = nI 4 := fc_F hf292 hFc39 (by unfold M_MH_minus; omega)
              have hf301 : q27.2.1 225 27 = nI 524288 := fc_F hf293 hFc39 (by unfold M_MH_minus; omega)
              have hf302 : q27.2.1 225 28 = nI 261888 := fc_F hf294 hFc39 (by unfold M_MH_minus; omega)
              have hf303 : q27.2.1 225 29 = nI 196 := fc_F hf295 hFc39 (by unfold M_MH_minus; omega)
              have hf304 : q27.2.1 225 30 = nI 48 := fc_F hf296 hFc39 (by unfold M_MH_minus; omega)
              refine W.widen (k := 0) (n := 0) (by omega) (by omega) ?_
              refine nw_iast hx hb hK hO hU kr49 (k := (335 + i22)) hn28 hP hD hS (by omega) (by omega) dMH_verify_109 (fun s43 pl H locs es23 hO hP hD hS => ?_)
              replace hR := bnd_step hR es23
              first | rw [bnd_step rfl es23] at hE | rw [E_MH_verify_1_L0, bnd_step rfl es23] at hE | rw [E_MH_verify_1_L1, bnd_step rfl es23] at hE | rw [E_MH_verify_1_L7, bnd_step rfl es23] at hE | replace hE := bndP_step hE es23
              have hF := frm_sI hF es23 (by unfold M_MH_verify_1; omega)
              have hf305 : s43.1 225 23 = nI 1 := fc_ne hf297 es23 (by omega)
              have hf306 : s43.1 225 24 = nI 6 := fc_ne hf298 es23 (by omega)
              have hf307 : s43.1 225 25 = nI 5 := fc_ne hf299 es23 (by omega)
              have hf308 : s43.1 225 26 = nI 4 := fc_ne hf300 es23 (by omega)
              have hf309 : s43.1 225 27 = nI 524288 := fc_ne hf301 es23 (by omega)
              have hf310 : s43.1 225 28 = nI 261888 := fc_ne hf302 es23 (by omega)
              have hf311 : s43.1 225 29 = nI 196 := fc_ne hf303 es23 (by omega)
              have hf312 : s43.1 225 30 = nI 48 := fc_ne hf304 es23 (by omega)
              refine lv_iload hx hb dMH_verify_110 (lv_at hl 2 rfl) ?_
              refine lv_aload_n hx hb dMH_verify_112 rfl (lv_at hl 5 rfl) ?_
              refine nw_get (C := "LatticeKeysModel$Hands") (TT := T_MH) (N := 31) hx hb hts (wg_ft i_MH) hown hK hO k_h0 (kn := 225) (ci := 12) (fl := [(3, 172), (3, 181), (3, 226), (3, 291), (3, 299), (3, 308), (3, 317), (3, 326), (3, 334), (3, 342), (3, 350), (3, 359), (3, 368), (3, 369), (3, 370), (3, 371), (3, 372), (3, 373), (3, 374), (3, 375), (3, 376), (3, 377), (3, 378), (0, 0), (0, 0), (0, 0), (0, 0), (0, 0), (0, 0), (0, 0), (0, 0)]) rfl hP rfl 8 (by decide) (hts _ (wg_t kw_1440)) (fun _ h9 => h9) (cd := (3, 334)) rfl dMH_verify_113 (fun v56 hv56 => ?_)
              obtain ⟨r57, rfl, kr50⟩ := (show ∃ r : Nat, v56 = .ref r ∧ T r = some 334 from hv56)
              refine lv_iload hx hb dMH_verify_116 (lv_at hl 1 rfl) ?_
              refine nw_aald3 hx hb hK hO kr50 (k := 334) (b := 335) rfl hP (by omega) (by omega) dMH_verify_118 (fun r58 kr51 => ?_)
              have hn29 : nsp (335 + i22) = (0, 256, []) := rows_ok 335 7 (by decide) _ (by omega)
              refine lv_iload hx hb dMH_verify_119 (lv_at hl 0 rfl) ?_
              refine nw_iald hx hb hK hO kr51 (k := (335 + i22)) hn29 hP (by omega) (by omega) dMH_verify_121 ?_
              refine mp_i (cx := []) (wr := []) hP hD hS hA [] [] rfl rfl rfl (by decide) (va_runS (As := [.int ((s43.1 ((335 + i22)) i28))]) (rest := [.int z37]) F (N_MH_norm l g _ T s43 pl hO hU (s43.1 ((335 + i22)) i28)) (va_cwS 1 hts (wg_app (wg_c kw_1905 (wg_c kw_1906 (wg_c kw_13 wg_n))) kw_1907) rfl rfl rfl (by decide +kernel) ⟨by decide, by decide⟩) (pp_S (en_ok g) hP hD hS hA hEn [] rfl rfl) rfl rfl hl.1 rfl (lv_room (Nat.le_of_ble_eq_true rfl)) dMH_verify_122 ⟨by omega, by omega⟩) (fun r59 u40 H locs hu40 hP hD hS => ?_)
              obtain ⟨q28, pl⟩ := u40
              obtain ⟨⟨eq40, rfl, hFc40, -⟩, hO⟩ := hu40
              have hO : okn g T q28.2 pl := hO
              have hP : va_P g.1 vcl ([] ++ pl) _ := hP
              have hD : va_D _ ([] ++ pl) := hD
              have hFc40 : frm (M_MH_norm) s43 q28.2 := hFc40
              replace hR := bnd_step hR eq40
              first | rw [bnd_step rfl eq40] at hE | rw [E_MH_verify_1_L0, bnd_step rfl eq40] at hE | rw [E_MH_verify_1_L1, bnd_step rfl eq40] at hE | rw [E_MH_verify_1_L7, bnd_step rfl eq40] at hE | replace hE := bndP_step hE eq40
              have hF := frm_tr hF hFc40 (fun k hk => by unfold M_MH_norm at hk; unfold M_MH_verify_1; omega)
              have hf313 : q28.2.1 225 23 = nI 1 := fc_F hf305 hFc40 (by unfold M_MH_norm; omega)
              have hf314 : q28.2.1 225 24 = nI 6 := fc_F hf306 hFc40 (by unfold M_MH_norm; omega)
              have hf315 : q28.2.1 225 25 = nI 5 := fc_F hf307 hFc40 (by unfold M_MH_norm; omega)
              have hf316 : q28.2.1 225 26 = nI 4 := fc_F hf308 hFc40 (by unfold M_MH_norm; omega)
              have hf317 : q28.2.1 225 27 = nI 524288 := fc_F hf309 hFc40 (by unfold M_MH_norm; omega)
              have hf318 : q28.2.1 225 28 = nI 261888 := fc_F hf310 hFc40 (by unfold M_MH_norm; omega)
              have hf319 : q28.2.1 225 29 = nI 196 := fc_F hf311 hFc40 (by unfold M_MH_norm; omega)
              have hf320 : q28.2.1 225 30 = nI 48 := fc_F hf312 hFc40 (by unfold M_MH_norm; omega)
              refine W.widen (k := 0) (n := 0) (by omega) (by omega) ?_
              refine lv_aload_n hx hb dMH_verify_125 rfl (lv_at hl 5 rfl) ?_
              refine nw_get (C := "LatticeKeysModel$Hands") (TT := T_MH) (N := 31) hx hb hts (wg_ft i_MH) hown hK hO k_h0 (kn := 225) (ci := 12) (fl := [(3, 172), (3, 181), (3, 226), (3, 291), (3, 299), (3, 308), (3, 317), (3, 326), (3, 334), (3, 342), (3, 350), (3, 359), (3, 368), (3, 369), (3, 370), (3, 371), (3, 372), (3, 373), (3, 374), (3, 375), (3, 376), (3, 377), (3, 378), (0, 0), (0, 0), (0, 0), (0, 0), (0, 0), (0, 0), (0, 0), (0, 0)]) rfl hP rfl 27 (by decide) (hts _ (wg_t kw_1459)) (fun _ h9 => h9) (cd := (0, 0)) rfl dMH_verify_126 (fun v57 hv57 => ?_)
              obtain rfl := (show v57 = .int (q28.2.1 225 27) from hv57)
              obtain ⟨z39, ez37, hz53, hz54⟩ := cl_of (b := 2147483648) hf317 (by omega) (by decide)
              replace hR := bnd_step hR ez37
              first | rw [bnd_step rfl ez37] at hE | rw [E_MH_verify_1_L0, bnd_step rfl ez37] at hE | rw [E_MH_verify_1_L1, bnd_step rfl ez37] at hE | rw [E_MH_verify_1_L7, bnd_step rfl ez37] at hE | replace hE := bndP_step hE ez37
              refine mi_as hz53 ?_
              subst hz54
              refine lv_aload_n hx hb dMH_verify_129 rfl (lv_at hl 5 rfl) ?_
              refine nw_get (C := "LatticeKeysModel$Hands") (TT := T_MH) (N := 31) hx hb hts (wg_ft i_MH) hown hK hO k_h0 (kn := 225) (ci := 12) (fl := [(3, 172), (3, 181), (3, 226), (3, 291), (3, 299), (3, 308), (3, 317), (3, 326), (3, 334), (3, 342), (3, 350), (3, 359), (3, 368), (3, 369), (3, 370), (3, 371), (3, 372), (3, 373), (3, 374), (3, 375), (3, 376), (3, 377), (3, 378), (0, 0), (0, 0), (0, 0), (0, 0), (0, 0), (0, 0), (0, 0), (0, 0)]) rfl hP rfl 29 (by decide) (hts _ (wg_t kw_1461)) (fun _ h9 => h9) (cd := (0, 0)) rfl dMH_verify_130 (fun v58 hv58 => ?_)
              obtain rfl := (show v58 = .int (q28.2.1 225 29) from hv58)
              obtain ⟨z40, ez38, hz55, hz56⟩ := cl_of (b := 2147483648) hf319 (by omega) (by decide)
              replace hR := bnd_step hR ez38
              first | rw [bnd_step rfl ez38] at hE | rw [E_MH_verify_1_L0, bnd_step rfl ez38] at hE | rw [E_MH_verify_1_L1, bnd_step rfl ez38] at hE | rw [E_MH_verify_1_L7, bnd_step rfl ez38] at hE | replace hE := bndP_step hE ez38
              refine mi_as hz55 ?_
              subst hz56
              refine mi_isub hx hb dMH_verify_133 (by omega) ?_
              refine mi_as (show nI (524288 - 196) = nI 524092 from rfl) ?_
              refine lv_icmp_ge (tgt := 141) hx hb dMH_verify_134 (by decide) (fun h40 => ?_) (fun h40 => ?_)
              · replace hR := hR.trans (if_pos h40)
                first | rw [if_pos h40] at hE | rw [E_MH_verify_1_L0, if_pos h40] at hE | rw [E_MH_verify_1_L1, if_pos h40] at hE | rw [E_MH_verify_1_L2, if_pos h40] at hE | rw [E_MH_verify_1_L3, if_pos h40] at hE | rw [E_MH_verify_1_L4, if_pos h40] at hE | rw [E_MH_verify_1_L5, if_pos h40] at hE | rw [E_MH_verify_1_L6, if_pos h40] at hE | rw [E_MH_verify_1_L7, if_pos h40] at hE | rw [E_MH_verify_1_L8, if_pos h40] at hE | replace hE := iteP_pos h40 hE
                refine lv_iconst (v := nI 0) hx hb dMH_verify_141 (by decide) ?_
                refine lv_iand hx hb dMH_verify_142 ?_
                refine mi_eqv (fun z41 ez39 => ?_)
                replace hR := bnd_step hR ez39
                first | rw [bnd_step rfl ez39] at hE | rw [E_MH_verify_1_L0, bnd_step rfl ez39] at hE | rw [E_MH_verify_1_L1, bnd_step rfl ez39] at hE | rw [E_MH_verify_1_L7, bnd_step rfl ez39] at hE | replace hE := bndP_step hE ez39
                refine lv_istore (lv' := [(8, .int z41), (10, .int (nI i28)), (9, .int (nI i22)), (7, .int (nI az22)), (6, .int (nI 20)), (0, .ref h0), (2, .ref pk), (3, .ref b), (4, .int cl_), (5, .int (nI ed))]) hx hb dMH_verify_143 hl (by decide) rfl (fun ls hl => ?_)
                refine lv_iload hx hb dMH_verify_145 (lv_at hl 3 rfl) ?_
                refine lv_iload hx hb dMH_verify_147 (lv_at hl 4 rfl) ?_
                refine mi_iadd hx hb dMH_verify_149 ?_
                refine lv_istore (lv' := [(7, .int (nI (az22 + 20))), (8, .int z41), (10, .int (nI i28)), (9, .int (nI i22)), (6, .int (nI 20)), (0, .ref h0), (2, .ref pk), (3, .ref b), (4, .int cl_), (5, .int (nI ed))]) hx hb dMH_verify_150 hl (by decide) rfl (fun ls hl => ?_)
                refine mi_iinc (k := 2) (x := i28) (d := 1) (y := i28 + 1) (lv' := [(10, .int (nI (i28 + 1))), (7, .int (nI (az22 + 20))), (8, .int z41), (9, .int (nI i22)), (6, .int (nI 20)), (0, .ref h0), (2, .ref pk), (3, .ref b), (4, .int cl_), (5, .int (nI ed))]) hx hb dMH_verify_152 hl rfl (by decide) rfl (by decide) rfl (fun ls hl => ?_)
                refine lv_goto (tgt := 77) hx hb dMH_verify_155 (by decide) ?_
                exact ih28 (i28 + 1) z41 (az22 + 20) q28.2 pl ls H locs (by omega) (by omega) hF hf313 hf314 hf315 hf316 hf317 hf318 hf319 hf320 hE hR (lv_sub hl [0, 3, 2, 1, 4, 5, 6, 7, 8, 9] rfl) hO hP hD hS
              · replace hR := hR.trans (if_neg h40)
                first | rw [if_neg h40] at hE | rw [E_MH_verify_1_L0, if_neg h40] at hE | rw [E_MH_verify_1_L1, if_neg h40] at hE | rw [E_MH_verify_1_L2, if_neg h40] at hE | rw [E_MH_verify_1_L3, if_neg h40] at hE | rw [E_MH_verify_1_L4, if_neg h40] at hE | rw [E_MH_verify_1_L5, if_neg h40] at hE | rw [E_MH_verify_1_L6, if_neg h40] at hE | rw [E_MH_verify_1_L7, if_neg h40] at hE | rw [E_MH_verify_1_L8, if_neg h40] at hE | replace hE := iteP_neg h40 hE
                refine lv_iconst (v := nI 1) hx hb dMH_verify_137 (by decide) ?_
                refine lv_goto (tgt := 142) hx hb dMH_verify_138 (by decide) ?_
                refine lv_iand hx hb dMH_verify_142 ?_
                refine mi_eqv (fun z42 ez40 => ?_)
                replace hR := bnd_step hR ez40
                first | rw [bnd_step rfl ez40] at hE | rw [E_MH_verify_1_L0, bnd_step rfl ez40] at hE | rw [E_MH_verify_1_L1, bnd_step rfl ez40] at hE | rw [E_MH_verify_1_L7, bnd_step rfl ez40] at hE | replace hE := bndP_step hE ez40
                refine lv_istore (lv' := [(8, .int z42), (10, .int (nI i28)), (9, .int (nI i22)), (7, .int (nI az22)), (6, .int (nI 20)), (0, .ref h0), (2, .ref pk), (3, .ref b), (4, .int cl_), (5, .int (nI ed))]) hx hb dMH_verify_143 hl (by decide) rfl (fun ls hl => ?_)
                refine lv_iload hx hb dMH_verify_145 (lv_at hl 3 rfl) ?_
                refine lv_iload hx hb dMH_verify_147 (lv_at hl 4 rfl) ?_
                refine mi_iadd hx hb dMH_verify_149 ?_
                refine lv_istore (lv' := [(7, .int (nI (az22 + 20))), (8, .int z42), (10, .int (nI i28)), (9, .int (nI i22)), (6, .int (nI 20)), (0, .ref h0), (2, .ref pk), (3, .ref b), (4, .int cl_), (5, .int (nI ed))]) hx hb dMH_verify_150 hl (by decide) rfl (fun ls hl => ?_)
                refine mi_iinc (k := 2) (x := i28) (d := 1) (y := i28 + 1) (lv' := [(10, .int (nI (i28 + 1))), (7, .int (nI (az22 + 20))), (8, .int z42), (9, .int (nI i22)), (6, .int (nI 20)), (0, .ref h0), (2, .ref pk), (3, .ref b), (4, .int cl_), (5, .int (nI ed))]) hx hb dMH_verify_152 hl rfl (by decide) rfl (by decide) rfl (fun ls hl => ?_)
                refine lv_goto (tgt := 77) hx hb dMH_verify_155 (by decide) ?_
                exact ih28 (i28 + 1) z42 (az22 + 20) q28.2 pl ls H locs (by omega) (by omega) hF hf313 hf314 hf315 hf316 hf317 hf318 hf319 hf320 hE hR (lv_sub hl [0, 3, 2, 1, 4, 5, 6, 7, 8, 9] rfl) hO hP hD hS
          exact lp28 256 0 z24 az21 s23 pl ls _ _ (by omega) (by omega) hF hf265 hf266 hf267 hf268 hf269 hf270 hf271 hf272 hE hR (lv_sub hl [0, 1, 2, 3, 4, 5, 6, 7, 8, 9] rfl) hO hP hD hS
      exact lp22 5 0 (nI 1) 384 s22 pl ls _ _ (by omega) (by omega) hF hf21 hf22 hf23 hf24 hf25 hf26 hf27 hf28 hE hR (lv_sub hl [0, 1, 2, 3, 4, 5, 6, 7, 8] rfl) hO hP hD hS
    | succ n21 ih21 =>
      intro i21 s22 pl ls H locs hm21 hF hf321 hf322 hf323 hf324 hf325 hf326 hf327 hf328 hE hR hl hO hP hD hS
      refine lv_iload hx hb dMH_verify_36 (lv_at hl 0 rfl) ?_
      refine lv_aload_n hx hb dMH_verify_38 rfl (lv_at hl 4 rfl) ?_
      refine nw_get (C := "LatticeKeysModel$Hands") (TT := T_MH) (N := 31) hx hb hts (wg_ft i_MH) hown hK hO k_h0 (kn := 225) (ci := 12) (fl := [(3, 172), (3, 181), (3, 226), (3, 291), (3, 299), (3, 308), (3, 317), (3, 326), (3, 334), (3, 342), (3, 350), (3, 359), (3, 368), (3, 369), (3, 370), (3, 371), (3, 372), (3, 373), (3, 374), (3, 375), (3, 376), (3, 377), (3, 378), (0, 0), (0, 0), (0, 0), (0, 0), (0, 0), (0, 0), (0, 0), (0, 0)]) rfl hP rfl 30 (by decide) (hts _ (wg_t kw_1462)) (fun _ h9 => h9) (cd := (0, 0)) rfl dMH_verify_39 (fun v59 hv59 => ?_)
      obtain rfl := (show v59 = .int (s22.1 225 30) from hv59)
      obtain ⟨z43, ez41, hz57, hz58⟩ := cl_of (b := 2147483648) hf328 (by omega) (by decide)
      replace hR := bnd_step hR ez41
      first | rw [bnd_step rfl ez41] at hE | rw [E_MH_verify_1_L0, bnd_step rfl ez41] at hE | rw [E_MH_verify_1_L1, bnd_step rfl ez41] at hE | rw [E_MH_verify_1_L7, bnd_step rfl ez41] at hE | replace hE := bndP_step hE ez41
      refine mi_as hz57 ?_
      subst hz58
      refine mi_ge (tgt := 62) hx hb dMH_verify_42 (by decide) (by omega) (by omega) (fun h41 => absurd h41 (by omega)) (fun h41 => ?_)
      refine lv_aload_n hx hb dMH_verify_45 rfl (lv_at hl 4 rfl) ?_
      refine nw_get (C := "LatticeKeysModel$Hands") (TT := T_MH) (N := 31) hx hb hts (wg_ft i_MH) hown hK hO k_h0 (kn := 225) (ci := 12) (fl := [(3, 172), (3, 181), (3, 226), (3, 291), (3, 299), (3, 308), (3, 317), (3, 326), (3, 334), (3, 342), (3, 350), (3, 359), (3, 368), (3, 369), (3, 370), (3, 371), (3, 372), (3, 373), (3, 374), (3, 375), (3, 376), (3, 377), (3, 378), (0, 0), (0, 0), (0, 0), (0, 0), (0, 0), (0, 0), (0, 0), (0, 0)]) rfl hP rfl 20 (by decide) (hts _ (wg_t kw_1452)) (fun _ h9 => h9) (cd := (3, 376)) rfl dMH_verify_46 (fun v60 hv60 => ?_)
      obtain ⟨r60, rfl, kr52⟩ := (show ∃ r : Nat, v60 = .ref r ∧ T r = some 376 from hv60)
      refine lv_iload hx hb dMH_verify_49 (lv_at hl 0 rfl) ?_
      refine lv_aload_n hx hb dMH_verify_51 rfl (lv_at hl 6 rfl) ?_
      refine lv_iload hx hb dMH_verify_52 (lv_at hl 0 rfl) ?_
      refine nw_bald hx hb hK hO k_b (k := pb) n_b hP (by omega) (by omega) dMH_verify_54 ?_
      refine nw_bast hx hb hK hO hU kr52 (k := 376) rfl hP hD hS (by omega) (by omega) dMH_verify_55 (fun s44 pl H locs es24 hO hP hD hS => ?_)
      replace hR := bnd_step hR es24
      first | rw [bnd_step rfl es24] at hE | rw [E_MH_verify_1_L0, bnd_step rfl es24] at hE | rw [E_MH_verify_1_L1, bnd_step rfl es24] at hE | rw [E_MH_verify_1_L7, bnd_step rfl es24] at hE | replace hE := bndP_step hE es24
      have hF := frm_sB hF es24 (by unfold M_MH_verify_1; omega)
      have hf329 : s44.1 225 23 = nI 1 := fc_B hf321 es24 (by omega)
      have hf330 : s44.1 225 24 = nI 6 := fc_B hf322 es24 (by omega)
      have hf331 : s44.1 225 25 = nI 5 := fc_B hf323 es24 (by omega)
      have hf332 : s44.1 225 26 = nI 4 := fc_B hf324 es24 (by omega)
      have hf333 : s44.1 225 27 = nI 524288 := fc_B hf325 es24 (by omega)
      have hf334 : s44.1 225 28 = nI 261888 := fc_B hf326 es24 (by omega)
      have hf335 : s44.1 225 29 = nI 196 := fc_B hf327 es24 (by omega)
      have hf336 : s44.1 225 30 = nI 48 := fc_B hf328 es24 (by omega)
      refine mi_iinc (k := 0) (x := i21) (d := 1) (y := i21 + 1) (lv' := [(9, .int (nI (i21 + 1))), (8, .int (nI 1)), (7, .int (nI 384)), (6, .int (nI 20)), (0, .ref h0), (2, .ref pk), (3, .ref b), (4, .int cl_), (5, .int (nI ed))]) hx hb dMH_verify_56 hl rfl (by decide) rfl (by decide) rfl (fun ls hl => ?_)
      refine lv_goto (tgt := 36) hx hb dMH_verify_59 (by decide) ?_
      exact ih21 (i21 + 1) s44 pl ls H locs (by omega) hF hf329 hf330 hf331 hf332 hf333 hf334 hf335 hf336 hE hR (lv_sub hl [0, 1, 2, 3, 4, 5, 6, 7, 8] rfl) hO hP hD hS
  exact lp21 48 0 s21 pl ls _ _ (by omega) hF hx_21 hx_22 hx_23 hx_24 hx_25 hx_26 hx_27 hx_28 hE hR (lv_sub hl [0, 1, 2, 3, 4, 6, 7, 8, 9] rfl) hO hP hD hS
