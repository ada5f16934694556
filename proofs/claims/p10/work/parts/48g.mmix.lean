set_option linter.all false
set_option maxHeartbeats 400000 in
set_option maxRecDepth 100000 in
theorem x_MS_left (l : Launch) (g : Gd) (sz : Nat) (T : Ty) (xs : List Nat) (pl : va_W) (hO : okx g T xs pl) (hU : uni T) (v : Int64) (n : Int32)  : Met l y_MS_left w_MS_left ({ frames := 0, cells := 0, slots := 0, locals := 0 } : Room) (va_Pc [.long v, .int n] (pr (en g) g.1 vcl sz ([] ++ pl))) (va_Ql (fun (r : Int64) (u : va_W) => (r = lf v n) ∧ okx g T xs u) (po g.1 vcl (va_A ([] ++ pl) sz) (fun (u : va_W) => [] ++ u)) (va_A ([] ++ pl) sz)) 0 0 (va_A ([] ++ pl) sz) := by
  refine mc_entry (cc := c_MS_left) (maxL := 3) (ret := (some .long)) (by decide) rfl (Nat.le_of_ble_eq_true rfl) ?_
  intro p e s m args below meth c ls F hr hlk hnm hsz hP hD hE hA hl
  obtain ⟨hx, hb, hml, hown, hts⟩ := id F
  have hK := hE.1
  generalize va_A ([] ++ pl) sz = A at hD hE hA ⊢
  have hS : va_S A s.heap s.heap [] := va_S.rf
  have hl : lv_has ls 3 [(0, .long v), (2, .int n)] := hl
  refine lv_lload_n hx hb dMS_left_0 rfl (lv_at hl 0 rfl) ?_
  refine lv_iload_n hx hb dMS_left_1 rfl (lv_at hl 1 rfl) ?_
  refine lv_lshl hx hb dMS_left_2 rfl ?_
  refine lv_lload_n hx hb dMS_left_3 rfl (lv_at hl 0 rfl) ?_
  refine lv_iconst (v := nI 1) hx hb dMS_left_4 (by decide) ?_
  refine lv_lushr (v := (v.toUInt64 >>> (Int32.toInt64 1).toUInt64).toInt64) hx hb dMS_left_5 (by rw [show ((nI 1).toInt64.toUInt64 &&& Int64.toUInt64 63) = (Int32.toInt64 1).toUInt64 from by decide]) ?_
  refine lv_bipush (v := nI 63) hx hb dMS_left_6 (by decide) ?_
  refine lv_iload_n hx hb dMS_left_8 rfl (lv_at hl 1 rfl) ?_
  refine lv_isub hx hb dMS_left_9 ?_
  refine mi_as (show nI 63 - n = 63 - n from rfl) ?_
  refine lv_lushr hx hb dMS_left_10 rfl ?_
  refine lv_lor hx hb dMS_left_11 ?_
  exact mp_lret hx hb hr hlk hP hD hS pl ⟨rfl, hO⟩ [] rfl rfl rfl (by omega) (by omega) dMS_left_12
set_option maxHeartbeats 400000 in
set_option maxRecDepth 100000 in
theorem x_MS_mix (l : Launch) (g : Gd) (sz : Nat) (T : Ty) (xs : List Nat) (pl : va_W) (hO : okx g T xs pl) (hU : uni T) (h0 sa ta ca ra ua : Nat) (x1 x2 x3 : Int32) (fs ft fc : Nat → Int64)  : Met l y_MS_mix w_MS_mix ({ frames := 1, cells := 0, slots := 0, locals := 22 } : Room) (va_Pc [.ref h0] (pr (en g) g.1 vcl sz (([(h0, .inr (9, [.ref sa, .ref ta, .ref ca, .ref ra, .ref ua, .int x1, .int x2, .int x3])), (sa, .inl (g.2.1 2, 25, .inr (.inl fs))), (ta, .inl (g.2.1 2, 25, .inr (.inl ft))), (ca, .inl (g.2.1 2, 5, .inr (.inl fc))), (ra, .inl (g.2.1 2, 24, .inr (.inl RCS))), (ua, .inl (g.2.1 0, 25, .inl TUR))] : va_W) ++ pl))) (va_Qv (fun (u : ((Nat → Int64) × (Nat → Int64)) × va_W) => (True) ∧ okx g T xs u.2) (po g.1 vcl (va_A (([(h0, .inr (9, [.ref sa, .ref ta, .ref ca, .ref ra, .ref ua, .int x1, .int x2, .int x3])), (sa, .inl (g.2.1 2, 25, .inr (.inl fs))), (ta, .inl (g.2.1 2, 25, .inr (.inl ft))), (ca, .inl (g.2.1 2, 5, .inr (.inl fc))), (ra, .inl (g.2.1 2, 24, .inr (.inl RCS))), (ua, .inl (g.2.1 0, 25, .inl TUR))] : va_W) ++ pl) sz) (fun (u : ((Nat → Int64) × (Nat → Int64)) × va_W) => ([(h0, .inr (9, [.ref sa, .ref ta, .ref ca, .ref ra, .ref ua, .int x1, .int x2, .int x3])), (sa, .inl (g.2.1 2, 25, .inr (.inl ((prm fs))))), (ta, .inl (g.2.1 2, 25, .inr (.inl ((u.1.1))))), (ca, .inl (g.2.1 2, 5, .inr (.inl ((u.1.2))))), (ra, .inl (g.2.1 2, 24, .inr (.inl RCS))), (ua, .inl (g.2.1 0, 25, .inl TUR))] : va_W) ++ u.2)) (va_A (([(h0, .inr (9, [.ref sa, .ref ta, .ref ca, .ref ra, .ref ua, .int x1, .int x2, .int x3])), (sa, .inl (g.2.1 2, 25, .inr (.inl fs))), (ta, .inl (g.2.1 2, 25, .inr (.inl ft))), (ca, .inl (g.2.1 2, 5, .inr (.inl fc))), (ra, .inl (g.2.1 2, 24, .inr (.inl RCS))), (ua, .inl (g.2.1 0, 25, .inl TUR))] : va_W) ++ pl) sz)) 0 0 (va_A (([(h0, .inr (9, [.ref sa, .ref ta, .ref ca, .ref ra, .ref ua, .int x1, .int x2, .int x3])), (sa, .inl (g.2.1 2, 25, .inr (.inl fs))), (ta, .inl (g.2.1 2, 25, .inr (.inl ft))), (ca, .inl (g.2.1 2, 5, .inr (.inl fc))), (ra, .inl (g.2.1 2, 24, .inr (.inl RCS))), (ua, .inl (g.2.1 0, 25, .inl TUR))] : va_W) ++ pl) sz) := by
  refine mc_entry (cc := c_MS_mix) (maxL := 4) (ret := none) (by decide) rfl (Nat.le_of_ble_eq_true rfl) ?_
  intro p e s m args below meth c ls F hr hlk hnm hsz hP hD hE hA hl
  obtain ⟨hx, hb, hml, hown, hts⟩ := id F
  have hK := hE.1
  generalize va_A (([(h0, .inr (9, [.ref sa, .ref ta, .ref ca, .ref ra, .ref ua, .int x1, .int x2, .int x3])), (sa, .inl (g.2.1 2, 25, .inr (.inl fs))), (ta, .inl (g.2.1 2, 25, .inr (.inl ft))), (ca, .inl (g.2.1 2, 5, .inr (.inl fc))), (ra, .inl (g.2.1 2, 24, .inr (.inl RCS))), (ua, .inl (g.2.1 0, 25, .inl TUR))] : va_W) ++ pl) sz = A at hD hE hA ⊢
  have hS : va_S A s.heap s.heap [] := va_S.rf
  have hl : lv_has ls 4 [(0, .ref h0)] := hl
  refine lv_iconst (v := nI 0) hx hb dMS_mix_0 (by decide) ?_
  refine lv_istore_n (lv' := [(1, .int (nI 0)), (0, .ref h0)]) hx hb dMS_mix_1 rfl hl (by decide) rfl (fun ls hl => ?_)
  have lp21 : ∀ (n21 : Nat) (i21 : Nat) (f21 : Nat → Int64) (f22 : Nat → Int64) (f23 : Nat → Int64) (pl : va_W) (ls : Array Slot) (H : Heap) (locs : List Loc), n21 + i21 = 24 → (eq25 f21 (kfN TUR RCS i21 fs)) → lv_has ls 4 [(1, .int (nI i21)), (0, .ref h0)] → okx g T xs pl → va_P g.1 vcl (([(h0, .inr (9, [.ref sa, .ref ta, .ref ca, .ref ra, .ref ua, .int x1, .int x2, .int x3])), (sa, .inl (g.2.1 2, 25, .inr (.inl f21))), (ta, .inl (g.2.1 2, 25, .inr (.inl f22))), (ca, .inl (g.2.1 2, 5, .inr (.inl f23))), (ra, .inl (g.2.1 2, 24, .inr (.inl RCS))), (ua, .inl (g.2.1 0, 25, .inl TUR))] : va_W) ++ pl) H → va_D A (([(h0, .inr (9, [.ref sa, .ref ta, .ref ca, .ref ra, .ref ua, .int x1, .int x2, .int x3])), (sa, .inl (g.2.1 2, 25, .inr (.inl f21))), (ta, .inl (g.2.1 2, 25, .inr (.inl f22))), (ca, .inl (g.2.1 2, 5, .inr (.inl f23))), (ra, .inl (g.2.1 2, 24, .inr (.inl RCS))), (ua, .inl (g.2.1 0, 25, .inl TUR))] : va_W) ++ pl) → va_S A s.heap H locs → W p l e ({ frames := 1, cells := 0, slots := 0, locals := 22 } : Room) s m args below meth c H locs 0 0 (MQ below (va_Qv (fun (u : ((Nat → Int64) × (Nat → Int64)) × va_W) => (True) ∧ okx g T xs u.2) (po g.1 vcl A (fun (u : ((Nat → Int64) × (Nat → Int64)) × va_W) => ([(h0, .inr (9, [.ref sa, .ref ta, .ref ca, .ref ra, .ref ua, .int x1, .int x2, .int x3])), (sa, .inl (g.2.1 2, 25, .inr (.inl ((prm fs))))), (ta, .inl (g.2.1 2, 25, .inr (.inl ((u.1.1))))), (ca, .inl (g.2.1 2, 5, .inr (.inl ((u.1.2))))), (ra, .inl (g.2.1 2, 24, .inr (.inl RCS))), (ua, .inl (g.2.1 0, 25, .inl TUR))] : va_W) ++ u.2)) A) args s 0 0 A) (F0 m 2 ls []) := by
    intro n21
    induction n21 with
    | zero =>
      intro i21 f21 f22 f23 pl ls H locs hm21 hk hl hO hP hD hS
      refine lv_iload_n hx hb dMS_mix_2 rfl (lv_at hl 0 rfl) ?_
      refine lv_bipush (v := nI 24) hx hb dMS_mix_3 (by decide) ?_
      refine mi_ge (tgt := 288) hx hb dMS_mix_5 (by decide) (by omega) (by omega) (fun h21 => ?_) (fun h21 => absurd h21 (by omega))
      have hP := pc_l hP 1 (prm fs) rfl (by have h9 := hk; rw [show i21 = 24 by omega] at h9; exact h9)
      have hD := dc_e hD 1 (.inl (g.2.1 2, 25, .inr (.inl (prm fs)))) rfl
      have hP : va_P g.1 vcl (([(h0, .inr (9, [.ref sa, .ref ta, .ref ca, .ref ra, .ref ua, .int x1, .int x2, .int x3])), (sa, .inl (g.2.1 2, 25, .inr (.inl ((prm fs))))), (ta, .inl (g.2.1 2, 25, .inr (.inl f22))), (ca, .inl (g.2.1 2, 5, .inr (.inl f23))), (ra, .inl (g.2.1 2, 24, .inr (.inl RCS))), (ua, .inl (g.2.1 0, 25, .inl TUR))] : va_W) ++ pl) _ := hP
      have hD : va_D _ (([(h0, .inr (9, [.ref sa, .ref ta, .ref ca, .ref ra, .ref ua, .int x1, .int x2, .int x3])), (sa, .inl (g.2.1 2, 25, .inr (.inl ((prm fs))))), (ta, .inl (g.2.1 2, 25, .inr (.inl f22))), (ca, .inl (g.2.1 2, 5, .inr (.inl f23))), (ra, .inl (g.2.1 2, 24, .inr (.inl RCS))), (ua, .inl (g.2.1 0, 25, .inl TUR))] : va_W) ++ pl) := hD
      exact mp_vret hx hb hr hlk hP hD hS ((f22, f23), pl) ⟨trivial, hO⟩ [0, 1, 2, 3, 4, 5] rfl rfl rfl (by omega) (by omega) dMS_mix_288
    | succ n21 ih21 =>
      intro i21 f21 f22 f23 pl ls H locs hm21 hk hl hO hP hD hS
      refine lv_iload_n hx hb dMS_mix_2 rfl (lv_at hl 0 rfl) ?_
      refine lv_bipush (v := nI 24) hx hb dMS_mix_3 (by decide) ?_
      refine mi_ge (tgt := 288) hx hb dMS_mix_5 (by decide) (by omega) (by omega) (fun h22 => absurd h22 (by omega)) (fun h22 => ?_)
      refine lv_iconst (v := nI 0) hx hb dMS_mix_8 (by decide) ?_
      refine lv_istore_n (lv' := [(2, .int (nI 0)), (1, .int (nI i21)), (0, .ref h0)]) hx hb dMS_mix_9 rfl hl (by decide) rfl (fun ls hl => ?_)
      have lp22 : ∀ (n22 : Nat) (i22 : Nat) (f24 : Nat → Int64) (pl : va_W) (ls : Array Slot) (H : Heap) (locs : List Loc), n22 + i22 = 5 → (∀ j, j < i22 → f24 j = colF f21 j) → lv_has ls 4 [(2, .int (nI i22)), (1, .int (nI i21)), (0, .ref h0)] → okx g T xs pl → va_P g.1 vcl (([(h0, .inr (9, [.ref sa, .ref ta, .ref ca, .ref ra, .ref ua, .int x1, .int x2, .int x3])), (sa, .inl (g.2.1 2, 25, .inr (.inl f21))), (ta, .inl (g.2.1 2, 25, .inr (.inl f22))), (ca, .inl (g.2.1 2, 5, .inr (.inl f24))), (ra, .inl (g.2.1 2, 24, .inr (.inl RCS))), (ua, .inl (g.2.1 0, 25, .inl TUR))] : va_W) ++ pl) H → va_D A (([(h0, .inr (9, [.ref sa, .ref ta, .ref ca, .ref ra, .ref ua, .int x1, .int x2, .int x3])), (sa, .inl (g.2.1 2, 25, .inr (.inl f21))), (ta, .inl (g.2.1 2, 25, .inr (.inl f22))), (ca, .inl (g.2.1 2, 5, .inr (.inl f24))), (ra, .inl (g.2.1 2, 24, .inr (.inl RCS))), (ua, .inl (g.2.1 0, 25, .inl TUR))] : va_W) ++ pl) → va_S A s.heap H locs → W p l e ({ frames := 1, cells := 0, slots := 0, locals := 22 } : Room) s m args below meth c H locs 0 0 (MQ below (va_Qv (fun (u : ((Nat → Int64) × (Nat → Int64)) × va_W) => (True) ∧ okx g T xs u.2) (po g.1 vcl A (fun (u : ((Nat → Int64) × (Nat → Int64)) × va_W) => ([(h0, .inr (9, [.ref sa, .ref ta, .ref ca, .ref ra, .ref ua, .int x1, .int x2, .int x3])), (sa, .inl (g.2.1 2, 25, .inr (.inl ((prm fs))))), (ta, .inl (g.2.1 2, 25, .inr (.inl ((u.1.1))))), (ca, .inl (g.2.1 2, 5, .inr (.inl ((u.1.2))))), (ra, .inl (g.2.1 2, 24, .inr (.inl RCS))), (ua, .inl (g.2.1 0, 25, .inl TUR))] : va_W) ++ u.2)) A) args s 0 0 A) (F0 m 10 ls []) := by
        intro n22
        induction n22 with
        | zero =>
          intro i22 f24 pl ls H locs hm22 hcol hl hO hP hD hS
          refine lv_iload_n hx hb dMS_mix_10 rfl (lv_at hl 0 rfl) ?_
          refine lv_iconst (v := nI 5) hx hb dMS_mix_11 (by decide) ?_
          refine mi_ge (tgt := 72) hx hb dMS_mix_12 (by decide) (by omega) (by omega) (fun h23 => ?_) (fun h23 => absurd h23 (by omega))
          refine lv_iconst (v := nI 0) hx hb dMS_mix_72 (by decide) ?_
          refine lv_istore_n (lv' := [(2, .int (nI 0)), (1, .int (nI i21)), (0, .ref h0)]) hx hb dMS_mix_73 rfl hl (by decide) rfl (fun ls hl => ?_)
          have lp23 : ∀ (n23 : Nat) (i23 : Nat) (f25 : Nat → Int64) (pl : va_W) (ls : Array Slot) (H : Heap) (locs : List Loc), n23 + i23 = 25 → (∀ j, j < i23 → f25 j = thF f21 j) → (∀ j, i23 ≤ j → j < 25 → f25 j = f21 j) → lv_has ls 4 [(2, .int (nI i23)), (1, .int (nI i21)), (0, .ref h0)] → okx g T xs pl → va_P g.1 vcl (([(h0, .inr (9, [.ref sa, .ref ta, .ref ca, .ref ra, .ref ua, .int x1, .int x2, .int x3])), (sa, .inl (g.2.1 2, 25, .inr (.inl f25))), (ta, .inl (g.2.1 2, 25, .inr (.inl f22))), (ca, .inl (g.2.1 2, 5, .inr (.inl f24))), (ra, .inl (g.2.1 2, 24, .inr (.inl RCS))), (ua, .inl (g.2.1 0, 25, .inl TUR))] : va_W) ++ pl) H → va_D A (([(h0, .inr (9, [.ref sa, .ref ta, .ref ca, .ref ra, .ref ua, .int x1, .int x2, .int x3])), (sa, .inl (g.2.1 2, 25, .inr (.inl f25))), (ta, .inl (g.2.1 2, 25, .inr (.inl f22))), (ca, .inl (g.2.1 2, 5, .inr (.inl f24))), (ra, .inl (g.2.1 2, 24, .inr (.inl RCS))), (ua, .inl (g.2.1 0, 25, .inl TUR))] : va_W) ++ pl) → va_S A s.heap H locs → W p l e ({ frames := 1, cells := 0, slots := 0, locals := 22 } : Room) s m args below meth c H locs 0 0 (MQ below (va_Qv (fun (u : ((Nat → Int64) × (Nat → Int64)) × va_W) => (True) ∧ okx g T xs u.2) (po g.1 vcl A (fun (u : ((Nat → Int64) × (Nat → Int64)) × va_W) => ([(h0, .inr (9, [.ref sa, .ref ta, .ref ca, .ref ra, .ref ua, .int x1, .int x2, .int x3])), (sa, .inl (g.2.1 2, 25, .inr (.inl ((prm fs))))), (ta, .inl (g.2.1 2, 25, .inr (.inl ((u.1.1))))), (ca, .inl (g.2.1 2, 5, .inr (.inl ((u.1.2))))), (ra, .inl (g.2.1 2, 24, .inr (.inl RCS))), (ua, .inl (g.2.1 0, 25, .inl TUR))] : va_W) ++ u.2)) A) args s 0 0 A) (F0 m 74 ls []) := by
            intro n23
            induction n23 with
            | zero =>
              intro i23 f25 pl ls H locs hm23 hthA hthB hl hO hP hD hS
              refine lv_iload_n hx hb dMS_mix_74 rfl (lv_at hl 0 rfl) ?_
              refine lv_bipush (v := nI 25) hx hb dMS_mix_75 (by decide) ?_
              refine mi_ge (tgt := 120) hx hb dMS_mix_77 (by decide) (by omega) (by omega) (fun h24 => ?_) (fun h24 => absurd h24 (by omega))
              refine lv_iconst (v := nI 0) hx hb dMS_mix_120 (by decide) ?_
              refine lv_istore_n (lv' := [(2, .int (nI 0)), (1, .int (nI i21)), (0, .ref h0)]) hx hb dMS_mix_121 rfl hl (by decide) rfl (fun ls hl => ?_)
              have lp24 : ∀ (n24 : Nat) (i24 : Nat) (f26 : Nat → Int64) (pl : va_W) (ls : Array Slot) (H : Heap) (locs : List Loc), n24 + i24 = 5 → (rpI i24 0 f25 f26 TUR) → lv_has ls 4 [(2, .int (nI i24)), (1, .int (nI i21)), (0, .ref h0)] → okx g T xs pl → va_P g.1 vcl (([(h0, .inr (9, [.ref sa, .ref ta, .ref ca, .ref ra, .ref ua, .int x1, .int x2, .int x3])), (sa, .inl (g.2.1 2, 25, .inr (.inl f25))), (ta, .inl (g.2.1 2, 25, .inr (.inl f26))), (ca, .inl (g.2.1 2, 5, .inr (.inl f24))), (ra, .inl (g.2.1 2, 24, .inr (.inl RCS))), (ua, .inl (g.2.1 0, 25, .inl TUR))] : va_W) ++ pl) H → va_D A (([(h0, .inr (9, [.ref sa, .ref ta, .ref ca, .ref ra, .ref ua, .int x1, .int x2, .int x3])), (sa, .inl (g.2.1 2, 25, .inr (.inl f25))), (ta, .inl (g.2.1 2, 25, .inr (.inl f26))), (ca, .inl (g.2.1 2, 5, .inr (.inl f24))), (ra, .inl (g.2.1 2, 24, .inr (.inl RCS))), (ua, .inl (g.2.1 0, 25, .inl TUR))] : va_W) ++ pl) → va_S A s.heap H locs → W p l e ({ frames := 1, cells := 0, slots := 0, locals := 22 } : Room) s m args below meth c H locs 0 0 (MQ below (va_Qv (fun (u : ((Nat → Int64) × (Nat → Int64)) × va_W) => (True) ∧ okx g T xs u.2) (po g.1 vcl A (fun (u : ((Nat → Int64) × (Nat → Int64)) × va_W) => ([(h0, .inr (9, [.ref sa, .ref ta, .ref ca, .ref ra, .ref ua, .int x1, .int x2, .int x3])), (sa, .inl (g.2.1 2, 25, .inr (.inl ((prm fs))))), (ta, .inl (g.2.1 2, 25, .inr (.inl ((u.1.1))))), (ca, .inl (g.2.1 2, 5, .inr (.inl ((u.1.2))))), (ra, .inl (g.2.1 2, 24, .inr (.inl RCS))), (ua, .inl (g.2.1 0, 25, .inl TUR))] : va_W) ++ u.2)) A) args s 0 0 A) (F0 m 122 ls []) := by
                intro n24
                induction n24 with
                | zero =>
                  intro i24 f26 pl ls H locs hm24 hrp hl hO hP hD hS
                  refine lv_iload_n hx hb dMS_mix_122 rfl (lv_at hl 0 rfl) ?_
                  refine lv_iconst (v := nI 5) hx hb dMS_mix_123 (by decide) ?_
                  refine mi_ge (tgt := 187) hx hb dMS_mix_124 (by decide) (by omega) (by omega) (fun h25 => ?_) (fun h25 => absurd h25 (by omega))
                  refine lv_iconst (v := nI 0) hx hb dMS_mix_187 (by decide) ?_
                  refine lv_istore_n (lv' := [(2, .int (nI 0)), (1, .int (nI i21)), (0, .ref h0)]) hx hb dMS_mix_188 rfl hl (by decide) rfl (fun ls hl => ?_)
                  have lp25 : ∀ (n25 : Nat) (i25 : Nat) (f27 : Nat → Int64) (pl : va_W) (ls : Array Slot) (H : Heap) (locs : List Loc), n25 + i25 = 5 → (chI i25 0 f27 f26) → lv_has ls 4 [(2, .int (nI i25)), (1, .int (nI i21)), (0, .ref h0)] → okx g T xs pl → va_P g.1 vcl (([(h0, .inr (9, [.ref sa, .ref ta, .ref ca, .ref ra, .ref ua, .int x1, .int x2, .int x3])), (sa, .inl (g.2.1 2, 25, .inr (.inl f27))), (ta, .inl (g.2.1 2, 25, .inr (.inl f26))), (ca, .inl (g.2.1 2, 5, .inr (.inl f24))), (ra, .inl (g.2.1 2, 24, .inr (.inl RCS))), (ua, .inl (g.2.1 0, 25, .inl TUR))] : va_W) ++ pl) H → va_D A (([(h0, .inr (9, [.ref sa, .ref ta, .ref ca, .ref ra, .ref ua, .int x1, .int x2, .int x3])), (sa, .inl (g.2.1 2, 25, .inr (.inl f27))), (ta, .inl (g.2.1 2, 25, .inr (.inl f26))), (ca, .inl (g.2.1 2, 5, .inr (.inl f24))), (ra, .inl (g.2.1 2, 24, .inr (.inl RCS))), (ua, .inl (g.2.1 0, 25, .inl TUR))] : va_W) ++ pl) → va_S A s.heap H locs → W p l e ({ frames := 1, cells := 0, slots := 0, locals := 22 } : Room) s m args below meth c H locs 0 0 (MQ below (va_Qv (fun (u : ((Nat → Int64) × (Nat → Int64)) × va_W) => (True) ∧ okx g T xs u.2) (po g.1 vcl A (fun (u : ((Nat → Int64) × (Nat → Int64)) × va_W) => ([(h0, .inr (9, [.ref sa, .ref ta, .ref ca, .ref ra, .ref ua, .int x1, .int x2, .int x3])), (sa, .inl (g.2.1 2, 25, .inr (.inl ((prm fs))))), (ta, .inl (g.2.1 2, 25, .inr (.inl ((u.1.1))))), (ca, .inl (g.2.1 2, 5, .inr (.inl ((u.1.2))))), (ra, .inl (g.2.1 2, 24, .inr (.inl RCS))), (ua, .inl (g.2.1 0, 25, .inl TUR))] : va_W) ++ u.2)) A) args s 0 0 A) (F0 m 189 ls []) := by
                    intro n25
                    induction n25 with
                    | zero =>
                      intro i25 f27 pl ls H locs hm25 hch hl hO hP hD hS
                      refine lv_iload_n hx hb dMS_mix_189 rfl (lv_at hl 0 rfl) ?_
                      refine lv_iconst (v := nI 5) hx hb dMS_mix_190 (by decide) ?_
                      refine mi_ge (tgt := 267) hx hb dMS_mix_191 (by decide) (by omega) (by omega) (fun h26 => ?_) (fun h26 => absurd h26 (by omega))
                      refine lv_aload_n hx hb dMS_mix_267 rfl (lv_at hl 2 rfl) ?_
                      refine va_get (D := g.1) (ci := 9) (C := "LatticeKeysModel$Sponge") (T := T_MS) (N := 8) hx hb hts (wg_ft i_MS) hown hK hP 0 rfl rfl 0 (by decide) (hts _ (wg_t kw_1325)) (fun _ h9 => h9) rfl dMS_mix_268 ?_
                      refine lv_iconst (v := nI 0) hx hb dMS_mix_271 (by decide) ?_
                      refine lv_dup2_11 hx hb dMS_mix_272 rfl rfl ?_
                      refine mp_lald hx hb hK hP 1 2 rfl rfl (by omega) (by decide) dMS_mix_273 ?_
                      refine lv_aload_n hx hb dMS_mix_274 rfl (lv_at hl 2 rfl) ?_
                      refine va_get (D := g.1) (ci := 9) (C := "LatticeKeysModel$Sponge") (T := T_MS) (N := 8) hx hb hts (wg_ft i_MS) hown hK hP 0 rfl rfl 3 (by decide) (hts _ (wg_t kw_1328)) (fun _ h9 => h9) rfl dMS_mix_275 ?_
                      refine lv_iload_n hx hb dMS_mix_278 rfl (lv_at hl 1 rfl) ?_
                      refine mp_lald hx hb hK hP 4 2 rfl rfl (by omega) (by decide) dMS_mix_279 ?_
                      refine lv_lxor hx hb dMS_mix_280 ?_
                      refine mp_last hx hb hK hP hD hS 1 2 rfl rfl (by omega) (by decide) dMS_mix_281 (fun H locs hP hD hS => ?_)
                      have hP : va_P g.1 vcl (([(h0, .inr (9, [.ref sa, .ref ta, .ref ca, .ref ra, .ref ua, .int x1, .int x2, .int x3])), (sa, .inl (g.2.1 2, 25, .inr (.inl ((vp_updL f27 0 ((f27 0) ^^^ (RCS i21))))))), (ta, .inl (g.2.1 2, 25, .inr (.inl f26))), (ca, .inl (g.2.1 2, 5, .inr (.inl f24))), (ra, .inl (g.2.1 2, 24, .inr (.inl RCS))), (ua, .inl (g.2.1 0, 25, .inl TUR))] : va_W) ++ pl) _ := hP
                      have hD : va_D _ (([(h0, .inr (9, [.ref sa, .ref ta, .ref ca, .ref ra, .ref ua, .int x1, .int x2, .int x3])), (sa, .inl (g.2.1 2, 25, .inr (.inl ((vp_updL f27 0 ((f27 0) ^^^ (RCS i21))))))), (ta, .inl (g.2.1 2, 25, .inr (.inl f26))), (ca, .inl (g.2.1 2, 5, .inr (.inl f24))), (ra, .inl (g.2.1 2, 24, .inr (.inl RCS))), (ua, .inl (g.2.1 0, 25, .inl TUR))] : va_W) ++ pl) := hD
                      refine mi_iinc (k := 1) (x := i21) (d := 1) (y := i21 + 1) (lv' := [(1, .int (nI (i21 + 1))), (2, .int (nI i25)), (0, .ref h0)]) hx hb dMS_mix_282 hl rfl (by decide) rfl (by decide) rfl (fun ls hl => ?_)
                      refine lv_goto (tgt := 2) hx hb dMS_mix_285 (by decide) ?_
                      exact ih21 (i21 + 1) (vp_updL f27 0 ((f27 0) ^^^ (RCS i21))) f26 f24 pl ls H locs (by omega) (rd_end (fun j h9 => hthA j (by omega)) (rp_en (by omega) hrp) (ch_en (by omega) hch) hk) (lv_sub hl [0, 2] rfl) hO hP hD hS
                    | succ n25 ih25 =>
                      intro i25 f27 pl ls H locs hm25 hch hl hO hP hD hS
                      refine lv_iload_n hx hb dMS_mix_189 rfl (lv_at hl 0 rfl) ?_
                      refine lv_iconst (v := nI 5) hx hb dMS_mix_190 (by decide) ?_
                      refine mi_ge (tgt := 267) hx hb dMS_mix_191 (by decide) (by omega) (by omega) (fun h27 => absurd h27 (by omega)) (fun h27 => ?_)
                      refine lv_iconst (v := nI 0) hx hb dMS_mix_194 (by decide) ?_
                      refine lv_istore_n (lv' := [(3, .int (nI 0)), (2, .int (nI i25)), (1, .int (nI i21)), (0, .ref h0)]) hx hb dMS_mix_195 rfl hl (by decide) rfl (fun ls hl => ?_)
                      have lp26 : ∀ (n26 : Nat) (i26 : Nat) (f28 : Nat → Int64) (pl : va_W) (ls : Array Slot) (H : Heap) (locs : List Loc), n26 + i26 = 5 → (chI i25 i26 f28 f26) → lv_has ls 4 [(3, .int (nI i26)), (2, .int (nI i25)), (1, .int (nI i21)), (0, .ref h0)] → okx g T xs pl → va_P g.1 vcl (([(h0, .inr (9, [.ref sa, .ref ta, .ref ca, .ref ra, .ref ua, .int x1, .int x2, .int x3])), (sa, .inl (g.2.1 2, 25, .inr (.inl f28))), (ta, .inl (g.2.1 2, 25, .inr (.inl f26))), (ca, .inl (g.2.1 2, 5, .inr (.inl f24))), (ra, .inl (g.2.1 2, 24, .inr (.inl RCS))), (ua, .inl (g.2.1 0, 25, .inl TUR))] : va_W) ++ pl) H → va_D A (([(h0, .inr (9, [.ref sa, .ref ta, .ref ca, .ref ra, .ref ua, .int x1, .int x2, .int x3])), (sa, .inl (g.2.1 2, 25, .inr (.inl f28))), (ta, .inl (g.2.1 2, 25, .inr (.inl f26))), (ca, .inl (g.2.1 2, 5, .inr (.inl f24))), (ra, .inl (g.2.1 2, 24, .inr (.inl RCS))), (ua, .inl (g.2.1 0, 25, .inl TUR))] : va_W) ++ pl) → va_S A s.heap H locs → W p l e ({ frames := 1, cells := 0, slots := 0, locals := 22 } : Room) s m args below meth c H locs 0 0 (MQ below (va_Qv (fun (u : ((Nat → Int64) × (Nat → Int64)) × va_W) => (True) ∧ okx g T xs u.2) (po g.1 vcl A (fun (u : ((Nat → Int64) × (Nat → Int64)) × va_W) => ([(h0, .inr (9, [.ref sa, .ref ta, .ref ca, .ref ra, .ref ua, .int x1, .int x2, .int x3])), (sa, .inl (g.2.1 2, 25, .inr (.inl ((prm fs))))), (ta, .inl (g.2.1 2, 25, .inr (.inl ((u.1.1))))), (ca, .inl (g.2.1 2, 5, .inr (.inl ((u.1.2))))), (ra, .inl (g.2.1 2, 24, .inr (.inl RCS))), (ua, .inl (g.2.1 0, 25, .inl TUR))] : va_W) ++ u.2)) A) args s 0 0 A) (F0 m 196 ls []) := by
                        intro n26
                        induction n26 with
                        | zero =>
                          intro i26 f28 pl ls H locs hm26 hchy hl hO hP hD hS
                          refine lv_iload_n hx hb dMS_mix_196 rfl (lv_at hl 0 rfl) ?_
                          refine lv_iconst (v := nI 5) hx hb dMS_mix_197 (by decide) ?_
                          refine mi_ge (tgt := 261) hx hb dMS_mix_198 (by decide) (by omega) (by omega) (fun h28 => ?_) (fun h28 => absurd h28 (by omega))
                          refine mi_iinc (k := 1) (x := i25) (d := 1) (y := i25 + 1) (lv' := [(2, .int (nI (i25 + 1))), (3, .int (nI i26)), (1, .int (nI i21)), (0, .ref h0)]) hx hb dMS_mix_261 hl rfl (by decide) rfl (by decide) rfl (fun ls hl => ?_)
                          refine lv_goto (tgt := 189) hx hb dMS_mix_264 (by decide) ?_
                          exact ih25 (i25 + 1) f28 pl ls H locs (by omega) (ch_nx (by omega) hchy) (lv_sub hl [0, 2, 3] rfl) hO hP hD hS
                        | succ n26 ih26 =>
                          intro i26 f28 pl ls H locs hm26 hchy hl hO hP hD hS
                          refine lv_iload_n hx hb dMS_mix_196 rfl (lv_at hl 0 rfl) ?_
                          refine lv_iconst (v := nI 5) hx hb dMS_mix_197 (by decide) ?_
                          refine mi_ge (tgt := 261) hx hb dMS_mix_198 (by decide) (by omega) (by omega) (fun h29 => absurd h29 (by omega)) (fun h29 => ?_)
                          refine lv_aload_n hx hb dMS_mix_201 rfl (lv_at hl 3 rfl) ?_
                          refine va_get (D := g.1) (ci := 9) (C := "LatticeKeysModel$Sponge") (T := T_MS) (N := 8) hx hb hts (wg_ft i_MS) hown hK hP 0 rfl rfl 0 (by decide) (hts _ (wg_t kw_1325)) (fun _ h9 => h9) rfl dMS_mix_202 ?_
                          refine lv_iload_n hx hb dMS_mix_205 rfl (lv_at hl 1 rfl) ?_
                          refine lv_iconst (v := nI 5) hx hb dMS_mix_206 (by decide) ?_
                          refine lv_iload_n hx hb dMS_mix_207 rfl (lv_at hl 0 rfl) ?_
                          refine mi_imul hx hb dMS_mix_208 ?_
                          refine mi_iadd hx hb dMS_mix_209 ?_
                          refine lv_aload_n hx hb dMS_mix_210 rfl (lv_at hl 3 rfl) ?_
                          refine va_get (D := g.1) (ci := 9) (C := "LatticeKeysModel$Sponge") (T := T_MS) (N := 8) hx hb hts (wg_ft i_MS) hown hK hP 0 rfl rfl 1 (by decide) (hts _ (wg_t kw_1326)) (fun _ h9 => h9) rfl dMS_mix_211 ?_
                          refine lv_iload_n hx hb dMS_mix_214 rfl (lv_at hl 1 rfl) ?_
                          refine lv_iconst (v := nI 5) hx hb dMS_mix_215 (by decide) ?_
                          refine lv_iload_n hx hb dMS_mix_216 rfl (lv_at hl 0 rfl) ?_
                          refine mi_imul hx hb dMS_mix_217 ?_
                          refine mi_iadd hx hb dMS_mix_218 ?_
                          refine mp_lald hx hb hK hP 2 2 rfl rfl (by omega) (by decide) dMS_mix_219 ?_
                          refine lv_aload_n hx hb dMS_mix_220 rfl (lv_at hl 3 rfl) ?_
                          refine va_get (D := g.1) (ci := 9) (C := "LatticeKeysModel$Sponge") (T := T_MS) (N := 8) hx hb hts (wg_ft i_MS) hown hK hP 0 rfl rfl 1 (by decide) (hts _ (wg_t kw_1326)) (fun _ h9 => h9) rfl dMS_mix_221 ?_
                          refine lv_iload_n hx hb dMS_mix_224 rfl (lv_at hl 1 rfl) ?_
                          refine lv_iconst (v := nI 1) hx hb dMS_mix_225 (by decide) ?_
                          refine mi_iadd hx hb dMS_mix_226 ?_
                          refine lv_iconst (v := nI 5) hx hb dMS_mix_227 (by decide) ?_
                          refine mi_irem hx hb dMS_mix_228 (by omega) (by omega) (by omega) ?_
                          refine lv_iconst (v := nI 5) hx hb dMS_mix_229 (by decide) ?_
                          refine lv_iload_n hx hb dMS_mix_230 rfl (lv_at hl 0 rfl) ?_
                          refine mi_imul hx hb dMS_mix_231 ?_
                          refine mi_iadd hx hb dMS_mix_232 ?_
                          refine mp_lald hx hb hK hP 2 2 rfl rfl (by omega) (by decide) dMS_mix_233 ?_
                          refine lv_ldc2 (v := (-1)) hx hb hown (hts _ (wg_t kw_1631)) dMS_mix_234 ?_
                          refine lv_lxor hx hb dMS_mix_237 ?_
                          refine lv_aload_n hx hb dMS_mix_238 rfl (lv_at hl 3 rfl) ?_
                          refine va_get (D := g.1) (ci := 9) (C := "LatticeKeysModel$Sponge") (T := T_MS) (N := 8) hx hb hts (wg_ft i_MS) hown hK hP 0 rfl rfl 1 (by decide) (hts _ (wg_t kw_1326)) (fun _ h9 => h9) rfl dMS_mix_239 ?_
                          refine lv_iload_n hx hb dMS_mix_242 rfl (lv_at hl 1 rfl) ?_
                          refine lv_iconst (v := nI 2) hx hb dMS_mix_243 (by decide) ?_
                          refine mi_iadd hx hb dMS_mix_244 ?_
                          refine lv_iconst (v := nI 5) hx hb dMS_mix_245 (by decide) ?_
                          refine mi_irem hx hb dMS_mix_246 (by omega) (by omega) (by omega) ?_
                          refine lv_iconst (v := nI 5) hx hb dMS_mix_247 (by decide) ?_
                          refine lv_iload_n hx hb dMS_mix_248 rfl (lv_at hl 0 rfl) ?_
                          refine mi_imul hx hb dMS_mix_249 ?_
                          refine mi_iadd hx hb dMS_mix_250 ?_
                          refine mp_lald hx hb hK hP 2 2 rfl rfl (by omega) (by decide) dMS_mix_251 ?_
                          refine lv_land hx hb dMS_mix_252 ?_
                          refine lv_lxor hx hb dMS_mix_253 ?_
                          refine mp_last hx hb hK hP hD hS 1 2 rfl rfl (by omega) (by decide) dMS_mix_254 (fun H locs hP hD hS => ?_)
                          have hP : va_P g.1 vcl (([(h0, .inr (9, [.ref sa, .ref ta, .ref ca, .ref ra, .ref ua, .int x1, .int x2, .int x3])), (sa, .inl (g.2.1 2, 25, .inr (.inl ((vp_updL f28 (i25 + (5 * i26)) ((f26 (i25 + (5 * i26))) ^^^ (((f26 (((i25 + 1) % 5) + (5 * i26))) ^^^ (-1)) &&& (f26 (((i25 + 2) % 5) + (5 * i26)))))))))), (ta, .inl (g.2.1 2, 25, .inr (.inl f26))), (ca, .inl (g.2.1 2, 5, .inr (.inl f24))), (ra, .inl (g.2.1 2, 24, .inr (.inl RCS))), (ua, .inl (g.2.1 0, 25, .inl TUR))] : va_W) ++ pl) _ := hP
                          have hD : va_D _ (([(h0, .inr (9, [.ref sa, .ref ta, .ref ca, .ref ra, .ref ua, .int x1, .int x2, .int x3])), (sa, .inl (g.2.1 2, 25, .inr (.inl ((vp_updL f28 (i25 + (5 * i26)) ((f26 (i25 + (5 * i26))) ^^^ (((f26 (((i25 + 1) % 5) + (5 * i26))) ^^^ (-1)) &&& (f26 (((i25 + 2) % 5) + (5 * i26)))))))))), (ta, .inl (g.2.1 2, 25, .inr (.inl f26))), (ca, .inl (g.2.1 2, 5, .inr (.inl f24))), (ra, .inl (g.2.1 2, 24, .inr (.inl RCS))), (ua, .inl (g.2.1 0, 25, .inl TUR))] : va_W) ++ pl) := hD
                          refine mi_iinc (k := 0) (x := i26) (d := 1) (y := i26 + 1) (lv' := [(3, .int (nI (i26 + 1))), (2, .int (nI i25)), (1, .int (nI i21)), (0, .ref h0)]) hx hb dMS_mix_255 hl rfl (by decide) rfl (by decide) rfl (fun ls hl => ?_)
                          refine lv_goto (tgt := 196) hx hb dMS_mix_258 (by decide) ?_
                          exact ih26 (i26 + 1) (vp_updL f28 (i25 + (5 * i26)) ((f26 (i25 + (5 * i26))) ^^^ (((f26 (((i25 + 1) % 5) + (5 * i26))) ^^^ (-1)) &&& (f26 (((i25 + 2) % 5) + (5 * i26)))))) pl ls H locs (by omega) (ch_step (by omega) (by omega) hchy) (lv_sub hl [0, 1, 2, 3] rfl) hO hP hD hS
                      exact lp26 5 0 f27 pl ls _ _ (by omega) hch (lv_sub hl [0, 1, 2, 3] rfl) hO hP hD hS
                  exact lp25 5 0 f25 pl ls _ _ (by omega) ch_start (lv_sub hl [0, 1, 2] rfl) hO hP hD hS
                | succ n24 ih24 =>
                  intro i24 f26 pl ls H locs hm24 hrp hl hO hP hD hS
                  refine lv_iload_n hx hb dMS_mix_122 rfl (lv_at hl 0 rfl) ?_
                  refine lv_iconst (v := nI 5) hx hb dMS_mix_123 (by decide) ?_
                  refine mi_ge (tgt := 187) hx hb dMS_mix_124 (by decide) (by omega) (by omega) (fun h30 => absurd h30 (by omega)) (fun h30 => ?_)
                  refine lv_iconst (v := nI 0) hx hb dMS_mix_127 (by decide) ?_
                  refine lv_istore_n (lv' := [(3, .int (nI 0)), (2, .int (nI i24)), (1, .int (nI i21)), (0, .ref h0)]) hx hb dMS_mix_128 rfl hl (by decide) rfl (fun ls hl => ?_)
                  have lp27 : ∀ (n27 : Nat) (i27 : Nat) (f29 : Nat → Int64) (pl : va_W) (ls : Array Slot) (H : Heap) (locs : List Loc), n27 + i27 = 5 → (rpI i24 i27 f25 f29 TUR) → lv_has ls 4 [(3, .int (nI i27)), (2, .int (nI i24)), (1, .int (nI i21)), (0, .ref h0)] → okx g T xs pl → va_P g.1 vcl (([(h0, .inr (9, [.ref sa, .ref ta, .ref ca, .ref ra, .ref ua, .int x1, .int x2, .int x3])), (sa, .inl (g.2.1 2, 25, .inr (.inl f25))), (ta, .inl (g.2.1 2, 25, .inr (.inl f29))), (ca, .inl (g.2.1 2, 5, .inr (.inl f24))), (ra, .inl (g.2.1 2, 24, .inr (.inl RCS))), (ua, .inl (g.2.1 0, 25, .inl TUR))] : va_W) ++ pl) H → va_D A (([(h0, .inr (9, [.ref sa, .ref ta, .ref ca, .ref ra, .ref ua, .int x1, .int x2, .int x3])), (sa, .inl (g.2.1 2, 25, .inr (.inl f25))), (ta, .inl (g.2.1 2, 25, .inr (.inl f29))), (ca, .inl (g.2.1 2, 5, .inr (.inl f24))), (ra, .inl (g.2.1 2, 24, .inr (.inl RCS))), (ua, .inl (g.2.1 0, 25, .inl TUR))] : va_W) ++ pl) → va_S A s.heap H locs → W p l e ({ frames := 1, cells := 0, slots := 0, locals := 22 } : Room) s m args below meth c H locs 0 0 (MQ below (va_Qv (fun (u : ((Nat → Int64) × (Nat → Int64)) × va_W) => (True) ∧ okx g T xs u.2) (po g.1 vcl A (fun (u : ((Nat → Int64) × (Nat → Int64)) × va_W) => ([(h0, .inr (9, [.ref sa, .ref ta, .ref ca, .ref ra, .ref ua, .int x1, .int x2, .int x3])), (sa, .inl (g.2.1 2, 25, .inr (.inl ((prm fs))))), (ta, .inl (g.2.1 2, 25, .inr (.inl ((u.1.1))))), (ca, .inl (g.2.1 2, 5, .inr (.inl ((u.1.2))))), (ra, .inl (g.2.1 2, 24, .inr (.inl RCS))), (ua, .inl (g.2.1 0, 25, .inl TUR))] : va_W) ++ u.2)) A) args s 0 0 A) (F0 m 129 ls []) := by
                    intro n27
                    induction n27 with
                    | zero =>
                      intro i27 f29 pl ls H locs hm27 hrpy hl hO hP hD hS
                      refine lv_iload_n hx hb dMS_mix_129 rfl (lv_at hl 0 rfl) ?_
                      refine lv_iconst (v := nI 5) hx hb dMS_mix_130 (by decide) ?_
                      refine mi_ge (tgt := 181) hx hb dMS_mix_131 (by decide) (by omega) (by omega) (fun h31 => ?_) (fun h31 => absurd h31 (by omega))
                      refine mi_iinc (k := 1) (x := i24) (d := 1) (y := i24 + 1) (lv' := [(2, .int (nI (i24 + 1))), (3, .int (nI i27)), (1, .int (nI i21)), (0, .ref h0)]) hx hb dMS_mix_181 hl rfl (by decide) rfl (by decide) rfl (fun ls hl => ?_)
                      refine lv_goto (tgt := 122) hx hb dMS_mix_184 (by decide) ?_
                      exact ih24 (i24 + 1) f29 pl ls H locs (by omega) (rp_nx (by omega) hrpy) (lv_sub hl [0, 2, 3] rfl) hO hP hD hS
                    | succ n27 ih27 =>
                      intro i27 f29 pl ls H locs hm27 hrpy hl hO hP hD hS
                      refine lv_iload_n hx hb dMS_mix_129 rfl (lv_at hl 0 rfl) ?_
                      refine lv_iconst (v := nI 5) hx hb dMS_mix_130 (by decide) ?_
                      refine mi_ge (tgt := 181) hx hb dMS_mix_131 (by decide) (by omega) (by omega) (fun h32 => absurd h32 (by omega)) (fun h32 => ?_)
                      refine lv_aload_n hx hb dMS_mix_134 rfl (lv_at hl 3 rfl) ?_
                      refine va_get (D := g.1) (ci := 9) (C := "LatticeKeysModel$Sponge") (T := T_MS) (N := 8) hx hb hts (wg_ft i_MS) hown hK hP 0 rfl rfl 1 (by decide) (hts _ (wg_t kw_1326)) (fun _ h9 => h9) rfl dMS_mix_135 ?_
                      refine lv_iload_n hx hb dMS_mix_138 rfl (lv_at hl 0 rfl) ?_
                      refine lv_iconst (v := nI 5) hx hb dMS_mix_139 (by decide) ?_
                      refine lv_iconst (v := nI 2) hx hb dMS_mix_140 (by decide) ?_
                      refine lv_iload_n hx hb dMS_mix_141 rfl (lv_at hl 1 rfl) ?_
                      refine mi_imul hx hb dMS_mix_142 ?_
                      refine lv_iconst (v := nI 3) hx hb dMS_mix_143 (by decide) ?_
                      refine lv_iload_n hx hb dMS_mix_144 rfl (lv_at hl 0 rfl) ?_
                      refine mi_imul hx hb dMS_mix_145 ?_
                      refine mi_iadd hx hb dMS_mix_146 ?_
                      refine lv_iconst (v := nI 5) hx hb dMS_mix_147 (by decide) ?_
                      refine mi_irem hx hb dMS_mix_148 (by omega) (by omega) (by omega) ?_
                      refine mi_imul hx hb dMS_mix_149 ?_
                      refine mi_iadd hx hb dMS_mix_150 ?_
                      refine lv_aload_n hx hb dMS_mix_151 rfl (lv_at hl 3 rfl) ?_
                      refine va_get (D := g.1) (ci := 9) (C := "LatticeKeysModel$Sponge") (T := T_MS) (N := 8) hx hb hts (wg_ft i_MS) hown hK hP 0 rfl rfl 0 (by decide) (hts _ (wg_t kw_1325)) (fun _ h9 => h9) rfl dMS_mix_152 ?_
                      refine lv_iload_n hx hb dMS_mix_155 rfl (lv_at hl 1 rfl) ?_
                      refine lv_iconst (v := nI 5) hx hb dMS_mix_156 (by decide) ?_
                      refine lv_iload_n hx hb dMS_mix_157 rfl (lv_at hl 0 rfl) ?_
                      refine mi_imul hx hb dMS_mix_158 ?_
                      refine mi_iadd hx hb dMS_mix_159 ?_
                      refine mp_lald hx hb hK hP 1 2 rfl rfl (by omega) (by decide) dMS_mix_160 ?_
                      refine lv_aload_n hx hb dMS_mix_161 rfl (lv_at hl 3 rfl) ?_
                      refine va_get (D := g.1) (ci := 9) (C := "LatticeKeysModel$Sponge") (T := T_MS) (N := 8) hx hb hts (wg_ft i_MS) hown hK hP 0 rfl rfl 4 (by decide) (hts _ (wg_t kw_1329)) (fun _ h9 => h9) rfl dMS_mix_162 ?_
                      refine lv_iload_n hx hb dMS_mix_165 rfl (lv_at hl 1 rfl) ?_
                      refine lv_iconst (v := nI 5) hx hb dMS_mix_166 (by decide) ?_
                      refine lv_iload_n hx hb dMS_mix_167 rfl (lv_at hl 0 rfl) ?_
                      refine mi_imul hx hb dMS_mix_168 ?_
                      refine mi_iadd hx hb dMS_mix_169 ?_
                      refine mp_iald hx hb hK hP 5 0 rfl rfl (by omega) (by decide) dMS_mix_170 ?_
                      refine mp_l (cx := []) (wr := [(h0, .inr (9, [.ref sa, .ref ta, .ref ca, .ref ra, .ref ua, .int x1, .int x2, .int x3])), (sa, .inl (g.2.1 2, 25, .inr (.inl f25))), (ta, .inl (g.2.1 2, 25, .inr (.inl f29))), (ca, .inl (g.2.1 2, 5, .inr (.inl f24))), (ra, .inl (g.2.1 2, 24, .inr (.inl RCS))), (ua, .inl (g.2.1 0, 25, .inl TUR))]) hP hD hS hA [] [0, 1, 2, 3, 4, 5] rfl rfl rfl (by decide) (va_runS (As := [.long ((f25 (i24 + (5 * i27)))), .int ((TUR (i24 + (5 * i27))))]) (rest := [.int (nI (i27 + (5 * (((2 * i24) + (3 * i27)) % 5)))), .ref ta]) F (x_MS_left l g _ T xs pl hO hU  ((f25 (i24 + (5 * i27)))) ((TUR (i24 + (5 * i27))))) (va_cwS 2 hts (wg_app (wg_c kw_1628 (wg_c kw_1629 (wg_c kw_10 wg_n))) kw_1630) rfl rfl rfl (by decide +kernel) ⟨by decide, by decide⟩) (pp_S (en_ok g) hP hD hS hA hE [] rfl rfl) rfl rfl hl.1 rfl (lv_room (Nat.le_of_ble_eq_true rfl)) dMS_mix_171 ⟨by omega, by omega⟩) (fun r21 pl H locs hu21 hP hD hS => ?_)
                      obtain ⟨hq21, hO⟩ := hu21
                      have hP : va_P g.1 vcl (([(h0, .inr (9, [.ref sa, .ref ta, .ref ca, .ref ra, .ref ua, .int x1, .int x2, .int x3])), (sa, .inl (g.2.1 2, 25, .inr (.inl f25))), (ta, .inl (g.2.1 2, 25, .inr (.inl f29))), (ca, .inl (g.2.1 2, 5, .inr (.inl f24))), (ra, .inl (g.2.1 2, 24, .inr (.inl RCS))), (ua, .inl (g.2.1 0, 25, .inl TUR))] : va_W) ++ pl) _ := hP
                      have hD : va_D _ (([(h0, .inr (9, [.ref sa, .ref ta, .ref ca, .ref ra, .ref ua, .int x1, .int x2, .int x3])), (sa, .inl (g.2.1 2, 25, .inr (.inl f25))), (ta, .inl (g.2.1 2, 25, .inr (.inl f29))), (ca, .inl (g.2.1 2, 5, .inr (.inl f24))), (ra, .inl (g.2.1 2, 24, .inr (.inl RCS))), (ua, .inl (g.2.1 0, 25, .inl TUR))] : va_W) ++ pl) := hD
                      obtain rfl := hq21
                      refine W.widen (k := 0) (n := 0) (by omega) (by omega) ?_
                      refine mp_last hx hb hK hP hD hS 2 2 rfl rfl (by omega) (by decide) dMS_mix_174 (fun H locs hP hD hS => ?_)
                      have hP : va_P g.1 vcl (([(h0, .inr (9, [.ref sa, .ref ta, .ref ca, .ref ra, .ref ua, .int x1, .int x2, .int x3])), (sa, .inl (g.2.1 2, 25, .inr (.inl f25))), (ta, .inl (g.2.1 2, 25, .inr (.inl ((vp_updL f29 (i27 + (5 * (((2 * i24) + (3 * i27)) % 5))) (lf ((f25 (i24 + (5 * i27)))) ((TUR (i24 + (5 * i27)))))))))), (ca, .inl (g.2.1 2, 5, .inr (.inl f24))), (ra, .inl (g.2.1 2, 24, .inr (.inl RCS))), (ua, .inl (g.2.1 0, 25, .inl TUR))] : va_W) ++ pl) _ := hP
                      have hD : va_D _ (([(h0, .inr (9, [.ref sa, .ref ta, .ref ca, .ref ra, .ref ua, .int x1, .int x2, .int x3])), (sa, .inl (g.2.1 2, 25, .inr (.inl f25))), (ta, .inl (g.2.1 2, 25, .inr (.inl ((vp_updL f29 (i27 + (5 * (((2 * i24) + (3 * i27)) % 5))) (lf ((f25 (i24 + (5 * i27)))) ((TUR (i24 + (5 * i27)))))))))), (ca, .inl (g.2.1 2, 5, .inr (.inl f24))), (ra, .inl (g.2.1 2, 24, .inr (.inl RCS))), (ua, .inl (g.2.1 0, 25, .inl TUR))] : va_W) ++ pl) := hD
                      refine mi_iinc (k := 0) (x := i27) (d := 1) (y := i27 + 1) (lv' := [(3, .int (nI (i27 + 1))), (2, .int (nI i24)), (1, .int (nI i21)), (0, .ref h0)]) hx hb dMS_mix_175 hl rfl (by decide) rfl (by decide) rfl (fun ls hl => ?_)
                      refine lv_goto (tgt := 129) hx hb dMS_mix_178 (by decide) ?_
                      exact ih27 (i27 + 1) (vp_updL f29 (i27 + (5 * (((2 * i24) + (3 * i27)) % 5))) (lf ((f25 (i24 + (5 * i27)))) ((TUR (i24 + (5 * i27)))))) pl ls H locs (by omega) (rp_step (by omega) (by omega) hrpy) (lv_sub hl [0, 1, 2, 3] rfl) hO hP hD hS
                  exact lp27 5 0 f26 pl ls _ _ (by omega) hrp (lv_sub hl [0, 1, 2, 3] rfl) hO hP hD hS
              exact lp24 5 0 f22 pl ls _ _ (by omega) rp_start (lv_sub hl [0, 1, 2] rfl) hO hP hD hS
            | succ n23 ih23 =>
              intro i23 f25 pl ls H locs hm23 hthA hthB hl hO hP hD hS
              refine lv_iload_n hx hb dMS_mix_74 rfl (lv_at hl 0 rfl) ?_
              refine lv_bipush (v := nI 25) hx hb dMS_mix_75 (by decide) ?_
              refine mi_ge (tgt := 120) hx hb dMS_mix_77 (by decide) (by omega) (by omega) (fun h33 => absurd h33 (by omega)) (fun h33 => ?_)
              refine lv_aload_n hx hb dMS_mix_80 rfl (lv_at hl 2 rfl) ?_
              refine va_get (D := g.1) (ci := 9) (C := "LatticeKeysModel$Sponge") (T := T_MS) (N := 8) hx hb hts (wg_ft i_MS) hown hK hP 0 rfl rfl 0 (by decide) (hts _ (wg_t kw_1325)) (fun _ h9 => h9) rfl dMS_mix_81 ?_
              refine lv_iload_n hx hb dMS_mix_84 rfl (lv_at hl 0 rfl) ?_
              refine lv_dup2_11 hx hb dMS_mix_85 rfl rfl ?_
              refine mp_lald hx hb hK hP 1 2 rfl rfl (by omega) (by decide) dMS_mix_86 ?_
              refine lv_aload_n hx hb dMS_mix_87 rfl (lv_at hl 2 rfl) ?_
              refine va_get (D := g.1) (ci := 9) (C := "LatticeKeysModel$Sponge") (T := T_MS) (N := 8) hx hb hts (wg_ft i_MS) hown hK hP 0 rfl rfl 2 (by decide) (hts _ (wg_t kw_1327)) (fun _ h9 => h9) rfl dMS_mix_88 ?_
              refine lv_iload_n hx hb dMS_mix_91 rfl (lv_at hl 0 rfl) ?_
              refine lv_iconst (v := nI 4) hx hb dMS_mix_92 (by decide) ?_
              refine mi_iadd hx hb dMS_mix_93 ?_
              refine lv_iconst (v := nI 5) hx hb dMS_mix_94 (by decide) ?_
              refine mi_irem hx hb dMS_mix_95 (by omega) (by omega) (by omega) ?_
              refine mp_lald hx hb hK hP 3 2 rfl rfl (by omega) (by decide) dMS_mix_96 ?_
              refine lv_aload_n hx hb dMS_mix_97 rfl (lv_at hl 2 rfl) ?_
              refine va_get (D := g.1) (ci := 9) (C := "LatticeKeysModel$Sponge") (T := T_MS) (N := 8) hx hb hts (wg_ft i_MS) hown hK hP 0 rfl rfl 2 (by decide) (hts _ (wg_t kw_1327)) (fun _ h9 => h9) rfl dMS_mix_98 ?_
              refine lv_iload_n hx hb dMS_mix_101 rfl (lv_at hl 0 rfl) ?_
              refine lv_iconst (v := nI 1) hx hb dMS_mix_102 (by decide) ?_
              refine mi_iadd hx hb dMS_mix_103 ?_
              refine lv_iconst (v := nI 5) hx hb dMS_mix_104 (by decide) ?_
              refine mi_irem hx hb dMS_mix_105 (by omega) (by omega) (by omega) ?_
              refine mp_lald hx hb hK hP 3 2 rfl rfl (by omega) (by decide) dMS_mix_106 ?_
              refine lv_iconst (v := nI 1) hx hb dMS_mix_107 (by decide) ?_
              refine mp_l (cx := []) (wr := [(h0, .inr (9, [.ref sa, .ref ta, .ref ca, .ref ra, .ref ua, .int x1, .int x2, .int x3])), (sa, .inl (g.2.1 2, 25, .inr (.inl f25))), (ta, .inl (g.2.1 2, 25, .inr (.inl f22))), (ca, .inl (g.2.1 2, 5, .inr (.inl f24))), (ra, .inl (g.2.1 2, 24, .inr (.inl RCS))), (ua, .inl (g.2.1 0, 25, .inl TUR))]) hP hD hS hA [] [0, 1, 2, 3, 4, 5] rfl rfl rfl (by decide) (va_runS (As := [.long ((f24 ((i23 + 1) % 5))), .int (nI 1)]) (rest := [.long ((f24 ((i23 + 4) % 5))), .long ((f25 i23)), .int (nI i23), .ref sa]) F (x_MS_left l g _ T xs pl hO hU  ((f24 ((i23 + 1) % 5))) (nI 1)) (va_cwS 2 hts (wg_app (wg_c kw_1628 (wg_c kw_1629 (wg_c kw_10 wg_n))) kw_1630) rfl rfl rfl (by decide +kernel) ⟨by decide, by decide⟩) (pp_S (en_ok g) hP hD hS hA hE [] rfl rfl) rfl rfl hl.1 rfl (lv_room (Nat.le_of_ble_eq_true rfl)) dMS_mix_108 ⟨by omega, by omega⟩) (fun r22 pl H locs hu22 hP hD hS => ?_)
              obtain ⟨hq22, hO⟩ := hu22
              have hP : va_P g.1 vcl (([(h0, .inr (9, [.ref sa, .ref ta, .ref ca, .ref ra, .ref ua, .int x1, .int x2, .int x3])), (sa, .inl (g.2.1 2, 25, .inr (.inl f25))), (ta, .inl (g.2.1 2, 25, .inr (.inl f22))), (ca, .inl (g.2.1 2, 5, .inr (.inl f24))), (ra, .inl (g.2.1 2, 24, .inr (.inl RCS))), (ua, .inl (g.2.1 0, 25, .inl TUR))] : va_W) ++ pl) _ := hP
              have hD : va_D _ (([(h0, .inr (9, [.ref sa, .ref ta, .ref ca, .ref ra, .ref ua, .int x1, .int x2, .int x3])), (sa, .inl (g.2.1 2, 25, .inr (.inl f25))), (ta, .inl (g.2.1 2, 25, .inr (.inl f22))), (ca, .inl (g.2.1 2, 5, .inr (.inl f24))), (ra, .inl (g.2.1 2, 24, .inr (.inl RCS))), (ua, .inl (g.2.1 0, 25, .inl TUR))] : va_W) ++ pl) := hD
              obtain rfl := hq22
              refine W.widen (k := 0) (n := 0) (by omega) (by omega) ?_
              refine lv_lxor hx hb dMS_mix_111 ?_
              refine lv_lxor hx hb dMS_mix_112 ?_
              refine mp_last hx hb hK hP hD hS 1 2 rfl rfl (by omega) (by decide) dMS_mix_113 (fun H locs hP hD hS => ?_)
              have hP : va_P g.1 vcl (([(h0, .inr (9, [.ref sa, .ref ta, .ref ca, .ref ra, .ref ua, .int x1, .int x2, .int x3])), (sa, .inl (g.2.1 2, 25, .inr (.inl ((vp_updL f25 i23 ((f25 i23) ^^^ ((f24 ((i23 + 4) % 5)) ^^^ (lf ((f24 ((i23 + 1) % 5))) (nI 1))))))))), (ta, .inl (g.2.1 2, 25, .inr (.inl f22))), (ca, .inl (g.2.1 2, 5, .inr (.inl f24))), (ra, .inl (g.2.1 2, 24, .inr (.inl RCS))), (ua, .inl (g.2.1 0, 25, .inl TUR))] : va_W) ++ pl) _ := hP
              have hD : va_D _ (([(h0, .inr (9, [.ref sa, .ref ta, .ref ca, .ref ra, .ref ua, .int x1, .int x2, .int x3])), (sa, .inl (g.2.1 2, 25, .inr (.inl ((vp_updL f25 i23 ((f25 i23) ^^^ ((f24 ((i23 + 4) % 5)) ^^^ (lf ((f24 ((i23 + 1) % 5))) (nI 1))))))))), (ta, .inl (g.2.1 2, 25, .inr (.inl f22))), (ca, .inl (g.2.1 2, 5, .inr (.inl f24))), (ra, .inl (g.2.1 2, 24, .inr (.inl RCS))), (ua, .inl (g.2.1 0, 25, .inl TUR))] : va_W) ++ pl) := hD
              refine mi_iinc (k := 0) (x := i23) (d := 1) (y := i23 + 1) (lv' := [(2, .int (nI (i23 + 1))), (1, .int (nI i21)), (0, .ref h0)]) hx hb dMS_mix_114 hl rfl (by decide) rfl (by decide) rfl (fun ls hl => ?_)
              refine lv_goto (tgt := 74) hx hb dMS_mix_117 (by decide) ?_
              exact ih23 (i23 + 1) (vp_updL f25 i23 ((f25 i23) ^^^ ((f24 ((i23 + 4) % 5)) ^^^ (lf ((f24 ((i23 + 1) % 5))) (nI 1))))) pl ls H locs (by omega) (th_two (by omega) (fun x h9 => hcol x (by omega)) hthA hthB).1 (th_two (by omega) (fun x h9 => hcol x (by omega)) hthA hthB).2 (lv_sub hl [0, 1, 2] rfl) hO hP hD hS
          exact lp23 25 0 f21 pl ls _ _ (by omega) (fun j h9 => absurd h9 (Nat.not_lt_zero _)) (fun _ _ _ => rfl) (lv_sub hl [0, 1, 2] rfl) hO hP hD hS
        | succ n22 ih22 =>
          intro i22 f24 pl ls H locs hm22 hcol hl hO hP hD hS
          refine lv_iload_n hx hb dMS_mix_10 rfl (lv_at hl 0 rfl) ?_
          refine lv_iconst (v := nI 5) hx hb dMS_mix_11 (by decide) ?_
          refine mi_ge (tgt := 72) hx hb dMS_mix_12 (by decide) (by omega) (by omega) (fun h34 => absurd h34 (by omega)) (fun h34 => ?_)
          refine lv_aload_n hx hb dMS_mix_15 rfl (lv_at hl 2 rfl) ?_
          refine va_get (D := g.1) (ci := 9) (C := "LatticeKeysModel$Sponge") (T := T_MS) (N := 8) hx hb hts (wg_ft i_MS) hown hK hP 0 rfl rfl 2 (by decide) (hts _ (wg_t kw_1327)) (fun _ h9 => h9) rfl dMS_mix_16 ?_
          refine lv_iload_n hx hb dMS_mix_19 rfl (lv_at hl 0 rfl) ?_
          refine lv_aload_n hx hb dMS_mix_20 rfl (lv_at hl 2 rfl) ?_
          refine va_get (D := g.1) (ci := 9) (C := "LatticeKeysModel$Sponge") (T := T_MS) (N := 8) hx hb hts (wg_ft i_MS) hown hK hP 0 rfl rfl 0 (by decide) (hts _ (wg_t kw_1325)) (fun _ h9 => h9) rfl dMS_mix_21 ?_
          refine lv_iload_n hx hb dMS_mix_24 rfl (lv_at hl 0 rfl) ?_
          refine mp_lald hx hb hK hP 1 2 rfl rfl (by omega) (by decide) dMS_mix_25 ?_
          refine lv_aload_n hx hb dMS_mix_26 rfl (lv_at hl 2 rfl) ?_
          refine va_get (D := g.1) (ci := 9) (C := "LatticeKeysModel$Sponge") (T := T_MS) (N := 8) hx hb hts (wg_ft i_MS) hown hK hP 0 rfl rfl 0 (by decide) (hts _ (wg_t kw_1325)) (fun _ h9 => h9) rfl dMS_mix_27 ?_
          refine lv_iload_n hx hb dMS_mix_30 rfl (lv_at hl 0 rfl) ?_
          refine lv_iconst (v := nI 5) hx hb dMS_mix_31 (by decide) ?_
          refine mi_iadd hx hb dMS_mix_32 ?_
          refine mp_lald hx hb hK hP 1 2 rfl rfl (by omega) (by decide) dMS_mix_33 ?_
          refine lv_lxor hx hb dMS_mix_34 ?_
          refine lv_aload_n hx hb dMS_mix_35 rfl (lv_at hl 2 rfl) ?_
          refine va_get (D := g.1) (ci := 9) (C := "LatticeKeysModel$Sponge") (T := T_MS) (N := 8) hx hb hts (wg_ft i_MS) hown hK hP 0 rfl rfl 0 (by decide) (hts _ (wg_t kw_1325)) (fun _ h9 => h9) rfl dMS_mix_36 ?_
          refine lv_iload_n hx hb dMS_mix_39 rfl (lv_at hl 0 rfl) ?_
          refine lv_bipush (v := nI 10) hx hb dMS_mix_40 (by decide) ?_
          refine mi_iadd hx hb dMS_mix_42 ?_
          refine mp_lald hx hb hK hP 1 2 rfl rfl (by omega) (by decide) dMS_mix_43 ?_
          refine lv_lxor hx hb dMS_mix_44 ?_
          refine lv_aload_n hx hb dMS_mix_45 rfl (lv_at hl 2 rfl) ?_
          refine va_get (D := g.1) (ci := 9) (C := "LatticeKeysModel$Sponge") (T := T_MS) (N := 8) hx hb hts (wg_ft i_MS) hown hK hP 0 rfl rfl 0 (by decide) (hts _ (wg_t kw_1325)) (fun _ h9 => h9) rfl dMS_mix_46 ?_
          refine lv_iload_n hx hb dMS_mix_49 rfl (lv_at hl 0 rfl) ?_
          refine lv_bipush (v := nI 15) hx hb dMS_mix_50 (by decide) ?_
          refine mi_iadd hx hb dMS_mix_52 ?_
          refine mp_lald hx hb hK hP 1 2 rfl rfl (by omega) (by decide) dMS_mix_53 ?_
          refine lv_lxor hx hb dMS_mix_54 ?_
          refine lv_aload_n hx hb dMS_mix_55 rfl (lv_at hl 2 rfl) ?_
          refine va_get (D := g.1) (ci := 9) (C := "LatticeKeysModel$Sponge") (T := T_MS) (N := 8) hx hb hts (wg_ft i_MS) hown hK hP 0 rfl rfl 0 (by decide) (hts _ (wg_t kw_1325)) (fun _ h9 => h9) rfl dMS_mix_56 ?_
          refine lv_iload_n hx hb dMS_mix_59 rfl (lv_at hl 0 rfl) ?_
          refine lv_bipush (v := nI 20) hx hb dMS_mix_60 (by decide) ?_
          refine mi_iadd hx hb dMS_mix_62 ?_
          refine mp_lald hx hb hK hP 1 2 rfl rfl (by omega) (by decide) dMS_mix_63 ?_
          refine lv_lxor hx hb dMS_mix_64 ?_
          refine mp_last hx hb hK hP hD hS 3 2 rfl rfl (by omega) (by decide) dMS_mix_65 (fun H locs hP hD hS => ?_)
          have hP : va_P g.1 vcl (([(h0, .inr (9, [.ref sa, .ref ta, .ref ca, .ref ra, .ref ua, .int x1, .int x2, .int x3])), (sa, .inl (g.2.1 2, 25, .inr (.inl f21))), (ta, .inl (g.2.1 2, 25, .inr (.inl f22))), (ca, .inl (g.2.1 2, 5, .inr (.inl ((vp_updL f24 i22 (((((f21 i22) ^^^ (f21 (i22 + 5))) ^^^ (f21 (i22 + 10))) ^^^ (f21 (i22 + 15))) ^^^ (f21 (i22 + 20)))))))), (ra, .inl (g.2.1 2, 24, .inr (.inl RCS))), (ua, .inl (g.2.1 0, 25, .inl TUR))] : va_W) ++ pl) _ := hP
          have hD : va_D _ (([(h0, .inr (9, [.ref sa, .ref ta, .ref ca, .ref ra, .ref ua, .int x1, .int x2, .int x3])), (sa, .inl (g.2.1 2, 25, .inr (.inl f21))), (ta, .inl (g.2.1 2, 25, .inr (.inl f22))), (ca, .inl (g.2.1 2, 5, .inr (.inl ((vp_updL f24 i22 (((((f21 i22) ^^^ (f21 (i22 + 5))) ^^^ (f21 (i22 + 10))) ^^^ (f21 (i22 + 15))) ^^^ (f21 (i22 + 20)))))))), (ra, .inl (g.2.1 2, 24, .inr (.inl RCS))), (ua, .inl (g.2.1 0, 25, .inl TUR))] : va_W) ++ pl) := hD
          refine mi_iinc (k := 0) (x := i22) (d := 1) (y := i22 + 1) (lv' := [(2, .int (nI (i22 + 1))), (1, .int (nI i21)), (0, .ref h0)]) hx hb dMS_mix_66 hl rfl (by decide) rfl (by decide) rfl (fun ls hl => ?_)
          refine lv_goto (tgt := 10) hx hb dMS_mix_69 (by decide) ?_
          exact ih22 (i22 + 1) (vp_updL f24 i22 (((((f21 i22) ^^^ (f21 (i22 + 5))) ^^^ (f21 (i22 + 10))) ^^^ (f21 (i22 + 15))) ^^^ (f21 (i22 + 20)))) pl ls H locs (by omega) (up_step hcol rfl) (lv_sub hl [0, 1, 2] rfl) hO hP hD hS
      exact lp22 5 0 f23 pl ls _ _ (by omega) (fun j h9 => absurd h9 (Nat.not_lt_zero _)) (lv_sub hl [0, 1, 2] rfl) hO hP hD hS
  exact lp21 24 0 fs ft fc pl ls _ _ (by omega) (fun _ _ => rfl) (lv_sub hl [0, 1] rfl) hO hP hD hS
