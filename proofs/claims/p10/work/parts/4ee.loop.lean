set_option linter.all false
set_option maxHeartbeats 4000000 in
set_option maxRecDepth 100000 in
theorem lw_sw {p : Program} {e : Env} {s : State} {m : MethodId} {below : List Frame} {meth : Method} {c : Code} (l : Launch) (htr : l.stackTraces = false) {b L : Nat} {xs : Nat → Int32} (hL : L ≤ 3072) (C0 : lw_At p s m meth c b L xs) (g : Gd) (F : CallFix p m c c_L_law 7 s #[Value.ref b] wL "LatticeKeysLaw") (hX : ex g (Alaw s) s s.heap) {n0 i : Nat} (hn0 : n0 < 512) (hi : i = 6 * n0) (hi6 : i + 6 ≤ L) {σ : Sto} (hE9 : ∀ z pn : Nat, z < 16 → xs (nI i).toNatClampNeg &&& nI 15 = nI z → pn ≤ 8 → σ.1 0 5 = nI pn → callE (lnum z) (xs (nI (i + 1)).toNatClampNeg) (lb z (xs (nI (i + 2)).toNatClampNeg)) (xs (nI (i + 3)).toNatClampNeg) (xs (nI (i + 4)).toNatClampNeg) (xs (nI (i + 5)).toNatClampNeg) pn σ) {H : Heap} {locs : List Loc} {ls : Array Slot} (hI : LWS g s b i σ H locs ls) (next : ∀ (z pn : Nat) (H : Heap) (locs : List Loc) (ls : Array Slot), z < 16 → xs (nI i).toNatClampNeg &&& nI 15 = nI z → pn ≤ 8 → σ.1 0 5 = nI pn → LWS g s b i (callNxt (lnum z) (xs (nI (i + 1)).toNatClampNeg) (lb z (xs (nI (i + 2)).toNatClampNeg)) (xs (nI (i + 3)).toNatClampNeg) (xs (nI (i + 4)).toNatClampNeg) (xs (nI (i + 5)).toNatClampNeg) pn σ) H locs ls → W p l e room_1 s m #[Value.ref b] below meth c H locs (380 + 3 * n0 + 3) (194479 + 7491 * n0 + 7491) (lw_Z below #[Value.ref b] s) (F0 m 785 ls [])) : W p l e room_1 s m #[Value.ref b] below meth c H locs (380 + 3 * n0) (194479 + 7491 * n0) (lw_Z below #[Value.ref b] s) (F0 m 33 ls []) := by
  obtain ⟨hx, hb, hml, hown, hts⟩ := id F
  have hE := hX.1
  have hK := hE.1
  have hA : ∀ q, s.heap.size ≤ q → Alaw s q := fun _ h => h
  obtain ⟨-, -, hr, -, -, -, hXs, hbl, hlk, -⟩ := id C0
  have hbA : ¬ Alaw s b := fun h => Nat.not_lt.mpr h hbl
  have hI9 := hI
  obtain ⟨T, pl, h0, h1, a, f, tl, al, pn, hO, hU, hT, hlow, hSM, k_h0, k_h1, hP, hD, hS, hl⟩ := hI
  refine lv_aload_n hx hb dL_law_33 rfl (lv_at hl 4 rfl) ?_
  refine lv_iload hx hb dL_law_34 (lv_at hl 0 rfl) ?_
  refine va_sld hx hb hXs hbl hbA hS (vp_in_nI (N := L) (by omega) (by omega)) dL_law_36 ?_
  refine lv_bipush (v := nI 15) hx hb dL_law_37 (by decide) ?_
  refine mi_iandT hx hb 4 dL_law_39 (by decide) (by decide) (fun z ez hz => ?_)
  have hz : z < 16 := hz
  have hzz : xs (nI i).toNatClampNeg &&& nI 15 = nI z := by
    have h9 := and_cl (xs (nI i).toNatClampNeg) (y := 15) 4 (by decide) (by decide)
    rw [ez]
    exact h9.1
  replace hE9 := fun pn => hE9 z pn hz hzz
  replace next := fun pn H locs ls => next z pn H locs ls hz hzz
  clear ez
  match z, hz, hE9, next with
  | 0, _, hE9, next =>
    refine lv_tableIn (off := 80) (tgt := 120) hx hb dL_law_40 (by decide) (by decide) (by decide) (by decide) ?_
    exact lw_feed l htr hL C0 g F hX hn0 hi hi6 rfl rfl rfl rfl rfl hE9 hI9 next
  | 1, _, hE9, next =>
    refine lv_tableIn (off := 156) (tgt := 196) hx hb dL_law_40 (by decide) (by decide) (by decide) (by decide) ?_
    exact lw_end l htr hL C0 g F hX hn0 hi hi6 rfl rfl rfl rfl rfl hE9 hI9 next
  | 2, _, hE9, next =>
    refine lv_tableIn (off := 184) (tgt := 224) hx hb dL_law_40 (by decide) (by decide) (by decide) (by decide) ?_
    exact lw_again l htr hL C0 g F hX hn0 hi hi6 rfl rfl rfl rfl rfl hE9 hI9 next
  | 3, _, hE9, next =>
    refine lv_tableIn (off := 200) (tgt := 240) hx hb dL_law_40 (by decide) (by decide) (by decide) (by decide) ?_
    exact lw_alter l htr hL C0 g F hX hn0 hi hi6 rfl rfl rfl rfl rfl hE9 hI9 next
  | 4, _, hE9, next =>
    refine lv_tableIn (off := 240) (tgt := 280) hx hb dL_law_40 (by decide) (by decide) (by decide) (by decide) ?_
    exact lw_keys l htr hL C0 g F hX hn0 hi hi6 rfl rfl rfl rfl rfl hE9 hI9 next
  | 5, _, hE9, next =>
    refine lv_tableIn (off := 268) (tgt := 308) hx hb dL_law_40 (by decide) (by decide) (by decide) (by decide) ?_
    exact lw_load l htr hL C0 g F hX hn0 hi hi6 rfl rfl rfl rfl rfl hE9 hI9 next
  | 6, _, hE9, next =>
    refine lv_tableIn (off := 324) (tgt := 364) hx hb dL_law_40 (by decide) (by decide) (by decide) (by decide) ?_
    exact lw_part l htr hL C0 g F hX hn0 hi hi6 rfl rfl rfl rfl rfl hE9 hI9 next
  | 7, _, hE9, next =>
    refine lv_tableIn (off := 392) (tgt := 432) hx hb dL_law_40 (by decide) (by decide) (by decide) (by decide) ?_
    exact lw_show l htr hL C0 g F hX hn0 hi hi6 rfl rfl rfl rfl rfl hE9 hI9 next
  | 8, _, hE9, next =>
    refine lv_tableIn (off := 448) (tgt := 488) hx hb dL_law_40 (by decide) (by decide) (by decide) (by decide) ?_
    exact lw_told l htr hL C0 g F hX hn0 hi hi6 rfl rfl rfl rfl rfl hE9 hI9 next
  | 9, _, hE9, next =>
    refine lv_tableIn (off := 516) (tgt := 556) hx hb dL_law_40 (by decide) (by decide) (by decide) (by decide) ?_
    exact lw_seal l htr hL C0 g F hX hn0 hi hi6 rfl rfl rfl rfl rfl hE9 hI9 next
  | 10, _, hE9, next =>
    refine lv_tableIn (off := 544) (tgt := 584) hx hb dL_law_40 (by decide) (by decide) (by decide) (by decide) ?_
    exact lw_open l htr hL C0 g F hX hn0 hi hi6 rfl rfl rfl rfl rfl hE9 hI9 next
  | 11, _, hE9, next =>
    refine lv_tableIn (off := 572) (tgt := 612) hx hb dL_law_40 (by decide) (by decide) (by decide) (by decide) ?_
    exact lw_sign l htr hL C0 g F hX hn0 hi hi6 rfl rfl rfl rfl rfl hE9 hI9 next
  | 12, _, hE9, next =>
    refine lv_tableIn (off := 612) (tgt := 652) hx hb dL_law_40 (by decide) (by decide) (by decide) (by decide) ?_
    exact lw_verify l htr hL C0 g F hX hn0 hi hi6 rfl rfl rfl rfl rfl hE9 hI9 next
  | 13, _, hE9, next =>
    refine lv_tableIn (off := 652) (tgt := 692) hx hb dL_law_40 (by decide) (by decide) (by decide) (by decide) ?_
    exact lw_hash l htr hL C0 g F hX hn0 hi hi6 rfl rfl rfl rfl rfl hE9 hI9 next
  | 14, _, hE9, next =>
    refine lv_tableIn (off := 692) (tgt := 732) hx hb dL_law_40 (by decide) (by decide) (by decide) (by decide) ?_
    exact lw_result l htr hL C0 g F hX hn0 hi hi6 rfl rfl rfl rfl rfl hE9 hI9 next
  | 15, _, hE9, next =>
    refine lv_tableIn (off := 720) (tgt := 760) hx hb dL_law_40 (by decide) (by decide) (by decide) (by decide) ?_
    exact lw_count l htr hL C0 g F hX hn0 hi hi6 rfl rfl rfl rfl rfl hE9 hI9 next
  | _ + 16, h9, _, _ => exact absurd h9 (by omega)
set_option maxHeartbeats 4000000 in
set_option maxRecDepth 100000 in
theorem lw_loop {p : Program} {e : Env} {s : State} {m : MethodId} {below : List Frame} {meth : Method} {c : Code} (l : Launch) (htr : l.stackTraces = false) {b L : Nat} {xs : Nat → Int32} (hL : L ≤ 3072) (C0 : lw_At p s m meth c b L xs) (g : Gd) (F : CallFix p m c c_L_law 7 s #[Value.ref b] wL "LatticeKeysLaw") (hX : ex g (Alaw s) s s.heap) : ∀ (n n0 i : Nat) (σ : Sto) (H : Heap) (locs : List Loc) (ls : Array Slot), n + n0 = 512 → i = 6 * n0 → LWS g s b i σ H locs ls → runE xs n i σ → W p l e room_1 s m #[Value.ref b] below meth c H locs (380 + 3 * n0) (194479 + 7491 * n0) (lw_Z below #[Value.ref b] s) (F0 m 23 ls []) := by
  obtain ⟨hx, hb, hml, hown, hts⟩ := id F
  have hE := hX.1
  have hK := hE.1
  have hA : ∀ q, s.heap.size ≤ q → Alaw s q := fun _ h => h
  obtain ⟨-, -, hr, -, -, -, hXs, hbl, hlk, -⟩ := id C0
  have hbA : ¬ Alaw s b := fun h => Nat.not_lt.mpr h hbl
  intro n
  induction n with
  | zero =>
    intro n0 i σ H locs ls hn hi hI hRE
    have hI9 := hI
    obtain ⟨T, pl, h0, h1, a, f, tl, al, pn, hO, hU, hT, hlow, hSM, k_h0, k_h1, hP, hD, hS, hl⟩ := hI
    refine lv_iload hx hb dL_law_23 (lv_at hl 0 rfl) ?_
    refine lv_aload_n hx hb dL_law_25 rfl (lv_at hl 4 rfl) ?_
    refine va_slen hx hb hXs hbl hbA hS dL_law_26 ?_
    refine mi_as (show Int32.ofNat L = nI L from rfl) ?_
    refine lv_bipush (v := nI 6) hx hb dL_law_27 (by decide) ?_
    rcases Nat.lt_or_ge L 6 with h6 | h6
    · refine lv_isub hx hb dL_law_29 ?_
      refine lv_icmp_gt (tgt := 791) hx hb dL_law_30 (by decide) (fun _ => ?_) (fun h9 => absurd (Int32.lt_of_lt_of_le (lt6 L h6) (nI_pos' (by omega))) h9)
      refine lv_iconst (v := nI 1) hx hb dL_law_791 (by decide) ?_
      refine W.widen (k := 601024) (n := 7293034) (by omega) (by omega) ?_
      exact va_forget hS.2.2 (lw_ret hx hb hr hlk dL_law_792)
    refine mi_isub hx hb dL_law_29 (by omega) ?_
    refine mi_gt (tgt := 791) hx hb dL_law_30 (by decide) (by omega) (by omega) (fun _ => ?_) (fun h9 => absurd h9 (by omega))
    refine lv_iconst (v := nI 1) hx hb dL_law_791 (by decide) ?_
    refine W.widen (k := 601024) (n := 7293034) (by omega) (by omega) ?_
    exact va_forget hS.2.2 (lw_ret hx hb hr hlk dL_law_792)
  | succ n ih =>
    intro n0 i σ H locs ls hn hi hI hRE
    have hI9 := hI
    obtain ⟨T, pl, h0, h1, a, f, tl, al, pn, hO, hU, hT, hlow, hSM, k_h0, k_h1, hP, hD, hS, hl⟩ := hI
    refine lv_iload hx hb dL_law_23 (lv_at hl 0 rfl) ?_
    refine lv_aload_n hx hb dL_law_25 rfl (lv_at hl 4 rfl) ?_
    refine va_slen hx hb hXs hbl hbA hS dL_law_26 ?_
    refine mi_as (show Int32.ofNat L = nI L from rfl) ?_
    refine lv_bipush (v := nI 6) hx hb dL_law_27 (by decide) ?_
    rcases Nat.lt_or_ge L 6 with h6 | h6
    · refine lv_isub hx hb dL_law_29 ?_
      refine lv_icmp_gt (tgt := 791) hx hb dL_law_30 (by decide) (fun _ => ?_) (fun h9 => absurd (Int32.lt_of_lt_of_le (lt6 L h6) (nI_pos' (by omega))) h9)
      refine lv_iconst (v := nI 1) hx hb dL_law_791 (by decide) ?_
      refine W.widen (k := 601024) (n := 7293034) (by omega) (by omega) ?_
      exact va_forget hS.2.2 (lw_ret hx hb hr hlk dL_law_792)
    refine mi_isub hx hb dL_law_29 (by omega) ?_
    refine mi_gt (tgt := 791) hx hb dL_law_30 (by decide) (by omega) (by omega) (fun _ => ?_) (fun h9 => ?_)
    · refine lv_iconst (v := nI 1) hx hb dL_law_791 (by decide) ?_
      refine W.widen (k := 601024) (n := 7293034) (by omega) (by omega) ?_
      exact va_forget hS.2.2 (lw_ret hx hb hr hlk dL_law_792)
    rw [runE] at hRE
    refine lw_sw l htr hL C0 g F hX (by omega) hi (by omega) (fun z pn hz hzz hp e => (hRE z pn hz hzz hp e).1) hI9 (fun z pn H locs ls hz hzz hp e hI => ?_)
    have hR1 := (hRE z pn hz hzz hp e).2
    obtain ⟨T, pl, h0, h1, a, f, tl, al, pn, hO, hU, hT, hlow, hSM, k_h0, k_h1, hP, hD, hS, hl⟩ := hI
    refine mi_iinc (k := 0) (x := i) (d := 6) (y := i + 6) (lv' := [(4, .int (nI (i + 6))), (3, .ref a), (2, .ref h1), (1, .ref h0), (0, .ref b)]) hx hb dL_law_785 hl rfl (by decide) rfl (by decide) rfl (fun ls hl => ?_)
    refine lv_goto (tgt := 23) hx hb dL_law_788 (by decide) ?_
    exact W.widen (k := 380 + 3 * (n0 + 1)) (n := 194479 + 7491 * (n0 + 1)) (by omega) (by omega) (ih (n0 + 1) (i + 6) _ _ _ _ (by omega) (by omega) ⟨T, pl, h0, h1, a, f, tl, al, pn, hO, hU, hT, hlow, hSM, k_h0, k_h1, hP, hD, hS, hl⟩ hR1)
