set_option linter.all false
set_option maxHeartbeats 4000000 in
set_option maxRecDepth 100000 in
theorem lw_feed {p : Program} {e : Env} {s : State} {m : MethodId} {below : List Frame} {meth : Method} {c : Code} (l : Launch) (htr : l.stackTraces = false) {b L : Nat} {xs : Nat → Int32} (hL : L ≤ 3072) (C0 : lw_At p s m meth c b L xs) (g : Gd) (F : CallFix p m c c_L_law 7 s #[Value.ref b] wL "LatticeKeysLaw") (hX : ex g (Alaw s) s s.heap) {n0 i : Nat} (hn0 : n0 < 512) (hi : i = 6 * n0) (hi6 : i + 6 ≤ L) {v1 v2 v3 v4 v5 : Int32} (hv1 : xs (nI (i + 1)).toNatClampNeg = v1) (hv2 : xs (nI (i + 2)).toNatClampNeg = v2) (hv3 : xs (nI (i + 3)).toNatClampNeg = v3) (hv4 : xs (nI (i + 4)).toNatClampNeg = v4) (hv5 : xs (nI (i + 5)).toNatClampNeg = v5) {σ : Sto} (hE9 : ∀ pn : Nat, pn ≤ 8 → σ.1 0 5 = nI pn → callE 9 v1 v2 v3 v4 v5 pn σ) {H : Heap} {locs : List Loc} {ls : Array Slot} (hI : LWS g s b i σ H locs ls) (next : ∀ (pn : Nat) (H : Heap) (locs : List Loc) (ls : Array Slot), pn ≤ 8 → σ.1 0 5 = nI pn → LWS g s b i (callNxt 9 v1 v2 v3 v4 v5 pn σ) H locs ls → W p l e room_1 s m #[Value.ref b] below meth c H locs (380 + 3 * n0 + 3) (194479 + 7491 * n0 + 7491) (lw_Z below #[Value.ref b] s) (F0 m 785 ls [])) : W p l e room_1 s m #[Value.ref b] below meth c H locs (380 + 3 * n0) (194479 + 7491 * n0) (lw_Z below #[Value.ref b] s) (F0 m 120 ls []) := by
  obtain ⟨hx, hb, hml, hown, hts⟩ := id F
  have hE := hX.1
  have hK := hE.1
  have hA : ∀ q, s.heap.size ≤ q → Alaw s q := fun _ h => h
  obtain ⟨-, -, hr, -, -, -, hXs, hbl, hlk, -⟩ := id C0
  have hbA : ¬ Alaw s b := fun h => Nat.not_lt.mpr h hbl
  obtain ⟨T, pl, h0, h1, a, f, tl, al, pn, hO, hU, hT, hlow, hSM, k_h0, k_h1, hP, hD, hS, hl⟩ := hI
  have hRc : room_1.cells = 601024 := rfl
  have hRs : room_1.slots = 7293034 := rfl
  have hT0 := hT
  have hO0 := hO
  obtain ⟨⟨et1, et2, et3⟩, ⟨ea1, ea2, ea3⟩, ⟨ep1, ep2, ep3⟩, -⟩ := id hSM
  replace hE9 := hE9 pn ep3 ep1
  refine lv_aload_n hx hb dL_law_120 rfl (lv_at hl 3 rfl) ?_
  refine lv_aload_n hx hb dL_law_121 rfl (lv_at hl 4 rfl) ?_
  refine lv_iload hx hb dL_law_122 (lv_at hl 0 rfl) ?_
  refine lv_iconst (v := nI 1) hx hb dL_law_124 (by decide) ?_
  refine mi_iadd hx hb dL_law_125 ?_
  refine va_sld hx hb hXs hbl hbA hS (vp_in_nI (N := L) (by omega) (by omega)) dL_law_126 ?_
  refine mi_as hv1 ?_
  refine lv_aload_n hx hb dL_law_127 rfl (lv_at hl 4 rfl) ?_
  refine lv_iload hx hb dL_law_128 (lv_at hl 0 rfl) ?_
  refine lv_iconst (v := nI 2) hx hb dL_law_130 (by decide) ?_
  refine mi_iadd hx hb dL_law_131 ?_
  refine va_sld hx hb hXs hbl hbA hS (vp_in_nI (N := L) (by omega) (by omega)) dL_law_132 ?_
  refine mi_as hv2 ?_
  refine lv_aload_n hx hb dL_law_133 rfl (lv_at hl 4 rfl) ?_
  refine lv_iload hx hb dL_law_134 (lv_at hl 0 rfl) ?_
  refine lv_iconst (v := nI 3) hx hb dL_law_136 (by decide) ?_
  refine mi_iadd hx hb dL_law_137 ?_
  refine va_sld hx hb hXs hbl hbA hS (vp_in_nI (N := L) (by omega) (by omega)) dL_law_138 ?_
  refine mi_as hv3 ?_
  refine lv_aload_n hx hb dL_law_139 rfl (lv_at hl 4 rfl) ?_
  refine lv_iload hx hb dL_law_140 (lv_at hl 0 rfl) ?_
  refine lv_iconst (v := nI 4) hx hb dL_law_142 (by decide) ?_
  refine mi_iadd hx hb dL_law_143 ?_
  refine va_sld hx hb hXs hbl hbA hS (vp_in_nI (N := L) (by omega) (by omega)) dL_law_144 ?_
  refine mi_as hv4 ?_
  refine lv_aload_n hx hb dL_law_145 rfl (lv_at hl 4 rfl) ?_
  refine lv_iload hx hb dL_law_146 (lv_at hl 0 rfl) ?_
  refine lv_iconst (v := nI 5) hx hb dL_law_148 (by decide) ?_
  refine mi_iadd hx hb dL_law_149 ?_
  refine va_sld hx hb hXs hbl hbA hS (vp_in_nI (N := L) (by omega) (by omega)) dL_law_150 ?_
  refine mi_as hv5 ?_
  refine lv_aload_n hx hb dL_law_151 rfl (lv_at hl 1 rfl) ?_
  refine mp_i (cx := [(a, .inl (g.2.1 2, 1, .inr (.inl f)))]) (wr := []) hP hD hS hA [0] [] rfl rfl rfl (by decide) (lc_run (As := [.ref h0, .int v1, .int v2, .int v3, .int v4, .int v5, .ref a]) (rest := []) F (ln_feed l htr g _ T σ pl hO hU h0 v1 v2 v3 v4 v5 a f tl al pn k_h0 et1 ea1 ep1 et3 ea3 ep3) (lc_cw 7 hts (wg_app (wg_c kw_412 (wg_c kw_413 (wg_c kw_0 wg_n))) kw_414) rfl rfl rfl (by decide +kernel) ⟨by decide, by decide⟩) (pp_S (ex_ok g) hP hD hS hA hX [0] rfl rfl) rfl rfl hl.1 rfl (lv_room (Nat.le_of_ble_eq_true rfl)) dL_law_152 ⟨by omega, by omega⟩) (fun r9 u9 H locs hu9 hP hD hS => ?_)
  obtain ⟨⟨q9, f9⟩, pl⟩ := u9
  obtain ⟨⟨eq9, er9, hF9, ha9, hp9⟩, hO⟩ := hu9
  have eq9 : q9 = F_K_feed v1 v2 v3 v4 v5 σ := eq9
  have er9 : r9 = q9.1 := er9
  have hF9 : frm M_K_feed σ q9.2.2 := hF9
  have hp9 : q9.2.2.1 0 5 = nI pn := hp9
  have hO : okn g T q9.2.2 pl := hO
  have ha9 : q9.1 = nI 0 → f9 0 = q9.2.1.toInt64 := ha9
  have ecc : callCls 9 v1 v2 v3 v4 v5 pn σ = q9 := by rw [cc_feed, eq9]
  have hO9 := hO
  have hP : va_P g.1 vcl ([(a, .inl (g.2.1 2, 1, .inr (.inl f9)))] ++ pl) _ := hP
  have hD : va_D _ ([(a, .inl (g.2.1 2, 1, .inr (.inl f9)))] ++ pl) := hD
  refine W.widen (k := 380 + 3 * n0 + 3) (n := 194479 + 7491 * n0 + 7491) (by omega) (by omega) ?_
  obtain ⟨em1, em2, em3, em4, em5⟩ := SAME_mod hSM (ms_K_feed hF9)
  refine lv_istore (lv' := [(5, .int r9), (4, .int (nI i)), (3, .ref a), (2, .ref h1), (1, .ref h0), (0, .ref b)]) hx hb dL_law_155 hl (by decide) rfl (fun ls hl => ?_)
  refine lv_aload_n hx hb dL_law_157 rfl (lv_at hl 3 rfl) ?_
  refine lv_aload_n hx hb dL_law_158 rfl (lv_at hl 5 rfl) ?_
  refine lv_iload hx hb dL_law_159 (lv_at hl 1 rfl) ?_
  refine lv_iconst (v := nI 1) hx hb dL_law_161 (by decide) ?_
  refine mi_iadd hx hb dL_law_162 ?_
  refine va_sld hx hb hXs hbl hbA hS (vp_in_nI (N := L) (by omega) (by omega)) dL_law_163 ?_
  refine mi_as hv1 ?_
  refine lv_aload_n hx hb dL_law_164 rfl (lv_at hl 5 rfl) ?_
  refine lv_iload hx hb dL_law_165 (lv_at hl 1 rfl) ?_
  refine lv_iconst (v := nI 2) hx hb dL_law_167 (by decide) ?_
  refine mi_iadd hx hb dL_law_168 ?_
  refine va_sld hx hb hXs hbl hbA hS (vp_in_nI (N := L) (by omega) (by omega)) dL_law_169 ?_
  refine mi_as hv2 ?_
  refine lv_aload_n hx hb dL_law_170 rfl (lv_at hl 5 rfl) ?_
  refine lv_iload hx hb dL_law_171 (lv_at hl 1 rfl) ?_
  refine lv_iconst (v := nI 3) hx hb dL_law_173 (by decide) ?_
  refine mi_iadd hx hb dL_law_174 ?_
  refine va_sld hx hb hXs hbl hbA hS (vp_in_nI (N := L) (by omega) (by omega)) dL_law_175 ?_
  refine mi_as hv3 ?_
  refine lv_aload_n hx hb dL_law_176 rfl (lv_at hl 5 rfl) ?_
  refine lv_iload hx hb dL_law_177 (lv_at hl 1 rfl) ?_
  refine lv_iconst (v := nI 4) hx hb dL_law_179 (by decide) ?_
  refine mi_iadd hx hb dL_law_180 ?_
  refine va_sld hx hb hXs hbl hbA hS (vp_in_nI (N := L) (by omega) (by omega)) dL_law_181 ?_
  refine mi_as hv4 ?_
  refine lv_aload_n hx hb dL_law_182 rfl (lv_at hl 5 rfl) ?_
  refine lv_iload hx hb dL_law_183 (lv_at hl 1 rfl) ?_
  refine lv_iconst (v := nI 5) hx hb dL_law_185 (by decide) ?_
  refine mi_iadd hx hb dL_law_186 ?_
  refine va_sld hx hb hXs hbl hbA hS (vp_in_nI (N := L) (by omega) (by omega)) dL_law_187 ?_
  refine mi_as hv5 ?_
  refine mp_i (cx := []) (wr := [(a, .inl (g.2.1 2, 1, .inr (.inl f9)))]) hP hD hS hA [] [0] rfl rfl rfl (by decide) (va_runV (As := [.int v1, .int v2, .int v3, .int v4, .int v5]) (rest := []) F (N_M_feed l g _ T q9.2.2 pl hO hU h1 v1 v2 v3 v4 v5 tl al pn k_h1 em1 em2 em3 et3 ea3 ep3) (cwV 5 hts (wg_app (wg_c kw_1573 (wg_c kw_1574 (wg_c kw_1575 (wg_c kw_9 wg_n)))) kw_1576) rfl rfl rfl (by decide +kernel) ⟨by decide, by decide⟩) (pn_W "LatticeKeysModel" (en_ok g) (ci := 8) (kn := 148) (fl := [(0, 0), (0, 0), (0, 0), (0, 0), (3, 149), (3, 150), (3, 151), (3, 152), (3, 161), (3, 170), (3, 171), (3, 172), (3, 184), (3, 225)]) hK hO k_h1 rfl hP hD hS hA hE [] rfl rfl rfl) rfl rfl hl.1 rfl (lv_room (Nat.le_of_ble_eq_true rfl)) dL_law_188 ⟨by omega, by omega⟩) (fun r8 u8 H locs hu8 hP hD hS => ?_)
  obtain ⟨q8, pl⟩ := u8
  obtain ⟨⟨eq8, er8, hF8, -⟩, hO⟩ := hu8
  have eq8 : q8 = F_M_feed v1 v2 v3 v4 v5 q9.2.2 := eq8
  have er8 : r8 = q8.1 := er8
  have hF8 : frm M_M_feed q9.2.2 q8.2 := hF8
  have hO : okn g T q8.2 pl := hO
  have hP : va_P g.1 vcl ([(a, .inl (g.2.1 2, 1, .inr (.inl f9)))] ++ pl) _ := hP
  have hD : va_D _ ([(a, .inl (g.2.1 2, 1, .inr (.inl f9)))] ++ pl) := hD
  refine W.widen (k := 380 + 3 * n0 + 3) (n := 194479 + 7491 * n0 + 7491) (by omega) (by omega) ?_
  have en9 : q8.2 = callNxt 9 v1 v2 v3 v4 v5 pn σ := nx_of ecc cm_feed eq8
  have hout := sm_out (c := 9) (v1 := v1) (v2 := v2) (v3 := v3) (v4 := v4) (v5 := v5) hSM trivial
  rw [ecc, cm_feed, ← eq8, ← en9] at hout
  obtain ⟨⟨tl1, al1, pn1, hS1⟩, hth, han⟩ := hout
  have epn := pn_same hp9 ep3 (hF8 0 (by unfold M_M_feed; omega)) hS1
  rw [← epn] at hlow
  refine lv_istore (lv' := [(6, .int r8), (5, .int r9), (4, .int (nI i)), (3, .ref a), (2, .ref h1), (1, .ref h0), (0, .ref b)]) hx hb dL_law_191 hl (by decide) rfl (fun ls hl => ?_)
  refine lv_goto (tgt := 785) hx hb dL_law_193 (by decide) ?_
  rw [en9] at hO hS1
  exact W.widen (k := 380 + 3 * n0 + 3) (n := 194479 + 7491 * n0 + 7491) (by omega) (by omega) (next pn _ _ _ ep3 ep1 ⟨T, pl, h0, h1, a, f9, tl1, al1, pn1, hO, hU, hT, hlow, hS1, k_h0, k_h1, hP, hD, hS, lv_sub hl [2, 3, 4, 5, 6] rfl⟩)
set_option maxHeartbeats 4000000 in
set_option maxRecDepth 100000 in
theorem lw_end {p : Program} {e : Env} {s : State} {m : MethodId} {below : List Frame} {meth : Method} {c : Code} (l : Launch) (htr : l.stackTraces = false) {b L : Nat} {xs : Nat → Int32} (hL : L ≤ 3072) (C0 : lw_At p s m meth c b L xs) (g : Gd) (F : CallFix p m c c_L_law 7 s #[Value.ref b] wL "LatticeKeysLaw") (hX : ex g (Alaw s) s s.heap) {n0 i : Nat} (hn0 : n0 < 512) (hi : i = 6 * n0) (hi6 : i + 6 ≤ L) {v1 v2 v3 v4 v5 : Int32} (hv1 : xs (nI (i + 1)).toNatClampNeg = v1) (hv2 : xs (nI (i + 2)).toNatClampNeg = v2) (hv3 : xs (nI (i + 3)).toNatClampNeg = v3) (hv4 : xs (nI (i + 4)).toNatClampNeg = v4) (hv5 : xs (nI (i + 5)).toNatClampNeg = v5) {σ : Sto} (hE9 : ∀ pn : Nat, pn ≤ 8 → σ.1 0 5 = nI pn → callE 3 v1 v2 v3 v4 v5 pn σ) {H : Heap} {locs : List Loc} {ls : Array Slot} (hI : LWS g s b i σ H locs ls) (next : ∀ (pn : Nat) (H : Heap) (locs : List Loc) (ls : Array Slot), pn ≤ 8 → σ.1 0 5 = nI pn → LWS g s b i (callNxt 3 v1 v2 v3 v4 v5 pn σ) H locs ls → W p l e room_1 s m #[Value.ref b] below meth c H locs (380 + 3 * n0 + 3) (194479 + 7491 * n0 + 7491) (lw_Z below #[Value.ref b] s) (F0 m 785 ls [])) : W p l e room_1 s m #[Value.ref b] below meth c H locs (380 + 3 * n0) (194479 + 7491 * n0) (lw_Z below #[Value.ref b] s) (F0 m 196 ls []) := by
  obtain ⟨hx, hb, hml, hown, hts⟩ := id F
  have hE := hX.1
  have hK := hE.1
  have hA : ∀ q, s.heap.size ≤ q → Alaw s q := fun _ h => h
  obtain ⟨-, -, hr, -, -, -, hXs, hbl, hlk, -⟩ := id C0
  have hbA : ¬ Alaw s b := fun h => Nat.not_lt.mpr h hbl
  obtain ⟨T, pl, h0, h1, a, f, tl, al, pn, hO, hU, hT, hlow, hSM, k_h0, k_h1, hP, hD, hS, hl⟩ := hI
  have hRc : room_1.cells = 601024 := rfl
  have hRs : room_1.slots = 7293034 := rfl
  have hT0 := hT
  have hO0 := hO
  obtain ⟨⟨et1, et2, et3⟩, ⟨ea1, ea2, ea3⟩, ⟨ep1, ep2, ep3⟩, -⟩ := id hSM
  replace hE9 := hE9 pn ep3 ep1
  refine lv_aload_n hx hb dL_law_196 rfl (lv_at hl 3 rfl) ?_
  refine lv_aload_n hx hb dL_law_197 rfl (lv_at hl 4 rfl) ?_
  refine lv_iload hx hb dL_law_198 (lv_at hl 0 rfl) ?_
  refine lv_iconst (v := nI 1) hx hb dL_law_200 (by decide) ?_
  refine mi_iadd hx hb dL_law_201 ?_
  refine va_sld hx hb hXs hbl hbA hS (vp_in_nI (N := L) (by omega) (by omega)) dL_law_202 ?_
  refine mi_as hv1 ?_
  refine lv_aload_n hx hb dL_law_203 rfl (lv_at hl 1 rfl) ?_
  refine mp_i (cx := [(a, .inl (g.2.1 2, 1, .inr (.inl f)))]) (wr := []) hP hD hS hA [0] [] rfl rfl rfl (by decide) (lc_run (As := [.ref h0, .int v1, .ref a]) (rest := []) F (ln_end l htr g _ T σ pl hO hU h0 v1 a f tl al pn k_h0 et1 ea1 ep1 et3 ea3 ep3) (lc_cw 3 hts (wg_app (wg_c kw_493 (wg_c kw_494 (wg_c kw_0 wg_n))) kw_495) rfl rfl rfl (by decide +kernel) ⟨by decide, by decide⟩) (pp_S (ex_ok g) hP hD hS hA hX [0] rfl rfl) rfl rfl hl.1 rfl (lv_room (Nat.le_of_ble_eq_true rfl)) dL_law_204 ⟨by omega, by omega⟩) (fun r9 u9 H locs hu9 hP hD hS => ?_)
  obtain ⟨⟨q9, f9⟩, pl⟩ := u9
  obtain ⟨⟨eq9, er9, hF9, ha9, hp9⟩, hO⟩ := hu9
  have eq9 : q9 = F_K_end v1 σ := eq9
  have er9 : r9 = q9.1 := er9
  have hF9 : frm M_K_end σ q9.2.2 := hF9
  have hp9 : q9.2.2.1 0 5 = nI pn := hp9
  have hO : okn g T q9.2.2 pl := hO
  have ha9 : q9.1 = nI 0 → f9 0 = q9.2.1.toInt64 := ha9
  have ecc : callCls 3 v1 v2 v3 v4 v5 pn σ = q9 := by rw [cc_end, eq9]
  have hO9 := hO
  have hP : va_P g.1 vcl ([(a, .inl (g.2.1 2, 1, .inr (.inl f9)))] ++ pl) _ := hP
  have hD : va_D _ ([(a, .inl (g.2.1 2, 1, .inr (.inl f9)))] ++ pl) := hD
  refine W.widen (k := 380 + 3 * n0 + 3) (n := 194479 + 7491 * n0 + 7491) (by omega) (by omega) ?_
  obtain ⟨em1, em2, em3, em4, em5⟩ := SAME_mod hSM (ms_K_end hF9)
  refine lv_istore (lv' := [(5, .int r9), (4, .int (nI i)), (3, .ref a), (2, .ref h1), (1, .ref h0), (0, .ref b)]) hx hb dL_law_207 hl (by decide) rfl (fun ls hl => ?_)
  refine lv_aload_n hx hb dL_law_209 rfl (lv_at hl 3 rfl) ?_
  refine lv_aload_n hx hb dL_law_210 rfl (lv_at hl 5 rfl) ?_
  refine lv_iload hx hb dL_law_211 (lv_at hl 1 rfl) ?_
  refine lv_iconst (v := nI 1) hx hb dL_law_213 (by decide) ?_
  refine mi_iadd hx hb dL_law_214 ?_
  refine va_sld hx hb hXs hbl hbA hS (vp_in_nI (N := L) (by omega) (by omega)) dL_law_215 ?_
  refine mi_as hv1 ?_
  refine mp_i (cx := []) (wr := [(a, .inl (g.2.1 2, 1, .inr (.inl f9)))]) hP hD hS hA [] [0] rfl rfl rfl (by decide) (va_runV (As := [.int v1]) (rest := []) F (N_M_end l g _ T q9.2.2 pl hO hU h1 v1 tl al pn k_h1 em1 em2 em3 et3 ea3 ep3) (cwV 1 hts (wg_app (wg_c kw_1585 (wg_c kw_1586 (wg_c kw_1587 (wg_c kw_9 wg_n)))) kw_1588) rfl rfl rfl (by decide +kernel) ⟨by decide, by decide⟩) (pn_W "LatticeKeysModel" (en_ok g) (ci := 8) (kn := 148) (fl := [(0, 0), (0, 0), (0, 0), (0, 0), (3, 149), (3, 150), (3, 151), (3, 152), (3, 161), (3, 170), (3, 171), (3, 172), (3, 184), (3, 225)]) hK hO k_h1 rfl hP hD hS hA hE [] rfl rfl rfl) rfl rfl hl.1 rfl (lv_room (Nat.le_of_ble_eq_true rfl)) dL_law_216 ⟨by omega, by omega⟩) (fun r8 u8 H locs hu8 hP hD hS => ?_)
  obtain ⟨q8, pl⟩ := u8
  obtain ⟨⟨eq8, er8, hF8, -⟩, hO⟩ := hu8
  have eq8 : q8 = F_M_end v1 q9.2.2 := eq8
  have er8 : r8 = q8.1 := er8
  have hF8 : frm M_M_end q9.2.2 q8.2 := hF8
  have hO : okn g T q8.2 pl := hO
  have hP : va_P g.1 vcl ([(a, .inl (g.2.1 2, 1, .inr (.inl f9)))] ++ pl) _ := hP
  have hD : va_D _ ([(a, .inl (g.2.1 2, 1, .inr (.inl f9)))] ++ pl) := hD
  refine W.widen (k := 380 + 3 * n0 + 3) (n := 194479 + 7491 * n0 + 7491) (by omega) (by omega) ?_
  have en9 : q8.2 = callNxt 3 v1 v2 v3 v4 v5 pn σ := nx_of ecc cm_end eq8
  have hout := sm_out (c := 3) (v1 := v1) (v2 := v2) (v3 := v3) (v4 := v4) (v5 := v5) hSM trivial
  rw [ecc, cm_end, ← eq8, ← en9] at hout
  obtain ⟨⟨tl1, al1, pn1, hS1⟩, hth, han⟩ := hout
  have epn := pn_same hp9 ep3 (hF8 0 (by unfold M_M_end; omega)) hS1
  rw [← epn] at hlow
  refine lv_istore (lv' := [(6, .int r8), (5, .int r9), (4, .int (nI i)), (3, .ref a), (2, .ref h1), (1, .ref h0), (0, .ref b)]) hx hb dL_law_219 hl (by decide) rfl (fun ls hl => ?_)
  refine lv_goto (tgt := 785) hx hb dL_law_221 (by decide) ?_
  rw [en9] at hO hS1
  exact W.widen (k := 380 + 3 * n0 + 3) (n := 194479 + 7491 * n0 + 7491) (by omega) (by omega) (next pn _ _ _ ep3 ep1 ⟨T, pl, h0, h1, a, f9, tl1, al1, pn1, hO, hU, hT, hlow, hS1, k_h0, k_h1, hP, hD, hS, lv_sub hl [2, 3, 4, 5, 6] rfl⟩)
set_option maxHeartbeats 4000000 in
set_option maxRecDepth 100000 in
theorem lw_again {p : Program} {e : Env} {s : State} {m : MethodId} {below : List Frame} {meth : Method} {c : Code} (l : Launch) (htr : l.stackTraces = false) {b L : Nat} {xs : Nat → Int32} (hL : L ≤ 3072) (C0 : lw_At p s m meth c b L xs) (g : Gd) (F : CallFix p m c c_L_law 7 s #[Value.ref b] wL "LatticeKeysLaw") (hX : ex g (Alaw s) s s.heap) {n0 i : Nat} (hn0 : n0 < 512) (hi : i = 6 * n0) (hi6 : i + 6 ≤ L) {v1 v2 v3 v4 v5 : Int32} (hv1 : xs (nI (i + 1)).toNatClampNeg = v1) (hv2 : xs (nI (i + 2)).toNatClampNeg = v2) (hv3 : xs (nI (i + 3)).toNatClampNeg = v3) (hv4 : xs (nI (i + 4)).toNatClampNeg = v4) (hv5 : xs (nI (i + 5)).toNatClampNeg = v5) {σ : Sto} (hE9 : ∀ pn : Nat, pn ≤ 8 → σ.1 0 5 = nI pn → callE 6 v1 v2 v3 v4 v5 pn σ) {H : Heap} {locs : List Loc} {ls : Array Slot} (hI : LWS g s b i σ H locs ls) (next : ∀ (pn : Nat) (H : Heap) (locs : List Loc) (ls : Array Slot), pn ≤ 8 → σ.1 0 5 = nI pn → LWS g s b i (callNxt 6 v1 v2 v3 v4 v5 pn σ) H locs ls → W p l e room_1 s m #[Value.ref b] below meth c H locs (380 + 3 * n0 + 3) (194479 + 7491 * n0 + 7491) (lw_Z below #[Value.ref b] s) (F0 m 785 ls [])) : W p l e room_1 s m #[Value.ref b] below meth c H locs (380 + 3 * n0) (194479 + 7491 * n0) (lw_Z below #[Value.ref b] s) (F0 m 224 ls []) := by
  obtain ⟨hx, hb, hml, hown, hts⟩ := id F
  have hE := hX.1
  have hK := hE.1
  have hA : ∀ q, s.heap.size ≤ q → Alaw s q := fun _ h => h
  obtain ⟨-, -, hr, -, -, -, hXs, hbl, hlk, -⟩ := id C0
  have hbA : ¬ Alaw s b := fun h => Nat.not_lt.mpr h hbl
  obtain ⟨T, pl, h0, h1, a, f, tl, al, pn, hO, hU, hT, hlow, hSM, k_h0, k_h1, hP, hD, hS, hl⟩ := hI
  have hRc : room_1.cells = 601024 := rfl
  have hRs : room_1.slots = 7293034 := rfl
  have hT0 := hT
  have hO0 := hO
  obtain ⟨⟨et1, et2, et3⟩, ⟨ea1, ea2, ea3⟩, ⟨ep1, ep2, ep3⟩, -⟩ := id hSM
  replace hE9 := hE9 pn ep3 ep1
  refine lv_aload_n hx hb dL_law_224 rfl (lv_at hl 3 rfl) ?_
  refine lv_aload_n hx hb dL_law_225 rfl (lv_at hl 1 rfl) ?_
  refine mp_i (cx := [(a, .inl (g.2.1 2, 1, .inr (.inl f)))]) (wr := []) hP hD hS hA [0] [] rfl rfl rfl (by decide) (lc_run (As := [.ref h0, .ref a]) (rest := []) F (ln_again l htr g _ T σ pl hO hU h0 a f tl al pn k_h0 et1 ea1 ep1 et3 ea3 ep3) (lc_cw 2 hts (wg_app (wg_c kw_517 (wg_c kw_518 (wg_c kw_0 wg_n))) kw_519) rfl rfl rfl (by decide +kernel) ⟨by decide, by decide⟩) (pp_S (ex_ok g) hP hD hS hA hX [0] rfl rfl) rfl rfl hl.1 rfl (lv_room (Nat.le_of_ble_eq_true rfl)) dL_law_226 ⟨by omega, by omega⟩) (fun r9 u9 H locs hu9 hP hD hS => ?_)
  obtain ⟨⟨q9, f9⟩, pl⟩ := u9
  obtain ⟨⟨eq9, er9, hF9, ha9, hp9⟩, hO⟩ := hu9
  have eq9 : q9 = F_K_again σ := eq9
  have er9 : r9 = q9.1 := er9
  have hF9 : frm M_K_again σ q9.2.2 := hF9
  have hp9 : q9.2.2.1 0 5 = nI pn := hp9
  have hO : okn g T q9.2.2 pl := hO
  have ha9 : q9.1 = nI 0 → f9 0 = q9.2.1.toInt64 := ha9
  have ecc : callCls 6 v1 v2 v3 v4 v5 pn σ = q9 := by rw [cc_again, eq9]
  have hO9 := hO
  have hP : va_P g.1 vcl ([(a, .inl (g.2.1 2, 1, .inr (.inl f9)))] ++ pl) _ := hP
  have hD : va_D _ ([(a, .inl (g.2.1 2, 1, .inr (.inl f9)))] ++ pl) := hD
  refine W.widen (k := 380 + 3 * n0 + 3) (n := 194479 + 7491 * n0 + 7491) (by omega) (by omega) ?_
  obtain ⟨em1, em2, em3, em4, em5⟩ := SAME_mod hSM (ms_K_again hF9)
  refine lv_istore (lv' := [(5, .int r9), (4, .int (nI i)), (3, .ref a), (2, .ref h1), (1, .ref h0), (0, .ref b)]) hx hb dL_law_229 hl (by decide) rfl (fun ls hl => ?_)
  refine lv_aload_n hx hb dL_law_231 rfl (lv_at hl 3 rfl) ?_
  refine mp_i (cx := []) (wr := [(a, .inl (g.2.1 2, 1, .inr (.inl f9)))]) hP hD hS hA [] [0] rfl rfl rfl (by decide) (va_runV (As := []) (rest := []) F (N_M_again l g _ T q9.2.2 pl hO hU h1 tl al pn k_h1 em1 em2 em3 et3 ea3 ep3) (cwV 0 hts (wg_app (wg_c kw_1589 (wg_c kw_1590 (wg_c kw_1591 (wg_c kw_9 wg_n)))) kw_1592) rfl rfl rfl (by decide +kernel) ⟨by decide, by decide⟩) (pn_W "LatticeKeysModel" (en_ok g) (ci := 8) (kn := 148) (fl := [(0, 0), (0, 0), (0, 0), (0, 0), (3, 149), (3, 150), (3, 151), (3, 152), (3, 161), (3, 170), (3, 171), (3, 172), (3, 184), (3, 225)]) hK hO k_h1 rfl hP hD hS hA hE [] rfl rfl rfl) rfl rfl hl.1 rfl (lv_room (Nat.le_of_ble_eq_true rfl)) dL_law_232 ⟨by omega, by omega⟩) (fun r8 u8 H locs hu8 hP hD hS => ?_)
  obtain ⟨q8, pl⟩ := u8
  obtain ⟨⟨eq8, er8, hF8, -⟩, hO⟩ := hu8
  have eq8 : q8 = F_M_again q9.2.2 := eq8
  have er8 : r8 = q8.1 := er8
  have hF8 : frm M_M_again q9.2.2 q8.2 := hF8
  have hO : okn g T q8.2 pl := hO
  have hP : va_P g.1 vcl ([(a, .inl (g.2.1 2, 1, .inr (.inl f9)))] ++ pl) _ := hP
  have hD : va_D _ ([(a, .inl (g.2.1 2, 1, .inr (.inl f9)))] ++ pl) := hD
  refine W.widen (k := 380 + 3 * n0 + 3) (n := 194479 + 7491 * n0 + 7491) (by omega) (by omega) ?_
  have en9 : q8.2 = callNxt 6 v1 v2 v3 v4 v5 pn σ := nx_of ecc cm_again eq8
  have hout := sm_out (c := 6) (v1 := v1) (v2 := v2) (v3 := v3) (v4 := v4) (v5 := v5) hSM (again_ok hO0 hT0)
  rw [ecc, cm_again, ← eq8, ← en9] at hout
  obtain ⟨⟨tl1, al1, pn1, hS1⟩, hth, han⟩ := hout
  have epn := pn_same hp9 ep3 (hF8 0 (by unfold M_M_again; omega)) hS1
  rw [← epn] at hlow
  refine lv_istore (lv' := [(6, .int r8), (5, .int r9), (4, .int (nI i)), (3, .ref a), (2, .ref h1), (1, .ref h0), (0, .ref b)]) hx hb dL_law_235 hl (by decide) rfl (fun ls hl => ?_)
  refine lv_goto (tgt := 785) hx hb dL_law_237 (by decide) ?_
  rw [en9] at hO hS1
  exact W.widen (k := 380 + 3 * n0 + 3) (n := 194479 + 7491 * n0 + 7491) (by omega) (by omega) (next pn _ _ _ ep3 ep1 ⟨T, pl, h0, h1, a, f9, tl1, al1, pn1, hO, hU, hT, hlow, hS1, k_h0, k_h1, hP, hD, hS, lv_sub hl [2, 3, 4, 5, 6] rfl⟩)
set_option maxHeartbeats 4000000 in
set_option maxRecDepth 100000 in
theorem lw_alter {p : Program} {e : Env} {s : State} {m : MethodId} {below : List Frame} {meth : Method} {c : Code} (l : Launch) (htr : l.stackTraces = false) {b L : Nat} {xs : Nat → Int32} (hL : L ≤ 3072) (C0 : lw_At p s m meth c b L xs) (g : Gd) (F : CallFix p m c c_L_law 7 s #[Value.ref b] wL "LatticeKeysLaw") (hX : ex g (Alaw s) s s.heap) {n0 i : Nat} (hn0 : n0 < 512) (hi : i = 6 * n0) (hi6 : i + 6 ≤ L) {v1 v2 v3 v4 v5 : Int32} (hv1 : xs (nI (i + 1)).toNatClampNeg = v1) (hv2 : xs (nI (i + 2)).toNatClampNeg = v2) (hv3 : xs (nI (i + 3)).toNatClampNeg = v3) (hv4 : xs (nI (i + 4)).toNatClampNeg = v4) (hv5 : xs (nI (i + 5)).toNatClampNeg = v5) {σ : Sto} (hE9 : ∀ pn : Nat, pn ≤ 8 → σ.1 0 5 = nI pn → callE 4 v1 v2 v3 v4 v5 pn σ) {H : Heap} {locs : List Loc} {ls : Array Slot} (hI : LWS g s b i σ H locs ls) (next : ∀ (pn : Nat) (H : Heap) (locs : List Loc) (ls : Array Slot), pn ≤ 8 → σ.1 0 5 = nI pn → LWS g s b i (callNxt 4 v1 v2 v3 v4 v5 pn σ) H locs ls → W p l e room_1 s m #[Value.ref b] below meth c H locs (380 + 3 * n0 + 3) (194479 + 7491 * n0 + 7491) (lw_Z below #[Value.ref b] s) (F0 m 785 ls [])) : W p l e room_1 s m #[Value.ref b] below meth c H locs (380 + 3 * n0) (194479 + 7491 * n0) (lw_Z below #[Value.ref b] s) (F0 m 240 ls []) := by
  obtain ⟨hx, hb, hml, hown, hts⟩ := id F
  have hE := hX.1
  have hK := hE.1
  have hA : ∀ q, s.heap.size ≤ q → Alaw s q := fun _ h => h
  obtain ⟨-, -, hr, -, -, -, hXs, hbl, hlk, -⟩ := id C0
  have hbA : ¬ Alaw s b := fun h => Nat.not_lt.mpr h hbl
  obtain ⟨T, pl, h0, h1, a, f, tl, al, pn, hO, hU, hT, hlow, hSM, k_h0, k_h1, hP, hD, hS, hl⟩ := hI
  have hRc : room_1.cells = 601024 := rfl
  have hRs : room_1.slots = 7293034 := rfl
  have hT0 := hT
  have hO0 := hO
  obtain ⟨⟨et1, et2, et3⟩, ⟨ea1, ea2, ea3⟩, ⟨ep1, ep2, ep3⟩, -⟩ := id hSM
  replace hE9 := hE9 pn ep3 ep1
  refine lv_aload_n hx hb dL_law_240 rfl (lv_at hl 3 rfl) ?_
  refine lv_aload_n hx hb dL_law_241 rfl (lv_at hl 4 rfl) ?_
  refine lv_iload hx hb dL_law_242 (lv_at hl 0 rfl) ?_
  refine lv_iconst (v := nI 1) hx hb dL_law_244 (by decide) ?_
  refine mi_iadd hx hb dL_law_245 ?_
  refine va_sld hx hb hXs hbl hbA hS (vp_in_nI (N := L) (by omega) (by omega)) dL_law_246 ?_
  refine mi_as hv1 ?_
  refine lv_aload_n hx hb dL_law_247 rfl (lv_at hl 4 rfl) ?_
  refine lv_iload hx hb dL_law_248 (lv_at hl 0 rfl) ?_
  refine lv_iconst (v := nI 2) hx hb dL_law_250 (by decide) ?_
  refine mi_iadd hx hb dL_law_251 ?_
  refine va_sld hx hb hXs hbl hbA hS (vp_in_nI (N := L) (by omega) (by omega)) dL_law_252 ?_
  refine mi_as hv2 ?_
  refine lv_aload_n hx hb dL_law_253 rfl (lv_at hl 1 rfl) ?_
  refine mp_i (cx := [(a, .inl (g.2.1 2, 1, .inr (.inl f)))]) (wr := []) hP hD hS hA [0] [] rfl rfl rfl (by decide) (lc_run (As := [.ref h0, .int v1, .int v2, .ref a]) (rest := []) F (ln_alter l htr g _ T σ pl hO hU h0 v1 v2 a f tl al pn k_h0 et1 ea1 ep1 et3 ea3 ep3) (lc_cw 4 hts (wg_app (wg_c kw_527 (wg_c kw_528 (wg_c kw_0 wg_n))) kw_529) rfl rfl rfl (by decide +kernel) ⟨by decide, by decide⟩) (pp_S (ex_ok g) hP hD hS hA hX [0] rfl rfl) rfl rfl hl.1 rfl (lv_room (Nat.le_of_ble_eq_true rfl)) dL_law_254 ⟨by omega, by omega⟩) (fun r9 u9 H locs hu9 hP hD hS => ?_)
  obtain ⟨⟨q9, f9⟩, pl⟩ := u9
  obtain ⟨⟨eq9, er9, hF9, ha9, hp9⟩, hO⟩ := hu9
  have eq9 : q9 = F_K_alter v1 v2 σ := eq9
  have er9 : r9 = q9.1 := er9
  have hF9 : frm M_K_alter σ q9.2.2 := hF9
  have hp9 : q9.2.2.1 0 5 = nI pn := hp9
  have hO : okn g T q9.2.2 pl := hO
  have ha9 : q9.1 = nI 0 → f9 0 = q9.2.1.toInt64 := ha9
  have ecc : callCls 4 v1 v2 v3 v4 v5 pn σ = q9 := by rw [cc_alter, eq9]
  have hO9 := hO
  have hP : va_P g.1 vcl ([(a, .inl (g.2.1 2, 1, .inr (.inl f9)))] ++ pl) _ := hP
  have hD : va_D _ ([(a, .inl (g.2.1 2, 1, .inr (.inl f9)))] ++ pl) := hD
  refine W.widen (k := 380 + 3 * n0 + 3) (n := 194479 + 7491 * n0 + 7491) (by omega) (by omega) ?_
  obtain ⟨em1, em2, em3, em4, em5⟩ := SAME_mod hSM (ms_K_alter hF9)
  refine lv_istore (lv' := [(5, .int r9), (4, .int (nI i)), (3, .ref a), (2, .ref h1), (1, .ref h0), (0, .ref b)]) hx hb dL_law_257 hl (by decide) rfl (fun ls hl => ?_)
  refine lv_aload_n hx hb dL_law_259 rfl (lv_at hl 3 rfl) ?_
  refine lv_aload_n hx hb dL_law_260 rfl (lv_at hl 5 rfl) ?_
  refine lv_iload hx hb dL_law_261 (lv_at hl 1 rfl) ?_
  refine lv_iconst (v := nI 1) hx hb dL_law_263 (by decide) ?_
  refine mi_iadd hx hb dL_law_264 ?_
  refine va_sld hx hb hXs hbl hbA hS (vp_in_nI (N := L) (by omega) (by omega)) dL_law_265 ?_
  refine mi_as hv1 ?_
  refine lv_aload_n hx hb dL_law_266 rfl (lv_at hl 5 rfl) ?_
  refine lv_iload hx hb dL_law_267 (lv_at hl 1 rfl) ?_
  refine lv_iconst (v := nI 2) hx hb dL_law_269 (by decide) ?_
  refine mi_iadd hx hb dL_law_270 ?_
  refine va_sld hx hb hXs hbl hbA hS (vp_in_nI (N := L) (by omega) (by omega)) dL_law_271 ?_
  refine mi_as hv2 ?_
  refine mp_i (cx := []) (wr := [(a, .inl (g.2.1 2, 1, .inr (.inl f9)))]) hP hD hS hA [] [0] rfl rfl rfl (by decide) (va_runV (As := [.int v1, .int v2]) (rest := []) F (N_M_alter l g _ T q9.2.2 pl hO hU h1 v1 v2 tl al pn k_h1 em1 em2 em3 et3 ea3 ep3) (cwV 2 hts (wg_app (wg_c kw_1593 (wg_c kw_1594 (wg_c kw_1595 (wg_c kw_9 wg_n)))) kw_1596) rfl rfl rfl (by decide +kernel) ⟨by decide, by decide⟩) (pn_W "LatticeKeysModel" (en_ok g) (ci := 8) (kn := 148) (fl := [(0, 0), (0, 0), (0, 0), (0, 0), (3, 149), (3, 150), (3, 151), (3, 152), (3, 161), (3, 170), (3, 171), (3, 172), (3, 184), (3, 225)]) hK hO k_h1 rfl hP hD hS hA hE [] rfl rfl rfl) rfl rfl hl.1 rfl (lv_room (Nat.le_of_ble_eq_true rfl)) dL_law_272 ⟨by omega, by omega⟩) (fun r8 u8 H locs hu8 hP hD hS => ?_)
  obtain ⟨q8, pl⟩ := u8
  obtain ⟨⟨eq8, er8, hF8, -⟩, hO⟩ := hu8
  have eq8 : q8 = F_M_alter v1 v2 q9.2.2 := eq8
  have er8 : r8 = q8.1 := er8
  have hF8 : frm M_M_alter q9.2.2 q8.2 := hF8
  have hO : okn g T q8.2 pl := hO
  have hP : va_P g.1 vcl ([(a, .inl (g.2.1 2, 1, .inr (.inl f9)))] ++ pl) _ := hP
  have hD : va_D _ ([(a, .inl (g.2.1 2, 1, .inr (.inl f9)))] ++ pl) := hD
  refine W.widen (k := 380 + 3 * n0 + 3) (n := 194479 + 7491 * n0 + 7491) (by omega) (by omega) ?_
  have en9 : q8.2 = callNxt 4 v1 v2 v3 v4 v5 pn σ := nx_of ecc cm_alter eq8
  have hout := sm_out (c := 4) (v1 := v1) (v2 := v2) (v3 := v3) (v4 := v4) (v5 := v5) hSM trivial
  rw [ecc, cm_alter, ← eq8, ← en9] at hout
  obtain ⟨⟨tl1, al1, pn1, hS1⟩, hth, han⟩ := hout
  have epn := pn_same hp9 ep3 (hF8 0 (by unfold M_M_alter; omega)) hS1
  rw [← epn] at hlow
  refine lv_istore (lv' := [(6, .int r8), (5, .int r9), (4, .int (nI i)), (3, .ref a), (2, .ref h1), (1, .ref h0), (0, .ref b)]) hx hb dL_law_275 hl (by decide) rfl (fun ls hl => ?_)
  refine lv_goto (tgt := 785) hx hb dL_law_277 (by decide) ?_
  rw [en9] at hO hS1
  exact W.widen (k := 380 + 3 * n0 + 3) (n := 194479 + 7491 * n0 + 7491) (by omega) (by omega) (next pn _ _ _ ep3 ep1 ⟨T, pl, h0, h1, a, f9, tl1, al1, pn1, hO, hU, hT, hlow, hS1, k_h0, k_h1, hP, hD, hS, lv_sub hl [2, 3, 4, 5, 6] rfl⟩)
set_option maxHeartbeats 4000000 in
set_option maxRecDepth 100000 in
theorem lw_hash {p : Program} {e : Env} {s : State} {m : MethodId} {below : List Frame} {meth : Method} {c : Code} (l : Launch) (htr : l.stackTraces = false) {b L : Nat} {xs : Nat → Int32} (hL : L ≤ 3072) (C0 : lw_At p s m meth c b L xs) (g : Gd) (F : CallFix p m c c_L_law 7 s #[Value.ref b] wL "LatticeKeysLaw") (hX : ex g (Alaw s) s s.heap) {n0 i : Nat} (hn0 : n0 < 512) (hi : i = 6 * n0) (hi6 : i + 6 ≤ L) {v1 v2 v3 v4 v5 : Int32} (hv1 : xs (nI (i + 1)).toNatClampNeg = v1) (hv2 : xs (nI (i + 2)).toNatClampNeg = v2) (hv3 : xs (nI (i + 3)).toNatClampNeg = v3) (hv4 : xs (nI (i + 4)).toNatClampNeg = v4) (hv5 : xs (nI (i + 5)).toNatClampNeg = v5) {σ : Sto} (hE9 : ∀ pn : Nat, pn ≤ 8 → σ.1 0 5 = nI pn → callE 10 v1 v2 v3 v4 v5 pn σ) {H : Heap} {locs : List Loc} {ls : Array Slot} (hI : LWS g s b i σ H locs ls) (next : ∀ (pn : Nat) (H : Heap) (locs : List Loc) (ls : Array Slot), pn ≤ 8 → σ.1 0 5 = nI pn → LWS g s b i (callNxt 10 v1 v2 v3 v4 v5 pn σ) H locs ls → W p l e room_1 s m #[Value.ref b] below meth c H locs (380 + 3 * n0 + 3) (194479 + 7491 * n0 + 7491) (lw_Z below #[Value.ref b] s) (F0 m 785 ls [])) : W p l e room_1 s m #[Value.ref b] below meth c H locs (380 + 3 * n0) (194479 + 7491 * n0) (lw_Z below #[Value.ref b] s) (F0 m 692 ls []) := by
  obtain ⟨hx, hb, hml, hown, hts⟩ := id F
  have hE := hX.1
  have hK := hE.1
  have hA : ∀ q, s.heap.size ≤ q → Alaw s q := fun _ h => h
  obtain ⟨-, -, hr, -, -, -, hXs, hbl, hlk, -⟩ := id C0
  have hbA : ¬ Alaw s b := fun h => Nat.not_lt.mpr h hbl
  obtain ⟨T, pl, h0, h1, a, f, tl, al, pn, hO, hU, hT, hlow, hSM, k_h0, k_h1, hP, hD, hS, hl⟩ := hI
  have hRc : room_1.cells = 601024 := rfl
  have hRs : room_1.slots = 7293034 := rfl
  have hT0 := hT
  have hO0 := hO
  obtain ⟨⟨et1, et2, et3⟩, ⟨ea1, ea2, ea3⟩, ⟨ep1, ep2, ep3⟩, -⟩ := id hSM
  replace hE9 := hE9 pn ep3 ep1
  refine lv_aload_n hx hb dL_law_692 rfl (lv_at hl 3 rfl) ?_
  refine lv_aload_n hx hb dL_law_693 rfl (lv_at hl 4 rfl) ?_
  refine lv_iload hx hb dL_law_694 (lv_at hl 0 rfl) ?_
  refine lv_iconst (v := nI 1) hx hb dL_law_696 (by decide) ?_
  refine mi_iadd hx hb dL_law_697 ?_
  refine va_sld hx hb hXs hbl hbA hS (vp_in_nI (N := L) (by omega) (by omega)) dL_law_698 ?_
  refine mi_as hv1 ?_
  refine lv_aload_n hx hb dL_law_699 rfl (lv_at hl 4 rfl) ?_
  refine lv_iload hx hb dL_law_700 (lv_at hl 0 rfl) ?_
  refine lv_iconst (v := nI 2) hx hb dL_law_702 (by decide) ?_
  refine mi_iadd hx hb dL_law_703 ?_
  refine va_sld hx hb hXs hbl hbA hS (vp_in_nI (N := L) (by omega) (by omega)) dL_law_704 ?_
  refine mi_as hv2 ?_
  refine lv_aload_n hx hb dL_law_705 rfl (lv_at hl 1 rfl) ?_
  refine mp_i (cx := [(a, .inl (g.2.1 2, 1, .inr (.inl f)))]) (wr := []) hP hD hS hA [0] [] rfl rfl rfl (by decide) (lc_run (As := [.ref h0, .int v1, .int v2, .ref a]) (rest := []) F (ln_hash l htr g _ T σ pl hO hU h0 v1 v2 a f tl al pn k_h0 et1 ea1 ep1 et3 ea3 ep3) (lc_cw 4 hts (wg_app (wg_c kw_1291 (wg_c kw_1292 (wg_c kw_0 wg_n))) kw_1293) rfl rfl rfl (by decide +kernel) ⟨by decide, by decide⟩) (pp_S (ex_ok g) hP hD hS hA hX [0] rfl rfl) rfl rfl hl.1 rfl (lv_room (Nat.le_of_ble_eq_true rfl)) dL_law_706 ⟨by omega, by omega⟩) (fun r9 u9 H locs hu9 hP hD hS => ?_)
  obtain ⟨⟨q9, f9⟩, pl⟩ := u9
  obtain ⟨⟨eq9, er9, hF9, ha9, hp9⟩, hO⟩ := hu9
  have eq9 : q9 = F_K_hash v1 v2 σ := eq9
  have er9 : r9 = q9.1 := er9
  have hF9 : frm M_K_hash σ q9.2.2 := hF9
  have hp9 : q9.2.2.1 0 5 = nI pn := hp9
  have hO : okn g T q9.2.2 pl := hO
  have ha9 : q9.1 = nI 0 → f9 0 = q9.2.1.toInt64 := ha9
  have ecc : callCls 10 v1 v2 v3 v4 v5 pn σ = q9 := by rw [cc_hash, eq9]
  have hO9 := hO
  have hP : va_P g.1 vcl ([(a, .inl (g.2.1 2, 1, .inr (.inl f9)))] ++ pl) _ := hP
  have hD : va_D _ ([(a, .inl (g.2.1 2, 1, .inr (.inl f9)))] ++ pl) := hD
  refine W.widen (k := 380 + 3 * n0 + 3) (n := 194479 + 7491 * n0 + 7491) (by omega) (by omega) ?_
  obtain ⟨em1, em2, em3, em4, em5⟩ := SAME_mod hSM (ms_K_hash hF9)
  refine lv_istore (lv' := [(5, .int r9), (4, .int (nI i)), (3, .ref a), (2, .ref h1), (1, .ref h0), (0, .ref b)]) hx hb dL_law_709 hl (by decide) rfl (fun ls hl => ?_)
  refine lv_aload_n hx hb dL_law_711 rfl (lv_at hl 3 rfl) ?_
  refine lv_aload_n hx hb dL_law_712 rfl (lv_at hl 5 rfl) ?_
  refine lv_iload hx hb dL_law_713 (lv_at hl 1 rfl) ?_
  refine lv_iconst (v := nI 1) hx hb dL_law_715 (by decide) ?_
  refine mi_iadd hx hb dL_law_716 ?_
  refine va_sld hx hb hXs hbl hbA hS (vp_in_nI (N := L) (by omega) (by omega)) dL_law_717 ?_
  refine mi_as hv1 ?_
  refine lv_aload_n hx hb dL_law_718 rfl (lv_at hl 5 rfl) ?_
  refine lv_iload hx hb dL_law_719 (lv_at hl 1 rfl) ?_
  refine lv_iconst (v := nI 2) hx hb dL_law_721 (by decide) ?_
  refine mi_iadd hx hb dL_law_722 ?_
  refine va_sld hx hb hXs hbl hbA hS (vp_in_nI (N := L) (by omega) (by omega)) dL_law_723 ?_
  refine mi_as hv2 ?_
  refine mp_i (cx := []) (wr := [(a, .inl (g.2.1 2, 1, .inr (.inl f9)))]) hP hD hS hA [] [0] rfl rfl rfl (by decide) (va_runV (As := [.int v1, .int v2]) (rest := []) F (N_M_hash l g _ T q9.2.2 pl hO hU h1 v1 v2 tl al pn k_h1 em1 em2 em3 et3 ea3 ep3) (cwV 2 hts (wg_app (wg_c kw_1934 (wg_c kw_1935 (wg_c kw_1936 (wg_c kw_9 wg_n)))) kw_1937) rfl rfl rfl (by decide +kernel) ⟨by decide, by decide⟩) (pn_W "LatticeKeysModel" (en_ok g) (ci := 8) (kn := 148) (fl := [(0, 0), (0, 0), (0, 0), (0, 0), (3, 149), (3, 150), (3, 151), (3, 152), (3, 161), (3, 170), (3, 171), (3, 172), (3, 184), (3, 225)]) hK hO k_h1 rfl hP hD hS hA hE [] rfl rfl rfl) rfl rfl hl.1 rfl (lv_room (Nat.le_of_ble_eq_true rfl)) dL_law_724 ⟨by omega, by omega⟩) (fun r8 u8 H locs hu8 hP hD hS => ?_)
  obtain ⟨q8, pl⟩ := u8
  obtain ⟨⟨eq8, er8, hF8, -⟩, hO⟩ := hu8
  have eq8 : q8 = F_M_hash v1 v2 q9.2.2 := eq8
  have er8 : r8 = q8.1 := er8
  have hF8 : frm M_M_hash q9.2.2 q8.2 := hF8
  have hO : okn g T q8.2 pl := hO
  have hP : va_P g.1 vcl ([(a, .inl (g.2.1 2, 1, .inr (.inl f9)))] ++ pl) _ := hP
  have hD : va_D _ ([(a, .inl (g.2.1 2, 1, .inr (.inl f9)))] ++ pl) := hD
  refine W.widen (k := 380 + 3 * n0 + 3) (n := 194479 + 7491 * n0 + 7491) (by omega) (by omega) ?_
  have en9 : q8.2 = callNxt 10 v1 v2 v3 v4 v5 pn σ := nx_of ecc cm_hash eq8
  have hout := sm_out (c := 10) (v1 := v1) (v2 := v2) (v3 := v3) (v4 := v4) (v5 := v5) hSM trivial
  rw [ecc, cm_hash, ← eq8, ← en9] at hout
  obtain ⟨⟨tl1, al1, pn1, hS1⟩, hth, han⟩ := hout
  have epn := pn_same hp9 ep3 (hF8 0 (by unfold M_M_hash; omega)) hS1
  rw [← epn] at hlow
  refine lv_istore (lv' := [(6, .int r8), (5, .int r9), (4, .int (nI i)), (3, .ref a), (2, .ref h1), (1, .ref h0), (0, .ref b)]) hx hb dL_law_727 hl (by decide) rfl (fun ls hl => ?_)
  refine lv_goto (tgt := 785) hx hb dL_law_729 (by decide) ?_
  rw [en9] at hO hS1
  exact W.widen (k := 380 + 3 * n0 + 3) (n := 194479 + 7491 * n0 + 7491) (by omega) (by omega) (next pn _ _ _ ep3 ep1 ⟨T, pl, h0, h1, a, f9, tl1, al1, pn1, hO, hU, hT, hlow, hS1, k_h0, k_h1, hP, hD, hS, lv_sub hl [2, 3, 4, 5, 6] rfl⟩)
set_option maxHeartbeats 4000000 in
set_option maxRecDepth 100000 in
theorem lw_result {p : Program} {e : Env} {s : State} {m : MethodId} {below : List Frame} {meth : Method} {c : Code} (l : Launch) (htr : l.stackTraces = false) {b L : Nat} {xs : Nat → Int32} (hL : L ≤ 3072) (C0 : lw_At p s m meth c b L xs) (g : Gd) (F : CallFix p m c c_L_law 7 s #[Value.ref b] wL "LatticeKeysLaw") (hX : ex g (Alaw s) s s.heap) {n0 i : Nat} (hn0 : n0 < 512) (hi : i = 6 * n0) (hi6 : i + 6 ≤ L) {v1 v2 v3 v4 v5 : Int32} (hv1 : xs (nI (i + 1)).toNatClampNeg = v1) (hv2 : xs (nI (i + 2)).toNatClampNeg = v2) (hv3 : xs (nI (i + 3)).toNatClampNeg = v3) (hv4 : xs (nI (i + 4)).toNatClampNeg = v4) (hv5 : xs (nI (i + 5)).toNatClampNeg = v5) {σ : Sto} (hE9 : ∀ pn : Nat, pn ≤ 8 → σ.1 0 5 = nI pn → callE 1 v1 v2 v3 v4 v5 pn σ) {H : Heap} {locs : List Loc} {ls : Array Slot} (hI : LWS g s b i σ H locs ls) (next : ∀ (pn : Nat) (H : Heap) (locs : List Loc) (ls : Array Slot), pn ≤ 8 → σ.1 0 5 = nI pn → LWS g s b i (callNxt 1 v1 v2 v3 v4 v5 pn σ) H locs ls → W p l e room_1 s m #[Value.ref b] below meth c H locs (380 + 3 * n0 + 3) (194479 + 7491 * n0 + 7491) (lw_Z below #[Value.ref b] s) (F0 m 785 ls [])) : W p l e room_1 s m #[Value.ref b] below meth c H locs (380 + 3 * n0) (194479 + 7491 * n0) (lw_Z below #[Value.ref b] s) (F0 m 732 ls []) := by
  obtain ⟨hx, hb, hml, hown, hts⟩ := id F
  have hE := hX.1
  have hK := hE.1
  have hA : ∀ q, s.heap.size ≤ q → Alaw s q := fun _ h => h
  obtain ⟨-, -, hr, -, -, -, hXs, hbl, hlk, -⟩ := id C0
  have hbA : ¬ Alaw s b := fun h => Nat.not_lt.mpr h hbl
  obtain ⟨T, pl, h0, h1, a, f, tl, al, pn, hO, hU, hT, hlow, hSM, k_h0, k_h1, hP, hD, hS, hl⟩ := hI
  have hRc : room_1.cells = 601024 := rfl
  have hRs : room_1.slots = 7293034 := rfl
  have hT0 := hT
  have hO0 := hO
  obtain ⟨⟨et1, et2, et3⟩, ⟨ea1, ea2, ea3⟩, ⟨ep1, ep2, ep3⟩, -⟩ := id hSM
  replace hE9 := hE9 pn ep3 ep1
  refine lv_aload_n hx hb dL_law_732 rfl (lv_at hl 3 rfl) ?_
  refine lv_aload_n hx hb dL_law_733 rfl (lv_at hl 4 rfl) ?_
  refine lv_iload hx hb dL_law_734 (lv_at hl 0 rfl) ?_
  refine lv_iconst (v := nI 1) hx hb dL_law_736 (by decide) ?_
  refine mi_iadd hx hb dL_law_737 ?_
  refine va_sld hx hb hXs hbl hbA hS (vp_in_nI (N := L) (by omega) (by omega)) dL_law_738 ?_
  refine mi_as hv1 ?_
  refine lv_aload_n hx hb dL_law_739 rfl (lv_at hl 1 rfl) ?_
  refine mp_i (cx := [(a, .inl (g.2.1 2, 1, .inr (.inl f)))]) (wr := []) hP hD hS hA [0] [] rfl rfl rfl (by decide) (lc_run (As := [.ref h0, .int v1, .ref a]) (rest := []) F (ln_result l htr g _ T σ pl hO hU h0 v1 a f tl al pn k_h0 et1 ea1 ep1 et3 ea3 ep3) (lc_cw 3 hts (wg_app (wg_c kw_1303 (wg_c kw_1304 (wg_c kw_0 wg_n))) kw_1305) rfl rfl rfl (by decide +kernel) ⟨by decide, by decide⟩) (pp_S (ex_ok g) hP hD hS hA hX [0] rfl rfl) rfl rfl hl.1 rfl (lv_room (Nat.le_of_ble_eq_true rfl)) dL_law_740 ⟨by omega, by omega⟩) (fun r9 u9 H locs hu9 hP hD hS => ?_)
  obtain ⟨⟨q9, f9⟩, pl⟩ := u9
  obtain ⟨⟨eq9, er9, hF9, ha9, hp9⟩, hO⟩ := hu9
  have eq9 : q9 = F_K_result v1 σ := eq9
  have er9 : r9 = q9.1 := er9
  have hF9 : frm M_K_result σ q9.2.2 := hF9
  have hp9 : q9.2.2.1 0 5 = nI pn := hp9
  have hO : okn g T q9.2.2 pl := hO
  have ha9 : q9.1 = nI 0 → f9 0 = q9.2.1.toInt64 := ha9
  have ecc : callCls 1 v1 v2 v3 v4 v5 pn σ = q9 := by rw [cc_result, eq9]
  have hO9 := hO
  have hP : va_P g.1 vcl ([(a, .inl (g.2.1 2, 1, .inr (.inl f9)))] ++ pl) _ := hP
  have hD : va_D _ ([(a, .inl (g.2.1 2, 1, .inr (.inl f9)))] ++ pl) := hD
  refine W.widen (k := 380 + 3 * n0 + 3) (n := 194479 + 7491 * n0 + 7491) (by omega) (by omega) ?_
  obtain ⟨em1, em2, em3, em4, em5⟩ := SAME_mod hSM (ms_K_result hF9)
  refine lv_istore (lv' := [(5, .int r9), (4, .int (nI i)), (3, .ref a), (2, .ref h1), (1, .ref h0), (0, .ref b)]) hx hb dL_law_743 hl (by decide) rfl (fun ls hl => ?_)
  refine lv_aload_n hx hb dL_law_745 rfl (lv_at hl 3 rfl) ?_
  refine lv_aload_n hx hb dL_law_746 rfl (lv_at hl 5 rfl) ?_
  refine lv_iload hx hb dL_law_747 (lv_at hl 1 rfl) ?_
  refine lv_iconst (v := nI 1) hx hb dL_law_749 (by decide) ?_
  refine mi_iadd hx hb dL_law_750 ?_
  refine va_sld hx hb hXs hbl hbA hS (vp_in_nI (N := L) (by omega) (by omega)) dL_law_751 ?_
  refine mi_as hv1 ?_
  refine mp_i (cx := []) (wr := [(a, .inl (g.2.1 2, 1, .inr (.inl f9)))]) hP hD hS hA [] [0] rfl rfl rfl (by decide) (va_runV (As := [.int v1]) (rest := []) F (N_M_result l g _ T q9.2.2 pl hO hU h1 v1 tl al pn k_h1 em1 em2 em3 et3 ea3 ep3) (cwV 1 hts (wg_app (wg_c kw_1942 (wg_c kw_1943 (wg_c kw_1944 (wg_c kw_9 wg_n)))) kw_1945) rfl rfl rfl (by decide +kernel) ⟨by decide, by decide⟩) (pn_W "LatticeKeysModel" (en_ok g) (ci := 8) (kn := 148) (fl := [(0, 0), (0, 0), (0, 0), (0, 0), (3, 149), (3, 150), (3, 151), (3, 152), (3, 161), (3, 170), (3, 171), (3, 172), (3, 184), (3, 225)]) hK hO k_h1 rfl hP hD hS hA hE [] rfl rfl rfl) rfl rfl hl.1 rfl (lv_room (Nat.le_of_ble_eq_true rfl)) dL_law_752 ⟨by omega, by omega⟩) (fun r8 u8 H locs hu8 hP hD hS => ?_)
  obtain ⟨q8, pl⟩ := u8
  obtain ⟨⟨eq8, er8, hF8, -⟩, hO⟩ := hu8
  have eq8 : q8 = F_M_result v1 q9.2.2 := eq8
  have er8 : r8 = q8.1 := er8
  have hF8 : frm M_M_result q9.2.2 q8.2 := hF8
  have hO : okn g T q8.2 pl := hO
  have hP : va_P g.1 vcl ([(a, .inl (g.2.1 2, 1, .inr (.inl f9)))] ++ pl) _ := hP
  have hD : va_D _ ([(a, .inl (g.2.1 2, 1, .inr (.inl f9)))] ++ pl) := hD
  refine W.widen (k := 380 + 3 * n0 + 3) (n := 194479 + 7491 * n0 + 7491) (by omega) (by omega) ?_
  have en9 : q8.2 = callNxt 1 v1 v2 v3 v4 v5 pn σ := nx_of ecc cm_result eq8
  have hout := sm_out (c := 1) (v1 := v1) (v2 := v2) (v3 := v3) (v4 := v4) (v5 := v5) hSM trivial
  rw [ecc, cm_result, ← eq8, ← en9] at hout
  obtain ⟨⟨tl1, al1, pn1, hS1⟩, hth, han⟩ := hout
  have epn := pn_same hp9 ep3 (hF8 0 (by unfold M_M_result; omega)) hS1
  rw [← epn] at hlow
  refine lv_istore (lv' := [(6, .int r8), (5, .int r9), (4, .int (nI i)), (3, .ref a), (2, .ref h1), (1, .ref h0), (0, .ref b)]) hx hb dL_law_755 hl (by decide) rfl (fun ls hl => ?_)
  refine lv_goto (tgt := 785) hx hb dL_law_757 (by decide) ?_
  rw [en9] at hO hS1
  exact W.widen (k := 380 + 3 * n0 + 3) (n := 194479 + 7491 * n0 + 7491) (by omega) (by omega) (next pn _ _ _ ep3 ep1 ⟨T, pl, h0, h1, a, f9, tl1, al1, pn1, hO, hU, hT, hlow, hS1, k_h0, k_h1, hP, hD, hS, lv_sub hl [2, 3, 4, 5, 6] rfl⟩)
set_option maxHeartbeats 4000000 in
set_option maxRecDepth 100000 in
theorem lw_count {p : Program} {e : Env} {s : State} {m : MethodId} {below : List Frame} {meth : Method} {c : Code} (l : Launch) (htr : l.stackTraces = false) {b L : Nat} {xs : Nat → Int32} (hL : L ≤ 3072) (C0 : lw_At p s m meth c b L xs) (g : Gd) (F : CallFix p m c c_L_law 7 s #[Value.ref b] wL "LatticeKeysLaw") (hX : ex g (Alaw s) s s.heap) {n0 i : Nat} (hn0 : n0 < 512) (hi : i = 6 * n0) (hi6 : i + 6 ≤ L) {v1 v2 v3 v4 v5 : Int32} (hv1 : xs (nI (i + 1)).toNatClampNeg = v1) (hv2 : xs (nI (i + 2)).toNatClampNeg = v2) (hv3 : xs (nI (i + 3)).toNatClampNeg = v3) (hv4 : xs (nI (i + 4)).toNatClampNeg = v4) (hv5 : xs (nI (i + 5)).toNatClampNeg = v5) {σ : Sto} (hE9 : ∀ pn : Nat, pn ≤ 8 → σ.1 0 5 = nI pn → callE 2 v1 v2 v3 v4 v5 pn σ) {H : Heap} {locs : List Loc} {ls : Array Slot} (hI : LWS g s b i σ H locs ls) (next : ∀ (pn : Nat) (H : Heap) (locs : List Loc) (ls : Array Slot), pn ≤ 8 → σ.1 0 5 = nI pn → LWS g s b i (callNxt 2 v1 v2 v3 v4 v5 pn σ) H locs ls → W p l e room_1 s m #[Value.ref b] below meth c H locs (380 + 3 * n0 + 3) (194479 + 7491 * n0 + 7491) (lw_Z below #[Value.ref b] s) (F0 m 785 ls [])) : W p l e room_1 s m #[Value.ref b] below meth c H locs (380 + 3 * n0) (194479 + 7491 * n0) (lw_Z below #[Value.ref b] s) (F0 m 760 ls []) := by
  obtain ⟨hx, hb, hml, hown, hts⟩ := id F
  have hE := hX.1
  have hK := hE.1
  have hA : ∀ q, s.heap.size ≤ q → Alaw s q := fun _ h => h
  obtain ⟨-, -, hr, -, -, -, hXs, hbl, hlk, -⟩ := id C0
  have hbA : ¬ Alaw s b := fun h => Nat.not_lt.mpr h hbl
  obtain ⟨T, pl, h0, h1, a, f, tl, al, pn, hO, hU, hT, hlow, hSM, k_h0, k_h1, hP, hD, hS, hl⟩ := hI
  have hRc : room_1.cells = 601024 := rfl
  have hRs : room_1.slots = 7293034 := rfl
  have hT0 := hT
  have hO0 := hO
  obtain ⟨⟨et1, et2, et3⟩, ⟨ea1, ea2, ea3⟩, ⟨ep1, ep2, ep3⟩, -⟩ := id hSM
  replace hE9 := hE9 pn ep3 ep1
  refine lv_aload_n hx hb dL_law_760 rfl (lv_at hl 3 rfl) ?_
  refine lv_aload_n hx hb dL_law_761 rfl (lv_at hl 4 rfl) ?_
  refine lv_iload hx hb dL_law_762 (lv_at hl 0 rfl) ?_
  refine lv_iconst (v := nI 1) hx hb dL_law_764 (by decide) ?_
  refine mi_iadd hx hb dL_law_765 ?_
  refine va_sld hx hb hXs hbl hbA hS (vp_in_nI (N := L) (by omega) (by omega)) dL_law_766 ?_
  refine mi_as hv1 ?_
  refine mp_i (cx := []) (wr := [(a, .inl (g.2.1 2, 1, .inr (.inl f)))]) hP hD hS hA [] [0] rfl rfl rfl (by decide) (va_runV (As := [.int v1]) (rest := []) F (N_K_count l g _ T σ pl hO hU h0 v1 tl al pn k_h0 et1 ea1 ep1 et3 ea3 ep3) (cwV 1 hts (wg_app (wg_c kw_408 (wg_c kw_409 (wg_c kw_410 (wg_c kw_1 wg_n)))) kw_411) rfl rfl rfl (by decide +kernel) ⟨by decide, by decide⟩) (pn_W "LatticeKeys" (en_ok g) (ci := 0) (kn := 0) (fl := [(3, 1), (0, 0), (3, 2), (0, 0), (3, 3), (0, 0), (3, 4), (3, 8), (3, 12), (3, 24), (3, 39)]) hK hO k_h0 rfl hP hD hS hA hE [] rfl rfl rfl) rfl rfl hl.1 rfl (lv_room (Nat.le_of_ble_eq_true rfl)) dL_law_767 ⟨by omega, by omega⟩) (fun r9 u9 H locs hu9 hP hD hS => ?_)
  obtain ⟨q7, pl⟩ := u9
  obtain ⟨⟨eq7, er9, hF9, -, -, ⟨x8, hx8, ey8⟩, -⟩, hO⟩ := hu9
  obtain ⟨q9, eq9⟩ : ∃ q9 : Int32 × Int32 × Sto, q9 = (nI 0, q7) := ⟨_, rfl⟩
  have hp9 : q9.2.2.1 0 5 = nI pn := by rw [eq9]; exact hx8.trans (congrArg nI ey8)
  have hF9 : frm M_K_count σ q9.2.2 := by rw [eq9]; exact hF9
  have hO : okn g T q9.2.2 pl := by rw [eq9]; exact hO
  have ecc : callCls 2 v1 v2 v3 v4 v5 pn σ = q9 := by rw [cc_count, eq9, show q7 = F_K_count v1 σ from eq7]
  have hO9 := hO
  have hP : va_P g.1 vcl ([(a, .inl (g.2.1 2, 1, .inr (.inl f)))] ++ pl) _ := hP
  have hD : va_D _ ([(a, .inl (g.2.1 2, 1, .inr (.inl f)))] ++ pl) := hD
  refine W.widen (k := 380 + 3 * n0 + 3) (n := 194479 + 7491 * n0 + 7491) (by omega) (by omega) ?_
  obtain ⟨em1, em2, em3, em4, em5⟩ := SAME_mod hSM (ms_K_count hF9)
  refine lv_pop hx hb dL_law_770 rfl ?_
  refine lv_aload_n hx hb dL_law_771 rfl (lv_at hl 2 rfl) ?_
  refine lv_aload_n hx hb dL_law_772 rfl (lv_at hl 4 rfl) ?_
  refine lv_iload hx hb dL_law_773 (lv_at hl 0 rfl) ?_
  refine lv_iconst (v := nI 1) hx hb dL_law_775 (by decide) ?_
  refine mi_iadd hx hb dL_law_776 ?_
  refine va_sld hx hb hXs hbl hbA hS (vp_in_nI (N := L) (by omega) (by omega)) dL_law_777 ?_
  refine mi_as hv1 ?_
  refine mp_i (cx := []) (wr := [(a, .inl (g.2.1 2, 1, .inr (.inl f)))]) hP hD hS hA [] [0] rfl rfl rfl (by decide) (va_runV (As := [.int v1]) (rest := []) F (N_M_count l g _ T q9.2.2 pl hO hU h1 v1 tl al pn k_h1 em1 em2 em3 et3 ea3 ep3) (cwV 1 hts (wg_app (wg_c kw_1946 (wg_c kw_1947 (wg_c kw_1948 (wg_c kw_9 wg_n)))) kw_1949) rfl rfl rfl (by decide +kernel) ⟨by decide, by decide⟩) (pn_W "LatticeKeysModel" (en_ok g) (ci := 8) (kn := 148) (fl := [(0, 0), (0, 0), (0, 0), (0, 0), (3, 149), (3, 150), (3, 151), (3, 152), (3, 161), (3, 170), (3, 171), (3, 172), (3, 184), (3, 225)]) hK hO k_h1 rfl hP hD hS hA hE [] rfl rfl rfl) rfl rfl hl.1 rfl (lv_room (Nat.le_of_ble_eq_true rfl)) dL_law_778 ⟨by omega, by omega⟩) (fun r8 u8 H locs hu8 hP hD hS => ?_)
  obtain ⟨q8, pl⟩ := u8
  obtain ⟨⟨eq8, er8, hF8, -⟩, hO⟩ := hu8
  have eq8 : q8 = F_M_count v1 q9.2.2 := eq8
  have er8 : r8 = q8.1 := er8
  have hF8 : frm M_M_count q9.2.2 q8.2 := hF8
  have hO : okn g T q8.2 pl := hO
  have hP : va_P g.1 vcl ([(a, .inl (g.2.1 2, 1, .inr (.inl f)))] ++ pl) _ := hP
  have hD : va_D _ ([(a, .inl (g.2.1 2, 1, .inr (.inl f)))] ++ pl) := hD
  refine W.widen (k := 380 + 3 * n0 + 3) (n := 194479 + 7491 * n0 + 7491) (by omega) (by omega) ?_
  have en9 : q8.2 = callNxt 2 v1 v2 v3 v4 v5 pn σ := nx_of ecc cm_count eq8
  have hout := sm_out (c := 2) (v1 := v1) (v2 := v2) (v3 := v3) (v4 := v4) (v5 := v5) hSM trivial
  rw [ecc, cm_count, ← eq8, ← en9] at hout
  obtain ⟨⟨tl1, al1, pn1, hS1⟩, hth, han⟩ := hout
  have epn := pn_same hp9 ep3 (hF8 0 (by unfold M_M_count; omega)) hS1
  rw [← epn] at hlow
  refine lv_pop hx hb dL_law_781 rfl ?_
  refine lv_goto (tgt := 785) hx hb dL_law_782 (by decide) ?_
  rw [en9] at hO hS1
  exact W.widen (k := 380 + 3 * n0 + 3) (n := 194479 + 7491 * n0 + 7491) (by omega) (by omega) (next pn _ _ _ ep3 ep1 ⟨T, pl, h0, h1, a, f, tl1, al1, pn1, hO, hU, hT, hlow, hS1, k_h0, k_h1, hP, hD, hS, lv_sub hl [0, 1, 2, 3, 4] rfl⟩)
