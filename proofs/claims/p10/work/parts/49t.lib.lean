set_option linter.all false
/-! a contract over a few cells, for any pool that holds them -/
def look (ws : va_W) (a : Nat) : Option va_E := match ws with
  | [] => none
  | q :: r => if q.1 = a then some q.2 else look r a
theorem look_some {a : Nat} {e : va_E} : ∀ {ws : va_W}, look ws a = some e → ∃ k : Nat, ws[k]? = some (a, e)
  | [], h => by cases h
  | q :: r, h => by
    by_cases c : q.1 = a
    · have h' : (if q.1 = a then some q.2 else look r a) = some e := h
      rw [if_pos c] at h'
      exact ⟨0, by rw [← Option.some.inj h', ← c]; rfl⟩
    · have h' : (if q.1 = a then some q.2 else look r a) = some e := h
      rw [if_neg c] at h'
      obtain ⟨k, hk⟩ := look_some h'
      exact ⟨k + 1, by simpa using hk⟩
theorem look_none {a : Nat} : ∀ {ws : va_W}, look ws a = none → ∀ (k : Nat) (e : va_E), ws[k]? ≠ some (a, e)
  | [], _, k, e => by simp
  | q :: r, h, k, e => by
    by_cases c : q.1 = a
    · have h' : (if q.1 = a then some q.2 else look r a) = none := h
      rw [if_pos c] at h'
      cases h'
    · have h' : (if q.1 = a then some q.2 else look r a) = none := h
      rw [if_neg c] at h'
      match k with
      | 0 => intro e1; exact c (congrArg Prod.fst (Option.some.inj e1))
      | k + 1 => intro e1; exact look_none h' k e (by simpa using e1)
theorem small_pool {l : Launch} {y : MethodName} {wy : List Cond} {rm : Room} {g : Gd} {av : List Value} {sz : Nat} {pl cx : va_W} {S : Type} {post : S × va_W → Prop} {w1 : S → va_W} {mc ms : Nat}
    (hM : Met l y wy rm (va_Pc av (pr (en g) g.1 vcl sz (cx ++ []))) (va_Qv post (po g.1 vcl (va_A (cx ++ []) sz) (fun (u : S × va_W) => w1 u.1 ++ u.2)) (va_A (cx ++ []) sz)) mc ms (va_A (cx ++ []) sz))
    (hin : ∀ (k : Nat) (c : Nat × va_E), cx[k]? = some c → ∃ (i : Nat) (e : va_E), pl[i]? = some (c.1, e)) (hcx : ∀ H, va_P g.1 vcl pl H → va_P g.1 vcl cx H) (hcd : va_D (fun _ => True) cx)
    (hw : ∀ (u : S) (a : Nat), look (w1 u) a = none → look cx a = none) :
    Met l y wy rm (va_Pc av (pr (en g) g.1 vcl sz ([] ++ pl))) (va_Qv (fun (u : S × va_W) => u.2 = pl.map (fun q => (q.1, (look (w1 u.1) q.1).getD q.2))) (po g.1 vcl (va_A ([] ++ pl) sz) (fun (u : S × va_W) => [] ++ u.2)) (va_A ([] ++ pl) sz)) mc ms (va_A ([] ++ pl) sz) := by
  rw [List.append_nil] at hM
  have hsub : ∀ b, va_A cx sz b → va_A ([] ++ pl) sz b := by
    intro b hb
    rcases hb with ⟨k, e, hk⟩ | hb
    · obtain ⟨i, e1, hi⟩ := hin k _ hk
      exact Or.inl ⟨i, e1, hi⟩
    · exact Or.inr hb
  refine met_conseq (fun a st hp => ?_)
  obtain ⟨ha, hsz, hP, hD, hE⟩ := hp
  have hP : va_P g.1 vcl pl st.heap := hP
  have hD : va_D (fun _ => True) pl := hD
  refine ⟨_, _, _, hM, ⟨ha, hsz, hcx _ hP, hcd, (en_ok g).2.2 _ _ _ _ hE hsub⟩, ?_, hsub⟩
  intro o t hq
  obtain ⟨⟨u, ho, -, hPt, -⟩, hFt⟩ := hq
  have hPt : va_P g.1 vcl (w1 u.1 ++ u.2) t.heap := hPt
  refine ⟨⟨(u.1, pl.map (fun q => (q.1, (look (w1 u.1) q.1).getD q.2))), ho, rfl, ?_, ?_⟩, hFt.1, fun b hb hA => hFt.2 b hb (fun c => hA (hsub b c))⟩
  · show va_P g.1 vcl ([] ++ pl.map (fun q => (q.1, (look (w1 u.1) q.1).getD q.2))) t.heap
    refine pool_map (look (w1 u.1)) hP (fun i b e e' hi hn => ?_) (fun i b e hi hn => ?_)
    · obtain ⟨k, hk⟩ := look_some hn
      exact hPt k _ (by rw [List.getElem?_append_left (List.getElem?_eq_some_iff.mp hk).1]; exact hk)
    · have hlt : b < st.heap.size := (hP i _ hi).lt
      refine hFt.2 b hlt (fun hA => ?_)
      rcases hA with ⟨k, e2, hk⟩ | hA
      · exact look_none (hw u.1 b hn) k e2 hk
      · rw [hsz] at hlt; omega
  · show va_D (va_A ([] ++ pl) sz) ([] ++ pl.map (fun q => (q.1, (look (w1 u.1) q.1).getD q.2)))
    exact poolD_map _ ⟨hD.1, fun i c hi => Or.inl ⟨i, c.2, hi⟩⟩
/-- the same contract with a weaker end -/
theorem met_post {l : Launch} {y : MethodName} {wy : List Cond} {rm : Room} {P : Array Value → State → Prop} {Q0 Qc : Array Value → State → Outcome → State → Prop} {mc ms : Nat} {free : Addr → Prop} (hM : Met l y wy rm P Q0 mc ms free) (h : ∀ a s o t, Q0 a s o t → Qc a s o t) : Met l y wy rm P Qc mc ms free :=
  met_conseq (fun a s hp => ⟨_, _, _, hM, hp, fun o t hq => h a s o t hq, fun _ hq => hq⟩)
def M_MS_mix (k : Nat) : Prop := (0 : Nat) = 1
def F_MS_mix (s : Sto) : Sto := sPm s 173
set_option maxHeartbeats 1000000 in
theorem N_MS_mix (l : Launch) (g : Gd) (sz : Nat) (T : TyN) (s : Sto) (pl : va_W) (hO : okn g T s pl) (hU : inj T) (h0 : Nat) (k_h0 : T h0 = some 172) :
    Met l y_MS_mix w_MS_mix ({ frames := 1, cells := 0, slots := 0, locals := 22 } : Room) (va_Pc [.ref h0] (pr (en g) g.1 vcl sz ([] ++ pl))) (va_Qv (fun (u : Sto × va_W) => (u.1 = F_MS_mix s ∧ frm (M_MS_mix) s u.1 ∧ True) ∧ okn g T u.1 u.2) (po g.1 vcl (va_A ([] ++ pl) sz) (fun (u : Sto × va_W) => [] ++ u.2)) (va_A ([] ++ pl) sz)) 0 0 (va_A ([] ++ pl) sz) := by
  obtain ⟨i0, fs, h1, hn, hf⟩ := nw_obj hO k_h0 (fl := [(3, 173), (3, 174), (3, 175), (3, 176), (3, 177), (0, 0), (0, 0), (0, 0)]) (ci := 9) rfl
  obtain ⟨sa, ta, ca, ra, ua, ks, kt, kc, kr, ku, hfs⟩ : ∃ sa ta ca ra ua, T sa = some 173 ∧ T ta = some 174 ∧ T ca = some 175 ∧ T ra = some 176 ∧ T ua = some 177 ∧ fs = [.ref sa, .ref ta, .ref ca, .ref ra, .ref ua, .int (s.1 172 5), .int (s.1 172 6), .int (s.1 172 7)] := by
    obtain ⟨v0, a0, sa, rfl, ks⟩ := hf 0 (3, 173) rfl
    obtain ⟨v1, a1, ta, rfl, kt⟩ := hf 1 (3, 174) rfl
    obtain ⟨v2, a2, ca, rfl, kc⟩ := hf 2 (3, 175) rfl
    obtain ⟨v3, a3, ra, rfl, kr⟩ := hf 3 (3, 176) rfl
    obtain ⟨v4, a4, ua, rfl, ku⟩ := hf 4 (3, 177) rfl
    obtain ⟨v5, a5, b5⟩ := hf 5 (0, 0) rfl
    obtain ⟨v6, a6, b6⟩ := hf 6 (0, 0) rfl
    obtain ⟨v7, a7, b7⟩ := hf 7 (0, 0) rfl
    have b5 : v5 = .int (s.1 172 5) := b5
    have b6 : v6 = .int (s.1 172 6) := b6
    have b7 : v7 = .int (s.1 172 7) := b7
    subst b5; subst b6; subst b7
    refine ⟨sa, ta, ca, ra, ua, ks, kt, kc, kr, ku, ?_⟩
    match fs, hn, a0, a1, a2, a3, a4, a5, a6, a7 with
    | [x0, x1, x2, x3, x4, x5, x6, x7], _, a0, a1, a2, a3, a4, a5, a6, a7 =>
      rw [show x0 = _ from Option.some.inj a0, show x1 = _ from Option.some.inj a1, show x2 = _ from Option.some.inj a2, show x3 = _ from Option.some.inj a3, show x4 = _ from Option.some.inj a4, show x5 = _ from Option.some.inj a5, show x6 = _ from Option.some.inj a6, show x7 = _ from Option.some.inj a7]
  subst hfs
  obtain ⟨js, es, p1, p1'⟩ := hO sa _ ks
  obtain ⟨f1, rfl, hf1⟩ := nfit_of (q := (2, 25, [])) p1' rfl
  obtain ⟨jt, et, p2, p2'⟩ := hO ta _ kt
  obtain ⟨f2, rfl⟩ := nfit_of (q := (10, 25, [])) p2' rfl
  obtain ⟨jc, ec, p3, p3'⟩ := hO ca _ kc
  obtain ⟨f3, rfl⟩ := nfit_of (q := (10, 5, [])) p3' rfl
  obtain ⟨jr, er, p4, p4'⟩ := hO ra _ kr
  obtain ⟨f4, rfl, hf4⟩ := nfit_of (q := (12, 24, [(0, 0)])) p4' rfl
  obtain ⟨ju, eu, p5, p5'⟩ := hO ua _ ku
  obtain ⟨f5, rfl, hf5⟩ := nfit_of (q := (11, 25, [(0, 0)])) p5' rfl
  have hM := x_MS_mix l g sz (fun _ => none) [] [] (fun _ _ h => nomatch h) (fun _ _ _ _ h => nomatch h) h0 sa ta ca ra ua (s.1 172 5) (s.1 172 6) (s.1 172 7) f1 f2 f3
  have n1 : ∀ a b k k' : Nat, T a = some k → T b = some k' → k ≠ k' → a ≠ b := fun a b k k' h h' hk => name_ne h h' hk
  have hM2 := small_pool (pl := pl) (cx := [(h0, .inr (9, [.ref sa, .ref ta, .ref ca, .ref ra, .ref ua, .int (s.1 172 5), .int (s.1 172 6), .int (s.1 172 7)])), (sa, .inl (g.2.1 2, 25, .inr (.inl f1))), (ta, .inl (g.2.1 2, 25, .inr (.inl f2))), (ca, .inl (g.2.1 2, 5, .inr (.inl f3))), (ra, .inl (g.2.1 2, 24, .inr (.inl RCS))), (ua, .inl (g.2.1 0, 25, .inl TUR))]) (S := (Nat → Int64) × (Nat → Int64)) (w1 := fun u => [(h0, .inr (9, [.ref sa, .ref ta, .ref ca, .ref ra, .ref ua, .int (s.1 172 5), .int (s.1 172 6), .int (s.1 172 7)])), (sa, .inl (g.2.1 2, 25, .inr (.inl (prm f1)))), (ta, .inl (g.2.1 2, 25, .inr (.inl u.1))), (ca, .inl (g.2.1 2, 5, .inr (.inl u.2))), (ra, .inl (g.2.1 2, 24, .inr (.inl RCS))), (ua, .inl (g.2.1 0, 25, .inl TUR))]) hM (fun k c hk => by
      match k, hk with
      | 0, hk => cases Option.some.inj hk; exact ⟨i0, _, h1⟩
      | 1, hk => cases Option.some.inj hk; exact ⟨js, _, p1⟩
      | 2, hk => cases Option.some.inj hk; exact ⟨jt, _, p2⟩
      | 3, hk => cases Option.some.inj hk; exact ⟨jc, _, p3⟩
      | 4, hk => cases Option.some.inj hk; exact ⟨jr, _, p4⟩
      | 5, hk => cases Option.some.inj hk; exact ⟨ju, _, p5⟩
      | n + 6, hk => simp at hk) (fun H hP k c hk => by
      match k, hk with
      | 0, hk => cases Option.some.inj hk; exact hP i0 _ h1
      | 1, hk => cases Option.some.inj hk; exact hP js _ p1
      | 2, hk => cases Option.some.inj hk; exact hP jt _ p2
      | 3, hk => cases Option.some.inj hk; exact hP jc _ p3
      | 4, hk =>
        cases Option.some.inj hk
        have h9 : H[ra]? = some (vp_cell (g.2.1 2) (24, .inr (.inl f4))) := hP jr _ p4
        show H[ra]? = some (vp_cell (g.2.1 2) (24, .inr (.inl RCS)))
        rw [← vpc_l (n := 24) (f := f4) (g := RCS) (fun j hj => hf4 j hj)]
        exact h9
      | 5, hk =>
        cases Option.some.inj hk
        have h9 : H[ua]? = some (vp_cell (g.2.1 0) (25, .inl f5)) := hP ju _ p5
        show H[ua]? = some (vp_cell (g.2.1 0) (25, .inl TUR))
        rw [← vpc_i (n := 25) (f := f5) (g := TUR) (fun j hj => hf5 j hj)]
        exact h9
      | n + 6, hk => simp at hk) ⟨fun i j x y hi hj hxy => by
      have hd : ∀ a b : Nat, a < 6 → b < 6 → ([h0, sa, ta, ca, ra, ua].getD a 0) = ([h0, sa, ta, ca, ra, ua].getD b 0) → a = b := by
        have q01 := n1 _ _ _ _ k_h0 ks (by decide)
        have q02 := n1 _ _ _ _ k_h0 kt (by decide)
        have q03 := n1 _ _ _ _ k_h0 kc (by decide)
        have q04 := n1 _ _ _ _ k_h0 kr (by decide)
        have q05 := n1 _ _ _ _ k_h0 ku (by decide)
        have q12 := n1 _ _ _ _ ks kt (by decide)
        have q13 := n1 _ _ _ _ ks kc (by decide)
        have q14 := n1 _ _ _ _ ks kr (by decide)
        have q15 := n1 _ _ _ _ ks ku (by decide)
        have q23 := n1 _ _ _ _ kt kc (by decide)
        have q24 := n1 _ _ _ _ kt kr (by decide)
        have q25 := n1 _ _ _ _ kt ku (by decide)
        have q34 := n1 _ _ _ _ kc kr (by decide)
        have q35 := n1 _ _ _ _ kc ku (by decide)
        have q45 := n1 _ _ _ _ kr ku (by decide)
        intro a b ha hb
        match a, b, ha, hb with
        | 0, 0, _, _ | 1, 1, _, _ | 2, 2, _, _ | 3, 3, _, _ | 4, 4, _, _ | 5, 5, _, _ => exact fun _ => rfl
        | 0, 1, _, _ => exact fun h => absurd h q01
        | 0, 2, _, _ => exact fun h => absurd h q02
        | 0, 3, _, _ => exact fun h => absurd h q03
        | 0, 4, _, _ => exact fun h => absurd h q04
        | 0, 5, _, _ => exact fun h => absurd h q05
        | 1, 2, _, _ => exact fun h => absurd h q12
        | 1, 3, _, _ => exact fun h => absurd h q13
        | 1, 4, _, _ => exact fun h => absurd h q14
        | 1, 5, _, _ => exact fun h => absurd h q15
        | 2, 3, _, _ => exact fun h => absurd h q23
        | 2, 4, _, _ => exact fun h => absurd h q24
        | 2, 5, _, _ => exact fun h => absurd h q25
        | 3, 4, _, _ => exact fun h => absurd h q34
        | 3, 5, _, _ => exact fun h => absurd h q35
        | 4, 5, _, _ => exact fun h => absurd h q45
        | 1, 0, _, _ => exact fun h => absurd h.symm q01
        | 2, 0, _, _ => exact fun h => absurd h.symm q02
        | 3, 0, _, _ => exact fun h => absurd h.symm q03
        | 4, 0, _, _ => exact fun h => absurd h.symm q04
        | 5, 0, _, _ => exact fun h => absurd h.symm q05
        | 2, 1, _, _ => exact fun h => absurd h.symm q12
        | 3, 1, _, _ => exact fun h => absurd h.symm q13
        | 4, 1, _, _ => exact fun h => absurd h.symm q14
        | 5, 1, _, _ => exact fun h => absurd h.symm q15
        | 3, 2, _, _ => exact fun h => absurd h.symm q23
        | 4, 2, _, _ => exact fun h => absurd h.symm q24
        | 5, 2, _, _ => exact fun h => absurd h.symm q25
        | 4, 3, _, _ => exact fun h => absurd h.symm q34
        | 5, 3, _, _ => exact fun h => absurd h.symm q35
        | 5, 4, _, _ => exact fun h => absurd h.symm q45
        | n + 6, _, h, _ => omega
        | _, n + 6, _, h => omega
      have li : i < 6 := (List.getElem?_eq_some_iff.mp hi).1
      have lj : j < 6 := (List.getElem?_eq_some_iff.mp hj).1
      have ai : x.1 = [h0, sa, ta, ca, ra, ua].getD i 0 := by
        match i, li, hi with
        | 0, _, hi | 1, _, hi | 2, _, hi | 3, _, hi | 4, _, hi | 5, _, hi => cases Option.some.inj hi; rfl
        | n + 6, h, _ => omega
      have aj : y.1 = [h0, sa, ta, ca, ra, ua].getD j 0 := by
        match j, lj, hj with
        | 0, _, hj | 1, _, hj | 2, _, hj | 3, _, hj | 4, _, hj | 5, _, hj => cases Option.some.inj hj; rfl
        | n + 6, h, _ => omega
      exact hd i j li lj (by rw [← ai, ← aj]; exact hxy), fun _ _ _ => trivial⟩ (fun u a hn => by
      have h' : (if h0 = a then some _ else if sa = a then some _ else if ta = a then some _ else if ca = a then some _ else if ra = a then some _ else if ua = a then some _ else (none : Option va_E)) = none := hn
      show (if h0 = a then some _ else if sa = a then some _ else if ta = a then some _ else if ca = a then some _ else if ra = a then some _ else if ua = a then some _ else (none : Option va_E)) = none
      by_cases c0 : h0 = a
      · rw [if_pos c0] at h'; cases h'
      rw [if_neg c0] at h' ⊢
      by_cases c1 : sa = a
      · rw [if_pos c1] at h'; cases h'
      rw [if_neg c1] at h' ⊢
      by_cases c2 : ta = a
      · rw [if_pos c2] at h'; cases h'
      rw [if_neg c2] at h' ⊢
      by_cases c3 : ca = a
      · rw [if_pos c3] at h'; cases h'
      rw [if_neg c3] at h' ⊢
      by_cases c4 : ra = a
      · rw [if_pos c4] at h'; cases h'
      rw [if_neg c4] at h' ⊢
      by_cases c5 : ua = a
      · rw [if_pos c5] at h'; cases h'
      rw [if_neg c5])
  refine met_post hM2 (fun a st o t hq => ?_)
  obtain ⟨⟨u, ho, hu, hB⟩, hFt⟩ := hq
  refine ⟨⟨(F_MS_mix s, u.2), ho, ⟨⟨rfl, frm_sPm, trivial⟩, ?_⟩, hB⟩, hFt⟩
  show okn g T (F_MS_mix s) u.2
  rw [show u.2 = _ from hu]
  refine poolO_map _ hO (fun a k e' hk hn => ?_) (fun a k hk hn => ⟨rfl, ?_⟩)
  · have h' : (if h0 = a then some _ else if sa = a then some _ else if ta = a then some _ else if ca = a then some _ else if ra = a then some _ else if ua = a then some _ else (none : Option va_E)) = some e' := hn
    by_cases c0 : h0 = a
    · rw [if_pos c0] at h'
      subst c0
      obtain rfl := Option.some.inj (hk.symm.trans k_h0)
      rw [← Option.some.inj h']
      refine nfit_mk (q := (5, 9, [(3, 173), (3, 174), (3, 175), (3, 176), (3, 177), (0, 0), (0, 0), (0, 0)])) rfl ⟨_, rfl, rfl, fun j c hj => ?_⟩
      match j, hj with
      | 0, hj => cases Option.some.inj hj; exact ⟨_, rfl, sa, rfl, ks⟩
      | 1, hj => cases Option.some.inj hj; exact ⟨_, rfl, ta, rfl, kt⟩
      | 2, hj => cases Option.some.inj hj; exact ⟨_, rfl, ca, rfl, kc⟩
      | 3, hj => cases Option.some.inj hj; exact ⟨_, rfl, ra, rfl, kr⟩
      | 4, hj => cases Option.some.inj hj; exact ⟨_, rfl, ua, rfl, ku⟩
      | 5, hj => cases Option.some.inj hj; exact ⟨_, rfl, rfl⟩
      | 6, hj => cases Option.some.inj hj; exact ⟨_, rfl, rfl⟩
      | 7, hj => cases Option.some.inj hj; exact ⟨_, rfl, rfl⟩
      | n + 8, hj => simp at hj
    rw [if_neg c0] at h'
    by_cases c1 : sa = a
    · rw [if_pos c1] at h'
      subst c1
      obtain rfl := Option.some.inj (hk.symm.trans ks)
      rw [← Option.some.inj h']
      refine nfit_mk (q := (2, 25, [])) rfl ⟨_, rfl, fun j hj => ?_⟩
      show prm f1 j = uL s.2 173 (prm (s.2 173)) 173 j
      rw [uL_eq]
      exact prm_c (fun i hi => hf1 i hi) j hj
    rw [if_neg c1] at h'
    by_cases c2 : ta = a
    · rw [if_pos c2] at h'
      subst c2
      obtain rfl := Option.some.inj (hk.symm.trans kt)
      rw [← Option.some.inj h']
      exact nfit_mk (q := (10, 25, [])) rfl ⟨_, rfl⟩
    rw [if_neg c2] at h'
    by_cases c3 : ca = a
    · rw [if_pos c3] at h'
      subst c3
      obtain rfl := Option.some.inj (hk.symm.trans kc)
      rw [← Option.some.inj h']
      exact nfit_mk (q := (10, 5, [])) rfl ⟨_, rfl⟩
    rw [if_neg c3] at h'
    by_cases c4 : ra = a
    · rw [if_pos c4] at h'
      subst c4
      obtain rfl := Option.some.inj (hk.symm.trans kr)
      rw [← Option.some.inj h']
      exact nfit_mk (q := (12, 24, [(0, 0)])) rfl ⟨_, rfl, fun _ _ => rfl⟩
    rw [if_neg c4] at h'
    by_cases c5 : ua = a
    · rw [if_pos c5] at h'
      subst c5
      obtain rfl := Option.some.inj (hk.symm.trans ku)
      rw [← Option.some.inj h']
      exact nfit_mk (q := (11, 25, [(0, 0)])) rfl ⟨_, rfl, fun _ _ => rfl⟩
    rw [if_neg c5] at h'
    cases h'
  · refine uL_ne (fun e => ?_)
    subst e
    have hsa : a = sa := hU a sa _ hk ks
    subst hsa
    have h' : (if h0 = a then some _ else if a = a then some _ else if ta = a then some _ else if ca = a then some _ else if ra = a then some _ else if ua = a then some _ else (none : Option va_E)) = none := hn
    by_cases c0 : h0 = a
    · rw [if_pos c0] at h'; cases h'
    rw [if_neg c0, if_pos rfl] at h'
    cases h'
theorem ct3_lt : ∀ i, i < 128 → ct3.getD i 0 < 256 := by decide +kernel
theorem ct4_lt : ∀ i, i < 256 → ct4.getD i 0 < 512 := by decide +kernel
