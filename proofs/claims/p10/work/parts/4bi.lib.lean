set_option linter.all false
theorem sets_push {n i c k : Nat} {s s2 : Sto} (h : SETS n (s.1 k)) (e : s2 = sI s k i (nI c)) (hi : i = n) (hc : c ≤ 5) : SETS (n + 1) (s2.1 k) := by
  subst hi
  intro j hj
  by_cases q : j = i
  · subst q
    exact ⟨c, fc_eq e, hc⟩
  · obtain ⟨x, hx, hb⟩ := h j (by omega)
    exact ⟨x, fc_ne hx e (Or.inr q), hb⟩
theorem hids_push {n i c k : Nat} {s s2 : Sto} (h : HIDS n (s.1 k)) (e : s2 = sI s k i (nI c)) (hi : i = n) (hc : c ≤ 4896) : HIDS (n + 1) (s2.1 k) := by
  subst hi
  intro j hj
  by_cases q : j = i
  · subst q
    exact ⟨c, fc_eq e, hc⟩
  · obtain ⟨x, hx, hb⟩ := h j (by omega)
    exact ⟨x, fc_ne hx e (Or.inr q), hb⟩
