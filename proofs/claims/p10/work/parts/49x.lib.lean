set_option linter.all false
theorem bndP_step {α : Type} {x : α} {f : α → Prop} {z : α} (h : bnd x f) (hz : z = x) : f z := by
  subst hz
  exact h
theorem iteP_pos {c a b : Prop} [Decidable c] (hc : c) (h : if c then a else b) : a := by
  rw [if_pos hc] at h
  exact h
theorem iteP_neg {c a b : Prop} [Decidable c] (hc : ¬ c) (h : if c then a else b) : b := by
  rw [if_neg hc] at h
  exact h
