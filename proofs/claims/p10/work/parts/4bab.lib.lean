set_option linter.all false
/-- what stands in the reference's rows sets and hiddenSizes, of the first n pairs -/
def SETS (n : Nat) (A : Nat → Int32) : Prop := ∀ k, k < n → ∃ c : Nat, A k = nI c ∧ c ≤ 5
def HIDS (n : Nat) (A : Nat → Int32) : Prop := ∀ k, k < n → ∃ c : Nat, A k = nI c ∧ c ≤ 4896
theorem set5 {n k : Nat} {A : Nat → Int32} (h : SETS n A) (hk : k < n) (h0 : ¬ A k = nI 0) (h1 : ¬ A k = nI 1) (h2 : ¬ A k = nI 2) (h3 : ¬ A k = nI 3) (h4 : ¬ A k = nI 4) : A k = nI 5 := by
  obtain ⟨c, hc, h⟩ := h k hk
  have h9 : c = 0 ∨ c = 1 ∨ c = 2 ∨ c = 3 ∨ c = 4 ∨ c = 5 := by omega
  rcases h9 with rfl | rfl | rfl | rfl | rfl | rfl
  · exact absurd hc h0
  · exact absurd hc h1
  · exact absurd hc h2
  · exact absurd hc h3
  · exact absurd hc h4
  · exact hc
theorem rows_okb (b n m : Nat) (h : (List.range n).all (fun i => decide (nsp (b + i) = (1, m, []))) = true) (i : Nat) (hi : i < n) : nsp (b + i) = (1, m, []) :=
  of_decide_eq_true (List.all_eq_true.mp h i (List.mem_range.mpr hi))
section RowsB
variable {p : Program} {l : Launch} {e : Env} {R : Room} {s : State} {m : MethodId} {args : Array Value} {below : List Frame} {meth : Method} {c : Code} {H : Heap} {locs : List Loc} {cells slots : Nat} {Q : State → Prop}
variable {cc : ByteArray} {pc : Nat} {ls : Array Slot} {rest st0 : List Value} {g : Gd} {A : Nat → Prop} {a a0 : Nat} {X pl : va_W} {H0 : Heap} {T : TyN} {σ : Sto}
theorem nw_aald4 (hexec : p.tables.exec = Jvm.exec) (hb : c.code = cc) (hK : va_K g.1 vcl (tyA g.2.1) s) (hO : okn g T σ pl) {k n b : Nat} (ka : T a = some k) (hk : nsp k = (4, n, [(0, b)])) (hP : va_P g.1 vcl (X ++ pl) H) {i : Nat} (hi : i < n) (hn : n < 2 ^ 31) (hdg : decode cc pc = .ok (.aaload, 1))
    (kk : ∀ r : Nat, T r = some (b + i) → W p l e R s m args below meth c H locs cells slots Q (F0 m (pc + 1) ls (.ref r :: rest))) : W p l e R s m args below meth c H locs cells slots Q (F0 m pc ls (.int (nI i) :: .ref a :: rest)) := by
  obtain ⟨i0, e0, h1, h2⟩ := hO a k ka
  obtain ⟨f, rfl, hf⟩ := nfit_of h2 hk
  obtain ⟨r, er, hr⟩ := hf i hi
  have hc : (nI i).toNatClampNeg = i := nI_clamp (by omega)
  exact W.aald (v := .ref r) (ty := .array .byte) hexec hb (hP _ _ (pl_at h1)) ((hK.2 7 _ rfl).1 n (fun j => va_rf (f j))) rfl (fun q => by cases q) (by show ¬ (nI i < 0 ∨ (arrV _ _ _).slots.size ≤ _); rw [arrV_size]; exact vp_in_nI hi hn) (by show (arrV _ _ _).slots[_]? = _; rw [hc, arrV_read _ _ hi, er]; rfl) rfl rfl hdg (kk r hr)
end RowsB
