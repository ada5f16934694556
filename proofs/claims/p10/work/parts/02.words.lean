set_option linter.all false
/-! one list of words for every method: the tables' good ones -/
def WG : List Cond := lw_tbl.filter goodWord
theorem wgm (i : Nat) {w : Cond} (h : tables_1[i]? = some w) (hg : goodWord w = true) : w ∈ WG := List.mem_filter.mpr ⟨List.mem_append_right _ (List.mem_of_getElem? h), hg⟩
theorem wgr_1 (i : Nat) {w : Cond} (h : tables_1_1[i]? = some w) (hg : goodWord w = true) : w ∈ WG := List.mem_filter.mpr ⟨List.mem_append_right _ (List.mem_append_left _ (List.mem_of_getElem? h)), hg⟩
theorem wgr_2 (i : Nat) {w : Cond} (h : tables_1_2[i]? = some w) (hg : goodWord w = true) : w ∈ WG := List.mem_filter.mpr ⟨List.mem_append_right _ (List.mem_append_right _ (List.mem_append_left _ (List.mem_of_getElem? h))), hg⟩
theorem wgr_3 (i : Nat) {w : Cond} (h : tables_1_3[i]? = some w) (hg : goodWord w = true) : w ∈ WG := List.mem_filter.mpr ⟨List.mem_append_right _ (List.mem_append_right _ (List.mem_append_right _ (List.mem_append_left _ (List.mem_of_getElem? h)))), hg⟩
theorem wgr_4 (i : Nat) {w : Cond} (h : tables_1_4[i]? = some w) (hg : goodWord w = true) : w ∈ WG := List.mem_filter.mpr ⟨List.mem_append_right _ (List.mem_append_right _ (List.mem_append_right _ (List.mem_append_right _ (List.mem_append_left _ (List.mem_of_getElem? h))))), hg⟩
theorem wgr_5 (i : Nat) {w : Cond} (h : tables_1_5[i]? = some w) (hg : goodWord w = true) : w ∈ WG := List.mem_filter.mpr ⟨List.mem_append_right _ (List.mem_append_right _ (List.mem_append_right _ (List.mem_append_right _ (List.mem_append_right _ (List.mem_append_left _ (List.mem_of_getElem? h)))))), hg⟩
theorem wgr_6 (i : Nat) {w : Cond} (h : tables_1_6[i]? = some w) (hg : goodWord w = true) : w ∈ WG := List.mem_filter.mpr ⟨List.mem_append_right _ (List.mem_append_right _ (List.mem_append_right _ (List.mem_append_right _ (List.mem_append_right _ (List.mem_append_right _ (List.mem_append_left _ (List.mem_of_getElem? h))))))), hg⟩
theorem wgr_7 (i : Nat) {w : Cond} (h : tables_1_7[i]? = some w) (hg : goodWord w = true) : w ∈ WG := List.mem_filter.mpr ⟨List.mem_append_right _ (List.mem_append_right _ (List.mem_append_right _ (List.mem_append_right _ (List.mem_append_right _ (List.mem_append_right _ (List.mem_append_right _ (List.mem_append_left _ (List.mem_of_getElem? h)))))))), hg⟩
theorem wgr_8 (i : Nat) {w : Cond} (h : tables_1_8[i]? = some w) (hg : goodWord w = true) : w ∈ WG := List.mem_filter.mpr ⟨List.mem_append_right _ (List.mem_append_right _ (List.mem_append_right _ (List.mem_append_right _ (List.mem_append_right _ (List.mem_append_right _ (List.mem_append_right _ (List.mem_append_right _ (List.mem_append_left _ (List.mem_of_getElem? h))))))))), hg⟩
theorem wgr_9 (i : Nat) {w : Cond} (h : tables_1_9[i]? = some w) (hg : goodWord w = true) : w ∈ WG := List.mem_filter.mpr ⟨List.mem_append_right _ (List.mem_append_right _ (List.mem_append_right _ (List.mem_append_right _ (List.mem_append_right _ (List.mem_append_right _ (List.mem_append_right _ (List.mem_append_right _ (List.mem_append_right _ (List.mem_of_getElem? h))))))))), hg⟩
theorem wgs (i : Nat) {w : Cond} (h : (k2_sels lw_privs)[i]? = some w) (hg : goodWord w = true) : w ∈ WG := List.mem_filter.mpr ⟨List.mem_append_left _ (List.mem_of_getElem? h), hg⟩
theorem wg_in {cx cy : Cond} (h : cy ∈ WG) : GoodIn (cx :: WG) (cy :: WG) := fun w hw => (List.mem_cons.mp hw).elim (fun e => by rw [e]; exact ⟨List.mem_cons_of_mem _ h, good_of_word (List.mem_filter.mp h).2⟩) (fun hw => ⟨List.mem_cons_of_mem _ hw, good_of_word (List.mem_filter.mp hw).2⟩)
theorem wg_app {cx cy : Cond} {k : List Cond} (hk : ∀ w ∈ k, w ∈ WG) (h : cy ∈ WG) : GoodIn (cx :: WG) (k ++ (cy :: WG)) := fun w hw => (List.mem_append.mp hw).elim (fun hw => ⟨List.mem_cons_of_mem _ (hk w hw), good_of_word (List.mem_filter.mp (hk w hw)).2⟩) (fun hw => wg_in h w hw)
theorem wg_c {w : Cond} {k : List Cond} (h : w ∈ WG) (t : ∀ x ∈ k, x ∈ WG) : ∀ x ∈ w :: k, x ∈ WG := fun x hx => (List.mem_cons.mp hx).elim (fun e => by rw [e]; exact h) (t x)
theorem wg_n : ∀ x ∈ ([] : List Cond), x ∈ WG := fun _ h => nomatch h
theorem wg_t {cx w : Cond} (h : w ∈ WG) : w ∈ cx :: WG := List.mem_cons_of_mem _ h
theorem wg_f {C : String} {T : u_T} {N : Nat} (h : ∀ k, k < N → u_lay C T k ∈ WG) : ∀ w ∈ u_ws C T N, w ∈ WG := fun w hw => by
  obtain ⟨k, hk, e⟩ := List.mem_map.mp hw
  rw [← e]
  exact h k (List.mem_range.mp hk)
theorem wg_ft {cx : Cond} {C : String} {T : u_T} {N : Nat} (h : ∀ w ∈ u_ws C T N, w ∈ WG) : ∀ w ∈ u_ws C T N, w ∈ cx :: WG := fun w hw => List.mem_cons_of_mem _ (h w hw)
set_option maxRecDepth 100000 in
theorem kw_0 : (Jvm.Cond.initialized "LatticeKeysLaw") ∈ WG := wgr_1 0 (by rfl) (by rfl)
set_option maxRecDepth 100000 in
theorem kw_1 : (Jvm.Cond.initialized "LatticeKeys") ∈ WG := wgr_1 1 (by rfl) (by rfl)
set_option maxRecDepth 100000 in
theorem kw_2 : (Jvm.Cond.initialized "LatticeKeys$Sponge") ∈ WG := wgr_1 2 (by rfl) (by rfl)
set_option maxRecDepth 100000 in
theorem kw_3 : (Jvm.Cond.initialized "LatticeKeys$Kem") ∈ WG := wgr_1 3 (by rfl) (by rfl)
set_option maxRecDepth 100000 in
theorem kw_4 : (Jvm.Cond.initialized "LatticeKeys$Ring") ∈ WG := wgr_1 4 (by rfl) (by rfl)
set_option maxRecDepth 100000 in
theorem kw_5 : (Jvm.Cond.initialized "LatticeKeys$Dsa") ∈ WG := wgr_1 5 (by rfl) (by rfl)
set_option maxRecDepth 100000 in
theorem kw_6 : (Jvm.Cond.initialized "LatticeKeys$DsaSampler") ∈ WG := wgr_1 6 (by rfl) (by rfl)
set_option maxRecDepth 100000 in
theorem kw_7 : (Jvm.Cond.initialized "LatticeKeys$KemSet") ∈ WG := wgr_1 7 (by rfl) (by rfl)
set_option maxRecDepth 100000 in
theorem kw_8 : (Jvm.Cond.initialized "LatticeKeys$DsaSet") ∈ WG := wgr_1 8 (by rfl) (by rfl)
set_option maxRecDepth 100000 in
theorem kw_9 : (Jvm.Cond.initialized "LatticeKeysModel") ∈ WG := wgr_1 9 (by rfl) (by rfl)
set_option maxRecDepth 100000 in
theorem kw_10 : (Jvm.Cond.initialized "LatticeKeysModel$Sponge") ∈ WG := wgr_1 10 (by rfl) (by rfl)
set_option maxRecDepth 100000 in
theorem kw_11 : (Jvm.Cond.initialized "LatticeKeysModel$Secrets") ∈ WG := wgr_1 11 (by rfl) (by rfl)
set_option maxRecDepth 100000 in
theorem kw_12 : (Jvm.Cond.initialized "LatticeKeysModel$Ring") ∈ WG := wgr_1 12 (by rfl) (by rfl)
set_option maxRecDepth 100000 in
theorem kw_13 : (Jvm.Cond.initialized "LatticeKeysModel$Hands") ∈ WG := wgr_1 13 (by rfl) (by rfl)
set_option maxRecDepth 100000 in
theorem kw_19 : (Jvm.Cond.initialized "java/lang/System") ∈ WG := wgr_1 19 (by rfl) (by rfl)
set_option maxRecDepth 100000 in
theorem kw_21 : (Jvm.Cond.initialized "java/util/Arrays") ∈ WG := wgr_1 21 (by rfl) (by rfl)
set_option maxRecDepth 100000 in
theorem kw_22 : (Jvm.Cond.initialized "LatticeKeys$Bits") ∈ WG := wgr_1 22 (by rfl) (by rfl)
set_option maxRecDepth 100000 in
theorem kw_23 : (Jvm.Cond.initialized "java/lang/Integer") ∈ WG := wgr_1 23 (by rfl) (by rfl)
set_option maxRecDepth 100000 in
theorem kw_24 : (Jvm.Cond.initialized "LatticeKeys$KeyPair") ∈ WG := wgr_1 24 (by rfl) (by rfl)
set_option maxRecDepth 100000 in
theorem kw_31 : (Jvm.Cond.initialized "java/lang/Math") ∈ WG := wgr_1 31 (by rfl) (by rfl)
set_option maxRecDepth 100000 in
theorem kw_35 : (Jvm.Cond.classLink "LatticeKeysLaw" (8 : Nat) "LatticeKeys") ∈ WG := wgr_1 35 (by rfl) (by rfl)
set_option maxRecDepth 100000 in
theorem kw_36 : (Jvm.Cond.instantiable "LatticeKeys" (11 : Nat)) ∈ WG := wgr_1 36 (by rfl) (by rfl)
set_option maxRecDepth 100000 in
theorem kw_37 : (Jvm.Cond.methodLink "LatticeKeysLaw" (71 : Nat) ({ cls := "LatticeKeys", name := "<init>", desc := "()V" } : Jvm.MethodName)) ∈ WG := wgr_1 37 (by rfl) (by rfl)
set_option maxRecDepth 100000 in
theorem kw_38 : (Jvm.Cond.instanceMethod ({ cls := "LatticeKeys", name := "<init>", desc := "()V" } : Jvm.MethodName)) ∈ WG := wgr_1 38 (by rfl) (by rfl)
set_option maxRecDepth 100000 in
theorem kw_39 : (Jvm.Cond.code ({ cls := "LatticeKeys", name := "<init>", desc := "()V" } : Jvm.MethodName) prog_1_method_1_code (2 : Nat) (Option.none : Option Jvm.ClassFile.FieldType)) ∈ WG := wgr_1 39 (by rfl) (by rfl)
set_option maxRecDepth 100000 in
theorem kw_40 : (Jvm.Cond.methodLink "LatticeKeys" (1 : Nat) ({ cls := "java/lang/Object", name := "<init>", desc := "()V" } : Jvm.MethodName)) ∈ WG := wgr_1 40 (by rfl) (by rfl)
set_option maxRecDepth 100000 in
theorem kw_41 : (Jvm.Cond.instanceMethod ({ cls := "java/lang/Object", name := "<init>", desc := "()V" } : Jvm.MethodName)) ∈ WG := wgr_1 41 (by rfl) (by rfl)
set_option maxRecDepth 100000 in
theorem kw_42 : (Jvm.Cond.code ({ cls := "java/lang/Object", name := "<init>", desc := "()V" } : Jvm.MethodName) object_method_1_code (1 : Nat) (Option.none : Option Jvm.ClassFile.FieldType)) ∈ WG := wgr_1 42 (by rfl) (by rfl)
set_option maxRecDepth 100000 in
theorem kw_43 : (Jvm.Cond.classLink "LatticeKeys" (23 : Nat) "LatticeKeys$KeyPair") ∈ WG := wgr_1 43 (by rfl) (by rfl)
set_option maxRecDepth 100000 in
theorem kw_45 : (Jvm.Cond.classLink "LatticeKeys" (32 : Nat) "LatticeKeys$KemSet") ∈ WG := wgr_1 45 (by rfl) (by rfl)
set_option maxRecDepth 100000 in
theorem kw_47 : (Jvm.Cond.classLink "LatticeKeys" (38 : Nat) "LatticeKeys$DsaSet") ∈ WG := wgr_1 47 (by rfl) (by rfl)
set_option maxRecDepth 100000 in
theorem kw_49 : (Jvm.Cond.classLink "LatticeKeys" (44 : Nat) "LatticeKeys$Sponge") ∈ WG := wgr_1 49 (by rfl) (by rfl)
set_option maxRecDepth 100000 in
theorem kw_50 : (Jvm.Cond.instantiable "LatticeKeys$Sponge" (4 : Nat)) ∈ WG := wgr_1 50 (by rfl) (by rfl)
set_option maxRecDepth 100000 in
theorem kw_51 : (Jvm.Cond.methodLink "LatticeKeys" (46 : Nat) ({ cls := "LatticeKeys$Sponge", name := "<init>", desc := "()V" } : Jvm.MethodName)) ∈ WG := wgr_1 51 (by rfl) (by rfl)
set_option maxRecDepth 100000 in
theorem kw_52 : (Jvm.Cond.instanceMethod ({ cls := "LatticeKeys$Sponge", name := "<init>", desc := "()V" } : Jvm.MethodName)) ∈ WG := wgr_1 52 (by rfl) (by rfl)
set_option maxRecDepth 100000 in
theorem kw_53 : (Jvm.Cond.code ({ cls := "LatticeKeys$Sponge", name := "<init>", desc := "()V" } : Jvm.MethodName) prog_10_method_1_code (1 : Nat) (Option.none : Option Jvm.ClassFile.FieldType)) ∈ WG := wgr_1 53 (by rfl) (by rfl)
set_option maxRecDepth 100000 in
theorem kw_54 : (Jvm.Cond.methodLink "LatticeKeys$Sponge" (1 : Nat) ({ cls := "java/lang/Object", name := "<init>", desc := "()V" } : Jvm.MethodName)) ∈ WG := wgr_1 54 (by rfl) (by rfl)
set_option maxRecDepth 100000 in
theorem kw_55 : (Jvm.Cond.fieldLink "LatticeKeys$Sponge" (13 : Nat) "LatticeKeys$Sponge" "RATES" "[I") ∈ WG := wgr_1 55 (by rfl) (by rfl)
set_option maxRecDepth 100000 in
theorem kw_57 : (Jvm.Cond.fieldLink "LatticeKeys$Sponge" (21 : Nat) "LatticeKeys$Sponge" "SUFFIXES" "[I") ∈ WG := wgr_1 57 (by rfl) (by rfl)
set_option maxRecDepth 100000 in
theorem kw_59 : (Jvm.Cond.fieldLink "LatticeKeys$Sponge" (7 : Nat) "LatticeKeys$Sponge" "lanes" "[J") ∈ WG := wgr_1 59 (by rfl) (by rfl)
set_option maxRecDepth 100000 in
theorem kw_60 : (Jvm.Cond.fieldLink "LatticeKeys$Sponge" (17 : Nat) "LatticeKeys$Sponge" "rate" "I") ∈ WG := wgr_1 60 (by rfl) (by rfl)
set_option maxRecDepth 100000 in
theorem kw_61 : (Jvm.Cond.fieldLink "LatticeKeys$Sponge" (24 : Nat) "LatticeKeys$Sponge" "suffix" "I") ∈ WG := wgr_1 61 (by rfl) (by rfl)
set_option maxRecDepth 100000 in
theorem kw_62 : (Jvm.Cond.fieldLink "LatticeKeys$Sponge" (27 : Nat) "LatticeKeys$Sponge" "position" "I") ∈ WG := wgr_1 62 (by rfl) (by rfl)
set_option maxRecDepth 100000 in
theorem kw_63 : (Jvm.Cond.laysFinal "LatticeKeys$Sponge" "LatticeKeys$Sponge" "lanes" "[J") ∈ WG := wgr_1 63 (by rfl) (by rfl)
set_option maxRecDepth 100000 in
theorem kw_65 : (Jvm.Cond.lays "LatticeKeys$Sponge" "LatticeKeys$Sponge" "rate" "I") ∈ WG := wgr_1 65 (by rfl) (by rfl)
set_option maxRecDepth 100000 in
theorem kw_67 : (Jvm.Cond.lays "LatticeKeys$Sponge" "LatticeKeys$Sponge" "suffix" "I") ∈ WG := wgr_1 67 (by rfl) (by rfl)
set_option maxRecDepth 100000 in
theorem kw_69 : (Jvm.Cond.lays "LatticeKeys$Sponge" "LatticeKeys$Sponge" "position" "I") ∈ WG := wgr_1 69 (by rfl) (by rfl)
set_option maxRecDepth 100000 in
theorem kw_72 : (Jvm.Cond.arrayClass Jvm.ClassFile.FieldType.byte) ∈ WG := wgr_1 72 (by rfl) (by rfl)
set_option maxRecDepth 100000 in
theorem kw_73 : (Jvm.Cond.arrayClass Jvm.ClassFile.FieldType.long) ∈ WG := wgr_1 73 (by rfl) (by rfl)
set_option maxRecDepth 100000 in
theorem kw_74 : (Jvm.Cond.classLink "LatticeKeys" (51 : Nat) "LatticeKeys$Kem") ∈ WG := wgr_1 74 (by rfl) (by rfl)
set_option maxRecDepth 100000 in
theorem kw_75 : (Jvm.Cond.instantiable "LatticeKeys$Kem" (10 : Nat)) ∈ WG := wgr_1 75 (by rfl) (by rfl)
set_option maxRecDepth 100000 in
theorem kw_76 : (Jvm.Cond.methodLink "LatticeKeys" (53 : Nat) ({ cls := "LatticeKeys$Kem", name := "<init>", desc := "()V" } : Jvm.MethodName)) ∈ WG := wgr_1 76 (by rfl) (by rfl)
set_option maxRecDepth 100000 in
theorem kw_77 : (Jvm.Cond.instanceMethod ({ cls := "LatticeKeys$Kem", name := "<init>", desc := "()V" } : Jvm.MethodName)) ∈ WG := wgr_1 77 (by rfl) (by rfl)
set_option maxRecDepth 100000 in
theorem kw_78 : (Jvm.Cond.code ({ cls := "LatticeKeys$Kem", name := "<init>", desc := "()V" } : Jvm.MethodName) prog_6_method_1_code (1 : Nat) (Option.none : Option Jvm.ClassFile.FieldType)) ∈ WG := wgr_1 78 (by rfl) (by rfl)
set_option maxRecDepth 100000 in
theorem kw_79 : (Jvm.Cond.methodLink "LatticeKeys$Kem" (1 : Nat) ({ cls := "java/lang/Object", name := "<init>", desc := "()V" } : Jvm.MethodName)) ∈ WG := wgr_1 79 (by rfl) (by rfl)
set_option maxRecDepth 100000 in
theorem kw_80 : (Jvm.Cond.classLink "LatticeKeys$Kem" (7 : Nat) "LatticeKeys$Sponge") ∈ WG := wgr_1 80 (by rfl) (by rfl)
set_option maxRecDepth 100000 in
theorem kw_81 : (Jvm.Cond.methodLink "LatticeKeys$Kem" (9 : Nat) ({ cls := "LatticeKeys$Sponge", name := "<init>", desc := "()V" } : Jvm.MethodName)) ∈ WG := wgr_1 81 (by rfl) (by rfl)
set_option maxRecDepth 100000 in
theorem kw_82 : (Jvm.Cond.classLink "LatticeKeys$Kem" (16 : Nat) "LatticeKeys$Ring") ∈ WG := wgr_1 82 (by rfl) (by rfl)
set_option maxRecDepth 100000 in
theorem kw_83 : (Jvm.Cond.instantiable "LatticeKeys$Ring" (4 : Nat)) ∈ WG := wgr_1 83 (by rfl) (by rfl)
set_option maxRecDepth 100000 in
theorem kw_84 : (Jvm.Cond.methodLink "LatticeKeys$Kem" (18 : Nat) ({ cls := "LatticeKeys$Ring", name := "<init>", desc := "(III)V" } : Jvm.MethodName)) ∈ WG := wgr_1 84 (by rfl) (by rfl)
set_option maxRecDepth 100000 in
theorem kw_85 : (Jvm.Cond.instanceMethod ({ cls := "LatticeKeys$Ring", name := "<init>", desc := "(III)V" } : Jvm.MethodName)) ∈ WG := wgr_1 85 (by rfl) (by rfl)
set_option maxRecDepth 100000 in
theorem kw_86 : (Jvm.Cond.code ({ cls := "LatticeKeys$Ring", name := "<init>", desc := "(III)V" } : Jvm.MethodName) prog_9_method_1_code (8 : Nat) (Option.none : Option Jvm.ClassFile.FieldType)) ∈ WG := wgr_1 86 (by rfl) (by rfl)
set_option maxRecDepth 100000 in
theorem kw_87 : (Jvm.Cond.methodLink "LatticeKeys$Ring" (1 : Nat) ({ cls := "java/lang/Object", name := "<init>", desc := "()V" } : Jvm.MethodName)) ∈ WG := wgr_1 87 (by rfl) (by rfl)
set_option maxRecDepth 100000 in
theorem kw_88 : (Jvm.Cond.methodLink "LatticeKeys$Ring" (23 : Nat) ({ cls := "LatticeKeys$Ring", name := "mirrored", desc := "(II)I" } : Jvm.MethodName)) ∈ WG := wgr_1 88 (by rfl) (by rfl)
set_option maxRecDepth 100000 in
theorem kw_89 : (Jvm.Cond.static ({ cls := "LatticeKeys$Ring", name := "mirrored", desc := "(II)I" } : Jvm.MethodName)) ∈ WG := wgr_1 89 (by rfl) (by rfl)
set_option maxRecDepth 100000 in
theorem kw_90 : (Jvm.Cond.code ({ cls := "LatticeKeys$Ring", name := "mirrored", desc := "(II)I" } : Jvm.MethodName) prog_9_method_2_code (4 : Nat) (Option.some Jvm.ClassFile.FieldType.int)) ∈ WG := wgr_1 90 (by rfl) (by rfl)
set_option maxRecDepth 100000 in
theorem kw_91 : (Jvm.Cond.fieldLink "LatticeKeys$Ring" (7 : Nat) "LatticeKeys$Ring" "modulus" "I") ∈ WG := wgr_1 91 (by rfl) (by rfl)
set_option maxRecDepth 100000 in
theorem kw_92 : (Jvm.Cond.fieldLink "LatticeKeys$Ring" (13 : Nat) "LatticeKeys$Ring" "layers" "I") ∈ WG := wgr_1 92 (by rfl) (by rfl)
set_option maxRecDepth 100000 in
theorem kw_93 : (Jvm.Cond.fieldLink "LatticeKeys$Ring" (16 : Nat) "LatticeKeys$Ring" "scale" "I") ∈ WG := wgr_1 93 (by rfl) (by rfl)
set_option maxRecDepth 100000 in
theorem kw_94 : (Jvm.Cond.fieldLink "LatticeKeys$Ring" (19 : Nat) "LatticeKeys$Ring" "roots" "[I") ∈ WG := wgr_1 94 (by rfl) (by rfl)
set_option maxRecDepth 100000 in
theorem kw_95 : (Jvm.Cond.laysFinal "LatticeKeys$Ring" "LatticeKeys$Ring" "modulus" "I") ∈ WG := wgr_1 95 (by rfl) (by rfl)
set_option maxRecDepth 100000 in
theorem kw_97 : (Jvm.Cond.laysFinal "LatticeKeys$Ring" "LatticeKeys$Ring" "layers" "I") ∈ WG := wgr_1 97 (by rfl) (by rfl)
set_option maxRecDepth 100000 in
theorem kw_99 : (Jvm.Cond.laysFinal "LatticeKeys$Ring" "LatticeKeys$Ring" "scale" "I") ∈ WG := wgr_1 99 (by rfl) (by rfl)
set_option maxRecDepth 100000 in
theorem kw_101 : (Jvm.Cond.laysFinal "LatticeKeys$Ring" "LatticeKeys$Ring" "roots" "[I") ∈ WG := wgr_1 101 (by rfl) (by rfl)
set_option maxRecDepth 100000 in
theorem kw_104 : (Jvm.Cond.arrayClass Jvm.ClassFile.FieldType.int) ∈ WG := wgr_1 104 (by rfl) (by rfl)
set_option maxRecDepth 100000 in
theorem kw_105 : (Jvm.Cond.classLink "LatticeKeys$Kem" (25 : Nat) "[[I") ∈ WG := wgr_1 105 (by rfl) (by rfl)
set_option maxRecDepth 100000 in
theorem kw_107 : (Jvm.Cond.fieldLink "LatticeKeys$Kem" (10 : Nat) "LatticeKeys$Kem" "sponge" "LLatticeKeys$Sponge;") ∈ WG := wgr_1 107 (by rfl) (by rfl)
set_option maxRecDepth 100000 in
theorem kw_108 : (Jvm.Cond.fieldLink "LatticeKeys$Kem" (21 : Nat) "LatticeKeys$Kem" "ring" "LLatticeKeys$Ring;") ∈ WG := wgr_1 108 (by rfl) (by rfl)
set_option maxRecDepth 100000 in
theorem kw_109 : (Jvm.Cond.fieldLink "LatticeKeys$Kem" (27 : Nat) "LatticeKeys$Kem" "secret" "[[I") ∈ WG := wgr_1 109 (by rfl) (by rfl)
set_option maxRecDepth 100000 in
theorem kw_110 : (Jvm.Cond.fieldLink "LatticeKeys$Kem" (30 : Nat) "LatticeKeys$Kem" "sum" "[I") ∈ WG := wgr_1 110 (by rfl) (by rfl)
set_option maxRecDepth 100000 in
theorem kw_111 : (Jvm.Cond.fieldLink "LatticeKeys$Kem" (34 : Nat) "LatticeKeys$Kem" "other" "[I") ∈ WG := wgr_1 111 (by rfl) (by rfl)
set_option maxRecDepth 100000 in
theorem kw_112 : (Jvm.Cond.fieldLink "LatticeKeys$Kem" (37 : Nat) "LatticeKeys$Kem" "message" "[B") ∈ WG := wgr_1 112 (by rfl) (by rfl)
set_option maxRecDepth 100000 in
theorem kw_113 : (Jvm.Cond.fieldLink "LatticeKeys$Kem" (41 : Nat) "LatticeKeys$Kem" "digest" "[B") ∈ WG := wgr_1 113 (by rfl) (by rfl)
set_option maxRecDepth 100000 in
theorem kw_114 : (Jvm.Cond.fieldLink "LatticeKeys$Kem" (44 : Nat) "LatticeKeys$Kem" "seeds" "[B") ∈ WG := wgr_1 114 (by rfl) (by rfl)
set_option maxRecDepth 100000 in
theorem kw_115 : (Jvm.Cond.fieldLink "LatticeKeys$Kem" (47 : Nat) "LatticeKeys$Kem" "noise" "[B") ∈ WG := wgr_1 115 (by rfl) (by rfl)
set_option maxRecDepth 100000 in
theorem kw_116 : (Jvm.Cond.fieldLink "LatticeKeys$Kem" (50 : Nat) "LatticeKeys$Kem" "cipherAgain" "[B") ∈ WG := wgr_1 116 (by rfl) (by rfl)
set_option maxRecDepth 100000 in
theorem kw_117 : (Jvm.Cond.laysFinal "LatticeKeys$Kem" "LatticeKeys$Kem" "sponge" "LLatticeKeys$Sponge;") ∈ WG := wgr_1 117 (by rfl) (by rfl)
set_option maxRecDepth 100000 in
theorem kw_119 : (Jvm.Cond.laysFinal "LatticeKeys$Kem" "LatticeKeys$Kem" "ring" "LLatticeKeys$Ring;") ∈ WG := wgr_1 119 (by rfl) (by rfl)
set_option maxRecDepth 100000 in
theorem kw_121 : (Jvm.Cond.laysFinal "LatticeKeys$Kem" "LatticeKeys$Kem" "secret" "[[I") ∈ WG := wgr_1 121 (by rfl) (by rfl)
set_option maxRecDepth 100000 in
theorem kw_123 : (Jvm.Cond.laysFinal "LatticeKeys$Kem" "LatticeKeys$Kem" "sum" "[I") ∈ WG := wgr_1 123 (by rfl) (by rfl)
set_option maxRecDepth 100000 in
theorem kw_125 : (Jvm.Cond.laysFinal "LatticeKeys$Kem" "LatticeKeys$Kem" "other" "[I") ∈ WG := wgr_1 125 (by rfl) (by rfl)
set_option maxRecDepth 100000 in
theorem kw_127 : (Jvm.Cond.laysFinal "LatticeKeys$Kem" "LatticeKeys$Kem" "message" "[B") ∈ WG := wgr_1 127 (by rfl) (by rfl)
set_option maxRecDepth 100000 in
theorem kw_129 : (Jvm.Cond.laysFinal "LatticeKeys$Kem" "LatticeKeys$Kem" "digest" "[B") ∈ WG := wgr_1 129 (by rfl) (by rfl)
set_option maxRecDepth 100000 in
theorem kw_131 : (Jvm.Cond.laysFinal "LatticeKeys$Kem" "LatticeKeys$Kem" "seeds" "[B") ∈ WG := wgr_1 131 (by rfl) (by rfl)
set_option maxRecDepth 100000 in
theorem kw_133 : (Jvm.Cond.laysFinal "LatticeKeys$Kem" "LatticeKeys$Kem" "noise" "[B") ∈ WG := wgr_1 133 (by rfl) (by rfl)
set_option maxRecDepth 100000 in
theorem kw_135 : (Jvm.Cond.laysFinal "LatticeKeys$Kem" "LatticeKeys$Kem" "cipherAgain" "[B") ∈ WG := wgr_1 135 (by rfl) (by rfl)
set_option maxRecDepth 100000 in
theorem kw_138 : (Jvm.Cond.classLink "LatticeKeys" (58 : Nat) "LatticeKeys$Dsa") ∈ WG := wgr_1 138 (by rfl) (by rfl)
set_option maxRecDepth 100000 in
theorem kw_139 : (Jvm.Cond.instantiable "LatticeKeys$Dsa" (17 : Nat)) ∈ WG := wgr_1 139 (by rfl) (by rfl)
set_option maxRecDepth 100000 in
theorem kw_140 : (Jvm.Cond.methodLink "LatticeKeys" (60 : Nat) ({ cls := "LatticeKeys$Dsa", name := "<init>", desc := "()V" } : Jvm.MethodName)) ∈ WG := wgr_1 140 (by rfl) (by rfl)
set_option maxRecDepth 100000 in
theorem kw_141 : (Jvm.Cond.instanceMethod ({ cls := "LatticeKeys$Dsa", name := "<init>", desc := "()V" } : Jvm.MethodName)) ∈ WG := wgr_1 141 (by rfl) (by rfl)
set_option maxRecDepth 100000 in
theorem kw_142 : (Jvm.Cond.code ({ cls := "LatticeKeys$Dsa", name := "<init>", desc := "()V" } : Jvm.MethodName) prog_3_method_1_code (1 : Nat) (Option.none : Option Jvm.ClassFile.FieldType)) ∈ WG := wgr_1 142 (by rfl) (by rfl)
set_option maxRecDepth 100000 in
theorem kw_143 : (Jvm.Cond.methodLink "LatticeKeys$Dsa" (1 : Nat) ({ cls := "java/lang/Object", name := "<init>", desc := "()V" } : Jvm.MethodName)) ∈ WG := wgr_1 143 (by rfl) (by rfl)
set_option maxRecDepth 100000 in
theorem kw_144 : (Jvm.Cond.classLink "LatticeKeys$Dsa" (7 : Nat) "LatticeKeys$Sponge") ∈ WG := wgr_1 144 (by rfl) (by rfl)
set_option maxRecDepth 100000 in
theorem kw_145 : (Jvm.Cond.methodLink "LatticeKeys$Dsa" (9 : Nat) ({ cls := "LatticeKeys$Sponge", name := "<init>", desc := "()V" } : Jvm.MethodName)) ∈ WG := wgr_1 145 (by rfl) (by rfl)
set_option maxRecDepth 100000 in
theorem kw_146 : (Jvm.Cond.classLink "LatticeKeys$Dsa" (16 : Nat) "LatticeKeys$Ring") ∈ WG := wgr_1 146 (by rfl) (by rfl)
set_option maxRecDepth 100000 in
theorem kw_147 : (Jvm.Cond.constant "LatticeKeys$Dsa" (18 : Nat) (8380417 : Int32)) ∈ WG := wgr_1 147 (by rfl) (by rfl)
set_option maxRecDepth 100000 in
theorem kw_148 : (Jvm.Cond.methodLink "LatticeKeys$Dsa" (19 : Nat) ({ cls := "LatticeKeys$Ring", name := "<init>", desc := "(III)V" } : Jvm.MethodName)) ∈ WG := wgr_1 148 (by rfl) (by rfl)
set_option maxRecDepth 100000 in
theorem kw_149 : (Jvm.Cond.classLink "LatticeKeys$Dsa" (26 : Nat) "LatticeKeys$DsaSampler") ∈ WG := wgr_1 149 (by rfl) (by rfl)
set_option maxRecDepth 100000 in
theorem kw_150 : (Jvm.Cond.instantiable "LatticeKeys$DsaSampler" (2 : Nat)) ∈ WG := wgr_1 150 (by rfl) (by rfl)
set_option maxRecDepth 100000 in
theorem kw_151 : (Jvm.Cond.methodLink "LatticeKeys$Dsa" (28 : Nat) ({ cls := "LatticeKeys$DsaSampler", name := "<init>", desc := "()V" } : Jvm.MethodName)) ∈ WG := wgr_1 151 (by rfl) (by rfl)
set_option maxRecDepth 100000 in
theorem kw_152 : (Jvm.Cond.instanceMethod ({ cls := "LatticeKeys$DsaSampler", name := "<init>", desc := "()V" } : Jvm.MethodName)) ∈ WG := wgr_1 152 (by rfl) (by rfl)
set_option maxRecDepth 100000 in
theorem kw_153 : (Jvm.Cond.code ({ cls := "LatticeKeys$DsaSampler", name := "<init>", desc := "()V" } : Jvm.MethodName) prog_4_method_1_code (1 : Nat) (Option.none : Option Jvm.ClassFile.FieldType)) ∈ WG := wgr_1 153 (by rfl) (by rfl)
set_option maxRecDepth 100000 in
theorem kw_154 : (Jvm.Cond.methodLink "LatticeKeys$DsaSampler" (1 : Nat) ({ cls := "java/lang/Object", name := "<init>", desc := "()V" } : Jvm.MethodName)) ∈ WG := wgr_1 154 (by rfl) (by rfl)
set_option maxRecDepth 100000 in
theorem kw_155 : (Jvm.Cond.classLink "LatticeKeys$DsaSampler" (7 : Nat) "LatticeKeys$Sponge") ∈ WG := wgr_1 155 (by rfl) (by rfl)
set_option maxRecDepth 100000 in
theorem kw_156 : (Jvm.Cond.methodLink "LatticeKeys$DsaSampler" (9 : Nat) ({ cls := "LatticeKeys$Sponge", name := "<init>", desc := "()V" } : Jvm.MethodName)) ∈ WG := wgr_1 156 (by rfl) (by rfl)
set_option maxRecDepth 100000 in
theorem kw_157 : (Jvm.Cond.fieldLink "LatticeKeys$DsaSampler" (10 : Nat) "LatticeKeys$DsaSampler" "sponge" "LLatticeKeys$Sponge;") ∈ WG := wgr_1 157 (by rfl) (by rfl)
set_option maxRecDepth 100000 in
theorem kw_158 : (Jvm.Cond.fieldLink "LatticeKeys$DsaSampler" (16 : Nat) "LatticeKeys$DsaSampler" "packed" "[B") ∈ WG := wgr_1 158 (by rfl) (by rfl)
set_option maxRecDepth 100000 in
theorem kw_159 : (Jvm.Cond.laysFinal "LatticeKeys$DsaSampler" "LatticeKeys$DsaSampler" "sponge" "LLatticeKeys$Sponge;") ∈ WG := wgr_1 159 (by rfl) (by rfl)
set_option maxRecDepth 100000 in
theorem kw_161 : (Jvm.Cond.laysFinal "LatticeKeys$DsaSampler" "LatticeKeys$DsaSampler" "packed" "[B") ∈ WG := wgr_1 161 (by rfl) (by rfl)
set_option maxRecDepth 100000 in
theorem kw_164 : (Jvm.Cond.classLink "LatticeKeys$Dsa" (33 : Nat) "[[I") ∈ WG := wgr_1 164 (by rfl) (by rfl)
set_option maxRecDepth 100000 in
theorem kw_165 : (Jvm.Cond.fieldLink "LatticeKeys$Dsa" (10 : Nat) "LatticeKeys$Dsa" "sponge" "LLatticeKeys$Sponge;") ∈ WG := wgr_1 165 (by rfl) (by rfl)
set_option maxRecDepth 100000 in
theorem kw_166 : (Jvm.Cond.fieldLink "LatticeKeys$Dsa" (22 : Nat) "LatticeKeys$Dsa" "ring" "LLatticeKeys$Ring;") ∈ WG := wgr_1 166 (by rfl) (by rfl)
set_option maxRecDepth 100000 in
theorem kw_167 : (Jvm.Cond.fieldLink "LatticeKeys$Dsa" (29 : Nat) "LatticeKeys$Dsa" "sampler" "LLatticeKeys$DsaSampler;") ∈ WG := wgr_1 167 (by rfl) (by rfl)
set_option maxRecDepth 100000 in
theorem kw_168 : (Jvm.Cond.fieldLink "LatticeKeys$Dsa" (35 : Nat) "LatticeKeys$Dsa" "matrix" "[[I") ∈ WG := wgr_1 168 (by rfl) (by rfl)
set_option maxRecDepth 100000 in
theorem kw_169 : (Jvm.Cond.fieldLink "LatticeKeys$Dsa" (38 : Nat) "LatticeKeys$Dsa" "secret" "[[I") ∈ WG := wgr_1 169 (by rfl) (by rfl)
set_option maxRecDepth 100000 in
theorem kw_170 : (Jvm.Cond.fieldLink "LatticeKeys$Dsa" (41 : Nat) "LatticeKeys$Dsa" "error" "[[I") ∈ WG := wgr_1 170 (by rfl) (by rfl)
set_option maxRecDepth 100000 in
theorem kw_171 : (Jvm.Cond.fieldLink "LatticeKeys$Dsa" (44 : Nat) "LatticeKeys$Dsa" "lowPart" "[[I") ∈ WG := wgr_1 171 (by rfl) (by rfl)
set_option maxRecDepth 100000 in
theorem kw_172 : (Jvm.Cond.fieldLink "LatticeKeys$Dsa" (47 : Nat) "LatticeKeys$Dsa" "mask" "[[I") ∈ WG := wgr_1 172 (by rfl) (by rfl)
set_option maxRecDepth 100000 in
theorem kw_173 : (Jvm.Cond.fieldLink "LatticeKeys$Dsa" (50 : Nat) "LatticeKeys$Dsa" "product" "[[I") ∈ WG := wgr_1 173 (by rfl) (by rfl)
set_option maxRecDepth 100000 in
theorem kw_174 : (Jvm.Cond.fieldLink "LatticeKeys$Dsa" (53 : Nat) "LatticeKeys$Dsa" "ball" "[I") ∈ WG := wgr_1 174 (by rfl) (by rfl)
set_option maxRecDepth 100000 in
theorem kw_175 : (Jvm.Cond.fieldLink "LatticeKeys$Dsa" (57 : Nat) "LatticeKeys$Dsa" "work" "[I") ∈ WG := wgr_1 175 (by rfl) (by rfl)
set_option maxRecDepth 100000 in
theorem kw_176 : (Jvm.Cond.fieldLink "LatticeKeys$Dsa" (60 : Nat) "LatticeKeys$Dsa" "seeds" "[B") ∈ WG := wgr_1 176 (by rfl) (by rfl)
set_option maxRecDepth 100000 in
theorem kw_177 : (Jvm.Cond.fieldLink "LatticeKeys$Dsa" (64 : Nat) "LatticeKeys$Dsa" "digest" "[B") ∈ WG := wgr_1 177 (by rfl) (by rfl)
set_option maxRecDepth 100000 in
theorem kw_178 : (Jvm.Cond.fieldLink "LatticeKeys$Dsa" (67 : Nat) "LatticeKeys$Dsa" "challenge" "[B") ∈ WG := wgr_1 178 (by rfl) (by rfl)
set_option maxRecDepth 100000 in
theorem kw_179 : (Jvm.Cond.fieldLink "LatticeKeys$Dsa" (70 : Nat) "LatticeKeys$Dsa" "challengeAgain" "[B") ∈ WG := wgr_1 179 (by rfl) (by rfl)
set_option maxRecDepth 100000 in
theorem kw_180 : (Jvm.Cond.fieldLink "LatticeKeys$Dsa" (73 : Nat) "LatticeKeys$Dsa" "hints" "[B") ∈ WG := wgr_1 180 (by rfl) (by rfl)
set_option maxRecDepth 100000 in
theorem kw_181 : (Jvm.Cond.fieldLink "LatticeKeys$Dsa" (76 : Nat) "LatticeKeys$Dsa" "packed" "[B") ∈ WG := wgr_1 181 (by rfl) (by rfl)
set_option maxRecDepth 100000 in
theorem kw_182 : (Jvm.Cond.laysFinal "LatticeKeys$Dsa" "LatticeKeys$Dsa" "sponge" "LLatticeKeys$Sponge;") ∈ WG := wgr_1 182 (by rfl) (by rfl)
set_option maxRecDepth 100000 in
theorem kw_184 : (Jvm.Cond.laysFinal "LatticeKeys$Dsa" "LatticeKeys$Dsa" "ring" "LLatticeKeys$Ring;") ∈ WG := wgr_1 184 (by rfl) (by rfl)
set_option maxRecDepth 100000 in
theorem kw_186 : (Jvm.Cond.laysFinal "LatticeKeys$Dsa" "LatticeKeys$Dsa" "sampler" "LLatticeKeys$DsaSampler;") ∈ WG := wgr_1 186 (by rfl) (by rfl)
set_option maxRecDepth 100000 in
theorem kw_188 : (Jvm.Cond.laysFinal "LatticeKeys$Dsa" "LatticeKeys$Dsa" "matrix" "[[I") ∈ WG := wgr_1 188 (by rfl) (by rfl)
set_option maxRecDepth 100000 in
theorem kw_190 : (Jvm.Cond.laysFinal "LatticeKeys$Dsa" "LatticeKeys$Dsa" "secret" "[[I") ∈ WG := wgr_1 190 (by rfl) (by rfl)
set_option maxRecDepth 100000 in
theorem kw_192 : (Jvm.Cond.laysFinal "LatticeKeys$Dsa" "LatticeKeys$Dsa" "error" "[[I") ∈ WG := wgr_1 192 (by rfl) (by rfl)
set_option maxRecDepth 100000 in
theorem kw_194 : (Jvm.Cond.laysFinal "LatticeKeys$Dsa" "LatticeKeys$Dsa" "lowPart" "[[I") ∈ WG := wgr_1 194 (by rfl) (by rfl)
set_option maxRecDepth 100000 in
theorem kw_196 : (Jvm.Cond.laysFinal "LatticeKeys$Dsa" "LatticeKeys$Dsa" "mask" "[[I") ∈ WG := wgr_1 196 (by rfl) (by rfl)
set_option maxRecDepth 100000 in
theorem kw_198 : (Jvm.Cond.laysFinal "LatticeKeys$Dsa" "LatticeKeys$Dsa" "product" "[[I") ∈ WG := wgr_1 198 (by rfl) (by rfl)
set_option maxRecDepth 100000 in
theorem kw_200 : (Jvm.Cond.laysFinal "LatticeKeys$Dsa" "LatticeKeys$Dsa" "ball" "[I") ∈ WG := wgr_1 200 (by rfl) (by rfl)
set_option maxRecDepth 100000 in
theorem kw_202 : (Jvm.Cond.laysFinal "LatticeKeys$Dsa" "LatticeKeys$Dsa" "work" "[I") ∈ WG := wgr_1 202 (by rfl) (by rfl)
set_option maxRecDepth 100000 in
theorem kw_204 : (Jvm.Cond.laysFinal "LatticeKeys$Dsa" "LatticeKeys$Dsa" "seeds" "[B") ∈ WG := wgr_1 204 (by rfl) (by rfl)
set_option maxRecDepth 100000 in
theorem kw_206 : (Jvm.Cond.laysFinal "LatticeKeys$Dsa" "LatticeKeys$Dsa" "digest" "[B") ∈ WG := wgr_1 206 (by rfl) (by rfl)
set_option maxRecDepth 100000 in
theorem kw_208 : (Jvm.Cond.laysFinal "LatticeKeys$Dsa" "LatticeKeys$Dsa" "challenge" "[B") ∈ WG := wgr_1 208 (by rfl) (by rfl)
set_option maxRecDepth 100000 in
theorem kw_210 : (Jvm.Cond.laysFinal "LatticeKeys$Dsa" "LatticeKeys$Dsa" "challengeAgain" "[B") ∈ WG := wgr_1 210 (by rfl) (by rfl)
set_option maxRecDepth 100000 in
theorem kw_212 : (Jvm.Cond.laysFinal "LatticeKeys$Dsa" "LatticeKeys$Dsa" "hints" "[B") ∈ WG := wgr_1 212 (by rfl) (by rfl)
set_option maxRecDepth 100000 in
theorem kw_214 : (Jvm.Cond.laysFinal "LatticeKeys$Dsa" "LatticeKeys$Dsa" "packed" "[B") ∈ WG := wgr_1 214 (by rfl) (by rfl)
set_option maxRecDepth 100000 in
theorem kw_217 : (Jvm.Cond.instantiable "LatticeKeys$KemSet" (10 : Nat)) ∈ WG := wgr_1 217 (by rfl) (by rfl)
set_option maxRecDepth 100000 in
theorem kw_218 : (Jvm.Cond.methodLink "LatticeKeys" (65 : Nat) ({ cls := "LatticeKeys$KemSet", name := "<init>", desc := "(I)V" } : Jvm.MethodName)) ∈ WG := wgr_1 218 (by rfl) (by rfl)
set_option maxRecDepth 100000 in
theorem kw_219 : (Jvm.Cond.instanceMethod ({ cls := "LatticeKeys$KemSet", name := "<init>", desc := "(I)V" } : Jvm.MethodName)) ∈ WG := wgr_1 219 (by rfl) (by rfl)
set_option maxRecDepth 100000 in
theorem kw_220 : (Jvm.Cond.code ({ cls := "LatticeKeys$KemSet", name := "<init>", desc := "(I)V" } : Jvm.MethodName) prog_7_method_1_code (2 : Nat) (Option.none : Option Jvm.ClassFile.FieldType)) ∈ WG := wgr_1 220 (by rfl) (by rfl)
set_option maxRecDepth 100000 in
theorem kw_221 : (Jvm.Cond.methodLink "LatticeKeys$KemSet" (1 : Nat) ({ cls := "java/lang/Object", name := "<init>", desc := "()V" } : Jvm.MethodName)) ∈ WG := wgr_1 221 (by rfl) (by rfl)
set_option maxRecDepth 100000 in
theorem kw_222 : (Jvm.Cond.fieldLink "LatticeKeys$KemSet" (7 : Nat) "LatticeKeys$KemSet" "RANKS" "[I") ∈ WG := wgr_1 222 (by rfl) (by rfl)
set_option maxRecDepth 100000 in
theorem kw_224 : (Jvm.Cond.fieldLink "LatticeKeys$KemSet" (17 : Nat) "LatticeKeys$KemSet" "SECRET_NOISES" "[I") ∈ WG := wgr_1 224 (by rfl) (by rfl)
set_option maxRecDepth 100000 in
theorem kw_226 : (Jvm.Cond.fieldLink "LatticeKeys$KemSet" (23 : Nat) "LatticeKeys$KemSet" "VECTOR_BITS" "[I") ∈ WG := wgr_1 226 (by rfl) (by rfl)
set_option maxRecDepth 100000 in
theorem kw_228 : (Jvm.Cond.fieldLink "LatticeKeys$KemSet" (29 : Nat) "LatticeKeys$KemSet" "VALUE_BITS" "[I") ∈ WG := wgr_1 228 (by rfl) (by rfl)
set_option maxRecDepth 100000 in
theorem kw_230 : (Jvm.Cond.fieldLink "LatticeKeys$KemSet" (13 : Nat) "LatticeKeys$KemSet" "rank" "I") ∈ WG := wgr_1 230 (by rfl) (by rfl)
set_option maxRecDepth 100000 in
theorem kw_231 : (Jvm.Cond.fieldLink "LatticeKeys$Kem" (61 : Nat) "LatticeKeys$KemSet" "rank" "I") ∈ WG := wgr_1 231 (by rfl) (by rfl)
set_option maxRecDepth 100000 in
theorem kw_232 : (Jvm.Cond.fieldLink "LatticeKeys$KemSet" (20 : Nat) "LatticeKeys$KemSet" "secretNoise" "I") ∈ WG := wgr_1 232 (by rfl) (by rfl)
set_option maxRecDepth 100000 in
theorem kw_233 : (Jvm.Cond.fieldLink "LatticeKeys$Kem" (85 : Nat) "LatticeKeys$KemSet" "secretNoise" "I") ∈ WG := wgr_1 233 (by rfl) (by rfl)
set_option maxRecDepth 100000 in
theorem kw_234 : (Jvm.Cond.fieldLink "LatticeKeys$KemSet" (26 : Nat) "LatticeKeys$KemSet" "vectorBits" "I") ∈ WG := wgr_1 234 (by rfl) (by rfl)
set_option maxRecDepth 100000 in
theorem kw_235 : (Jvm.Cond.fieldLink "LatticeKeys$Kem" (160 : Nat) "LatticeKeys$KemSet" "vectorBits" "I") ∈ WG := wgr_1 235 (by rfl) (by rfl)
set_option maxRecDepth 100000 in
theorem kw_236 : (Jvm.Cond.fieldLink "LatticeKeys$KemSet" (32 : Nat) "LatticeKeys$KemSet" "valueBits" "I") ∈ WG := wgr_1 236 (by rfl) (by rfl)
set_option maxRecDepth 100000 in
theorem kw_237 : (Jvm.Cond.fieldLink "LatticeKeys$Kem" (172 : Nat) "LatticeKeys$KemSet" "valueBits" "I") ∈ WG := wgr_1 237 (by rfl) (by rfl)
set_option maxRecDepth 100000 in
theorem kw_238 : (Jvm.Cond.fieldLink "LatticeKeys$KemSet" (37 : Nat) "LatticeKeys$KemSet" "publicLength" "I") ∈ WG := wgr_1 238 (by rfl) (by rfl)
set_option maxRecDepth 100000 in
theorem kw_239 : (Jvm.Cond.fieldLink "LatticeKeys$Kem" (76 : Nat) "LatticeKeys$KemSet" "publicLength" "I") ∈ WG := wgr_1 239 (by rfl) (by rfl)
set_option maxRecDepth 100000 in
theorem kw_240 : (Jvm.Cond.fieldLink "LatticeKeys" (243 : Nat) "LatticeKeys$KemSet" "publicLength" "I") ∈ WG := wgr_2 0 (by rfl) (by rfl)
set_option maxRecDepth 100000 in
theorem kw_241 : (Jvm.Cond.fieldLink "LatticeKeys$KemSet" (52 : Nat) "LatticeKeys$KemSet" "secretLength" "I") ∈ WG := wgr_2 1 (by rfl) (by rfl)
set_option maxRecDepth 100000 in
theorem kw_242 : (Jvm.Cond.fieldLink "LatticeKeys" (246 : Nat) "LatticeKeys$KemSet" "secretLength" "I") ∈ WG := wgr_2 2 (by rfl) (by rfl)
set_option maxRecDepth 100000 in
theorem kw_243 : (Jvm.Cond.fieldLink "LatticeKeys$KemSet" (40 : Nat) "LatticeKeys$KemSet" "cipherLength" "I") ∈ WG := wgr_2 3 (by rfl) (by rfl)
set_option maxRecDepth 100000 in
theorem kw_244 : (Jvm.Cond.fieldLink "LatticeKeys$Kem" (130 : Nat) "LatticeKeys$KemSet" "cipherLength" "I") ∈ WG := wgr_2 4 (by rfl) (by rfl)
set_option maxRecDepth 100000 in
theorem kw_245 : (Jvm.Cond.fieldLink "LatticeKeys" (189 : Nat) "LatticeKeys$KemSet" "cipherLength" "I") ∈ WG := wgr_2 5 (by rfl) (by rfl)
set_option maxRecDepth 100000 in
theorem kw_246 : (Jvm.Cond.fieldLink "LatticeKeys$KemSet" (43 : Nat) "LatticeKeys$KemSet" "publicPlace" "I") ∈ WG := wgr_2 6 (by rfl) (by rfl)
set_option maxRecDepth 100000 in
theorem kw_247 : (Jvm.Cond.fieldLink "LatticeKeys$Kem" (110 : Nat) "LatticeKeys$KemSet" "publicPlace" "I") ∈ WG := wgr_2 7 (by rfl) (by rfl)
set_option maxRecDepth 100000 in
theorem kw_248 : (Jvm.Cond.fieldLink "LatticeKeys" (256 : Nat) "LatticeKeys$KemSet" "publicPlace" "I") ∈ WG := wgr_2 8 (by rfl) (by rfl)
set_option maxRecDepth 100000 in
theorem kw_249 : (Jvm.Cond.fieldLink "LatticeKeys$KemSet" (46 : Nat) "LatticeKeys$KemSet" "hashPlace" "I") ∈ WG := wgr_2 9 (by rfl) (by rfl)
set_option maxRecDepth 100000 in
theorem kw_250 : (Jvm.Cond.fieldLink "LatticeKeys$Kem" (116 : Nat) "LatticeKeys$KemSet" "hashPlace" "I") ∈ WG := wgr_2 10 (by rfl) (by rfl)
set_option maxRecDepth 100000 in
theorem kw_251 : (Jvm.Cond.fieldLink "LatticeKeys$KemSet" (49 : Nat) "LatticeKeys$KemSet" "refusalPlace" "I") ∈ WG := wgr_2 11 (by rfl) (by rfl)
set_option maxRecDepth 100000 in
theorem kw_252 : (Jvm.Cond.fieldLink "LatticeKeys$Kem" (119 : Nat) "LatticeKeys$KemSet" "refusalPlace" "I") ∈ WG := wgr_2 12 (by rfl) (by rfl)
set_option maxRecDepth 100000 in
theorem kw_253 : (Jvm.Cond.laysFinal "LatticeKeys$KemSet" "LatticeKeys$KemSet" "rank" "I") ∈ WG := wgr_2 13 (by rfl) (by rfl)
set_option maxRecDepth 100000 in
theorem kw_255 : (Jvm.Cond.laysFinal "LatticeKeys$KemSet" "LatticeKeys$KemSet" "secretNoise" "I") ∈ WG := wgr_2 15 (by rfl) (by rfl)
set_option maxRecDepth 100000 in
theorem kw_257 : (Jvm.Cond.laysFinal "LatticeKeys$KemSet" "LatticeKeys$KemSet" "vectorBits" "I") ∈ WG := wgr_2 17 (by rfl) (by rfl)
set_option maxRecDepth 100000 in
theorem kw_259 : (Jvm.Cond.laysFinal "LatticeKeys$KemSet" "LatticeKeys$KemSet" "valueBits" "I") ∈ WG := wgr_2 19 (by rfl) (by rfl)
set_option maxRecDepth 100000 in
theorem kw_261 : (Jvm.Cond.laysFinal "LatticeKeys$KemSet" "LatticeKeys$KemSet" "publicLength" "I") ∈ WG := wgr_2 21 (by rfl) (by rfl)
set_option maxRecDepth 100000 in
theorem kw_263 : (Jvm.Cond.laysFinal "LatticeKeys$KemSet" "LatticeKeys$KemSet" "secretLength" "I") ∈ WG := wgr_2 23 (by rfl) (by rfl)
set_option maxRecDepth 100000 in
theorem kw_265 : (Jvm.Cond.laysFinal "LatticeKeys$KemSet" "LatticeKeys$KemSet" "cipherLength" "I") ∈ WG := wgr_2 25 (by rfl) (by rfl)
set_option maxRecDepth 100000 in
theorem kw_267 : (Jvm.Cond.laysFinal "LatticeKeys$KemSet" "LatticeKeys$KemSet" "publicPlace" "I") ∈ WG := wgr_2 27 (by rfl) (by rfl)
set_option maxRecDepth 100000 in
theorem kw_269 : (Jvm.Cond.laysFinal "LatticeKeys$KemSet" "LatticeKeys$KemSet" "hashPlace" "I") ∈ WG := wgr_2 29 (by rfl) (by rfl)
set_option maxRecDepth 100000 in
theorem kw_271 : (Jvm.Cond.laysFinal "LatticeKeys$KemSet" "LatticeKeys$KemSet" "refusalPlace" "I") ∈ WG := wgr_2 31 (by rfl) (by rfl)
set_option maxRecDepth 100000 in
theorem kw_274 : (Jvm.Cond.instantiable "LatticeKeys$DsaSet" (17 : Nat)) ∈ WG := wgr_2 34 (by rfl) (by rfl)
set_option maxRecDepth 100000 in
theorem kw_275 : (Jvm.Cond.methodLink "LatticeKeys" (68 : Nat) ({ cls := "LatticeKeys$DsaSet", name := "<init>", desc := "(I)V" } : Jvm.MethodName)) ∈ WG := wgr_2 35 (by rfl) (by rfl)
set_option maxRecDepth 100000 in
theorem kw_276 : (Jvm.Cond.instanceMethod ({ cls := "LatticeKeys$DsaSet", name := "<init>", desc := "(I)V" } : Jvm.MethodName)) ∈ WG := wgr_2 36 (by rfl) (by rfl)
set_option maxRecDepth 100000 in
theorem kw_277 : (Jvm.Cond.code ({ cls := "LatticeKeys$DsaSet", name := "<init>", desc := "(I)V" } : Jvm.MethodName) prog_5_method_1_code (2 : Nat) (Option.none : Option Jvm.ClassFile.FieldType)) ∈ WG := wgr_2 37 (by rfl) (by rfl)
set_option maxRecDepth 100000 in
theorem kw_278 : (Jvm.Cond.methodLink "LatticeKeys$DsaSet" (1 : Nat) ({ cls := "java/lang/Object", name := "<init>", desc := "()V" } : Jvm.MethodName)) ∈ WG := wgr_2 38 (by rfl) (by rfl)
set_option maxRecDepth 100000 in
theorem kw_279 : (Jvm.Cond.fieldLink "LatticeKeys$DsaSet" (7 : Nat) "LatticeKeys$DsaSet" "ROWS" "[I") ∈ WG := wgr_2 39 (by rfl) (by rfl)
set_option maxRecDepth 100000 in
theorem kw_281 : (Jvm.Cond.fieldLink "LatticeKeys$DsaSet" (17 : Nat) "LatticeKeys$DsaSet" "COLUMNS" "[I") ∈ WG := wgr_2 41 (by rfl) (by rfl)
set_option maxRecDepth 100000 in
theorem kw_283 : (Jvm.Cond.fieldLink "LatticeKeys$DsaSet" (23 : Nat) "LatticeKeys$DsaSet" "NOISES" "[I") ∈ WG := wgr_2 43 (by rfl) (by rfl)
set_option maxRecDepth 100000 in
theorem kw_285 : (Jvm.Cond.fieldLink "LatticeKeys$DsaSet" (29 : Nat) "LatticeKeys$DsaSet" "NOISE_BITS" "[I") ∈ WG := wgr_2 45 (by rfl) (by rfl)
set_option maxRecDepth 100000 in
theorem kw_287 : (Jvm.Cond.fieldLink "LatticeKeys$DsaSet" (35 : Nat) "LatticeKeys$DsaSet" "ONES" "[I") ∈ WG := wgr_2 47 (by rfl) (by rfl)
set_option maxRecDepth 100000 in
theorem kw_289 : (Jvm.Cond.fieldLink "LatticeKeys$DsaSet" (41 : Nat) "LatticeKeys$DsaSet" "CHALLENGE_LENGTHS" "[I") ∈ WG := wgr_2 49 (by rfl) (by rfl)
set_option maxRecDepth 100000 in
theorem kw_291 : (Jvm.Cond.fieldLink "LatticeKeys$DsaSet" (47 : Nat) "LatticeKeys$DsaSet" "MASK_BITS" "[I") ∈ WG := wgr_2 51 (by rfl) (by rfl)
set_option maxRecDepth 100000 in
theorem kw_293 : (Jvm.Cond.fieldLink "LatticeKeys$DsaSet" (56 : Nat) "LatticeKeys$DsaSet" "STEPS" "[I") ∈ WG := wgr_2 53 (by rfl) (by rfl)
set_option maxRecDepth 100000 in
theorem kw_295 : (Jvm.Cond.fieldLink "LatticeKeys$DsaSet" (62 : Nat) "LatticeKeys$DsaSet" "STEP_BITS" "[I") ∈ WG := wgr_2 55 (by rfl) (by rfl)
set_option maxRecDepth 100000 in
theorem kw_297 : (Jvm.Cond.constant "LatticeKeys$DsaSet" (70 : Nat) (8380416 : Int32)) ∈ WG := wgr_2 57 (by rfl) (by rfl)
set_option maxRecDepth 100000 in
theorem kw_298 : (Jvm.Cond.fieldLink "LatticeKeys$DsaSet" (74 : Nat) "LatticeKeys$DsaSet" "MOST_HINTS" "[I") ∈ WG := wgr_2 58 (by rfl) (by rfl)
set_option maxRecDepth 100000 in
theorem kw_300 : (Jvm.Cond.fieldLink "LatticeKeys$DsaSet" (13 : Nat) "LatticeKeys$DsaSet" "rows" "I") ∈ WG := wgr_2 60 (by rfl) (by rfl)
set_option maxRecDepth 100000 in
theorem kw_301 : (Jvm.Cond.fieldLink "LatticeKeys$DsaSampler" (20 : Nat) "LatticeKeys$DsaSet" "rows" "I") ∈ WG := wgr_2 61 (by rfl) (by rfl)
set_option maxRecDepth 100000 in
theorem kw_302 : (Jvm.Cond.fieldLink "LatticeKeys$Dsa" (87 : Nat) "LatticeKeys$DsaSet" "rows" "I") ∈ WG := wgr_2 62 (by rfl) (by rfl)
set_option maxRecDepth 100000 in
theorem kw_303 : (Jvm.Cond.fieldLink "LatticeKeys$DsaSet" (20 : Nat) "LatticeKeys$DsaSet" "columns" "I") ∈ WG := wgr_2 63 (by rfl) (by rfl)
set_option maxRecDepth 100000 in
theorem kw_304 : (Jvm.Cond.fieldLink "LatticeKeys$DsaSampler" (26 : Nat) "LatticeKeys$DsaSet" "columns" "I") ∈ WG := wgr_2 64 (by rfl) (by rfl)
set_option maxRecDepth 100000 in
theorem kw_305 : (Jvm.Cond.fieldLink "LatticeKeys$Dsa" (96 : Nat) "LatticeKeys$DsaSet" "columns" "I") ∈ WG := wgr_2 65 (by rfl) (by rfl)
set_option maxRecDepth 100000 in
theorem kw_306 : (Jvm.Cond.fieldLink "LatticeKeys$DsaSet" (26 : Nat) "LatticeKeys$DsaSet" "noise" "I") ∈ WG := wgr_2 66 (by rfl) (by rfl)
set_option maxRecDepth 100000 in
theorem kw_307 : (Jvm.Cond.fieldLink "LatticeKeys$Dsa" (154 : Nat) "LatticeKeys$DsaSet" "noise" "I") ∈ WG := wgr_2 67 (by rfl) (by rfl)
set_option maxRecDepth 100000 in
theorem kw_308 : (Jvm.Cond.fieldLink "LatticeKeys$DsaSampler" (60 : Nat) "LatticeKeys$DsaSet" "noise" "I") ∈ WG := wgr_2 68 (by rfl) (by rfl)
set_option maxRecDepth 100000 in
theorem kw_309 : (Jvm.Cond.fieldLink "LatticeKeys$DsaSet" (32 : Nat) "LatticeKeys$DsaSet" "noiseBits" "I") ∈ WG := wgr_2 69 (by rfl) (by rfl)
set_option maxRecDepth 100000 in
theorem kw_310 : (Jvm.Cond.fieldLink "LatticeKeys$Dsa" (123 : Nat) "LatticeKeys$DsaSet" "noiseBits" "I") ∈ WG := wgr_2 70 (by rfl) (by rfl)
set_option maxRecDepth 100000 in
theorem kw_311 : (Jvm.Cond.fieldLink "LatticeKeys$DsaSet" (38 : Nat) "LatticeKeys$DsaSet" "ones" "I") ∈ WG := wgr_2 71 (by rfl) (by rfl)
set_option maxRecDepth 100000 in
theorem kw_312 : (Jvm.Cond.fieldLink "LatticeKeys$DsaSampler" (88 : Nat) "LatticeKeys$DsaSet" "ones" "I") ∈ WG := wgr_2 72 (by rfl) (by rfl)
set_option maxRecDepth 100000 in
theorem kw_313 : (Jvm.Cond.fieldLink "LatticeKeys$DsaSet" (44 : Nat) "LatticeKeys$DsaSet" "challengeLength" "I") ∈ WG := wgr_2 73 (by rfl) (by rfl)
set_option maxRecDepth 100000 in
theorem kw_314 : (Jvm.Cond.fieldLink "LatticeKeys$DsaSampler" (79 : Nat) "LatticeKeys$DsaSet" "challengeLength" "I") ∈ WG := wgr_2 74 (by rfl) (by rfl)
set_option maxRecDepth 100000 in
theorem kw_315 : (Jvm.Cond.fieldLink "LatticeKeys$Dsa" (220 : Nat) "LatticeKeys$DsaSet" "challengeLength" "I") ∈ WG := wgr_2 75 (by rfl) (by rfl)
set_option maxRecDepth 100000 in
theorem kw_316 : (Jvm.Cond.fieldLink "LatticeKeys$DsaSet" (50 : Nat) "LatticeKeys$DsaSet" "maskBits" "I") ∈ WG := wgr_2 76 (by rfl) (by rfl)
set_option maxRecDepth 100000 in
theorem kw_317 : (Jvm.Cond.fieldLink "LatticeKeys$DsaSampler" (67 : Nat) "LatticeKeys$DsaSet" "maskBits" "I") ∈ WG := wgr_2 77 (by rfl) (by rfl)
set_option maxRecDepth 100000 in
theorem kw_318 : (Jvm.Cond.fieldLink "LatticeKeys$Dsa" (255 : Nat) "LatticeKeys$DsaSet" "maskBits" "I") ∈ WG := wgr_2 78 (by rfl) (by rfl)
set_option maxRecDepth 100000 in
theorem kw_319 : (Jvm.Cond.fieldLink "LatticeKeys$DsaSet" (53 : Nat) "LatticeKeys$DsaSet" "maskTop" "I") ∈ WG := wgr_2 79 (by rfl) (by rfl)
set_option maxRecDepth 100000 in
theorem kw_320 : (Jvm.Cond.fieldLink "LatticeKeys$Dsa" (202 : Nat) "LatticeKeys$DsaSet" "maskTop" "I") ∈ WG := wgr_2 80 (by rfl) (by rfl)
set_option maxRecDepth 100000 in
theorem kw_321 : (Jvm.Cond.fieldLink "LatticeKeys$DsaSet" (59 : Nat) "LatticeKeys$DsaSet" "steps" "I") ∈ WG := wgr_2 81 (by rfl) (by rfl)
set_option maxRecDepth 100000 in
theorem kw_322 : (Jvm.Cond.fieldLink "LatticeKeys$DsaSet" (65 : Nat) "LatticeKeys$DsaSet" "stepBits" "I") ∈ WG := wgr_2 82 (by rfl) (by rfl)
set_option maxRecDepth 100000 in
theorem kw_323 : (Jvm.Cond.fieldLink "LatticeKeys$Dsa" (227 : Nat) "LatticeKeys$DsaSet" "stepBits" "I") ∈ WG := wgr_2 83 (by rfl) (by rfl)
set_option maxRecDepth 100000 in
theorem kw_324 : (Jvm.Cond.fieldLink "LatticeKeys$DsaSet" (71 : Nat) "LatticeKeys$DsaSet" "halfStep" "I") ∈ WG := wgr_2 84 (by rfl) (by rfl)
set_option maxRecDepth 100000 in
theorem kw_325 : (Jvm.Cond.fieldLink "LatticeKeys$Dsa" (240 : Nat) "LatticeKeys$DsaSet" "halfStep" "I") ∈ WG := wgr_2 85 (by rfl) (by rfl)
set_option maxRecDepth 100000 in
theorem kw_326 : (Jvm.Cond.fieldLink "LatticeKeys$DsaSet" (77 : Nat) "LatticeKeys$DsaSet" "mostHints" "I") ∈ WG := wgr_2 86 (by rfl) (by rfl)
set_option maxRecDepth 100000 in
theorem kw_327 : (Jvm.Cond.fieldLink "LatticeKeys$Dsa" (252 : Nat) "LatticeKeys$DsaSet" "mostHints" "I") ∈ WG := wgr_2 87 (by rfl) (by rfl)
set_option maxRecDepth 100000 in
theorem kw_328 : (Jvm.Cond.fieldLink "LatticeKeys$DsaSet" (80 : Nat) "LatticeKeys$DsaSet" "slack" "I") ∈ WG := wgr_2 88 (by rfl) (by rfl)
set_option maxRecDepth 100000 in
theorem kw_329 : (Jvm.Cond.fieldLink "LatticeKeys$Dsa" (233 : Nat) "LatticeKeys$DsaSet" "slack" "I") ∈ WG := wgr_2 89 (by rfl) (by rfl)
set_option maxRecDepth 100000 in
theorem kw_330 : (Jvm.Cond.fieldLink "LatticeKeys$DsaSet" (83 : Nat) "LatticeKeys$DsaSet" "publicLength" "I") ∈ WG := wgr_2 90 (by rfl) (by rfl)
set_option maxRecDepth 100000 in
theorem kw_331 : (Jvm.Cond.fieldLink "LatticeKeys" (245 : Nat) "LatticeKeys$DsaSet" "publicLength" "I") ∈ WG := wgr_2 91 (by rfl) (by rfl)
set_option maxRecDepth 100000 in
theorem kw_332 : (Jvm.Cond.fieldLink "LatticeKeys$DsaSet" (86 : Nat) "LatticeKeys$DsaSet" "secretLength" "I") ∈ WG := wgr_2 92 (by rfl) (by rfl)
set_option maxRecDepth 100000 in
theorem kw_333 : (Jvm.Cond.fieldLink "LatticeKeys" (248 : Nat) "LatticeKeys$DsaSet" "secretLength" "I") ∈ WG := wgr_2 93 (by rfl) (by rfl)
set_option maxRecDepth 100000 in
theorem kw_334 : (Jvm.Cond.fieldLink "LatticeKeys$DsaSet" (89 : Nat) "LatticeKeys$DsaSet" "hintPlace" "I") ∈ WG := wgr_2 94 (by rfl) (by rfl)
set_option maxRecDepth 100000 in
theorem kw_335 : (Jvm.Cond.fieldLink "LatticeKeys$Dsa" (258 : Nat) "LatticeKeys$DsaSet" "hintPlace" "I") ∈ WG := wgr_2 95 (by rfl) (by rfl)
set_option maxRecDepth 100000 in
theorem kw_336 : (Jvm.Cond.fieldLink "LatticeKeys$DsaSet" (92 : Nat) "LatticeKeys$DsaSet" "signatureLength" "I") ∈ WG := wgr_2 96 (by rfl) (by rfl)
set_option maxRecDepth 100000 in
theorem kw_337 : (Jvm.Cond.fieldLink "LatticeKeys" (217 : Nat) "LatticeKeys$DsaSet" "signatureLength" "I") ∈ WG := wgr_2 97 (by rfl) (by rfl)
set_option maxRecDepth 100000 in
theorem kw_338 : (Jvm.Cond.fieldLink "LatticeKeys$Dsa" (265 : Nat) "LatticeKeys$DsaSet" "signatureLength" "I") ∈ WG := wgr_2 98 (by rfl) (by rfl)
set_option maxRecDepth 100000 in
theorem kw_339 : (Jvm.Cond.laysFinal "LatticeKeys$DsaSet" "LatticeKeys$DsaSet" "rows" "I") ∈ WG := wgr_2 99 (by rfl) (by rfl)
set_option maxRecDepth 100000 in
theorem kw_341 : (Jvm.Cond.laysFinal "LatticeKeys$DsaSet" "LatticeKeys$DsaSet" "columns" "I") ∈ WG := wgr_2 101 (by rfl) (by rfl)
set_option maxRecDepth 100000 in
theorem kw_343 : (Jvm.Cond.laysFinal "LatticeKeys$DsaSet" "LatticeKeys$DsaSet" "noise" "I") ∈ WG := wgr_2 103 (by rfl) (by rfl)
set_option maxRecDepth 100000 in
theorem kw_345 : (Jvm.Cond.laysFinal "LatticeKeys$DsaSet" "LatticeKeys$DsaSet" "noiseBits" "I") ∈ WG := wgr_2 105 (by rfl) (by rfl)
set_option maxRecDepth 100000 in
theorem kw_347 : (Jvm.Cond.laysFinal "LatticeKeys$DsaSet" "LatticeKeys$DsaSet" "ones" "I") ∈ WG := wgr_2 107 (by rfl) (by rfl)
set_option maxRecDepth 100000 in
theorem kw_349 : (Jvm.Cond.laysFinal "LatticeKeys$DsaSet" "LatticeKeys$DsaSet" "challengeLength" "I") ∈ WG := wgr_2 109 (by rfl) (by rfl)
set_option maxRecDepth 100000 in
theorem kw_351 : (Jvm.Cond.laysFinal "LatticeKeys$DsaSet" "LatticeKeys$DsaSet" "maskBits" "I") ∈ WG := wgr_2 111 (by rfl) (by rfl)
set_option maxRecDepth 100000 in
theorem kw_353 : (Jvm.Cond.laysFinal "LatticeKeys$DsaSet" "LatticeKeys$DsaSet" "maskTop" "I") ∈ WG := wgr_2 113 (by rfl) (by rfl)
set_option maxRecDepth 100000 in
theorem kw_355 : (Jvm.Cond.laysFinal "LatticeKeys$DsaSet" "LatticeKeys$DsaSet" "steps" "I") ∈ WG := wgr_2 115 (by rfl) (by rfl)
set_option maxRecDepth 100000 in
theorem kw_357 : (Jvm.Cond.laysFinal "LatticeKeys$DsaSet" "LatticeKeys$DsaSet" "stepBits" "I") ∈ WG := wgr_2 117 (by rfl) (by rfl)
set_option maxRecDepth 100000 in
theorem kw_359 : (Jvm.Cond.laysFinal "LatticeKeys$DsaSet" "LatticeKeys$DsaSet" "halfStep" "I") ∈ WG := wgr_2 119 (by rfl) (by rfl)
set_option maxRecDepth 100000 in
theorem kw_361 : (Jvm.Cond.laysFinal "LatticeKeys$DsaSet" "LatticeKeys$DsaSet" "mostHints" "I") ∈ WG := wgr_2 121 (by rfl) (by rfl)
set_option maxRecDepth 100000 in
theorem kw_363 : (Jvm.Cond.laysFinal "LatticeKeys$DsaSet" "LatticeKeys$DsaSet" "slack" "I") ∈ WG := wgr_2 123 (by rfl) (by rfl)
set_option maxRecDepth 100000 in
theorem kw_365 : (Jvm.Cond.laysFinal "LatticeKeys$DsaSet" "LatticeKeys$DsaSet" "publicLength" "I") ∈ WG := wgr_2 125 (by rfl) (by rfl)
set_option maxRecDepth 100000 in
theorem kw_367 : (Jvm.Cond.laysFinal "LatticeKeys$DsaSet" "LatticeKeys$DsaSet" "secretLength" "I") ∈ WG := wgr_2 127 (by rfl) (by rfl)
set_option maxRecDepth 100000 in
theorem kw_369 : (Jvm.Cond.laysFinal "LatticeKeys$DsaSet" "LatticeKeys$DsaSet" "hintPlace" "I") ∈ WG := wgr_2 129 (by rfl) (by rfl)
set_option maxRecDepth 100000 in
theorem kw_371 : (Jvm.Cond.laysFinal "LatticeKeys$DsaSet" "LatticeKeys$DsaSet" "signatureLength" "I") ∈ WG := wgr_2 131 (by rfl) (by rfl)
set_option maxRecDepth 100000 in
theorem kw_374 : (Jvm.Cond.fieldLink "LatticeKeys" (9 : Nat) "LatticeKeys" "tape" "[B") ∈ WG := wgr_2 134 (by rfl) (by rfl)
set_option maxRecDepth 100000 in
theorem kw_375 : (Jvm.Cond.fieldLink "LatticeKeys" (13 : Nat) "LatticeKeys" "tapeLength" "I") ∈ WG := wgr_2 135 (by rfl) (by rfl)
set_option maxRecDepth 100000 in
theorem kw_376 : (Jvm.Cond.fieldLink "LatticeKeys" (17 : Nat) "LatticeKeys" "answer" "[B") ∈ WG := wgr_2 136 (by rfl) (by rfl)
set_option maxRecDepth 100000 in
theorem kw_377 : (Jvm.Cond.fieldLink "LatticeKeys" (20 : Nat) "LatticeKeys" "answerLength" "I") ∈ WG := wgr_2 137 (by rfl) (by rfl)
set_option maxRecDepth 100000 in
theorem kw_378 : (Jvm.Cond.fieldLink "LatticeKeys" (25 : Nat) "LatticeKeys" "pairs" "[LLatticeKeys$KeyPair;") ∈ WG := wgr_2 138 (by rfl) (by rfl)
set_option maxRecDepth 100000 in
theorem kw_379 : (Jvm.Cond.fieldLink "LatticeKeys" (29 : Nat) "LatticeKeys" "pairCount" "I") ∈ WG := wgr_2 139 (by rfl) (by rfl)
set_option maxRecDepth 100000 in
theorem kw_380 : (Jvm.Cond.fieldLink "LatticeKeys" (34 : Nat) "LatticeKeys" "kemSets" "[LLatticeKeys$KemSet;") ∈ WG := wgr_2 140 (by rfl) (by rfl)
set_option maxRecDepth 100000 in
theorem kw_381 : (Jvm.Cond.fieldLink "LatticeKeys" (40 : Nat) "LatticeKeys" "dsaSets" "[LLatticeKeys$DsaSet;") ∈ WG := wgr_2 141 (by rfl) (by rfl)
set_option maxRecDepth 100000 in
theorem kw_382 : (Jvm.Cond.fieldLink "LatticeKeys" (47 : Nat) "LatticeKeys" "sponge" "LLatticeKeys$Sponge;") ∈ WG := wgr_2 142 (by rfl) (by rfl)
set_option maxRecDepth 100000 in
theorem kw_383 : (Jvm.Cond.fieldLink "LatticeKeys" (54 : Nat) "LatticeKeys" "kem" "LLatticeKeys$Kem;") ∈ WG := wgr_2 143 (by rfl) (by rfl)
set_option maxRecDepth 100000 in
theorem kw_384 : (Jvm.Cond.fieldLink "LatticeKeys" (61 : Nat) "LatticeKeys" "dsa" "LLatticeKeys$Dsa;") ∈ WG := wgr_2 144 (by rfl) (by rfl)
set_option maxRecDepth 100000 in
theorem kw_385 : (Jvm.Cond.laysFinal "LatticeKeys" "LatticeKeys" "tape" "[B") ∈ WG := wgr_2 145 (by rfl) (by rfl)
set_option maxRecDepth 100000 in
theorem kw_387 : (Jvm.Cond.lays "LatticeKeys" "LatticeKeys" "tapeLength" "I") ∈ WG := wgr_2 147 (by rfl) (by rfl)
set_option maxRecDepth 100000 in
theorem kw_389 : (Jvm.Cond.laysFinal "LatticeKeys" "LatticeKeys" "answer" "[B") ∈ WG := wgr_2 149 (by rfl) (by rfl)
set_option maxRecDepth 100000 in
theorem kw_391 : (Jvm.Cond.lays "LatticeKeys" "LatticeKeys" "answerLength" "I") ∈ WG := wgr_2 151 (by rfl) (by rfl)
set_option maxRecDepth 100000 in
theorem kw_393 : (Jvm.Cond.laysFinal "LatticeKeys" "LatticeKeys" "pairs" "[LLatticeKeys$KeyPair;") ∈ WG := wgr_2 153 (by rfl) (by rfl)
set_option maxRecDepth 100000 in
theorem kw_395 : (Jvm.Cond.lays "LatticeKeys" "LatticeKeys" "pairCount" "I") ∈ WG := wgr_2 155 (by rfl) (by rfl)
set_option maxRecDepth 100000 in
theorem kw_397 : (Jvm.Cond.laysFinal "LatticeKeys" "LatticeKeys" "kemSets" "[LLatticeKeys$KemSet;") ∈ WG := wgr_2 157 (by rfl) (by rfl)
set_option maxRecDepth 100000 in
theorem kw_399 : (Jvm.Cond.laysFinal "LatticeKeys" "LatticeKeys" "dsaSets" "[LLatticeKeys$DsaSet;") ∈ WG := wgr_2 159 (by rfl) (by rfl)
set_option maxRecDepth 100000 in
theorem kw_401 : (Jvm.Cond.laysFinal "LatticeKeys" "LatticeKeys" "sponge" "LLatticeKeys$Sponge;") ∈ WG := wgr_2 161 (by rfl) (by rfl)
set_option maxRecDepth 100000 in
theorem kw_403 : (Jvm.Cond.laysFinal "LatticeKeys" "LatticeKeys" "kem" "LLatticeKeys$Kem;") ∈ WG := wgr_2 163 (by rfl) (by rfl)
set_option maxRecDepth 100000 in
theorem kw_405 : (Jvm.Cond.laysFinal "LatticeKeys" "LatticeKeys" "dsa" "LLatticeKeys$Dsa;") ∈ WG := wgr_2 165 (by rfl) (by rfl)
set_option maxRecDepth 100000 in
theorem kw_408 : (Jvm.Cond.methodLink "LatticeKeysLaw" (131 : Nat) ({ cls := "LatticeKeys", name := "count", desc := "(I)I" } : Jvm.MethodName)) ∈ WG := wgr_2 168 (by rfl) (by rfl)
set_option maxRecDepth 100000 in
theorem kw_409 : (Jvm.Cond.instanceMethod ({ cls := "LatticeKeys", name := "count", desc := "(I)I" } : Jvm.MethodName)) ∈ WG := wgr_2 169 (by rfl) (by rfl)
set_option maxRecDepth 100000 in
theorem kw_410 : (Jvm.Cond.selects "LatticeKeys" ({ cls := "LatticeKeys", name := "count", desc := "(I)I" } : Jvm.MethodName) ({ cls := "LatticeKeys", name := "count", desc := "(I)I" } : Jvm.MethodName)) ∈ WG := wgr_2 170 (by rfl) (by rfl)
set_option maxRecDepth 100000 in
theorem kw_411 : (Jvm.Cond.code ({ cls := "LatticeKeys", name := "count", desc := "(I)I" } : Jvm.MethodName) prog_1_method_17_code (2 : Nat) (Option.some Jvm.ClassFile.FieldType.int)) ∈ WG := wgr_2 171 (by rfl) (by rfl)
set_option maxRecDepth 100000 in
theorem kw_412 : (Jvm.Cond.methodLink "LatticeKeysLaw" (75 : Nat) ({ cls := "LatticeKeysLaw", name := "feed", desc := "(LLatticeKeys;IIIII[J)I" } : Jvm.MethodName)) ∈ WG := wgr_2 172 (by rfl) (by rfl)
set_option maxRecDepth 100000 in
theorem kw_413 : (Jvm.Cond.static ({ cls := "LatticeKeysLaw", name := "feed", desc := "(LLatticeKeys;IIIII[J)I" } : Jvm.MethodName)) ∈ WG := wgr_2 173 (by rfl) (by rfl)
set_option maxRecDepth 100000 in
theorem kw_415 : (Jvm.Cond.classLink "LatticeKeysLaw" (13 : Nat) "java/lang/IllegalStateException") ∈ WG := wgr_2 175 (by rfl) (by rfl)
set_option maxRecDepth 100000 in
theorem kw_416 : (Jvm.Cond.methodLink "LatticeKeysLaw" (7 : Nat) ({ cls := "LatticeKeys", name := "feed", desc := "(IIIII)I" } : Jvm.MethodName)) ∈ WG := wgr_2 176 (by rfl) (by rfl)
set_option maxRecDepth 100000 in
theorem kw_417 : (Jvm.Cond.instanceMethod ({ cls := "LatticeKeys", name := "feed", desc := "(IIIII)I" } : Jvm.MethodName)) ∈ WG := wgr_2 177 (by rfl) (by rfl)
set_option maxRecDepth 100000 in
theorem kw_418 : (Jvm.Cond.selects "LatticeKeys" ({ cls := "LatticeKeys", name := "feed", desc := "(IIIII)I" } : Jvm.MethodName) ({ cls := "LatticeKeys", name := "feed", desc := "(IIIII)I" } : Jvm.MethodName)) ∈ WG := wgr_2 178 (by rfl) (by rfl)
set_option maxRecDepth 100000 in
theorem kw_419 : (Jvm.Cond.code ({ cls := "LatticeKeys", name := "feed", desc := "(IIIII)I" } : Jvm.MethodName) prog_1_method_2_code (6 : Nat) (Option.some Jvm.ClassFile.FieldType.int)) ∈ WG := wgr_2 179 (by rfl) (by rfl)
set_option maxRecDepth 100000 in
theorem kw_420 : (Jvm.Cond.classLink "LatticeKeys" (69 : Nat) "java/lang/IllegalStateException") ∈ WG := wgr_2 180 (by rfl) (by rfl)
set_option maxRecDepth 100000 in
theorem kw_464 : (Jvm.Cond.methodLink "LatticeKeys" (73 : Nat) ({ cls := "java/lang/IllegalStateException", name := "<init>", desc := "(Ljava/lang/String;)V" } : Jvm.MethodName)) ∈ WG := wgr_2 224 (by rfl) (by rfl)
set_option maxRecDepth 100000 in
theorem kw_489 : (Jvm.Cond.methodLink "LatticeKeys" (76 : Nat) ({ cls := "LatticeKeys", name := "writeNumber", desc := "(I)V" } : Jvm.MethodName)) ∈ WG := wgr_3 9 (by rfl) (by rfl)
set_option maxRecDepth 100000 in
theorem kw_491 : (Jvm.Cond.instanceMethod ({ cls := "LatticeKeys", name := "writeNumber", desc := "(I)V" } : Jvm.MethodName)) ∈ WG := wgr_3 11 (by rfl) (by rfl)
set_option maxRecDepth 100000 in
theorem kw_492 : (Jvm.Cond.code ({ cls := "LatticeKeys", name := "writeNumber", desc := "(I)V" } : Jvm.MethodName) prog_1_method_18_code (2 : Nat) (Option.none : Option Jvm.ClassFile.FieldType)) ∈ WG := wgr_3 12 (by rfl) (by rfl)
set_option maxRecDepth 100000 in
theorem kw_493 : (Jvm.Cond.methodLink "LatticeKeysLaw" (81 : Nat) ({ cls := "LatticeKeysLaw", name := "end", desc := "(LLatticeKeys;I[J)I" } : Jvm.MethodName)) ∈ WG := wgr_3 13 (by rfl) (by rfl)
set_option maxRecDepth 100000 in
theorem kw_494 : (Jvm.Cond.static ({ cls := "LatticeKeysLaw", name := "end", desc := "(LLatticeKeys;I[J)I" } : Jvm.MethodName)) ∈ WG := wgr_3 14 (by rfl) (by rfl)
set_option maxRecDepth 100000 in
theorem kw_496 : (Jvm.Cond.classLink "LatticeKeysLaw" (19 : Nat) "java/lang/IllegalArgumentException") ∈ WG := wgr_3 16 (by rfl) (by rfl)
set_option maxRecDepth 100000 in
theorem kw_497 : (Jvm.Cond.methodLink "LatticeKeysLaw" (15 : Nat) ({ cls := "LatticeKeys", name := "end", desc := "(I)I" } : Jvm.MethodName)) ∈ WG := wgr_3 17 (by rfl) (by rfl)
set_option maxRecDepth 100000 in
theorem kw_498 : (Jvm.Cond.instanceMethod ({ cls := "LatticeKeys", name := "end", desc := "(I)I" } : Jvm.MethodName)) ∈ WG := wgr_3 18 (by rfl) (by rfl)
set_option maxRecDepth 100000 in
theorem kw_499 : (Jvm.Cond.selects "LatticeKeys" ({ cls := "LatticeKeys", name := "end", desc := "(I)I" } : Jvm.MethodName) ({ cls := "LatticeKeys", name := "end", desc := "(I)I" } : Jvm.MethodName)) ∈ WG := wgr_3 19 (by rfl) (by rfl)
set_option maxRecDepth 100000 in
theorem kw_500 : (Jvm.Cond.code ({ cls := "LatticeKeys", name := "end", desc := "(I)I" } : Jvm.MethodName) prog_1_method_3_code (2 : Nat) (Option.some Jvm.ClassFile.FieldType.int)) ∈ WG := wgr_3 20 (by rfl) (by rfl)
set_option maxRecDepth 100000 in
theorem kw_501 : (Jvm.Cond.classLink "LatticeKeys" (79 : Nat) "java/lang/IllegalArgumentException") ∈ WG := wgr_3 21 (by rfl) (by rfl)
set_option maxRecDepth 100000 in
theorem kw_511 : (Jvm.Cond.methodLink "LatticeKeys" (83 : Nat) ({ cls := "java/lang/IllegalArgumentException", name := "<init>", desc := "(Ljava/lang/String;)V" } : Jvm.MethodName)) ∈ WG := wgr_3 31 (by rfl) (by rfl)
set_option maxRecDepth 100000 in
theorem kw_517 : (Jvm.Cond.methodLink "LatticeKeysLaw" (85 : Nat) ({ cls := "LatticeKeysLaw", name := "again", desc := "(LLatticeKeys;[J)I" } : Jvm.MethodName)) ∈ WG := wgr_3 37 (by rfl) (by rfl)
set_option maxRecDepth 100000 in
theorem kw_518 : (Jvm.Cond.static ({ cls := "LatticeKeysLaw", name := "again", desc := "(LLatticeKeys;[J)I" } : Jvm.MethodName)) ∈ WG := wgr_3 38 (by rfl) (by rfl)
set_option maxRecDepth 100000 in
theorem kw_520 : (Jvm.Cond.methodLink "LatticeKeysLaw" (21 : Nat) ({ cls := "LatticeKeys", name := "again", desc := "()I" } : Jvm.MethodName)) ∈ WG := wgr_3 40 (by rfl) (by rfl)
set_option maxRecDepth 100000 in
theorem kw_521 : (Jvm.Cond.instanceMethod ({ cls := "LatticeKeys", name := "again", desc := "()I" } : Jvm.MethodName)) ∈ WG := wgr_3 41 (by rfl) (by rfl)
set_option maxRecDepth 100000 in
theorem kw_522 : (Jvm.Cond.selects "LatticeKeys" ({ cls := "LatticeKeys", name := "again", desc := "()I" } : Jvm.MethodName) ({ cls := "LatticeKeys", name := "again", desc := "()I" } : Jvm.MethodName)) ∈ WG := wgr_3 42 (by rfl) (by rfl)
set_option maxRecDepth 100000 in
theorem kw_523 : (Jvm.Cond.code ({ cls := "LatticeKeys", name := "again", desc := "()I" } : Jvm.MethodName) prog_1_method_4_code (1 : Nat) (Option.some Jvm.ClassFile.FieldType.int)) ∈ WG := wgr_3 43 (by rfl) (by rfl)
set_option maxRecDepth 100000 in
theorem kw_524 : (Jvm.Cond.methodLink "LatticeKeys" (84 : Nat) ({ cls := "java/lang/System", name := "arraycopy", desc := "(Ljava/lang/Object;ILjava/lang/Object;II)V" } : Jvm.MethodName)) ∈ WG := wgr_3 44 (by rfl) (by rfl)
set_option maxRecDepth 100000 in
theorem kw_525 : (Jvm.Cond.static ({ cls := "java/lang/System", name := "arraycopy", desc := "(Ljava/lang/Object;ILjava/lang/Object;II)V" } : Jvm.MethodName)) ∈ WG := wgr_3 45 (by rfl) (by rfl)
set_option maxRecDepth 100000 in
theorem kw_526 : (Jvm.Cond.native ({ cls := "java/lang/System", name := "arraycopy", desc := "(Ljava/lang/Object;ILjava/lang/Object;II)V" } : Jvm.MethodName)) ∈ WG := wgr_3 46 (by rfl) (by rfl)
set_option maxRecDepth 100000 in
theorem kw_527 : (Jvm.Cond.methodLink "LatticeKeysLaw" (89 : Nat) ({ cls := "LatticeKeysLaw", name := "alter", desc := "(LLatticeKeys;II[J)I" } : Jvm.MethodName)) ∈ WG := wgr_3 47 (by rfl) (by rfl)
set_option maxRecDepth 100000 in
theorem kw_528 : (Jvm.Cond.static ({ cls := "LatticeKeysLaw", name := "alter", desc := "(LLatticeKeys;II[J)I" } : Jvm.MethodName)) ∈ WG := wgr_3 48 (by rfl) (by rfl)
set_option maxRecDepth 100000 in
theorem kw_530 : (Jvm.Cond.classLink "LatticeKeysLaw" (29 : Nat) "java/lang/IndexOutOfBoundsException") ∈ WG := wgr_3 50 (by rfl) (by rfl)
set_option maxRecDepth 100000 in
theorem kw_531 : (Jvm.Cond.methodLink "LatticeKeysLaw" (25 : Nat) ({ cls := "LatticeKeys", name := "alter", desc := "(II)I" } : Jvm.MethodName)) ∈ WG := wgr_3 51 (by rfl) (by rfl)
set_option maxRecDepth 100000 in
theorem kw_532 : (Jvm.Cond.instanceMethod ({ cls := "LatticeKeys", name := "alter", desc := "(II)I" } : Jvm.MethodName)) ∈ WG := wgr_3 52 (by rfl) (by rfl)
set_option maxRecDepth 100000 in
theorem kw_533 : (Jvm.Cond.selects "LatticeKeys" ({ cls := "LatticeKeys", name := "alter", desc := "(II)I" } : Jvm.MethodName) ({ cls := "LatticeKeys", name := "alter", desc := "(II)I" } : Jvm.MethodName)) ∈ WG := wgr_3 53 (by rfl) (by rfl)
set_option maxRecDepth 100000 in
theorem kw_534 : (Jvm.Cond.code ({ cls := "LatticeKeys", name := "alter", desc := "(II)I" } : Jvm.MethodName) prog_1_method_5_code (3 : Nat) (Option.some Jvm.ClassFile.FieldType.int)) ∈ WG := wgr_3 54 (by rfl) (by rfl)
set_option maxRecDepth 100000 in
theorem kw_535 : (Jvm.Cond.classLink "LatticeKeys" (90 : Nat) "java/lang/IndexOutOfBoundsException") ∈ WG := wgr_3 55 (by rfl) (by rfl)
set_option maxRecDepth 100000 in
theorem kw_545 : (Jvm.Cond.methodLink "LatticeKeys" (94 : Nat) ({ cls := "java/lang/IndexOutOfBoundsException", name := "<init>", desc := "(Ljava/lang/String;)V" } : Jvm.MethodName)) ∈ WG := wgr_3 65 (by rfl) (by rfl)
set_option maxRecDepth 100000 in
theorem kw_551 : (Jvm.Cond.methodLink "LatticeKeysLaw" (93 : Nat) ({ cls := "LatticeKeysLaw", name := "keys", desc := "(LLatticeKeys;I[J)I" } : Jvm.MethodName)) ∈ WG := wgr_3 71 (by rfl) (by rfl)
set_option maxRecDepth 100000 in
theorem kw_552 : (Jvm.Cond.static ({ cls := "LatticeKeysLaw", name := "keys", desc := "(LLatticeKeys;I[J)I" } : Jvm.MethodName)) ∈ WG := wgr_3 72 (by rfl) (by rfl)
set_option maxRecDepth 100000 in
theorem kw_554 : (Jvm.Cond.methodLink "LatticeKeysLaw" (31 : Nat) ({ cls := "LatticeKeys", name := "keys", desc := "(I)I" } : Jvm.MethodName)) ∈ WG := wgr_3 74 (by rfl) (by rfl)
set_option maxRecDepth 100000 in
theorem kw_555 : (Jvm.Cond.instanceMethod ({ cls := "LatticeKeys", name := "keys", desc := "(I)I" } : Jvm.MethodName)) ∈ WG := wgr_3 75 (by rfl) (by rfl)
set_option maxRecDepth 100000 in
theorem kw_556 : (Jvm.Cond.selects "LatticeKeys" ({ cls := "LatticeKeys", name := "keys", desc := "(I)I" } : Jvm.MethodName) ({ cls := "LatticeKeys", name := "keys", desc := "(I)I" } : Jvm.MethodName)) ∈ WG := wgr_3 76 (by rfl) (by rfl)
set_option maxRecDepth 100000 in
theorem kw_557 : (Jvm.Cond.code ({ cls := "LatticeKeys", name := "keys", desc := "(I)I" } : Jvm.MethodName) prog_1_method_6_code (4 : Nat) (Option.some Jvm.ClassFile.FieldType.int)) ∈ WG := wgr_3 77 (by rfl) (by rfl)
set_option maxRecDepth 100000 in
theorem kw_558 : (Jvm.Cond.methodLink "LatticeKeys" (95 : Nat) ({ cls := "LatticeKeys", name := "isSet", desc := "(I)Z" } : Jvm.MethodName)) ∈ WG := wgr_3 78 (by rfl) (by rfl)
set_option maxRecDepth 100000 in
theorem kw_559 : (Jvm.Cond.static ({ cls := "LatticeKeys", name := "isSet", desc := "(I)Z" } : Jvm.MethodName)) ∈ WG := wgr_3 79 (by rfl) (by rfl)
set_option maxRecDepth 100000 in
theorem kw_560 : (Jvm.Cond.code ({ cls := "LatticeKeys", name := "isSet", desc := "(I)Z" } : Jvm.MethodName) prog_1_method_19_code (1 : Nat) (Option.some Jvm.ClassFile.FieldType.boolean)) ∈ WG := wgr_3 80 (by rfl) (by rfl)
set_option maxRecDepth 100000 in
theorem kw_561 : (Jvm.Cond.methodLink "LatticeKeys" (99 : Nat) ({ cls := "LatticeKeys", name := "seedLength", desc := "(I)I" } : Jvm.MethodName)) ∈ WG := wgr_3 81 (by rfl) (by rfl)
set_option maxRecDepth 100000 in
theorem kw_562 : (Jvm.Cond.static ({ cls := "LatticeKeys", name := "seedLength", desc := "(I)I" } : Jvm.MethodName)) ∈ WG := wgr_3 82 (by rfl) (by rfl)
set_option maxRecDepth 100000 in
theorem kw_563 : (Jvm.Cond.code ({ cls := "LatticeKeys", name := "seedLength", desc := "(I)I" } : Jvm.MethodName) prog_1_method_20_code (1 : Nat) (Option.some Jvm.ClassFile.FieldType.int)) ∈ WG := wgr_3 83 (by rfl) (by rfl)
set_option maxRecDepth 100000 in
theorem kw_566 : (Jvm.Cond.methodLink "LatticeKeys" (107 : Nat) ({ cls := "LatticeKeys", name := "publicLength", desc := "(I)I" } : Jvm.MethodName)) ∈ WG := wgr_3 86 (by rfl) (by rfl)
set_option maxRecDepth 100000 in
theorem kw_568 : (Jvm.Cond.instanceMethod ({ cls := "LatticeKeys", name := "publicLength", desc := "(I)I" } : Jvm.MethodName)) ∈ WG := wgr_3 88 (by rfl) (by rfl)
set_option maxRecDepth 100000 in
theorem kw_569 : (Jvm.Cond.code ({ cls := "LatticeKeys", name := "publicLength", desc := "(I)I" } : Jvm.MethodName) prog_1_method_21_code (2 : Nat) (Option.some Jvm.ClassFile.FieldType.int)) ∈ WG := wgr_3 89 (by rfl) (by rfl)
set_option maxRecDepth 100000 in
theorem kw_570 : (Jvm.Cond.methodLink "LatticeKeys" (110 : Nat) ({ cls := "LatticeKeys", name := "secretLength", desc := "(I)I" } : Jvm.MethodName)) ∈ WG := wgr_3 90 (by rfl) (by rfl)
set_option maxRecDepth 100000 in
theorem kw_572 : (Jvm.Cond.instanceMethod ({ cls := "LatticeKeys", name := "secretLength", desc := "(I)I" } : Jvm.MethodName)) ∈ WG := wgr_3 92 (by rfl) (by rfl)
set_option maxRecDepth 100000 in
theorem kw_573 : (Jvm.Cond.code ({ cls := "LatticeKeys", name := "secretLength", desc := "(I)I" } : Jvm.MethodName) prog_1_method_22_code (2 : Nat) (Option.some Jvm.ClassFile.FieldType.int)) ∈ WG := wgr_3 93 (by rfl) (by rfl)
set_option maxRecDepth 100000 in
theorem kw_574 : (Jvm.Cond.methodLink "LatticeKeys" (113 : Nat) ({ cls := "LatticeKeys$Kem", name := "makePair", desc := "(LLatticeKeys$KemSet;[B[B[B)V" } : Jvm.MethodName)) ∈ WG := wgr_3 94 (by rfl) (by rfl)
set_option maxRecDepth 100000 in
theorem kw_575 : (Jvm.Cond.instanceMethod ({ cls := "LatticeKeys$Kem", name := "makePair", desc := "(LLatticeKeys$KemSet;[B[B[B)V" } : Jvm.MethodName)) ∈ WG := wgr_3 95 (by rfl) (by rfl)
set_option maxRecDepth 100000 in
theorem kw_576 : (Jvm.Cond.selects "LatticeKeys$Kem" ({ cls := "LatticeKeys$Kem", name := "makePair", desc := "(LLatticeKeys$KemSet;[B[B[B)V" } : Jvm.MethodName) ({ cls := "LatticeKeys$Kem", name := "makePair", desc := "(LLatticeKeys$KemSet;[B[B[B)V" } : Jvm.MethodName)) ∈ WG := wgr_3 96 (by rfl) (by rfl)
set_option maxRecDepth 100000 in
theorem kw_577 : (Jvm.Cond.code ({ cls := "LatticeKeys$Kem", name := "makePair", desc := "(LLatticeKeys$KemSet;[B[B[B)V" } : Jvm.MethodName) prog_6_method_2_code (7 : Nat) (Option.none : Option Jvm.ClassFile.FieldType)) ∈ WG := wgr_3 97 (by rfl) (by rfl)
set_option maxRecDepth 100000 in
theorem kw_578 : (Jvm.Cond.methodLink "LatticeKeys$Kem" (53 : Nat) ({ cls := "LatticeKeys$Sponge", name := "start", desc := "(I)V" } : Jvm.MethodName)) ∈ WG := wgr_3 98 (by rfl) (by rfl)
set_option maxRecDepth 100000 in
theorem kw_579 : (Jvm.Cond.instanceMethod ({ cls := "LatticeKeys$Sponge", name := "start", desc := "(I)V" } : Jvm.MethodName)) ∈ WG := wgr_3 99 (by rfl) (by rfl)
set_option maxRecDepth 100000 in
theorem kw_580 : (Jvm.Cond.selects "LatticeKeys$Sponge" ({ cls := "LatticeKeys$Sponge", name := "start", desc := "(I)V" } : Jvm.MethodName) ({ cls := "LatticeKeys$Sponge", name := "start", desc := "(I)V" } : Jvm.MethodName)) ∈ WG := wgr_3 100 (by rfl) (by rfl)
set_option maxRecDepth 100000 in
theorem kw_581 : (Jvm.Cond.code ({ cls := "LatticeKeys$Sponge", name := "start", desc := "(I)V" } : Jvm.MethodName) prog_10_method_2_code (2 : Nat) (Option.none : Option Jvm.ClassFile.FieldType)) ∈ WG := wgr_3 101 (by rfl) (by rfl)
set_option maxRecDepth 100000 in
theorem kw_582 : (Jvm.Cond.methodLink "LatticeKeys$Sponge" (30 : Nat) ({ cls := "java/util/Arrays", name := "fill", desc := "([JJ)V" } : Jvm.MethodName)) ∈ WG := wgr_3 102 (by rfl) (by rfl)
set_option maxRecDepth 100000 in
theorem kw_583 : (Jvm.Cond.static ({ cls := "java/util/Arrays", name := "fill", desc := "([JJ)V" } : Jvm.MethodName)) ∈ WG := wgr_3 103 (by rfl) (by rfl)
set_option maxRecDepth 100000 in
theorem kw_584 : (Jvm.Cond.code ({ cls := "java/util/Arrays", name := "fill", desc := "([JJ)V" } : Jvm.MethodName) prog_33_method_101_code (5 : Nat) (Option.none : Option Jvm.ClassFile.FieldType)) ∈ WG := wgr_3 104 (by rfl) (by rfl)
set_option maxRecDepth 100000 in
theorem kw_585 : (Jvm.Cond.methodLink "LatticeKeys$Kem" (57 : Nat) ({ cls := "LatticeKeys$Sponge", name := "absorb", desc := "([BII)V" } : Jvm.MethodName)) ∈ WG := wgr_3 105 (by rfl) (by rfl)
set_option maxRecDepth 100000 in
theorem kw_586 : (Jvm.Cond.instanceMethod ({ cls := "LatticeKeys$Sponge", name := "absorb", desc := "([BII)V" } : Jvm.MethodName)) ∈ WG := wgr_3 106 (by rfl) (by rfl)
set_option maxRecDepth 100000 in
theorem kw_587 : (Jvm.Cond.selects "LatticeKeys$Sponge" ({ cls := "LatticeKeys$Sponge", name := "absorb", desc := "([BII)V" } : Jvm.MethodName) ({ cls := "LatticeKeys$Sponge", name := "absorb", desc := "([BII)V" } : Jvm.MethodName)) ∈ WG := wgr_3 107 (by rfl) (by rfl)
set_option maxRecDepth 100000 in
theorem kw_588 : (Jvm.Cond.code ({ cls := "LatticeKeys$Sponge", name := "absorb", desc := "([BII)V" } : Jvm.MethodName) prog_10_method_3_code (5 : Nat) (Option.none : Option Jvm.ClassFile.FieldType)) ∈ WG := wgr_3 108 (by rfl) (by rfl)
set_option maxRecDepth 100000 in
theorem kw_589 : (Jvm.Cond.methodLink "LatticeKeys$Sponge" (36 : Nat) ({ cls := "LatticeKeys$Sponge", name := "absorbByte", desc := "(I)V" } : Jvm.MethodName)) ∈ WG := wgr_3 109 (by rfl) (by rfl)
set_option maxRecDepth 100000 in
theorem kw_590 : (Jvm.Cond.instanceMethod ({ cls := "LatticeKeys$Sponge", name := "absorbByte", desc := "(I)V" } : Jvm.MethodName)) ∈ WG := wgr_3 110 (by rfl) (by rfl)
set_option maxRecDepth 100000 in
theorem kw_591 : (Jvm.Cond.selects "LatticeKeys$Sponge" ({ cls := "LatticeKeys$Sponge", name := "absorbByte", desc := "(I)V" } : Jvm.MethodName) ({ cls := "LatticeKeys$Sponge", name := "absorbByte", desc := "(I)V" } : Jvm.MethodName)) ∈ WG := wgr_3 111 (by rfl) (by rfl)
set_option maxRecDepth 100000 in
theorem kw_592 : (Jvm.Cond.code ({ cls := "LatticeKeys$Sponge", name := "absorbByte", desc := "(I)V" } : Jvm.MethodName) prog_10_method_4_code (2 : Nat) (Option.none : Option Jvm.ClassFile.FieldType)) ∈ WG := wgr_3 112 (by rfl) (by rfl)
set_option maxRecDepth 100000 in
theorem kw_593 : (Jvm.Cond.methodLink "LatticeKeys$Sponge" (40 : Nat) ({ cls := "LatticeKeys$Sponge", name := "mixIn", desc := "(II)V" } : Jvm.MethodName)) ∈ WG := wgr_3 113 (by rfl) (by rfl)
set_option maxRecDepth 100000 in
theorem kw_595 : (Jvm.Cond.instanceMethod ({ cls := "LatticeKeys$Sponge", name := "mixIn", desc := "(II)V" } : Jvm.MethodName)) ∈ WG := wgr_3 115 (by rfl) (by rfl)
set_option maxRecDepth 100000 in
theorem kw_596 : (Jvm.Cond.code ({ cls := "LatticeKeys$Sponge", name := "mixIn", desc := "(II)V" } : Jvm.MethodName) prog_10_method_8_code (3 : Nat) (Option.none : Option Jvm.ClassFile.FieldType)) ∈ WG := wgr_3 116 (by rfl) (by rfl)
set_option maxRecDepth 100000 in
theorem kw_597 : (Jvm.Cond.constantLong "LatticeKeys$Sponge" (51 : Nat) (255 : Int64)) ∈ WG := wgr_3 117 (by rfl) (by rfl)
set_option maxRecDepth 100000 in
theorem kw_598 : (Jvm.Cond.methodLink "LatticeKeys$Sponge" (44 : Nat) ({ cls := "LatticeKeys$Sponge", name := "permute", desc := "()V" } : Jvm.MethodName)) ∈ WG := wgr_3 118 (by rfl) (by rfl)
set_option maxRecDepth 100000 in
theorem kw_600 : (Jvm.Cond.instanceMethod ({ cls := "LatticeKeys$Sponge", name := "permute", desc := "()V" } : Jvm.MethodName)) ∈ WG := wgr_3 120 (by rfl) (by rfl)
set_option maxRecDepth 100000 in
theorem kw_601 : (Jvm.Cond.code ({ cls := "LatticeKeys$Sponge", name := "permute", desc := "()V" } : Jvm.MethodName) prog_10_method_9_code (36 : Nat) (Option.none : Option Jvm.ClassFile.FieldType)) ∈ WG := wgr_3 121 (by rfl) (by rfl)
set_option maxRecDepth 100000 in
theorem kw_602 : (Jvm.Cond.fieldLink "LatticeKeys$Sponge" (53 : Nat) "LatticeKeys$Sponge" "PLACES" "[I") ∈ WG := wgr_3 122 (by rfl) (by rfl)
set_option maxRecDepth 100000 in
theorem kw_604 : (Jvm.Cond.fieldLink "LatticeKeys$Sponge" (56 : Nat) "LatticeKeys$Sponge" "TURNS" "[I") ∈ WG := wgr_3 124 (by rfl) (by rfl)
set_option maxRecDepth 100000 in
theorem kw_606 : (Jvm.Cond.constantLong "LatticeKeys$Sponge" (59 : Nat) (-1 : Int64)) ∈ WG := wgr_3 126 (by rfl) (by rfl)
set_option maxRecDepth 100000 in
theorem kw_607 : (Jvm.Cond.fieldLink "LatticeKeys$Sponge" (61 : Nat) "LatticeKeys$Sponge" "ROUND_CONSTANTS" "[J") ∈ WG := wgr_3 127 (by rfl) (by rfl)
set_option maxRecDepth 100000 in
theorem kw_609 : (Jvm.Cond.methodLink "LatticeKeys$Kem" (67 : Nat) ({ cls := "LatticeKeys$Sponge", name := "absorbByte", desc := "(I)V" } : Jvm.MethodName)) ∈ WG := wgr_3 129 (by rfl) (by rfl)
set_option maxRecDepth 100000 in
theorem kw_610 : (Jvm.Cond.methodLink "LatticeKeys$Kem" (70 : Nat) ({ cls := "LatticeKeys$Sponge", name := "finish", desc := "()V" } : Jvm.MethodName)) ∈ WG := wgr_3 130 (by rfl) (by rfl)
set_option maxRecDepth 100000 in
theorem kw_611 : (Jvm.Cond.instanceMethod ({ cls := "LatticeKeys$Sponge", name := "finish", desc := "()V" } : Jvm.MethodName)) ∈ WG := wgr_3 131 (by rfl) (by rfl)
set_option maxRecDepth 100000 in
theorem kw_612 : (Jvm.Cond.selects "LatticeKeys$Sponge" ({ cls := "LatticeKeys$Sponge", name := "finish", desc := "()V" } : Jvm.MethodName) ({ cls := "LatticeKeys$Sponge", name := "finish", desc := "()V" } : Jvm.MethodName)) ∈ WG := wgr_3 132 (by rfl) (by rfl)
set_option maxRecDepth 100000 in
theorem kw_613 : (Jvm.Cond.code ({ cls := "LatticeKeys$Sponge", name := "finish", desc := "()V" } : Jvm.MethodName) prog_10_method_5_code (1 : Nat) (Option.none : Option Jvm.ClassFile.FieldType)) ∈ WG := wgr_3 133 (by rfl) (by rfl)
set_option maxRecDepth 100000 in
theorem kw_614 : (Jvm.Cond.methodLink "LatticeKeys$Kem" (73 : Nat) ({ cls := "LatticeKeys$Sponge", name := "squeeze", desc := "([BII)V" } : Jvm.MethodName)) ∈ WG := wgr_3 134 (by rfl) (by rfl)
set_option maxRecDepth 100000 in
theorem kw_615 : (Jvm.Cond.instanceMethod ({ cls := "LatticeKeys$Sponge", name := "squeeze", desc := "([BII)V" } : Jvm.MethodName)) ∈ WG := wgr_3 135 (by rfl) (by rfl)
set_option maxRecDepth 100000 in
theorem kw_616 : (Jvm.Cond.selects "LatticeKeys$Sponge" ({ cls := "LatticeKeys$Sponge", name := "squeeze", desc := "([BII)V" } : Jvm.MethodName) ({ cls := "LatticeKeys$Sponge", name := "squeeze", desc := "([BII)V" } : Jvm.MethodName)) ∈ WG := wgr_3 136 (by rfl) (by rfl)
set_option maxRecDepth 100000 in
theorem kw_617 : (Jvm.Cond.code ({ cls := "LatticeKeys$Sponge", name := "squeeze", desc := "([BII)V" } : Jvm.MethodName) prog_10_method_6_code (5 : Nat) (Option.none : Option Jvm.ClassFile.FieldType)) ∈ WG := wgr_3 137 (by rfl) (by rfl)
set_option maxRecDepth 100000 in
theorem kw_618 : (Jvm.Cond.methodLink "LatticeKeys$Sponge" (47 : Nat) ({ cls := "LatticeKeys$Sponge", name := "nextByte", desc := "()I" } : Jvm.MethodName)) ∈ WG := wgr_3 138 (by rfl) (by rfl)
set_option maxRecDepth 100000 in
theorem kw_619 : (Jvm.Cond.instanceMethod ({ cls := "LatticeKeys$Sponge", name := "nextByte", desc := "()I" } : Jvm.MethodName)) ∈ WG := wgr_3 139 (by rfl) (by rfl)
set_option maxRecDepth 100000 in
theorem kw_620 : (Jvm.Cond.selects "LatticeKeys$Sponge" ({ cls := "LatticeKeys$Sponge", name := "nextByte", desc := "()I" } : Jvm.MethodName) ({ cls := "LatticeKeys$Sponge", name := "nextByte", desc := "()I" } : Jvm.MethodName)) ∈ WG := wgr_3 140 (by rfl) (by rfl)
set_option maxRecDepth 100000 in
theorem kw_621 : (Jvm.Cond.code ({ cls := "LatticeKeys$Sponge", name := "nextByte", desc := "()I" } : Jvm.MethodName) prog_10_method_7_code (2 : Nat) (Option.some Jvm.ClassFile.FieldType.int)) ∈ WG := wgr_3 141 (by rfl) (by rfl)
set_option maxRecDepth 100000 in
theorem kw_622 : (Jvm.Cond.methodLink "LatticeKeys$Kem" (79 : Nat) ({ cls := "java/lang/System", name := "arraycopy", desc := "(Ljava/lang/Object;ILjava/lang/Object;II)V" } : Jvm.MethodName)) ∈ WG := wgr_3 142 (by rfl) (by rfl)
set_option maxRecDepth 100000 in
theorem kw_623 : (Jvm.Cond.methodLink "LatticeKeys$Kem" (88 : Nat) ({ cls := "LatticeKeys$Kem", name := "sampleNoise", desc := "([III)V" } : Jvm.MethodName)) ∈ WG := wgr_3 143 (by rfl) (by rfl)
set_option maxRecDepth 100000 in
theorem kw_625 : (Jvm.Cond.instanceMethod ({ cls := "LatticeKeys$Kem", name := "sampleNoise", desc := "([III)V" } : Jvm.MethodName)) ∈ WG := wgr_3 145 (by rfl) (by rfl)
set_option maxRecDepth 100000 in
theorem kw_626 : (Jvm.Cond.code ({ cls := "LatticeKeys$Kem", name := "sampleNoise", desc := "([III)V" } : Jvm.MethodName) prog_6_method_12_code (7 : Nat) (Option.none : Option Jvm.ClassFile.FieldType)) ∈ WG := wgr_3 146 (by rfl) (by rfl)
set_option maxRecDepth 100000 in
theorem kw_627 : (Jvm.Cond.methodLink "LatticeKeys$Kem" (144 : Nat) ({ cls := "LatticeKeys$Bits", name := "unpack", desc := "([II[BI)V" } : Jvm.MethodName)) ∈ WG := wgr_3 147 (by rfl) (by rfl)
set_option maxRecDepth 100000 in
theorem kw_628 : (Jvm.Cond.static ({ cls := "LatticeKeys$Bits", name := "unpack", desc := "([II[BI)V" } : Jvm.MethodName)) ∈ WG := wgr_3 148 (by rfl) (by rfl)
set_option maxRecDepth 100000 in
theorem kw_629 : (Jvm.Cond.code ({ cls := "LatticeKeys$Bits", name := "unpack", desc := "([II[BI)V" } : Jvm.MethodName) prog_2_method_3_code (9 : Nat) (Option.none : Option Jvm.ClassFile.FieldType)) ∈ WG := wgr_3 149 (by rfl) (by rfl)
set_option maxRecDepth 100000 in
theorem kw_630 : (Jvm.Cond.methodLink "LatticeKeys$Kem" (183 : Nat) ({ cls := "java/lang/Integer", name := "bitCount", desc := "(I)I" } : Jvm.MethodName)) ∈ WG := wgr_3 150 (by rfl) (by rfl)
set_option maxRecDepth 100000 in
theorem kw_631 : (Jvm.Cond.static ({ cls := "java/lang/Integer", name := "bitCount", desc := "(I)I" } : Jvm.MethodName)) ∈ WG := wgr_3 151 (by rfl) (by rfl)
set_option maxRecDepth 100000 in
theorem kw_632 : (Jvm.Cond.code ({ cls := "java/lang/Integer", name := "bitCount", desc := "(I)I" } : Jvm.MethodName) prog_23_method_49_code (1 : Nat) (Option.some Jvm.ClassFile.FieldType.int)) ∈ WG := wgr_3 152 (by rfl) (by rfl)
set_option maxRecDepth 100000 in
theorem kw_633 : (Jvm.Cond.constant "java/lang/Integer" (265 : Nat) (1431655765 : Int32)) ∈ WG := wgr_3 153 (by rfl) (by rfl)
set_option maxRecDepth 100000 in
theorem kw_634 : (Jvm.Cond.constant "java/lang/Integer" (266 : Nat) (858993459 : Int32)) ∈ WG := wgr_3 154 (by rfl) (by rfl)
set_option maxRecDepth 100000 in
theorem kw_635 : (Jvm.Cond.constant "java/lang/Integer" (267 : Nat) (252645135 : Int32)) ∈ WG := wgr_3 155 (by rfl) (by rfl)
set_option maxRecDepth 100000 in
theorem kw_636 : (Jvm.Cond.methodLink "LatticeKeys$Kem" (92 : Nat) ({ cls := "LatticeKeys$Ring", name := "transform", desc := "([I)V" } : Jvm.MethodName)) ∈ WG := wgr_3 156 (by rfl) (by rfl)
set_option maxRecDepth 100000 in
theorem kw_637 : (Jvm.Cond.instanceMethod ({ cls := "LatticeKeys$Ring", name := "transform", desc := "([I)V" } : Jvm.MethodName)) ∈ WG := wgr_3 157 (by rfl) (by rfl)
set_option maxRecDepth 100000 in
theorem kw_638 : (Jvm.Cond.selects "LatticeKeys$Ring" ({ cls := "LatticeKeys$Ring", name := "transform", desc := "([I)V" } : Jvm.MethodName) ({ cls := "LatticeKeys$Ring", name := "transform", desc := "([I)V" } : Jvm.MethodName)) ∈ WG := wgr_3 158 (by rfl) (by rfl)
set_option maxRecDepth 100000 in
theorem kw_639 : (Jvm.Cond.code ({ cls := "LatticeKeys$Ring", name := "transform", desc := "([I)V" } : Jvm.MethodName) prog_9_method_3_code (6 : Nat) (Option.none : Option Jvm.ClassFile.FieldType)) ∈ WG := wgr_3 159 (by rfl) (by rfl)
set_option maxRecDepth 100000 in
theorem kw_640 : (Jvm.Cond.methodLink "LatticeKeys$Ring" (27 : Nat) ({ cls := "LatticeKeys$Ring", name := "spread", desc := "([IIIJ)V" } : Jvm.MethodName)) ∈ WG := wgr_3 160 (by rfl) (by rfl)
set_option maxRecDepth 100000 in
theorem kw_642 : (Jvm.Cond.instanceMethod ({ cls := "LatticeKeys$Ring", name := "spread", desc := "([IIIJ)V" } : Jvm.MethodName)) ∈ WG := wgr_3 162 (by rfl) (by rfl)
set_option maxRecDepth 100000 in
theorem kw_643 : (Jvm.Cond.code ({ cls := "LatticeKeys$Ring", name := "spread", desc := "([IIIJ)V" } : Jvm.MethodName) prog_9_method_4_code (10 : Nat) (Option.none : Option Jvm.ClassFile.FieldType)) ∈ WG := wgr_3 163 (by rfl) (by rfl)
set_option maxRecDepth 100000 in
theorem kw_644 : (Jvm.Cond.methodLink "LatticeKeys$Kem" (96 : Nat) ({ cls := "LatticeKeys$Bits", name := "pack", desc := "([II[BI)V" } : Jvm.MethodName)) ∈ WG := wgr_3 164 (by rfl) (by rfl)
set_option maxRecDepth 100000 in
theorem kw_645 : (Jvm.Cond.static ({ cls := "LatticeKeys$Bits", name := "pack", desc := "([II[BI)V" } : Jvm.MethodName)) ∈ WG := wgr_3 165 (by rfl) (by rfl)
set_option maxRecDepth 100000 in
theorem kw_646 : (Jvm.Cond.code ({ cls := "LatticeKeys$Bits", name := "pack", desc := "([II[BI)V" } : Jvm.MethodName) prog_2_method_2_code (8 : Nat) (Option.none : Option Jvm.ClassFile.FieldType)) ∈ WG := wgr_3 166 (by rfl) (by rfl)
set_option maxRecDepth 100000 in
theorem kw_647 : (Jvm.Cond.methodLink "LatticeKeys$Kem" (102 : Nat) ({ cls := "LatticeKeys$Kem", name := "sampleEntry", desc := "([BIII)V" } : Jvm.MethodName)) ∈ WG := wgr_3 167 (by rfl) (by rfl)
set_option maxRecDepth 100000 in
theorem kw_649 : (Jvm.Cond.instanceMethod ({ cls := "LatticeKeys$Kem", name := "sampleEntry", desc := "([BIII)V" } : Jvm.MethodName)) ∈ WG := wgr_3 169 (by rfl) (by rfl)
set_option maxRecDepth 100000 in
theorem kw_650 : (Jvm.Cond.code ({ cls := "LatticeKeys$Kem", name := "sampleEntry", desc := "([BIII)V" } : Jvm.MethodName) prog_6_method_11_code (12 : Nat) (Option.none : Option Jvm.ClassFile.FieldType)) ∈ WG := wgr_3 170 (by rfl) (by rfl)
set_option maxRecDepth 100000 in
theorem kw_651 : (Jvm.Cond.constant "LatticeKeys$Kem" (178 : Nat) (1000000 : Int32)) ∈ WG := wgr_3 171 (by rfl) (by rfl)
set_option maxRecDepth 100000 in
theorem kw_652 : (Jvm.Cond.methodLink "LatticeKeys$Kem" (179 : Nat) ({ cls := "LatticeKeys$Sponge", name := "nextByte", desc := "()I" } : Jvm.MethodName)) ∈ WG := wgr_3 172 (by rfl) (by rfl)
set_option maxRecDepth 100000 in
theorem kw_653 : (Jvm.Cond.methodLink "LatticeKeys$Kem" (106 : Nat) ({ cls := "LatticeKeys$Ring", name := "addProduct", desc := "([I[I[I)V" } : Jvm.MethodName)) ∈ WG := wgr_3 173 (by rfl) (by rfl)
set_option maxRecDepth 100000 in
theorem kw_654 : (Jvm.Cond.instanceMethod ({ cls := "LatticeKeys$Ring", name := "addProduct", desc := "([I[I[I)V" } : Jvm.MethodName)) ∈ WG := wgr_3 174 (by rfl) (by rfl)
set_option maxRecDepth 100000 in
theorem kw_655 : (Jvm.Cond.selects "LatticeKeys$Ring" ({ cls := "LatticeKeys$Ring", name := "addProduct", desc := "([I[I[I)V" } : Jvm.MethodName) ({ cls := "LatticeKeys$Ring", name := "addProduct", desc := "([I[I[I)V" } : Jvm.MethodName)) ∈ WG := wgr_3 175 (by rfl) (by rfl)
set_option maxRecDepth 100000 in
theorem kw_656 : (Jvm.Cond.code ({ cls := "LatticeKeys$Ring", name := "addProduct", desc := "([I[I[I)V" } : Jvm.MethodName) prog_9_method_7_code (6 : Nat) (Option.none : Option Jvm.ClassFile.FieldType)) ∈ WG := wgr_3 176 (by rfl) (by rfl)
set_option maxRecDepth 100000 in
theorem kw_657 : (Jvm.Cond.methodLink "LatticeKeys$Ring" (34 : Nat) ({ cls := "LatticeKeys$Ring", name := "addPair", desc := "([I[I[IIJ)V" } : Jvm.MethodName)) ∈ WG := wgr_3 177 (by rfl) (by rfl)
set_option maxRecDepth 100000 in
theorem kw_659 : (Jvm.Cond.instanceMethod ({ cls := "LatticeKeys$Ring", name := "addPair", desc := "([I[I[IIJ)V" } : Jvm.MethodName)) ∈ WG := wgr_3 179 (by rfl) (by rfl)
set_option maxRecDepth 100000 in
theorem kw_660 : (Jvm.Cond.code ({ cls := "LatticeKeys$Ring", name := "addPair", desc := "([I[I[IIJ)V" } : Jvm.MethodName) prog_9_method_8_code (13 : Nat) (Option.none : Option Jvm.ClassFile.FieldType)) ∈ WG := wgr_3 180 (by rfl) (by rfl)
set_option maxRecDepth 100000 in
theorem kw_661 : (Jvm.Cond.methodLink "LatticeKeys$Kem" (113 : Nat) ({ cls := "LatticeKeys$Kem", name := "digestOf", desc := "([BII)V" } : Jvm.MethodName)) ∈ WG := wgr_3 181 (by rfl) (by rfl)
set_option maxRecDepth 100000 in
theorem kw_663 : (Jvm.Cond.instanceMethod ({ cls := "LatticeKeys$Kem", name := "digestOf", desc := "([BII)V" } : Jvm.MethodName)) ∈ WG := wgr_3 183 (by rfl) (by rfl)
set_option maxRecDepth 100000 in
theorem kw_664 : (Jvm.Cond.code ({ cls := "LatticeKeys$Kem", name := "digestOf", desc := "([BII)V" } : Jvm.MethodName) prog_6_method_7_code (4 : Nat) (Option.none : Option Jvm.ClassFile.FieldType)) ∈ WG := wgr_3 184 (by rfl) (by rfl)
set_option maxRecDepth 100000 in
theorem kw_665 : (Jvm.Cond.methodLink "LatticeKeys" (117 : Nat) ({ cls := "LatticeKeys$Dsa", name := "makePair", desc := "(LLatticeKeys$DsaSet;[B[B[B)V" } : Jvm.MethodName)) ∈ WG := wgr_3 185 (by rfl) (by rfl)
set_option maxRecDepth 100000 in
theorem kw_666 : (Jvm.Cond.instanceMethod ({ cls := "LatticeKeys$Dsa", name := "makePair", desc := "(LLatticeKeys$DsaSet;[B[B[B)V" } : Jvm.MethodName)) ∈ WG := wgr_3 186 (by rfl) (by rfl)
set_option maxRecDepth 100000 in
theorem kw_667 : (Jvm.Cond.selects "LatticeKeys$Dsa" ({ cls := "LatticeKeys$Dsa", name := "makePair", desc := "(LLatticeKeys$DsaSet;[B[B[B)V" } : Jvm.MethodName) ({ cls := "LatticeKeys$Dsa", name := "makePair", desc := "(LLatticeKeys$DsaSet;[B[B[B)V" } : Jvm.MethodName)) ∈ WG := wgr_3 187 (by rfl) (by rfl)
set_option maxRecDepth 100000 in
theorem kw_668 : (Jvm.Cond.code ({ cls := "LatticeKeys$Dsa", name := "makePair", desc := "(LLatticeKeys$DsaSet;[B[B[B)V" } : Jvm.MethodName) prog_3_method_2_code (7 : Nat) (Option.none : Option Jvm.ClassFile.FieldType)) ∈ WG := wgr_3 188 (by rfl) (by rfl)
set_option maxRecDepth 100000 in
theorem kw_669 : (Jvm.Cond.methodLink "LatticeKeys$Dsa" (79 : Nat) ({ cls := "LatticeKeys$Sponge", name := "start", desc := "(I)V" } : Jvm.MethodName)) ∈ WG := wgr_3 189 (by rfl) (by rfl)
set_option maxRecDepth 100000 in
theorem kw_670 : (Jvm.Cond.methodLink "LatticeKeys$Dsa" (83 : Nat) ({ cls := "LatticeKeys$Sponge", name := "absorb", desc := "([BII)V" } : Jvm.MethodName)) ∈ WG := wgr_3 190 (by rfl) (by rfl)
set_option maxRecDepth 100000 in
theorem kw_671 : (Jvm.Cond.methodLink "LatticeKeys$Dsa" (93 : Nat) ({ cls := "LatticeKeys$Sponge", name := "absorbByte", desc := "(I)V" } : Jvm.MethodName)) ∈ WG := wgr_3 191 (by rfl) (by rfl)
set_option maxRecDepth 100000 in
theorem kw_672 : (Jvm.Cond.methodLink "LatticeKeys$Dsa" (99 : Nat) ({ cls := "LatticeKeys$Sponge", name := "finish", desc := "()V" } : Jvm.MethodName)) ∈ WG := wgr_3 192 (by rfl) (by rfl)
set_option maxRecDepth 100000 in
theorem kw_673 : (Jvm.Cond.methodLink "LatticeKeys$Dsa" (102 : Nat) ({ cls := "LatticeKeys$Sponge", name := "squeeze", desc := "([BII)V" } : Jvm.MethodName)) ∈ WG := wgr_3 193 (by rfl) (by rfl)
set_option maxRecDepth 100000 in
theorem kw_674 : (Jvm.Cond.methodLink "LatticeKeys$Dsa" (105 : Nat) ({ cls := "java/lang/System", name := "arraycopy", desc := "(Ljava/lang/Object;ILjava/lang/Object;II)V" } : Jvm.MethodName)) ∈ WG := wgr_3 194 (by rfl) (by rfl)
set_option maxRecDepth 100000 in
theorem kw_675 : (Jvm.Cond.methodLink "LatticeKeys$Dsa" (111 : Nat) ({ cls := "LatticeKeys$Dsa", name := "writeSmallVectors", desc := "(LLatticeKeys$DsaSet;[B)V" } : Jvm.MethodName)) ∈ WG := wgr_3 195 (by rfl) (by rfl)
set_option maxRecDepth 100000 in
theorem kw_677 : (Jvm.Cond.instanceMethod ({ cls := "LatticeKeys$Dsa", name := "writeSmallVectors", desc := "(LLatticeKeys$DsaSet;[B)V" } : Jvm.MethodName)) ∈ WG := wgr_3 197 (by rfl) (by rfl)
set_option maxRecDepth 100000 in
theorem kw_678 : (Jvm.Cond.code ({ cls := "LatticeKeys$Dsa", name := "writeSmallVectors", desc := "(LLatticeKeys$DsaSet;[B)V" } : Jvm.MethodName) prog_3_method_3_code (6 : Nat) (Option.none : Option Jvm.ClassFile.FieldType)) ∈ WG := wgr_3 198 (by rfl) (by rfl)
set_option maxRecDepth 100000 in
theorem kw_679 : (Jvm.Cond.methodLink "LatticeKeys$Dsa" (150 : Nat) ({ cls := "LatticeKeys$DsaSampler", name := "sampleSmall", desc := "(LLatticeKeys$DsaSet;[I[BII)V" } : Jvm.MethodName)) ∈ WG := wgr_3 199 (by rfl) (by rfl)
set_option maxRecDepth 100000 in
theorem kw_680 : (Jvm.Cond.instanceMethod ({ cls := "LatticeKeys$DsaSampler", name := "sampleSmall", desc := "(LLatticeKeys$DsaSet;[I[BII)V" } : Jvm.MethodName)) ∈ WG := wgr_3 200 (by rfl) (by rfl)
set_option maxRecDepth 100000 in
theorem kw_681 : (Jvm.Cond.selects "LatticeKeys$DsaSampler" ({ cls := "LatticeKeys$DsaSampler", name := "sampleSmall", desc := "(LLatticeKeys$DsaSet;[I[BII)V" } : Jvm.MethodName) ({ cls := "LatticeKeys$DsaSampler", name := "sampleSmall", desc := "(LLatticeKeys$DsaSet;[I[BII)V" } : Jvm.MethodName)) ∈ WG := wgr_3 201 (by rfl) (by rfl)
set_option maxRecDepth 100000 in
theorem kw_682 : (Jvm.Cond.code ({ cls := "LatticeKeys$DsaSampler", name := "sampleSmall", desc := "(LLatticeKeys$DsaSet;[I[BII)V" } : Jvm.MethodName) prog_4_method_4_code (9 : Nat) (Option.none : Option Jvm.ClassFile.FieldType)) ∈ WG := wgr_3 202 (by rfl) (by rfl)
set_option maxRecDepth 100000 in
theorem kw_683 : (Jvm.Cond.methodLink "LatticeKeys$DsaSampler" (57 : Nat) ({ cls := "LatticeKeys$DsaSampler", name := "startNumbered", desc := "([BII)V" } : Jvm.MethodName)) ∈ WG := wgr_3 203 (by rfl) (by rfl)
set_option maxRecDepth 100000 in
theorem kw_685 : (Jvm.Cond.instanceMethod ({ cls := "LatticeKeys$DsaSampler", name := "startNumbered", desc := "([BII)V" } : Jvm.MethodName)) ∈ WG := wgr_3 205 (by rfl) (by rfl)
set_option maxRecDepth 100000 in
theorem kw_686 : (Jvm.Cond.code ({ cls := "LatticeKeys$DsaSampler", name := "startNumbered", desc := "([BII)V" } : Jvm.MethodName) prog_4_method_7_code (4 : Nat) (Option.none : Option Jvm.ClassFile.FieldType)) ∈ WG := wgr_3 206 (by rfl) (by rfl)
set_option maxRecDepth 100000 in
theorem kw_687 : (Jvm.Cond.methodLink "LatticeKeys$DsaSampler" (33 : Nat) ({ cls := "LatticeKeys$Sponge", name := "start", desc := "(I)V" } : Jvm.MethodName)) ∈ WG := wgr_3 207 (by rfl) (by rfl)
set_option maxRecDepth 100000 in
theorem kw_688 : (Jvm.Cond.methodLink "LatticeKeys$DsaSampler" (37 : Nat) ({ cls := "LatticeKeys$Sponge", name := "absorb", desc := "([BII)V" } : Jvm.MethodName)) ∈ WG := wgr_3 208 (by rfl) (by rfl)
set_option maxRecDepth 100000 in
theorem kw_689 : (Jvm.Cond.methodLink "LatticeKeys$DsaSampler" (41 : Nat) ({ cls := "LatticeKeys$Sponge", name := "absorbByte", desc := "(I)V" } : Jvm.MethodName)) ∈ WG := wgr_3 209 (by rfl) (by rfl)
set_option maxRecDepth 100000 in
theorem kw_690 : (Jvm.Cond.methodLink "LatticeKeys$DsaSampler" (44 : Nat) ({ cls := "LatticeKeys$Sponge", name := "finish", desc := "()V" } : Jvm.MethodName)) ∈ WG := wgr_3 210 (by rfl) (by rfl)
set_option maxRecDepth 100000 in
theorem kw_691 : (Jvm.Cond.constant "LatticeKeys$DsaSampler" (49 : Nat) (1000000 : Int32)) ∈ WG := wgr_3 211 (by rfl) (by rfl)
set_option maxRecDepth 100000 in
theorem kw_692 : (Jvm.Cond.methodLink "LatticeKeys$DsaSampler" (50 : Nat) ({ cls := "LatticeKeys$Sponge", name := "nextByte", desc := "()I" } : Jvm.MethodName)) ∈ WG := wgr_3 212 (by rfl) (by rfl)
set_option maxRecDepth 100000 in
theorem kw_693 : (Jvm.Cond.methodLink "LatticeKeys$DsaSampler" (63 : Nat) ({ cls := "LatticeKeys$DsaSampler", name := "putSmall", desc := "(I[III)I" } : Jvm.MethodName)) ∈ WG := wgr_3 213 (by rfl) (by rfl)
set_option maxRecDepth 100000 in
theorem kw_695 : (Jvm.Cond.instanceMethod ({ cls := "LatticeKeys$DsaSampler", name := "putSmall", desc := "(I[III)I" } : Jvm.MethodName)) ∈ WG := wgr_3 215 (by rfl) (by rfl)
set_option maxRecDepth 100000 in
theorem kw_696 : (Jvm.Cond.code ({ cls := "LatticeKeys$DsaSampler", name := "putSmall", desc := "(I[III)I" } : Jvm.MethodName) prog_4_method_5_code (7 : Nat) (Option.some Jvm.ClassFile.FieldType.int)) ∈ WG := wgr_3 216 (by rfl) (by rfl)
set_option maxRecDepth 100000 in
theorem kw_697 : (Jvm.Cond.constant "LatticeKeys$DsaSampler" (56 : Nat) (8380417 : Int32)) ∈ WG := wgr_3 217 (by rfl) (by rfl)
set_option maxRecDepth 100000 in
theorem kw_698 : (Jvm.Cond.methodLink "LatticeKeys$Dsa" (157 : Nat) ({ cls := "LatticeKeys$Ring", name := "flip", desc := "([II[I)V" } : Jvm.MethodName)) ∈ WG := wgr_3 218 (by rfl) (by rfl)
set_option maxRecDepth 100000 in
theorem kw_699 : (Jvm.Cond.instanceMethod ({ cls := "LatticeKeys$Ring", name := "flip", desc := "([II[I)V" } : Jvm.MethodName)) ∈ WG := wgr_3 219 (by rfl) (by rfl)
set_option maxRecDepth 100000 in
theorem kw_700 : (Jvm.Cond.selects "LatticeKeys$Ring" ({ cls := "LatticeKeys$Ring", name := "flip", desc := "([II[I)V" } : Jvm.MethodName) ({ cls := "LatticeKeys$Ring", name := "flip", desc := "([II[I)V" } : Jvm.MethodName)) ∈ WG := wgr_3 220 (by rfl) (by rfl)
set_option maxRecDepth 100000 in
theorem kw_701 : (Jvm.Cond.code ({ cls := "LatticeKeys$Ring", name := "flip", desc := "([II[I)V" } : Jvm.MethodName) prog_9_method_11_code (6 : Nat) (Option.none : Option Jvm.ClassFile.FieldType)) ∈ WG := wgr_3 221 (by rfl) (by rfl)
set_option maxRecDepth 100000 in
theorem kw_702 : (Jvm.Cond.methodLink "LatticeKeys$Dsa" (140 : Nat) ({ cls := "LatticeKeys$Bits", name := "pack", desc := "([II[BI)V" } : Jvm.MethodName)) ∈ WG := wgr_3 222 (by rfl) (by rfl)
set_option maxRecDepth 100000 in
theorem kw_703 : (Jvm.Cond.methodLink "LatticeKeys$Dsa" (115 : Nat) ({ cls := "LatticeKeys$DsaSampler", name := "expandMatrix", desc := "(LLatticeKeys$DsaSet;[B[[I)V" } : Jvm.MethodName)) ∈ WG := wgr_3 223 (by rfl) (by rfl)
set_option maxRecDepth 100000 in
theorem kw_704 : (Jvm.Cond.instanceMethod ({ cls := "LatticeKeys$DsaSampler", name := "expandMatrix", desc := "(LLatticeKeys$DsaSet;[B[[I)V" } : Jvm.MethodName)) ∈ WG := wgr_3 224 (by rfl) (by rfl)
set_option maxRecDepth 100000 in
theorem kw_705 : (Jvm.Cond.selects "LatticeKeys$DsaSampler" ({ cls := "LatticeKeys$DsaSampler", name := "expandMatrix", desc := "(LLatticeKeys$DsaSet;[B[[I)V" } : Jvm.MethodName) ({ cls := "LatticeKeys$DsaSampler", name := "expandMatrix", desc := "(LLatticeKeys$DsaSet;[B[[I)V" } : Jvm.MethodName)) ∈ WG := wgr_3 225 (by rfl) (by rfl)
set_option maxRecDepth 100000 in
theorem kw_706 : (Jvm.Cond.code ({ cls := "LatticeKeys$DsaSampler", name := "expandMatrix", desc := "(LLatticeKeys$DsaSet;[B[[I)V" } : Jvm.MethodName) prog_4_method_2_code (6 : Nat) (Option.none : Option Jvm.ClassFile.FieldType)) ∈ WG := wgr_3 226 (by rfl) (by rfl)
set_option maxRecDepth 100000 in
theorem kw_707 : (Jvm.Cond.methodLink "LatticeKeys$DsaSampler" (29 : Nat) ({ cls := "LatticeKeys$DsaSampler", name := "sampleEntry", desc := "([I[BII)V" } : Jvm.MethodName)) ∈ WG := wgr_3 227 (by rfl) (by rfl)
set_option maxRecDepth 100000 in
theorem kw_709 : (Jvm.Cond.instanceMethod ({ cls := "LatticeKeys$DsaSampler", name := "sampleEntry", desc := "([I[BII)V" } : Jvm.MethodName)) ∈ WG := wgr_3 229 (by rfl) (by rfl)
set_option maxRecDepth 100000 in
theorem kw_710 : (Jvm.Cond.code ({ cls := "LatticeKeys$DsaSampler", name := "sampleEntry", desc := "([I[BII)V" } : Jvm.MethodName) prog_4_method_3_code (8 : Nat) (Option.none : Option Jvm.ClassFile.FieldType)) ∈ WG := wgr_3 230 (by rfl) (by rfl)
set_option maxRecDepth 100000 in
theorem kw_711 : (Jvm.Cond.methodLink "LatticeKeys$Dsa" (119 : Nat) ({ cls := "LatticeKeys$Ring", name := "transform", desc := "([I)V" } : Jvm.MethodName)) ∈ WG := wgr_3 231 (by rfl) (by rfl)
set_option maxRecDepth 100000 in
theorem kw_712 : (Jvm.Cond.methodLink "LatticeKeys$Dsa" (126 : Nat) ({ cls := "LatticeKeys$Dsa", name := "multiplyRow", desc := "(LLatticeKeys$DsaSet;I[[I)V" } : Jvm.MethodName)) ∈ WG := wgr_3 232 (by rfl) (by rfl)
set_option maxRecDepth 100000 in
theorem kw_714 : (Jvm.Cond.instanceMethod ({ cls := "LatticeKeys$Dsa", name := "multiplyRow", desc := "(LLatticeKeys$DsaSet;I[[I)V" } : Jvm.MethodName)) ∈ WG := wgr_3 234 (by rfl) (by rfl)
set_option maxRecDepth 100000 in
theorem kw_715 : (Jvm.Cond.code ({ cls := "LatticeKeys$Dsa", name := "multiplyRow", desc := "(LLatticeKeys$DsaSet;I[[I)V" } : Jvm.MethodName) prog_3_method_13_code (5 : Nat) (Option.none : Option Jvm.ClassFile.FieldType)) ∈ WG := wgr_3 235 (by rfl) (by rfl)
set_option maxRecDepth 100000 in
theorem kw_716 : (Jvm.Cond.methodLink "LatticeKeys$Dsa" (192 : Nat) ({ cls := "java/util/Arrays", name := "fill", desc := "([II)V" } : Jvm.MethodName)) ∈ WG := wgr_3 236 (by rfl) (by rfl)
set_option maxRecDepth 100000 in
theorem kw_717 : (Jvm.Cond.static ({ cls := "java/util/Arrays", name := "fill", desc := "([II)V" } : Jvm.MethodName)) ∈ WG := wgr_3 237 (by rfl) (by rfl)
set_option maxRecDepth 100000 in
theorem kw_718 : (Jvm.Cond.code ({ cls := "java/util/Arrays", name := "fill", desc := "([II)V" } : Jvm.MethodName) prog_33_method_103_code (4 : Nat) (Option.none : Option Jvm.ClassFile.FieldType)) ∈ WG := wgr_3 238 (by rfl) (by rfl)
set_option maxRecDepth 100000 in
theorem kw_719 : (Jvm.Cond.methodLink "LatticeKeys$Dsa" (205 : Nat) ({ cls := "LatticeKeys$Ring", name := "addProduct", desc := "([I[I[I)V" } : Jvm.MethodName)) ∈ WG := wgr_3 239 (by rfl) (by rfl)
set_option maxRecDepth 100000 in
theorem kw_720 : (Jvm.Cond.methodLink "LatticeKeys$Dsa" (130 : Nat) ({ cls := "LatticeKeys$Ring", name := "restore", desc := "([I)V" } : Jvm.MethodName)) ∈ WG := wgr_4 0 (by rfl) (by rfl)
set_option maxRecDepth 100000 in
theorem kw_721 : (Jvm.Cond.instanceMethod ({ cls := "LatticeKeys$Ring", name := "restore", desc := "([I)V" } : Jvm.MethodName)) ∈ WG := wgr_4 1 (by rfl) (by rfl)
set_option maxRecDepth 100000 in
theorem kw_722 : (Jvm.Cond.selects "LatticeKeys$Ring" ({ cls := "LatticeKeys$Ring", name := "restore", desc := "([I)V" } : Jvm.MethodName) ({ cls := "LatticeKeys$Ring", name := "restore", desc := "([I)V" } : Jvm.MethodName)) ∈ WG := wgr_4 2 (by rfl) (by rfl)
set_option maxRecDepth 100000 in
theorem kw_723 : (Jvm.Cond.code ({ cls := "LatticeKeys$Ring", name := "restore", desc := "([I)V" } : Jvm.MethodName) prog_9_method_5_code (6 : Nat) (Option.none : Option Jvm.ClassFile.FieldType)) ∈ WG := wgr_4 3 (by rfl) (by rfl)
set_option maxRecDepth 100000 in
theorem kw_724 : (Jvm.Cond.methodLink "LatticeKeys$Ring" (31 : Nat) ({ cls := "LatticeKeys$Ring", name := "gather", desc := "([IIIJ)V" } : Jvm.MethodName)) ∈ WG := wgr_4 4 (by rfl) (by rfl)
set_option maxRecDepth 100000 in
theorem kw_726 : (Jvm.Cond.instanceMethod ({ cls := "LatticeKeys$Ring", name := "gather", desc := "([IIIJ)V" } : Jvm.MethodName)) ∈ WG := wgr_4 6 (by rfl) (by rfl)
set_option maxRecDepth 100000 in
theorem kw_727 : (Jvm.Cond.code ({ cls := "LatticeKeys$Ring", name := "gather", desc := "([IIIJ)V" } : Jvm.MethodName) prog_9_method_6_code (9 : Nat) (Option.none : Option Jvm.ClassFile.FieldType)) ∈ WG := wgr_4 7 (by rfl) (by rfl)
set_option maxRecDepth 100000 in
theorem kw_728 : (Jvm.Cond.methodLink "LatticeKeys$Dsa" (133 : Nat) ({ cls := "LatticeKeys$Ring", name := "add", desc := "([I[I)V" } : Jvm.MethodName)) ∈ WG := wgr_4 8 (by rfl) (by rfl)
set_option maxRecDepth 100000 in
theorem kw_729 : (Jvm.Cond.instanceMethod ({ cls := "LatticeKeys$Ring", name := "add", desc := "([I[I)V" } : Jvm.MethodName)) ∈ WG := wgr_4 9 (by rfl) (by rfl)
set_option maxRecDepth 100000 in
theorem kw_730 : (Jvm.Cond.selects "LatticeKeys$Ring" ({ cls := "LatticeKeys$Ring", name := "add", desc := "([I[I)V" } : Jvm.MethodName) ({ cls := "LatticeKeys$Ring", name := "add", desc := "([I[I)V" } : Jvm.MethodName)) ∈ WG := wgr_4 10 (by rfl) (by rfl)
set_option maxRecDepth 100000 in
theorem kw_731 : (Jvm.Cond.code ({ cls := "LatticeKeys$Ring", name := "add", desc := "([I[I)V" } : Jvm.MethodName) prog_9_method_9_code (5 : Nat) (Option.none : Option Jvm.ClassFile.FieldType)) ∈ WG := wgr_4 11 (by rfl) (by rfl)
set_option maxRecDepth 100000 in
theorem kw_732 : (Jvm.Cond.methodLink "LatticeKeys$Dsa" (137 : Nat) ({ cls := "LatticeKeys$Dsa", name := "splitRow", desc := "([I)V" } : Jvm.MethodName)) ∈ WG := wgr_4 12 (by rfl) (by rfl)
set_option maxRecDepth 100000 in
theorem kw_734 : (Jvm.Cond.instanceMethod ({ cls := "LatticeKeys$Dsa", name := "splitRow", desc := "([I)V" } : Jvm.MethodName)) ∈ WG := wgr_4 14 (by rfl) (by rfl)
set_option maxRecDepth 100000 in
theorem kw_735 : (Jvm.Cond.code ({ cls := "LatticeKeys$Dsa", name := "splitRow", desc := "([I)V" } : Jvm.MethodName) prog_3_method_4_code (5 : Nat) (Option.none : Option Jvm.ClassFile.FieldType)) ∈ WG := wgr_4 15 (by rfl) (by rfl)
set_option maxRecDepth 100000 in
theorem kw_736 : (Jvm.Cond.methodLink "LatticeKeys$Dsa" (146 : Nat) ({ cls := "LatticeKeys$Dsa", name := "digestOf", desc := "([B)V" } : Jvm.MethodName)) ∈ WG := wgr_4 16 (by rfl) (by rfl)
set_option maxRecDepth 100000 in
theorem kw_738 : (Jvm.Cond.instanceMethod ({ cls := "LatticeKeys$Dsa", name := "digestOf", desc := "([B)V" } : Jvm.MethodName)) ∈ WG := wgr_4 18 (by rfl) (by rfl)
set_option maxRecDepth 100000 in
theorem kw_739 : (Jvm.Cond.code ({ cls := "LatticeKeys$Dsa", name := "digestOf", desc := "([B)V" } : Jvm.MethodName) prog_3_method_8_code (2 : Nat) (Option.none : Option Jvm.ClassFile.FieldType)) ∈ WG := wgr_4 19 (by rfl) (by rfl)
set_option maxRecDepth 100000 in
theorem kw_740 : (Jvm.Cond.instantiable "LatticeKeys$KeyPair" (3 : Nat)) ∈ WG := wgr_4 20 (by rfl) (by rfl)
set_option maxRecDepth 100000 in
theorem kw_741 : (Jvm.Cond.methodLink "LatticeKeys" (120 : Nat) ({ cls := "LatticeKeys$KeyPair", name := "<init>", desc := "(I[B[B)V" } : Jvm.MethodName)) ∈ WG := wgr_4 21 (by rfl) (by rfl)
set_option maxRecDepth 100000 in
theorem kw_742 : (Jvm.Cond.instanceMethod ({ cls := "LatticeKeys$KeyPair", name := "<init>", desc := "(I[B[B)V" } : Jvm.MethodName)) ∈ WG := wgr_4 22 (by rfl) (by rfl)
set_option maxRecDepth 100000 in
theorem kw_743 : (Jvm.Cond.code ({ cls := "LatticeKeys$KeyPair", name := "<init>", desc := "(I[B[B)V" } : Jvm.MethodName) prog_8_method_1_code (4 : Nat) (Option.none : Option Jvm.ClassFile.FieldType)) ∈ WG := wgr_4 23 (by rfl) (by rfl)
set_option maxRecDepth 100000 in
theorem kw_744 : (Jvm.Cond.methodLink "LatticeKeys$KeyPair" (1 : Nat) ({ cls := "java/lang/Object", name := "<init>", desc := "()V" } : Jvm.MethodName)) ∈ WG := wgr_4 24 (by rfl) (by rfl)
set_option maxRecDepth 100000 in
theorem kw_745 : (Jvm.Cond.fieldLink "LatticeKeys$KeyPair" (7 : Nat) "LatticeKeys$KeyPair" "set" "I") ∈ WG := wgr_4 25 (by rfl) (by rfl)
set_option maxRecDepth 100000 in
theorem kw_746 : (Jvm.Cond.fieldLink "LatticeKeys" (168 : Nat) "LatticeKeys$KeyPair" "set" "I") ∈ WG := wgr_4 26 (by rfl) (by rfl)
set_option maxRecDepth 100000 in
theorem kw_747 : (Jvm.Cond.fieldLink "LatticeKeys$KeyPair" (13 : Nat) "LatticeKeys$KeyPair" "publicPart" "[B") ∈ WG := wgr_4 27 (by rfl) (by rfl)
set_option maxRecDepth 100000 in
theorem kw_748 : (Jvm.Cond.fieldLink "LatticeKeys$Kem" (141 : Nat) "LatticeKeys$KeyPair" "publicPart" "[B") ∈ WG := wgr_4 28 (by rfl) (by rfl)
set_option maxRecDepth 100000 in
theorem kw_749 : (Jvm.Cond.fieldLink "LatticeKeys" (171 : Nat) "LatticeKeys$KeyPair" "publicPart" "[B") ∈ WG := wgr_4 29 (by rfl) (by rfl)
set_option maxRecDepth 100000 in
theorem kw_750 : (Jvm.Cond.fieldLink "LatticeKeys$KeyPair" (17 : Nat) "LatticeKeys$KeyPair" "secretPart" "[B") ∈ WG := wgr_4 30 (by rfl) (by rfl)
set_option maxRecDepth 100000 in
theorem kw_751 : (Jvm.Cond.fieldLink "LatticeKeys$Kem" (133 : Nat) "LatticeKeys$KeyPair" "secretPart" "[B") ∈ WG := wgr_4 31 (by rfl) (by rfl)
set_option maxRecDepth 100000 in
theorem kw_752 : (Jvm.Cond.fieldLink "LatticeKeys" (174 : Nat) "LatticeKeys$KeyPair" "secretPart" "[B") ∈ WG := wgr_4 32 (by rfl) (by rfl)
set_option maxRecDepth 100000 in
theorem kw_753 : (Jvm.Cond.laysFinal "LatticeKeys$KeyPair" "LatticeKeys$KeyPair" "set" "I") ∈ WG := wgr_4 33 (by rfl) (by rfl)
set_option maxRecDepth 100000 in
theorem kw_755 : (Jvm.Cond.laysFinal "LatticeKeys$KeyPair" "LatticeKeys$KeyPair" "publicPart" "[B") ∈ WG := wgr_4 35 (by rfl) (by rfl)
set_option maxRecDepth 100000 in
theorem kw_757 : (Jvm.Cond.laysFinal "LatticeKeys$KeyPair" "LatticeKeys$KeyPair" "secretPart" "[B") ∈ WG := wgr_4 37 (by rfl) (by rfl)
set_option maxRecDepth 100000 in
theorem kw_760 : (Jvm.Cond.methodLink "LatticeKeys" (123 : Nat) ({ cls := "LatticeKeys", name := "keep", desc := "(LLatticeKeys$KeyPair;)I" } : Jvm.MethodName)) ∈ WG := wgr_4 40 (by rfl) (by rfl)
set_option maxRecDepth 100000 in
theorem kw_762 : (Jvm.Cond.instanceMethod ({ cls := "LatticeKeys", name := "keep", desc := "(LLatticeKeys$KeyPair;)I" } : Jvm.MethodName)) ∈ WG := wgr_4 42 (by rfl) (by rfl)
set_option maxRecDepth 100000 in
theorem kw_763 : (Jvm.Cond.code ({ cls := "LatticeKeys", name := "keep", desc := "(LLatticeKeys$KeyPair;)I" } : Jvm.MethodName) prog_1_method_26_code (2 : Nat) (Option.some Jvm.ClassFile.FieldType.int)) ∈ WG := wgr_4 43 (by rfl) (by rfl)
set_option maxRecDepth 100000 in
theorem kw_764 : (Jvm.Cond.methodLink "LatticeKeysLaw" (96 : Nat) ({ cls := "LatticeKeysLaw", name := "load", desc := "(LLatticeKeys;IZ[J)I" } : Jvm.MethodName)) ∈ WG := wgr_4 44 (by rfl) (by rfl)
set_option maxRecDepth 100000 in
theorem kw_765 : (Jvm.Cond.static ({ cls := "LatticeKeysLaw", name := "load", desc := "(LLatticeKeys;IZ[J)I" } : Jvm.MethodName)) ∈ WG := wgr_4 45 (by rfl) (by rfl)
set_option maxRecDepth 100000 in
theorem kw_767 : (Jvm.Cond.classLink "LatticeKeysLaw" (38 : Nat) "java/lang/UnsupportedOperationException") ∈ WG := wgr_4 47 (by rfl) (by rfl)
set_option maxRecDepth 100000 in
theorem kw_768 : (Jvm.Cond.methodLink "LatticeKeysLaw" (34 : Nat) ({ cls := "LatticeKeys", name := "load", desc := "(IZ)I" } : Jvm.MethodName)) ∈ WG := wgr_4 48 (by rfl) (by rfl)
set_option maxRecDepth 100000 in
theorem kw_769 : (Jvm.Cond.instanceMethod ({ cls := "LatticeKeys", name := "load", desc := "(IZ)I" } : Jvm.MethodName)) ∈ WG := wgr_4 49 (by rfl) (by rfl)
set_option maxRecDepth 100000 in
theorem kw_770 : (Jvm.Cond.selects "LatticeKeys" ({ cls := "LatticeKeys", name := "load", desc := "(IZ)I" } : Jvm.MethodName) ({ cls := "LatticeKeys", name := "load", desc := "(IZ)I" } : Jvm.MethodName)) ∈ WG := wgr_4 50 (by rfl) (by rfl)
set_option maxRecDepth 100000 in
theorem kw_771 : (Jvm.Cond.code ({ cls := "LatticeKeys", name := "load", desc := "(IZ)I" } : Jvm.MethodName) prog_1_method_7_code (4 : Nat) (Option.some Jvm.ClassFile.FieldType.int)) ∈ WG := wgr_4 51 (by rfl) (by rfl)
set_option maxRecDepth 100000 in
theorem kw_772 : (Jvm.Cond.methodLink "LatticeKeys" (127 : Nat) ({ cls := "LatticeKeys", name := "isLoadable", desc := "(IZ)Z" } : Jvm.MethodName)) ∈ WG := wgr_4 52 (by rfl) (by rfl)
set_option maxRecDepth 100000 in
theorem kw_774 : (Jvm.Cond.instanceMethod ({ cls := "LatticeKeys", name := "isLoadable", desc := "(IZ)Z" } : Jvm.MethodName)) ∈ WG := wgr_4 54 (by rfl) (by rfl)
set_option maxRecDepth 100000 in
theorem kw_775 : (Jvm.Cond.code ({ cls := "LatticeKeys", name := "isLoadable", desc := "(IZ)Z" } : Jvm.MethodName) prog_1_method_23_code (3 : Nat) (Option.some Jvm.ClassFile.FieldType.boolean)) ∈ WG := wgr_4 55 (by rfl) (by rfl)
set_option maxRecDepth 100000 in
theorem kw_777 : (Jvm.Cond.methodLink "LatticeKeys" (133 : Nat) ({ cls := "LatticeKeys", name := "isSound", desc := "(LLatticeKeys$KemSet;Z)Z" } : Jvm.MethodName)) ∈ WG := wgr_4 57 (by rfl) (by rfl)
set_option maxRecDepth 100000 in
theorem kw_779 : (Jvm.Cond.instanceMethod ({ cls := "LatticeKeys", name := "isSound", desc := "(LLatticeKeys$KemSet;Z)Z" } : Jvm.MethodName)) ∈ WG := wgr_4 59 (by rfl) (by rfl)
set_option maxRecDepth 100000 in
theorem kw_780 : (Jvm.Cond.code ({ cls := "LatticeKeys", name := "isSound", desc := "(LLatticeKeys$KemSet;Z)Z" } : Jvm.MethodName) prog_1_method_24_code (3 : Nat) (Option.some Jvm.ClassFile.FieldType.boolean)) ∈ WG := wgr_4 60 (by rfl) (by rfl)
set_option maxRecDepth 100000 in
theorem kw_781 : (Jvm.Cond.methodLink "LatticeKeys" (249 : Nat) ({ cls := "LatticeKeys$Kem", name := "hashFits", desc := "(LLatticeKeys$KemSet;[B)Z" } : Jvm.MethodName)) ∈ WG := wgr_4 61 (by rfl) (by rfl)
set_option maxRecDepth 100000 in
theorem kw_782 : (Jvm.Cond.instanceMethod ({ cls := "LatticeKeys$Kem", name := "hashFits", desc := "(LLatticeKeys$KemSet;[B)Z" } : Jvm.MethodName)) ∈ WG := wgr_4 62 (by rfl) (by rfl)
set_option maxRecDepth 100000 in
theorem kw_783 : (Jvm.Cond.selects "LatticeKeys$Kem" ({ cls := "LatticeKeys$Kem", name := "hashFits", desc := "(LLatticeKeys$KemSet;[B)Z" } : Jvm.MethodName) ({ cls := "LatticeKeys$Kem", name := "hashFits", desc := "(LLatticeKeys$KemSet;[B)Z" } : Jvm.MethodName)) ∈ WG := wgr_4 63 (by rfl) (by rfl)
set_option maxRecDepth 100000 in
theorem kw_784 : (Jvm.Cond.code ({ cls := "LatticeKeys$Kem", name := "hashFits", desc := "(LLatticeKeys$KemSet;[B)Z" } : Jvm.MethodName) prog_6_method_6_code (4 : Nat) (Option.some Jvm.ClassFile.FieldType.boolean)) ∈ WG := wgr_4 64 (by rfl) (by rfl)
set_option maxRecDepth 100000 in
theorem kw_785 : (Jvm.Cond.methodLink "LatticeKeys" (253 : Nat) ({ cls := "LatticeKeys$Kem", name := "numbersFit", desc := "(LLatticeKeys$KemSet;[B)Z" } : Jvm.MethodName)) ∈ WG := wgr_4 65 (by rfl) (by rfl)
set_option maxRecDepth 100000 in
theorem kw_786 : (Jvm.Cond.instanceMethod ({ cls := "LatticeKeys$Kem", name := "numbersFit", desc := "(LLatticeKeys$KemSet;[B)Z" } : Jvm.MethodName)) ∈ WG := wgr_4 66 (by rfl) (by rfl)
set_option maxRecDepth 100000 in
theorem kw_787 : (Jvm.Cond.selects "LatticeKeys$Kem" ({ cls := "LatticeKeys$Kem", name := "numbersFit", desc := "(LLatticeKeys$KemSet;[B)Z" } : Jvm.MethodName) ({ cls := "LatticeKeys$Kem", name := "numbersFit", desc := "(LLatticeKeys$KemSet;[B)Z" } : Jvm.MethodName)) ∈ WG := wgr_4 67 (by rfl) (by rfl)
set_option maxRecDepth 100000 in
theorem kw_788 : (Jvm.Cond.code ({ cls := "LatticeKeys$Kem", name := "numbersFit", desc := "(LLatticeKeys$KemSet;[B)Z" } : Jvm.MethodName) prog_6_method_5_code (5 : Nat) (Option.some Jvm.ClassFile.FieldType.boolean)) ∈ WG := wgr_4 68 (by rfl) (by rfl)
set_option maxRecDepth 100000 in
theorem kw_789 : (Jvm.Cond.classLink "LatticeKeys" (137 : Nat) "java/lang/UnsupportedOperationException") ∈ WG := wgr_4 69 (by rfl) (by rfl)
set_option maxRecDepth 100000 in
theorem kw_799 : (Jvm.Cond.methodLink "LatticeKeys" (141 : Nat) ({ cls := "java/lang/UnsupportedOperationException", name := "<init>", desc := "(Ljava/lang/String;)V" } : Jvm.MethodName)) ∈ WG := wgr_4 79 (by rfl) (by rfl)
set_option maxRecDepth 100000 in
theorem kw_805 : (Jvm.Cond.methodLink "LatticeKeys" (142 : Nat) ({ cls := "LatticeKeys", name := "secretFromTape", desc := "(I)LLatticeKeys$KeyPair;" } : Jvm.MethodName)) ∈ WG := wgr_4 85 (by rfl) (by rfl)
set_option maxRecDepth 100000 in
theorem kw_807 : (Jvm.Cond.instanceMethod ({ cls := "LatticeKeys", name := "secretFromTape", desc := "(I)LLatticeKeys$KeyPair;" } : Jvm.MethodName)) ∈ WG := wgr_4 87 (by rfl) (by rfl)
set_option maxRecDepth 100000 in
theorem kw_808 : (Jvm.Cond.code ({ cls := "LatticeKeys", name := "secretFromTape", desc := "(I)LLatticeKeys$KeyPair;" } : Jvm.MethodName) prog_1_method_25_code (4 : Nat) (Option.some (Jvm.ClassFile.FieldType.object "LatticeKeys$KeyPair"))) ∈ WG := wgr_4 88 (by rfl) (by rfl)
set_option maxRecDepth 100000 in
theorem kw_809 : (Jvm.Cond.methodLink "LatticeKeys" (259 : Nat) ({ cls := "java/util/Arrays", name := "copyOfRange", desc := "([BII)[B" } : Jvm.MethodName)) ∈ WG := wgr_4 89 (by rfl) (by rfl)
set_option maxRecDepth 100000 in
theorem kw_810 : (Jvm.Cond.static ({ cls := "java/util/Arrays", name := "copyOfRange", desc := "([BII)[B" } : Jvm.MethodName)) ∈ WG := wgr_4 90 (by rfl) (by rfl)
set_option maxRecDepth 100000 in
theorem kw_811 : (Jvm.Cond.code ({ cls := "java/util/Arrays", name := "copyOfRange", desc := "([BII)[B" } : Jvm.MethodName) prog_33_method_132_code (3 : Nat) (Option.some (Jvm.ClassFile.FieldType.array Jvm.ClassFile.FieldType.byte))) ∈ WG := wgr_4 91 (by rfl) (by rfl)
set_option maxRecDepth 100000 in
theorem kw_812 : (Jvm.Cond.methodLink "java/util/Arrays" (339 : Nat) ({ cls := "java/util/Arrays", name := "copyOfRangeByte", desc := "([BII)[B" } : Jvm.MethodName)) ∈ WG := wgr_4 92 (by rfl) (by rfl)
set_option maxRecDepth 100000 in
theorem kw_813 : (Jvm.Cond.static ({ cls := "java/util/Arrays", name := "copyOfRangeByte", desc := "([BII)[B" } : Jvm.MethodName)) ∈ WG := wgr_4 93 (by rfl) (by rfl)
set_option maxRecDepth 100000 in
theorem kw_814 : (Jvm.Cond.code ({ cls := "java/util/Arrays", name := "copyOfRangeByte", desc := "([BII)[B" } : Jvm.MethodName) prog_33_method_133_code (5 : Nat) (Option.some (Jvm.ClassFile.FieldType.array Jvm.ClassFile.FieldType.byte))) ∈ WG := wgr_4 94 (by rfl) (by rfl)
set_option maxRecDepth 100000 in
theorem kw_815 : (Jvm.Cond.methodLink "java/util/Arrays" (343 : Nat) ({ cls := "java/util/Arrays", name := "checkLength", desc := "(II)V" } : Jvm.MethodName)) ∈ WG := wgr_4 95 (by rfl) (by rfl)
set_option maxRecDepth 100000 in
theorem kw_816 : (Jvm.Cond.static ({ cls := "java/util/Arrays", name := "checkLength", desc := "(II)V" } : Jvm.MethodName)) ∈ WG := wgr_4 96 (by rfl) (by rfl)
set_option maxRecDepth 100000 in
theorem kw_817 : (Jvm.Cond.code ({ cls := "java/util/Arrays", name := "checkLength", desc := "(II)V" } : Jvm.MethodName) prog_33_method_131_code (2 : Nat) (Option.none : Option Jvm.ClassFile.FieldType)) ∈ WG := wgr_4 97 (by rfl) (by rfl)
set_option maxRecDepth 100000 in
theorem kw_818 : (Jvm.Cond.classLink "java/util/Arrays" (43 : Nat) "java/lang/IllegalArgumentException") ∈ WG := wgr_4 98 (by rfl) (by rfl)
set_option maxRecDepth 100000 in
theorem kw_819 : (Jvm.Cond.classLink "java/util/Arrays" (45 : Nat) "java/lang/StringBuilder") ∈ WG := wgr_4 99 (by rfl) (by rfl)
set_option maxRecDepth 100000 in
theorem kw_821 : (Jvm.Cond.methodLink "java/util/Arrays" (47 : Nat) ({ cls := "java/lang/StringBuilder", name := "<init>", desc := "()V" } : Jvm.MethodName)) ∈ WG := wgr_4 101 (by rfl) (by rfl)
set_option maxRecDepth 100000 in
theorem kw_850 : (Jvm.Cond.methodLink "java/util/Arrays" (54 : Nat) ({ cls := "java/lang/StringBuilder", name := "append", desc := "(I)Ljava/lang/StringBuilder;" } : Jvm.MethodName)) ∈ WG := wgr_4 130 (by rfl) (by rfl)
set_option maxRecDepth 100000 in
theorem kw_858 : (Jvm.Cond.static ({ cls := "java/lang/Integer", name := "stringSize", desc := "(I)I" } : Jvm.MethodName)) ∈ WG := wgr_4 138 (by rfl) (by rfl)
set_option maxRecDepth 100000 in
theorem kw_859 : (Jvm.Cond.code ({ cls := "java/lang/Integer", name := "stringSize", desc := "(I)I" } : Jvm.MethodName) prog_23_method_13_code (4 : Nat) (Option.some Jvm.ClassFile.FieldType.int)) ∈ WG := wgr_4 139 (by rfl) (by rfl)
set_option maxRecDepth 100000 in
theorem kw_872 : (Jvm.Cond.static ({ cls := "java/lang/Math", name := "max", desc := "(II)I" } : Jvm.MethodName)) ∈ WG := wgr_4 152 (by rfl) (by rfl)
set_option maxRecDepth 100000 in
theorem kw_873 : (Jvm.Cond.code ({ cls := "java/lang/Math", name := "max", desc := "(II)I" } : Jvm.MethodName) prog_24_method_65_code (2 : Nat) (Option.some Jvm.ClassFile.FieldType.int)) ∈ WG := wgr_4 153 (by rfl) (by rfl)
set_option maxRecDepth 100000 in
theorem kw_880 : (Jvm.Cond.static ({ cls := "java/util/Arrays", name := "copyOf", desc := "([BI)[B" } : Jvm.MethodName)) ∈ WG := wgr_4 160 (by rfl) (by rfl)
set_option maxRecDepth 100000 in
theorem kw_881 : (Jvm.Cond.code ({ cls := "java/util/Arrays", name := "copyOf", desc := "([BI)[B" } : Jvm.MethodName) prog_33_method_121_code (3 : Nat) (Option.some (Jvm.ClassFile.FieldType.array Jvm.ClassFile.FieldType.byte))) ∈ WG := wgr_4 161 (by rfl) (by rfl)
set_option maxRecDepth 100000 in
theorem kw_882 : (Jvm.Cond.methodLink "java/util/Arrays" (310 : Nat) ({ cls := "[B", name := "clone", desc := "()Ljava/lang/Object;" } : Jvm.MethodName)) ∈ WG := wgr_4 162 (by rfl) (by rfl)
set_option maxRecDepth 100000 in
theorem kw_885 : (Jvm.Cond.instanceMethod ({ cls := "java/lang/Object", name := "clone", desc := "()Ljava/lang/Object;" } : Jvm.MethodName)) ∈ WG := wgr_4 165 (by rfl) (by rfl)
set_option maxRecDepth 100000 in
theorem kw_888 : (Jvm.Cond.classLink "java/util/Arrays" (311 : Nat) "[B") ∈ WG := wgr_4 168 (by rfl) (by rfl)
set_option maxRecDepth 100000 in
theorem kw_889 : (Jvm.Cond.methodLink "java/util/Arrays" (304 : Nat) ({ cls := "java/lang/Math", name := "min", desc := "(II)I" } : Jvm.MethodName)) ∈ WG := wgr_4 169 (by rfl) (by rfl)
set_option maxRecDepth 100000 in
theorem kw_890 : (Jvm.Cond.static ({ cls := "java/lang/Math", name := "min", desc := "(II)I" } : Jvm.MethodName)) ∈ WG := wgr_4 170 (by rfl) (by rfl)
set_option maxRecDepth 100000 in
theorem kw_891 : (Jvm.Cond.code ({ cls := "java/lang/Math", name := "min", desc := "(II)I" } : Jvm.MethodName) prog_24_method_69_code (2 : Nat) (Option.some Jvm.ClassFile.FieldType.int)) ∈ WG := wgr_4 171 (by rfl) (by rfl)
set_option maxRecDepth 100000 in
theorem kw_892 : (Jvm.Cond.methodLink "java/util/Arrays" (150 : Nat) ({ cls := "java/lang/System", name := "arraycopy", desc := "(Ljava/lang/Object;ILjava/lang/Object;II)V" } : Jvm.MethodName)) ∈ WG := wgr_4 172 (by rfl) (by rfl)
set_option maxRecDepth 100000 in
theorem kw_899 : (Jvm.Cond.static ({ cls := "java/lang/Integer", name := "getChars", desc := "(II[B)I" } : Jvm.MethodName)) ∈ WG := wgr_4 179 (by rfl) (by rfl)
set_option maxRecDepth 100000 in
theorem kw_900 : (Jvm.Cond.code ({ cls := "java/lang/Integer", name := "getChars", desc := "(II[B)I" } : Jvm.MethodName) prog_23_method_12_code (7 : Nat) (Option.some Jvm.ClassFile.FieldType.int)) ∈ WG := wgr_4 180 (by rfl) (by rfl)
set_option maxRecDepth 100000 in
theorem kw_901 : (Jvm.Cond.fieldLink "java/lang/Integer" (83 : Nat) "java/lang/Integer" "DigitOnes" "[B") ∈ WG := wgr_4 181 (by rfl) (by rfl)
set_option maxRecDepth 100000 in
theorem kw_903 : (Jvm.Cond.fieldLink "java/lang/Integer" (87 : Nat) "java/lang/Integer" "DigitTens" "[B") ∈ WG := wgr_4 183 (by rfl) (by rfl)
set_option maxRecDepth 100000 in
theorem kw_937 : (Jvm.Cond.methodLink "java/util/Arrays" (50 : Nat) ({ cls := "java/lang/StringBuilder", name := "append", desc := "(Ljava/lang/String;)Ljava/lang/StringBuilder;" } : Jvm.MethodName)) ∈ WG := wgr_4 217 (by rfl) (by rfl)
set_option maxRecDepth 100000 in
theorem kw_994 : (Jvm.Cond.methodLink "java/util/Arrays" (61 : Nat) ({ cls := "java/lang/StringBuilder", name := "toString", desc := "()Ljava/lang/String;" } : Jvm.MethodName)) ∈ WG := wgr_5 34 (by rfl) (by rfl)
set_option maxRecDepth 100000 in
theorem kw_1046 : (Jvm.Cond.methodLink "java/util/Arrays" (65 : Nat) ({ cls := "java/lang/IllegalArgumentException", name := "<init>", desc := "(Ljava/lang/String;)V" } : Jvm.MethodName)) ∈ WG := wgr_5 86 (by rfl) (by rfl)
set_option maxRecDepth 100000 in
theorem kw_1047 : (Jvm.Cond.methodLink "LatticeKeys" (146 : Nat) ({ cls := "java/util/Arrays", name := "copyOf", desc := "([BI)[B" } : Jvm.MethodName)) ∈ WG := wgr_5 87 (by rfl) (by rfl)
set_option maxRecDepth 100000 in
theorem kw_1048 : (Jvm.Cond.methodLink "LatticeKeysLaw" (100 : Nat) ({ cls := "LatticeKeysLaw", name := "part", desc := "(LLatticeKeys;IZI[J)I" } : Jvm.MethodName)) ∈ WG := wgr_5 88 (by rfl) (by rfl)
set_option maxRecDepth 100000 in
theorem kw_1049 : (Jvm.Cond.static ({ cls := "LatticeKeysLaw", name := "part", desc := "(LLatticeKeys;IZI[J)I" } : Jvm.MethodName)) ∈ WG := wgr_5 89 (by rfl) (by rfl)
set_option maxRecDepth 100000 in
theorem kw_1051 : (Jvm.Cond.classLink "LatticeKeysLaw" (44 : Nat) "java/util/NoSuchElementException") ∈ WG := wgr_5 91 (by rfl) (by rfl)
set_option maxRecDepth 100000 in
theorem kw_1052 : (Jvm.Cond.methodLink "LatticeKeysLaw" (40 : Nat) ({ cls := "LatticeKeys", name := "part", desc := "(IZI)I" } : Jvm.MethodName)) ∈ WG := wgr_5 92 (by rfl) (by rfl)
set_option maxRecDepth 100000 in
theorem kw_1053 : (Jvm.Cond.instanceMethod ({ cls := "LatticeKeys", name := "part", desc := "(IZI)I" } : Jvm.MethodName)) ∈ WG := wgr_5 93 (by rfl) (by rfl)
set_option maxRecDepth 100000 in
theorem kw_1054 : (Jvm.Cond.selects "LatticeKeys" ({ cls := "LatticeKeys", name := "part", desc := "(IZI)I" } : Jvm.MethodName) ({ cls := "LatticeKeys", name := "part", desc := "(IZI)I" } : Jvm.MethodName)) ∈ WG := wgr_5 94 (by rfl) (by rfl)
set_option maxRecDepth 100000 in
theorem kw_1055 : (Jvm.Cond.code ({ cls := "LatticeKeys", name := "part", desc := "(IZI)I" } : Jvm.MethodName) prog_1_method_8_code (5 : Nat) (Option.some Jvm.ClassFile.FieldType.int)) ∈ WG := wgr_5 95 (by rfl) (by rfl)
set_option maxRecDepth 100000 in
theorem kw_1056 : (Jvm.Cond.methodLink "LatticeKeys" (152 : Nat) ({ cls := "LatticeKeys", name := "partOf", desc := "(IZ)[B" } : Jvm.MethodName)) ∈ WG := wgr_5 96 (by rfl) (by rfl)
set_option maxRecDepth 100000 in
theorem kw_1058 : (Jvm.Cond.instanceMethod ({ cls := "LatticeKeys", name := "partOf", desc := "(IZ)[B" } : Jvm.MethodName)) ∈ WG := wgr_5 98 (by rfl) (by rfl)
set_option maxRecDepth 100000 in
theorem kw_1059 : (Jvm.Cond.code ({ cls := "LatticeKeys", name := "partOf", desc := "(IZ)[B" } : Jvm.MethodName) prog_1_method_30_code (4 : Nat) (Option.some (Jvm.ClassFile.FieldType.array Jvm.ClassFile.FieldType.byte))) ∈ WG := wgr_5 99 (by rfl) (by rfl)
set_option maxRecDepth 100000 in
theorem kw_1060 : (Jvm.Cond.methodLink "LatticeKeys" (163 : Nat) ({ cls := "LatticeKeys", name := "find", desc := "(I)LLatticeKeys$KeyPair;" } : Jvm.MethodName)) ∈ WG := wgr_5 100 (by rfl) (by rfl)
set_option maxRecDepth 100000 in
theorem kw_1062 : (Jvm.Cond.instanceMethod ({ cls := "LatticeKeys", name := "find", desc := "(I)LLatticeKeys$KeyPair;" } : Jvm.MethodName)) ∈ WG := wgr_5 102 (by rfl) (by rfl)
set_option maxRecDepth 100000 in
theorem kw_1063 : (Jvm.Cond.code ({ cls := "LatticeKeys", name := "find", desc := "(I)LLatticeKeys$KeyPair;" } : Jvm.MethodName) prog_1_method_27_code (2 : Nat) (Option.some (Jvm.ClassFile.FieldType.object "LatticeKeys$KeyPair"))) ∈ WG := wgr_5 103 (by rfl) (by rfl)
set_option maxRecDepth 100000 in
theorem kw_1064 : (Jvm.Cond.classLink "LatticeKeys" (156 : Nat) "java/util/NoSuchElementException") ∈ WG := wgr_5 104 (by rfl) (by rfl)
set_option maxRecDepth 100000 in
theorem kw_1074 : (Jvm.Cond.methodLink "LatticeKeys" (160 : Nat) ({ cls := "java/util/NoSuchElementException", name := "<init>", desc := "(Ljava/lang/String;)V" } : Jvm.MethodName)) ∈ WG := wgr_5 114 (by rfl) (by rfl)
set_option maxRecDepth 100000 in
theorem kw_1081 : (Jvm.Cond.methodLink "LatticeKeysLaw" (104 : Nat) ({ cls := "LatticeKeysLaw", name := "show", desc := "(LLatticeKeys;IZ[J)I" } : Jvm.MethodName)) ∈ WG := wgr_5 121 (by rfl) (by rfl)
set_option maxRecDepth 100000 in
theorem kw_1082 : (Jvm.Cond.static ({ cls := "LatticeKeysLaw", name := "show", desc := "(LLatticeKeys;IZ[J)I" } : Jvm.MethodName)) ∈ WG := wgr_5 122 (by rfl) (by rfl)
set_option maxRecDepth 100000 in
theorem kw_1084 : (Jvm.Cond.methodLink "LatticeKeysLaw" (46 : Nat) ({ cls := "LatticeKeys", name := "show", desc := "(IZ)I" } : Jvm.MethodName)) ∈ WG := wgr_5 124 (by rfl) (by rfl)
set_option maxRecDepth 100000 in
theorem kw_1085 : (Jvm.Cond.instanceMethod ({ cls := "LatticeKeys", name := "show", desc := "(IZ)I" } : Jvm.MethodName)) ∈ WG := wgr_5 125 (by rfl) (by rfl)
set_option maxRecDepth 100000 in
theorem kw_1086 : (Jvm.Cond.selects "LatticeKeys" ({ cls := "LatticeKeys", name := "show", desc := "(IZ)I" } : Jvm.MethodName) ({ cls := "LatticeKeys", name := "show", desc := "(IZ)I" } : Jvm.MethodName)) ∈ WG := wgr_5 126 (by rfl) (by rfl)
set_option maxRecDepth 100000 in
theorem kw_1087 : (Jvm.Cond.code ({ cls := "LatticeKeys", name := "show", desc := "(IZ)I" } : Jvm.MethodName) prog_1_method_9_code (4 : Nat) (Option.some Jvm.ClassFile.FieldType.int)) ∈ WG := wgr_5 127 (by rfl) (by rfl)
set_option maxRecDepth 100000 in
theorem kw_1088 : (Jvm.Cond.methodLink "LatticeKeysLaw" (107 : Nat) ({ cls := "LatticeKeysLaw", name := "told", desc := "(LLatticeKeys;II[J)I" } : Jvm.MethodName)) ∈ WG := wgr_5 128 (by rfl) (by rfl)
set_option maxRecDepth 100000 in
theorem kw_1089 : (Jvm.Cond.static ({ cls := "LatticeKeysLaw", name := "told", desc := "(LLatticeKeys;II[J)I" } : Jvm.MethodName)) ∈ WG := wgr_5 129 (by rfl) (by rfl)
set_option maxRecDepth 100000 in
theorem kw_1091 : (Jvm.Cond.methodLink "LatticeKeysLaw" (49 : Nat) ({ cls := "LatticeKeys", name := "told", desc := "(II)I" } : Jvm.MethodName)) ∈ WG := wgr_5 131 (by rfl) (by rfl)
set_option maxRecDepth 100000 in
theorem kw_1092 : (Jvm.Cond.instanceMethod ({ cls := "LatticeKeys", name := "told", desc := "(II)I" } : Jvm.MethodName)) ∈ WG := wgr_5 132 (by rfl) (by rfl)
set_option maxRecDepth 100000 in
theorem kw_1093 : (Jvm.Cond.selects "LatticeKeys" ({ cls := "LatticeKeys", name := "told", desc := "(II)I" } : Jvm.MethodName) ({ cls := "LatticeKeys", name := "told", desc := "(II)I" } : Jvm.MethodName)) ∈ WG := wgr_5 133 (by rfl) (by rfl)
set_option maxRecDepth 100000 in
theorem kw_1094 : (Jvm.Cond.code ({ cls := "LatticeKeys", name := "told", desc := "(II)I" } : Jvm.MethodName) prog_1_method_10_code (4 : Nat) (Option.some Jvm.ClassFile.FieldType.int)) ∈ WG := wgr_5 134 (by rfl) (by rfl)
set_option maxRecDepth 100000 in
theorem kw_1097 : (Jvm.Cond.methodLink "LatticeKeysLaw" (113 : Nat) ({ cls := "LatticeKeysLaw", name := "seal", desc := "(LLatticeKeys;I[J)I" } : Jvm.MethodName)) ∈ WG := wgr_5 137 (by rfl) (by rfl)
set_option maxRecDepth 100000 in
theorem kw_1098 : (Jvm.Cond.static ({ cls := "LatticeKeysLaw", name := "seal", desc := "(LLatticeKeys;I[J)I" } : Jvm.MethodName)) ∈ WG := wgr_5 138 (by rfl) (by rfl)
set_option maxRecDepth 100000 in
theorem kw_1100 : (Jvm.Cond.methodLink "LatticeKeysLaw" (52 : Nat) ({ cls := "LatticeKeys", name := "seal", desc := "(I)I" } : Jvm.MethodName)) ∈ WG := wgr_5 140 (by rfl) (by rfl)
set_option maxRecDepth 100000 in
theorem kw_1101 : (Jvm.Cond.instanceMethod ({ cls := "LatticeKeys", name := "seal", desc := "(I)I" } : Jvm.MethodName)) ∈ WG := wgr_5 141 (by rfl) (by rfl)
set_option maxRecDepth 100000 in
theorem kw_1102 : (Jvm.Cond.selects "LatticeKeys" ({ cls := "LatticeKeys", name := "seal", desc := "(I)I" } : Jvm.MethodName) ({ cls := "LatticeKeys", name := "seal", desc := "(I)I" } : Jvm.MethodName)) ∈ WG := wgr_5 142 (by rfl) (by rfl)
set_option maxRecDepth 100000 in
theorem kw_1103 : (Jvm.Cond.code ({ cls := "LatticeKeys", name := "seal", desc := "(I)I" } : Jvm.MethodName) prog_1_method_11_code (4 : Nat) (Option.some Jvm.ClassFile.FieldType.int)) ∈ WG := wgr_5 143 (by rfl) (by rfl)
set_option maxRecDepth 100000 in
theorem kw_1104 : (Jvm.Cond.methodLink "LatticeKeys" (179 : Nat) ({ cls := "LatticeKeys", name := "findKem", desc := "(I)LLatticeKeys$KeyPair;" } : Jvm.MethodName)) ∈ WG := wgr_5 144 (by rfl) (by rfl)
set_option maxRecDepth 100000 in
theorem kw_1106 : (Jvm.Cond.instanceMethod ({ cls := "LatticeKeys", name := "findKem", desc := "(I)LLatticeKeys$KeyPair;" } : Jvm.MethodName)) ∈ WG := wgr_5 146 (by rfl) (by rfl)
set_option maxRecDepth 100000 in
theorem kw_1107 : (Jvm.Cond.code ({ cls := "LatticeKeys", name := "findKem", desc := "(I)LLatticeKeys$KeyPair;" } : Jvm.MethodName) prog_1_method_28_code (3 : Nat) (Option.some (Jvm.ClassFile.FieldType.object "LatticeKeys$KeyPair"))) ∈ WG := wgr_5 147 (by rfl) (by rfl)
set_option maxRecDepth 100000 in
theorem kw_1110 : (Jvm.Cond.methodLink "LatticeKeys" (186 : Nat) ({ cls := "LatticeKeys$Kem", name := "encapsulate", desc := "(LLatticeKeys$KemSet;[B[B[B)V" } : Jvm.MethodName)) ∈ WG := wgr_5 150 (by rfl) (by rfl)
set_option maxRecDepth 100000 in
theorem kw_1111 : (Jvm.Cond.instanceMethod ({ cls := "LatticeKeys$Kem", name := "encapsulate", desc := "(LLatticeKeys$KemSet;[B[B[B)V" } : Jvm.MethodName)) ∈ WG := wgr_5 151 (by rfl) (by rfl)
set_option maxRecDepth 100000 in
theorem kw_1112 : (Jvm.Cond.selects "LatticeKeys$Kem" ({ cls := "LatticeKeys$Kem", name := "encapsulate", desc := "(LLatticeKeys$KemSet;[B[B[B)V" } : Jvm.MethodName) ({ cls := "LatticeKeys$Kem", name := "encapsulate", desc := "(LLatticeKeys$KemSet;[B[B[B)V" } : Jvm.MethodName)) ∈ WG := wgr_5 152 (by rfl) (by rfl)
set_option maxRecDepth 100000 in
theorem kw_1113 : (Jvm.Cond.code ({ cls := "LatticeKeys$Kem", name := "encapsulate", desc := "(LLatticeKeys$KemSet;[B[B[B)V" } : Jvm.MethodName) prog_6_method_3_code (5 : Nat) (Option.none : Option Jvm.ClassFile.FieldType)) ∈ WG := wgr_5 153 (by rfl) (by rfl)
set_option maxRecDepth 100000 in
theorem kw_1114 : (Jvm.Cond.methodLink "LatticeKeys$Kem" (122 : Nat) ({ cls := "LatticeKeys$Kem", name := "deriveSeeds", desc := "([BI)V" } : Jvm.MethodName)) ∈ WG := wgr_5 154 (by rfl) (by rfl)
set_option maxRecDepth 100000 in
theorem kw_1116 : (Jvm.Cond.instanceMethod ({ cls := "LatticeKeys$Kem", name := "deriveSeeds", desc := "([BI)V" } : Jvm.MethodName)) ∈ WG := wgr_5 156 (by rfl) (by rfl)
set_option maxRecDepth 100000 in
theorem kw_1117 : (Jvm.Cond.code ({ cls := "LatticeKeys$Kem", name := "deriveSeeds", desc := "([BI)V" } : Jvm.MethodName) prog_6_method_8_code (3 : Nat) (Option.none : Option Jvm.ClassFile.FieldType)) ∈ WG := wgr_5 157 (by rfl) (by rfl)
set_option maxRecDepth 100000 in
theorem kw_1118 : (Jvm.Cond.methodLink "LatticeKeys$Kem" (126 : Nat) ({ cls := "LatticeKeys$Kem", name := "encrypt", desc := "(LLatticeKeys$KemSet;[B[B)V" } : Jvm.MethodName)) ∈ WG := wgr_5 158 (by rfl) (by rfl)
set_option maxRecDepth 100000 in
theorem kw_1120 : (Jvm.Cond.instanceMethod ({ cls := "LatticeKeys$Kem", name := "encrypt", desc := "(LLatticeKeys$KemSet;[B[B)V" } : Jvm.MethodName)) ∈ WG := wgr_5 160 (by rfl) (by rfl)
set_option maxRecDepth 100000 in
theorem kw_1121 : (Jvm.Cond.code ({ cls := "LatticeKeys$Kem", name := "encrypt", desc := "(LLatticeKeys$KemSet;[B[B)V" } : Jvm.MethodName) prog_6_method_9_code (6 : Nat) (Option.none : Option Jvm.ClassFile.FieldType)) ∈ WG := wgr_5 161 (by rfl) (by rfl)
set_option maxRecDepth 100000 in
theorem kw_1122 : (Jvm.Cond.methodLink "LatticeKeys$Kem" (147 : Nat) ({ cls := "java/util/Arrays", name := "fill", desc := "([II)V" } : Jvm.MethodName)) ∈ WG := wgr_5 162 (by rfl) (by rfl)
set_option maxRecDepth 100000 in
theorem kw_1123 : (Jvm.Cond.methodLink "LatticeKeys$Kem" (153 : Nat) ({ cls := "LatticeKeys$Ring", name := "restore", desc := "([I)V" } : Jvm.MethodName)) ∈ WG := wgr_5 163 (by rfl) (by rfl)
set_option maxRecDepth 100000 in
theorem kw_1124 : (Jvm.Cond.methodLink "LatticeKeys$Kem" (156 : Nat) ({ cls := "LatticeKeys$Ring", name := "add", desc := "([I[I)V" } : Jvm.MethodName)) ∈ WG := wgr_5 164 (by rfl) (by rfl)
set_option maxRecDepth 100000 in
theorem kw_1125 : (Jvm.Cond.methodLink "LatticeKeys$Kem" (163 : Nat) ({ cls := "LatticeKeys$Kem", name := "writeRounded", desc := "([II[BI)V" } : Jvm.MethodName)) ∈ WG := wgr_5 165 (by rfl) (by rfl)
set_option maxRecDepth 100000 in
theorem kw_1127 : (Jvm.Cond.instanceMethod ({ cls := "LatticeKeys$Kem", name := "writeRounded", desc := "([II[BI)V" } : Jvm.MethodName)) ∈ WG := wgr_5 167 (by rfl) (by rfl)
set_option maxRecDepth 100000 in
theorem kw_1128 : (Jvm.Cond.code ({ cls := "LatticeKeys$Kem", name := "writeRounded", desc := "([II[BI)V" } : Jvm.MethodName) prog_6_method_14_code (7 : Nat) (Option.none : Option Jvm.ClassFile.FieldType)) ∈ WG := wgr_5 168 (by rfl) (by rfl)
set_option maxRecDepth 100000 in
theorem kw_1129 : (Jvm.Cond.methodLink "LatticeKeys$Kem" (166 : Nat) ({ cls := "LatticeKeys$Kem", name := "readReduced", desc := "([BI)V" } : Jvm.MethodName)) ∈ WG := wgr_5 169 (by rfl) (by rfl)
set_option maxRecDepth 100000 in
theorem kw_1131 : (Jvm.Cond.instanceMethod ({ cls := "LatticeKeys$Kem", name := "readReduced", desc := "([BI)V" } : Jvm.MethodName)) ∈ WG := wgr_5 171 (by rfl) (by rfl)
set_option maxRecDepth 100000 in
theorem kw_1132 : (Jvm.Cond.code ({ cls := "LatticeKeys$Kem", name := "readReduced", desc := "([BI)V" } : Jvm.MethodName) prog_6_method_13_code (4 : Nat) (Option.none : Option Jvm.ClassFile.FieldType)) ∈ WG := wgr_5 172 (by rfl) (by rfl)
set_option maxRecDepth 100000 in
theorem kw_1133 : (Jvm.Cond.methodLink "LatticeKeys$Kem" (169 : Nat) ({ cls := "LatticeKeys$Kem", name := "readRounded", desc := "([II[BI)V" } : Jvm.MethodName)) ∈ WG := wgr_5 173 (by rfl) (by rfl)
set_option maxRecDepth 100000 in
theorem kw_1135 : (Jvm.Cond.instanceMethod ({ cls := "LatticeKeys$Kem", name := "readRounded", desc := "([II[BI)V" } : Jvm.MethodName)) ∈ WG := wgr_5 175 (by rfl) (by rfl)
set_option maxRecDepth 100000 in
theorem kw_1136 : (Jvm.Cond.code ({ cls := "LatticeKeys$Kem", name := "readRounded", desc := "([II[BI)V" } : Jvm.MethodName) prog_6_method_15_code (6 : Nat) (Option.none : Option Jvm.ClassFile.FieldType)) ∈ WG := wgr_5 176 (by rfl) (by rfl)
set_option maxRecDepth 100000 in
theorem kw_1137 : (Jvm.Cond.methodLink "LatticeKeysLaw" (116 : Nat) ({ cls := "LatticeKeysLaw", name := "open", desc := "(LLatticeKeys;I[J)I" } : Jvm.MethodName)) ∈ WG := wgr_5 177 (by rfl) (by rfl)
set_option maxRecDepth 100000 in
theorem kw_1138 : (Jvm.Cond.static ({ cls := "LatticeKeysLaw", name := "open", desc := "(LLatticeKeys;I[J)I" } : Jvm.MethodName)) ∈ WG := wgr_5 178 (by rfl) (by rfl)
set_option maxRecDepth 100000 in
theorem kw_1140 : (Jvm.Cond.methodLink "LatticeKeysLaw" (55 : Nat) ({ cls := "LatticeKeys", name := "open", desc := "(I)I" } : Jvm.MethodName)) ∈ WG := wgr_5 180 (by rfl) (by rfl)
set_option maxRecDepth 100000 in
theorem kw_1141 : (Jvm.Cond.instanceMethod ({ cls := "LatticeKeys", name := "open", desc := "(I)I" } : Jvm.MethodName)) ∈ WG := wgr_5 181 (by rfl) (by rfl)
set_option maxRecDepth 100000 in
theorem kw_1142 : (Jvm.Cond.selects "LatticeKeys" ({ cls := "LatticeKeys", name := "open", desc := "(I)I" } : Jvm.MethodName) ({ cls := "LatticeKeys", name := "open", desc := "(I)I" } : Jvm.MethodName)) ∈ WG := wgr_5 182 (by rfl) (by rfl)
set_option maxRecDepth 100000 in
theorem kw_1143 : (Jvm.Cond.code ({ cls := "LatticeKeys", name := "open", desc := "(I)I" } : Jvm.MethodName) prog_1_method_12_code (4 : Nat) (Option.some Jvm.ClassFile.FieldType.int)) ∈ WG := wgr_5 183 (by rfl) (by rfl)
set_option maxRecDepth 100000 in
theorem kw_1146 : (Jvm.Cond.methodLink "LatticeKeys" (196 : Nat) ({ cls := "LatticeKeys$Kem", name := "decapsulate", desc := "(LLatticeKeys$KemSet;LLatticeKeys$KeyPair;[B[B)V" } : Jvm.MethodName)) ∈ WG := wgr_5 186 (by rfl) (by rfl)
set_option maxRecDepth 100000 in
theorem kw_1147 : (Jvm.Cond.instanceMethod ({ cls := "LatticeKeys$Kem", name := "decapsulate", desc := "(LLatticeKeys$KemSet;LLatticeKeys$KeyPair;[B[B)V" } : Jvm.MethodName)) ∈ WG := wgr_5 187 (by rfl) (by rfl)
set_option maxRecDepth 100000 in
theorem kw_1148 : (Jvm.Cond.selects "LatticeKeys$Kem" ({ cls := "LatticeKeys$Kem", name := "decapsulate", desc := "(LLatticeKeys$KemSet;LLatticeKeys$KeyPair;[B[B)V" } : Jvm.MethodName) ({ cls := "LatticeKeys$Kem", name := "decapsulate", desc := "(LLatticeKeys$KemSet;LLatticeKeys$KeyPair;[B[B)V" } : Jvm.MethodName)) ∈ WG := wgr_5 188 (by rfl) (by rfl)
set_option maxRecDepth 100000 in
theorem kw_1149 : (Jvm.Cond.code ({ cls := "LatticeKeys$Kem", name := "decapsulate", desc := "(LLatticeKeys$KemSet;LLatticeKeys$KeyPair;[B[B)V" } : Jvm.MethodName) prog_6_method_4_code (7 : Nat) (Option.none : Option Jvm.ClassFile.FieldType)) ∈ WG := wgr_5 189 (by rfl) (by rfl)
set_option maxRecDepth 100000 in
theorem kw_1150 : (Jvm.Cond.methodLink "LatticeKeys$Kem" (138 : Nat) ({ cls := "LatticeKeys$Kem", name := "decrypt", desc := "(LLatticeKeys$KemSet;[B[B)V" } : Jvm.MethodName)) ∈ WG := wgr_5 190 (by rfl) (by rfl)
set_option maxRecDepth 100000 in
theorem kw_1152 : (Jvm.Cond.instanceMethod ({ cls := "LatticeKeys$Kem", name := "decrypt", desc := "(LLatticeKeys$KemSet;[B[B)V" } : Jvm.MethodName)) ∈ WG := wgr_5 192 (by rfl) (by rfl)
set_option maxRecDepth 100000 in
theorem kw_1153 : (Jvm.Cond.code ({ cls := "LatticeKeys$Kem", name := "decrypt", desc := "(LLatticeKeys$KemSet;[B[B)V" } : Jvm.MethodName) prog_6_method_10_code (5 : Nat) (Option.none : Option Jvm.ClassFile.FieldType)) ∈ WG := wgr_5 193 (by rfl) (by rfl)
set_option maxRecDepth 100000 in
theorem kw_1154 : (Jvm.Cond.methodLink "LatticeKeys$Kem" (175 : Nat) ({ cls := "LatticeKeys$Ring", name := "subtract", desc := "([I[I)V" } : Jvm.MethodName)) ∈ WG := wgr_5 194 (by rfl) (by rfl)
set_option maxRecDepth 100000 in
theorem kw_1155 : (Jvm.Cond.instanceMethod ({ cls := "LatticeKeys$Ring", name := "subtract", desc := "([I[I)V" } : Jvm.MethodName)) ∈ WG := wgr_5 195 (by rfl) (by rfl)
set_option maxRecDepth 100000 in
theorem kw_1156 : (Jvm.Cond.selects "LatticeKeys$Ring" ({ cls := "LatticeKeys$Ring", name := "subtract", desc := "([I[I)V" } : Jvm.MethodName) ({ cls := "LatticeKeys$Ring", name := "subtract", desc := "([I[I)V" } : Jvm.MethodName)) ∈ WG := wgr_5 196 (by rfl) (by rfl)
set_option maxRecDepth 100000 in
theorem kw_1157 : (Jvm.Cond.code ({ cls := "LatticeKeys$Ring", name := "subtract", desc := "([I[I)V" } : Jvm.MethodName) prog_9_method_10_code (5 : Nat) (Option.none : Option Jvm.ClassFile.FieldType)) ∈ WG := wgr_5 197 (by rfl) (by rfl)
set_option maxRecDepth 100000 in
theorem kw_1158 : (Jvm.Cond.methodLink "LatticeKeysLaw" (119 : Nat) ({ cls := "LatticeKeysLaw", name := "sign", desc := "(LLatticeKeys;II[J)I" } : Jvm.MethodName)) ∈ WG := wgr_5 198 (by rfl) (by rfl)
set_option maxRecDepth 100000 in
theorem kw_1159 : (Jvm.Cond.static ({ cls := "LatticeKeysLaw", name := "sign", desc := "(LLatticeKeys;II[J)I" } : Jvm.MethodName)) ∈ WG := wgr_5 199 (by rfl) (by rfl)
set_option maxRecDepth 100000 in
theorem kw_1161 : (Jvm.Cond.methodLink "LatticeKeysLaw" (58 : Nat) ({ cls := "LatticeKeys", name := "sign", desc := "(II)I" } : Jvm.MethodName)) ∈ WG := wgr_5 201 (by rfl) (by rfl)
set_option maxRecDepth 100000 in
theorem kw_1162 : (Jvm.Cond.instanceMethod ({ cls := "LatticeKeys", name := "sign", desc := "(II)I" } : Jvm.MethodName)) ∈ WG := wgr_5 202 (by rfl) (by rfl)
set_option maxRecDepth 100000 in
theorem kw_1163 : (Jvm.Cond.selects "LatticeKeys" ({ cls := "LatticeKeys", name := "sign", desc := "(II)I" } : Jvm.MethodName) ({ cls := "LatticeKeys", name := "sign", desc := "(II)I" } : Jvm.MethodName)) ∈ WG := wgr_5 203 (by rfl) (by rfl)
set_option maxRecDepth 100000 in
theorem kw_1164 : (Jvm.Cond.code ({ cls := "LatticeKeys", name := "sign", desc := "(II)I" } : Jvm.MethodName) prog_1_method_13_code (6 : Nat) (Option.some Jvm.ClassFile.FieldType.int)) ∈ WG := wgr_5 204 (by rfl) (by rfl)
set_option maxRecDepth 100000 in
theorem kw_1165 : (Jvm.Cond.methodLink "LatticeKeys" (200 : Nat) ({ cls := "LatticeKeys", name := "findDsa", desc := "(I)LLatticeKeys$KeyPair;" } : Jvm.MethodName)) ∈ WG := wgr_5 205 (by rfl) (by rfl)
set_option maxRecDepth 100000 in
theorem kw_1167 : (Jvm.Cond.instanceMethod ({ cls := "LatticeKeys", name := "findDsa", desc := "(I)LLatticeKeys$KeyPair;" } : Jvm.MethodName)) ∈ WG := wgr_5 207 (by rfl) (by rfl)
set_option maxRecDepth 100000 in
theorem kw_1168 : (Jvm.Cond.code ({ cls := "LatticeKeys", name := "findDsa", desc := "(I)LLatticeKeys$KeyPair;" } : Jvm.MethodName) prog_1_method_29_code (3 : Nat) (Option.some (Jvm.ClassFile.FieldType.object "LatticeKeys$KeyPair"))) ∈ WG := wgr_5 208 (by rfl) (by rfl)
set_option maxRecDepth 100000 in
theorem kw_1170 : (Jvm.Cond.methodLink "LatticeKeys" (205 : Nat) ({ cls := "LatticeKeys", name := "holdsContext", desc := "(II)Z" } : Jvm.MethodName)) ∈ WG := wgr_5 210 (by rfl) (by rfl)
set_option maxRecDepth 100000 in
theorem kw_1172 : (Jvm.Cond.instanceMethod ({ cls := "LatticeKeys", name := "holdsContext", desc := "(II)Z" } : Jvm.MethodName)) ∈ WG := wgr_5 212 (by rfl) (by rfl)
set_option maxRecDepth 100000 in
theorem kw_1173 : (Jvm.Cond.code ({ cls := "LatticeKeys", name := "holdsContext", desc := "(II)Z" } : Jvm.MethodName) prog_1_method_31_code (3 : Nat) (Option.some Jvm.ClassFile.FieldType.boolean)) ∈ WG := wgr_5 213 (by rfl) (by rfl)
set_option maxRecDepth 100000 in
theorem kw_1175 : (Jvm.Cond.methodLink "LatticeKeys" (211 : Nat) ({ cls := "LatticeKeys$Dsa", name := "makeSignature", desc := "(LLatticeKeys$DsaSet;[B[BII[B)I" } : Jvm.MethodName)) ∈ WG := wgr_5 215 (by rfl) (by rfl)
set_option maxRecDepth 100000 in
theorem kw_1176 : (Jvm.Cond.instanceMethod ({ cls := "LatticeKeys$Dsa", name := "makeSignature", desc := "(LLatticeKeys$DsaSet;[B[BII[B)I" } : Jvm.MethodName)) ∈ WG := wgr_5 216 (by rfl) (by rfl)
set_option maxRecDepth 100000 in
theorem kw_1177 : (Jvm.Cond.selects "LatticeKeys$Dsa" ({ cls := "LatticeKeys$Dsa", name := "makeSignature", desc := "(LLatticeKeys$DsaSet;[B[BII[B)I" } : Jvm.MethodName) ({ cls := "LatticeKeys$Dsa", name := "makeSignature", desc := "(LLatticeKeys$DsaSet;[B[BII[B)I" } : Jvm.MethodName)) ∈ WG := wgr_5 217 (by rfl) (by rfl)
set_option maxRecDepth 100000 in
theorem kw_1178 : (Jvm.Cond.code ({ cls := "LatticeKeys$Dsa", name := "makeSignature", desc := "(LLatticeKeys$DsaSet;[B[BII[B)I" } : Jvm.MethodName) prog_3_method_5_code (8 : Nat) (Option.some Jvm.ClassFile.FieldType.int)) ∈ WG := wgr_5 218 (by rfl) (by rfl)
set_option maxRecDepth 100000 in
theorem kw_1179 : (Jvm.Cond.methodLink "LatticeKeys$Dsa" (161 : Nat) ({ cls := "LatticeKeys$Dsa", name := "readSecret", desc := "(LLatticeKeys$DsaSet;[B)V" } : Jvm.MethodName)) ∈ WG := wgr_5 219 (by rfl) (by rfl)
set_option maxRecDepth 100000 in
theorem kw_1181 : (Jvm.Cond.instanceMethod ({ cls := "LatticeKeys$Dsa", name := "readSecret", desc := "(LLatticeKeys$DsaSet;[B)V" } : Jvm.MethodName)) ∈ WG := wgr_5 221 (by rfl) (by rfl)
set_option maxRecDepth 100000 in
theorem kw_1182 : (Jvm.Cond.code ({ cls := "LatticeKeys$Dsa", name := "readSecret", desc := "(LLatticeKeys$DsaSet;[B)V" } : Jvm.MethodName) prog_3_method_6_code (5 : Nat) (Option.none : Option Jvm.ClassFile.FieldType)) ∈ WG := wgr_5 222 (by rfl) (by rfl)
set_option maxRecDepth 100000 in
theorem kw_1183 : (Jvm.Cond.methodLink "LatticeKeys$Dsa" (185 : Nat) ({ cls := "LatticeKeys$Dsa", name := "readFlipped", desc := "([III[BI)V" } : Jvm.MethodName)) ∈ WG := wgr_5 223 (by rfl) (by rfl)
set_option maxRecDepth 100000 in
theorem kw_1185 : (Jvm.Cond.instanceMethod ({ cls := "LatticeKeys$Dsa", name := "readFlipped", desc := "([III[BI)V" } : Jvm.MethodName)) ∈ WG := wgr_5 225 (by rfl) (by rfl)
set_option maxRecDepth 100000 in
theorem kw_1186 : (Jvm.Cond.code ({ cls := "LatticeKeys$Dsa", name := "readFlipped", desc := "([III[BI)V" } : Jvm.MethodName) prog_3_method_7_code (6 : Nat) (Option.none : Option Jvm.ClassFile.FieldType)) ∈ WG := wgr_5 226 (by rfl) (by rfl)
set_option maxRecDepth 100000 in
theorem kw_1187 : (Jvm.Cond.methodLink "LatticeKeys$Dsa" (189 : Nat) ({ cls := "LatticeKeys$Bits", name := "unpack", desc := "([II[BI)V" } : Jvm.MethodName)) ∈ WG := wgr_5 227 (by rfl) (by rfl)
set_option maxRecDepth 100000 in
theorem kw_1188 : (Jvm.Cond.methodLink "LatticeKeys$Dsa" (164 : Nat) ({ cls := "LatticeKeys$Dsa", name := "digestMessage", desc := "([BIII)V" } : Jvm.MethodName)) ∈ WG := wgr_5 228 (by rfl) (by rfl)
set_option maxRecDepth 100000 in
theorem kw_1190 : (Jvm.Cond.instanceMethod ({ cls := "LatticeKeys$Dsa", name := "digestMessage", desc := "([BIII)V" } : Jvm.MethodName)) ∈ WG := wgr_5 230 (by rfl) (by rfl)
set_option maxRecDepth 100000 in
theorem kw_1191 : (Jvm.Cond.code ({ cls := "LatticeKeys$Dsa", name := "digestMessage", desc := "([BIII)V" } : Jvm.MethodName) prog_3_method_9_code (5 : Nat) (Option.none : Option Jvm.ClassFile.FieldType)) ∈ WG := wgr_5 231 (by rfl) (by rfl)
set_option maxRecDepth 100000 in
theorem kw_1192 : (Jvm.Cond.methodLink "LatticeKeys$Dsa" (168 : Nat) ({ cls := "LatticeKeys$Dsa", name := "commit", desc := "(LLatticeKeys$DsaSet;I)V" } : Jvm.MethodName)) ∈ WG := wgr_5 232 (by rfl) (by rfl)
set_option maxRecDepth 100000 in
theorem kw_1194 : (Jvm.Cond.instanceMethod ({ cls := "LatticeKeys$Dsa", name := "commit", desc := "(LLatticeKeys$DsaSet;I)V" } : Jvm.MethodName)) ∈ WG := wgr_5 234 (by rfl) (by rfl)
set_option maxRecDepth 100000 in
theorem kw_1195 : (Jvm.Cond.code ({ cls := "LatticeKeys$Dsa", name := "commit", desc := "(LLatticeKeys$DsaSet;I)V" } : Jvm.MethodName) prog_3_method_10_code (5 : Nat) (Option.none : Option Jvm.ClassFile.FieldType)) ∈ WG := wgr_5 235 (by rfl) (by rfl)
set_option maxRecDepth 100000 in
theorem kw_1196 : (Jvm.Cond.methodLink "LatticeKeys$Dsa" (198 : Nat) ({ cls := "LatticeKeys$DsaSampler", name := "sampleMask", desc := "(LLatticeKeys$DsaSet;[I[BI)V" } : Jvm.MethodName)) ∈ WG := wgr_5 236 (by rfl) (by rfl)
set_option maxRecDepth 100000 in
theorem kw_1197 : (Jvm.Cond.instanceMethod ({ cls := "LatticeKeys$DsaSampler", name := "sampleMask", desc := "(LLatticeKeys$DsaSet;[I[BI)V" } : Jvm.MethodName)) ∈ WG := wgr_5 237 (by rfl) (by rfl)
set_option maxRecDepth 100000 in
theorem kw_1198 : (Jvm.Cond.selects "LatticeKeys$DsaSampler" ({ cls := "LatticeKeys$DsaSampler", name := "sampleMask", desc := "(LLatticeKeys$DsaSet;[I[BI)V" } : Jvm.MethodName) ({ cls := "LatticeKeys$DsaSampler", name := "sampleMask", desc := "(LLatticeKeys$DsaSet;[I[BI)V" } : Jvm.MethodName)) ∈ WG := wgr_5 238 (by rfl) (by rfl)
set_option maxRecDepth 100000 in
theorem kw_1199 : (Jvm.Cond.code ({ cls := "LatticeKeys$DsaSampler", name := "sampleMask", desc := "(LLatticeKeys$DsaSet;[I[BI)V" } : Jvm.MethodName) prog_4_method_6_code (5 : Nat) (Option.none : Option Jvm.ClassFile.FieldType)) ∈ WG := wgr_5 239 (by rfl) (by rfl)
set_option maxRecDepth 100000 in
theorem kw_1200 : (Jvm.Cond.methodLink "LatticeKeys$DsaSampler" (70 : Nat) ({ cls := "LatticeKeys$Sponge", name := "squeeze", desc := "([BII)V" } : Jvm.MethodName)) ∈ WG := wgr_6 0 (by rfl) (by rfl)
set_option maxRecDepth 100000 in
theorem kw_1201 : (Jvm.Cond.methodLink "LatticeKeys$DsaSampler" (73 : Nat) ({ cls := "LatticeKeys$Bits", name := "unpack", desc := "([II[BI)V" } : Jvm.MethodName)) ∈ WG := wgr_6 1 (by rfl) (by rfl)
set_option maxRecDepth 100000 in
theorem kw_1202 : (Jvm.Cond.methodLink "LatticeKeys$Dsa" (209 : Nat) ({ cls := "LatticeKeys$Dsa", name := "startChallenge", desc := "()V" } : Jvm.MethodName)) ∈ WG := wgr_6 2 (by rfl) (by rfl)
set_option maxRecDepth 100000 in
theorem kw_1204 : (Jvm.Cond.instanceMethod ({ cls := "LatticeKeys$Dsa", name := "startChallenge", desc := "()V" } : Jvm.MethodName)) ∈ WG := wgr_6 4 (by rfl) (by rfl)
set_option maxRecDepth 100000 in
theorem kw_1205 : (Jvm.Cond.code ({ cls := "LatticeKeys$Dsa", name := "startChallenge", desc := "()V" } : Jvm.MethodName) prog_3_method_11_code (1 : Nat) (Option.none : Option Jvm.ClassFile.FieldType)) ∈ WG := wgr_6 5 (by rfl) (by rfl)
set_option maxRecDepth 100000 in
theorem kw_1206 : (Jvm.Cond.methodLink "LatticeKeys$Dsa" (212 : Nat) ({ cls := "LatticeKeys$DsaSet", name := "high", desc := "(I)I" } : Jvm.MethodName)) ∈ WG := wgr_6 6 (by rfl) (by rfl)
set_option maxRecDepth 100000 in
theorem kw_1207 : (Jvm.Cond.instanceMethod ({ cls := "LatticeKeys$DsaSet", name := "high", desc := "(I)I" } : Jvm.MethodName)) ∈ WG := wgr_6 7 (by rfl) (by rfl)
set_option maxRecDepth 100000 in
theorem kw_1208 : (Jvm.Cond.selects "LatticeKeys$DsaSet" ({ cls := "LatticeKeys$DsaSet", name := "high", desc := "(I)I" } : Jvm.MethodName) ({ cls := "LatticeKeys$DsaSet", name := "high", desc := "(I)I" } : Jvm.MethodName)) ∈ WG := wgr_6 8 (by rfl) (by rfl)
set_option maxRecDepth 100000 in
theorem kw_1209 : (Jvm.Cond.code ({ cls := "LatticeKeys$DsaSet", name := "high", desc := "(I)I" } : Jvm.MethodName) prog_5_method_2_code (3 : Nat) (Option.some Jvm.ClassFile.FieldType.int)) ∈ WG := wgr_6 9 (by rfl) (by rfl)
set_option maxRecDepth 100000 in
theorem kw_1210 : (Jvm.Cond.methodLink "LatticeKeys$Dsa" (216 : Nat) ({ cls := "LatticeKeys$Dsa", name := "absorbHigh", desc := "(LLatticeKeys$DsaSet;)V" } : Jvm.MethodName)) ∈ WG := wgr_6 10 (by rfl) (by rfl)
set_option maxRecDepth 100000 in
theorem kw_1212 : (Jvm.Cond.instanceMethod ({ cls := "LatticeKeys$Dsa", name := "absorbHigh", desc := "(LLatticeKeys$DsaSet;)V" } : Jvm.MethodName)) ∈ WG := wgr_6 12 (by rfl) (by rfl)
set_option maxRecDepth 100000 in
theorem kw_1213 : (Jvm.Cond.code ({ cls := "LatticeKeys$Dsa", name := "absorbHigh", desc := "(LLatticeKeys$DsaSet;)V" } : Jvm.MethodName) prog_3_method_12_code (2 : Nat) (Option.none : Option Jvm.ClassFile.FieldType)) ∈ WG := wgr_6 13 (by rfl) (by rfl)
set_option maxRecDepth 100000 in
theorem kw_1214 : (Jvm.Cond.methodLink "LatticeKeys$Dsa" (223 : Nat) ({ cls := "LatticeKeys$DsaSampler", name := "sampleBall", desc := "(LLatticeKeys$DsaSet;[I[B)V" } : Jvm.MethodName)) ∈ WG := wgr_6 14 (by rfl) (by rfl)
set_option maxRecDepth 100000 in
theorem kw_1215 : (Jvm.Cond.instanceMethod ({ cls := "LatticeKeys$DsaSampler", name := "sampleBall", desc := "(LLatticeKeys$DsaSet;[I[B)V" } : Jvm.MethodName)) ∈ WG := wgr_6 15 (by rfl) (by rfl)
set_option maxRecDepth 100000 in
theorem kw_1216 : (Jvm.Cond.selects "LatticeKeys$DsaSampler" ({ cls := "LatticeKeys$DsaSampler", name := "sampleBall", desc := "(LLatticeKeys$DsaSet;[I[B)V" } : Jvm.MethodName) ({ cls := "LatticeKeys$DsaSampler", name := "sampleBall", desc := "(LLatticeKeys$DsaSet;[I[B)V" } : Jvm.MethodName)) ∈ WG := wgr_6 16 (by rfl) (by rfl)
set_option maxRecDepth 100000 in
theorem kw_1217 : (Jvm.Cond.code ({ cls := "LatticeKeys$DsaSampler", name := "sampleBall", desc := "(LLatticeKeys$DsaSet;[I[B)V" } : Jvm.MethodName) prog_4_method_8_code (9 : Nat) (Option.none : Option Jvm.ClassFile.FieldType)) ∈ WG := wgr_6 17 (by rfl) (by rfl)
set_option maxRecDepth 100000 in
theorem kw_1218 : (Jvm.Cond.methodLink "LatticeKeys$DsaSampler" (82 : Nat) ({ cls := "java/util/Arrays", name := "fill", desc := "([II)V" } : Jvm.MethodName)) ∈ WG := wgr_6 18 (by rfl) (by rfl)
set_option maxRecDepth 100000 in
theorem kw_1219 : (Jvm.Cond.constant "LatticeKeys$DsaSampler" (91 : Nat) (8380416 : Int32)) ∈ WG := wgr_6 19 (by rfl) (by rfl)
set_option maxRecDepth 100000 in
theorem kw_1220 : (Jvm.Cond.methodLink "LatticeKeys$Dsa" (172 : Nat) ({ cls := "LatticeKeys$Dsa", name := "answerIsShort", desc := "(LLatticeKeys$DsaSet;)Z" } : Jvm.MethodName)) ∈ WG := wgr_6 20 (by rfl) (by rfl)
set_option maxRecDepth 100000 in
theorem kw_1222 : (Jvm.Cond.instanceMethod ({ cls := "LatticeKeys$Dsa", name := "answerIsShort", desc := "(LLatticeKeys$DsaSet;)Z" } : Jvm.MethodName)) ∈ WG := wgr_6 22 (by rfl) (by rfl)
set_option maxRecDepth 100000 in
theorem kw_1223 : (Jvm.Cond.code ({ cls := "LatticeKeys$Dsa", name := "answerIsShort", desc := "(LLatticeKeys$DsaSet;)Z" } : Jvm.MethodName) prog_3_method_15_code (3 : Nat) (Option.some Jvm.ClassFile.FieldType.boolean)) ∈ WG := wgr_6 23 (by rfl) (by rfl)
set_option maxRecDepth 100000 in
theorem kw_1224 : (Jvm.Cond.methodLink "LatticeKeys$Dsa" (230 : Nat) ({ cls := "LatticeKeys$Dsa", name := "multiplyBall", desc := "([I)V" } : Jvm.MethodName)) ∈ WG := wgr_6 24 (by rfl) (by rfl)
set_option maxRecDepth 100000 in
theorem kw_1226 : (Jvm.Cond.instanceMethod ({ cls := "LatticeKeys$Dsa", name := "multiplyBall", desc := "([I)V" } : Jvm.MethodName)) ∈ WG := wgr_6 26 (by rfl) (by rfl)
set_option maxRecDepth 100000 in
theorem kw_1227 : (Jvm.Cond.code ({ cls := "LatticeKeys$Dsa", name := "multiplyBall", desc := "([I)V" } : Jvm.MethodName) prog_3_method_14_code (2 : Nat) (Option.none : Option Jvm.ClassFile.FieldType)) ∈ WG := wgr_6 27 (by rfl) (by rfl)
set_option maxRecDepth 100000 in
theorem kw_1228 : (Jvm.Cond.methodLink "LatticeKeys$Dsa" (236 : Nat) ({ cls := "LatticeKeys$Ring", name := "isShort", desc := "([II)Z" } : Jvm.MethodName)) ∈ WG := wgr_6 28 (by rfl) (by rfl)
set_option maxRecDepth 100000 in
theorem kw_1229 : (Jvm.Cond.instanceMethod ({ cls := "LatticeKeys$Ring", name := "isShort", desc := "([II)Z" } : Jvm.MethodName)) ∈ WG := wgr_6 29 (by rfl) (by rfl)
set_option maxRecDepth 100000 in
theorem kw_1230 : (Jvm.Cond.selects "LatticeKeys$Ring" ({ cls := "LatticeKeys$Ring", name := "isShort", desc := "([II)Z" } : Jvm.MethodName) ({ cls := "LatticeKeys$Ring", name := "isShort", desc := "([II)Z" } : Jvm.MethodName)) ∈ WG := wgr_6 30 (by rfl) (by rfl)
set_option maxRecDepth 100000 in
theorem kw_1231 : (Jvm.Cond.code ({ cls := "LatticeKeys$Ring", name := "isShort", desc := "([II)Z" } : Jvm.MethodName) prog_9_method_12_code (4 : Nat) (Option.some Jvm.ClassFile.FieldType.boolean)) ∈ WG := wgr_6 31 (by rfl) (by rfl)
set_option maxRecDepth 100000 in
theorem kw_1232 : (Jvm.Cond.methodLink "LatticeKeys$Dsa" (176 : Nat) ({ cls := "LatticeKeys$Dsa", name := "restIsShort", desc := "(LLatticeKeys$DsaSet;)Z" } : Jvm.MethodName)) ∈ WG := wgr_6 32 (by rfl) (by rfl)
set_option maxRecDepth 100000 in
theorem kw_1234 : (Jvm.Cond.instanceMethod ({ cls := "LatticeKeys$Dsa", name := "restIsShort", desc := "(LLatticeKeys$DsaSet;)Z" } : Jvm.MethodName)) ∈ WG := wgr_6 34 (by rfl) (by rfl)
set_option maxRecDepth 100000 in
theorem kw_1235 : (Jvm.Cond.code ({ cls := "LatticeKeys$Dsa", name := "restIsShort", desc := "(LLatticeKeys$DsaSet;)Z" } : Jvm.MethodName) prog_3_method_16_code (6 : Nat) (Option.some Jvm.ClassFile.FieldType.boolean)) ∈ WG := wgr_6 35 (by rfl) (by rfl)
set_option maxRecDepth 100000 in
theorem kw_1236 : (Jvm.Cond.methodLink "LatticeKeys$Dsa" (243 : Nat) ({ cls := "LatticeKeys$Ring", name := "subtract", desc := "([I[I)V" } : Jvm.MethodName)) ∈ WG := wgr_6 36 (by rfl) (by rfl)
set_option maxRecDepth 100000 in
theorem kw_1237 : (Jvm.Cond.methodLink "LatticeKeys$Dsa" (246 : Nat) ({ cls := "LatticeKeys$DsaSet", name := "low", desc := "(I)I" } : Jvm.MethodName)) ∈ WG := wgr_6 37 (by rfl) (by rfl)
set_option maxRecDepth 100000 in
theorem kw_1238 : (Jvm.Cond.instanceMethod ({ cls := "LatticeKeys$DsaSet", name := "low", desc := "(I)I" } : Jvm.MethodName)) ∈ WG := wgr_6 38 (by rfl) (by rfl)
set_option maxRecDepth 100000 in
theorem kw_1239 : (Jvm.Cond.selects "LatticeKeys$DsaSet" ({ cls := "LatticeKeys$DsaSet", name := "low", desc := "(I)I" } : Jvm.MethodName) ({ cls := "LatticeKeys$DsaSet", name := "low", desc := "(I)I" } : Jvm.MethodName)) ∈ WG := wgr_6 39 (by rfl) (by rfl)
set_option maxRecDepth 100000 in
theorem kw_1240 : (Jvm.Cond.code ({ cls := "LatticeKeys$DsaSet", name := "low", desc := "(I)I" } : Jvm.MethodName) prog_5_method_3_code (4 : Nat) (Option.some Jvm.ClassFile.FieldType.int)) ∈ WG := wgr_6 40 (by rfl) (by rfl)
set_option maxRecDepth 100000 in
theorem kw_1241 : (Jvm.Cond.methodLink "LatticeKeys$Dsa" (179 : Nat) ({ cls := "LatticeKeys$Dsa", name := "makeHints", desc := "(LLatticeKeys$DsaSet;)Z" } : Jvm.MethodName)) ∈ WG := wgr_6 41 (by rfl) (by rfl)
set_option maxRecDepth 100000 in
theorem kw_1243 : (Jvm.Cond.instanceMethod ({ cls := "LatticeKeys$Dsa", name := "makeHints", desc := "(LLatticeKeys$DsaSet;)Z" } : Jvm.MethodName)) ∈ WG := wgr_6 43 (by rfl) (by rfl)
set_option maxRecDepth 100000 in
theorem kw_1244 : (Jvm.Cond.code ({ cls := "LatticeKeys$Dsa", name := "makeHints", desc := "(LLatticeKeys$DsaSet;)Z" } : Jvm.MethodName) prog_3_method_17_code (5 : Nat) (Option.some Jvm.ClassFile.FieldType.boolean)) ∈ WG := wgr_6 44 (by rfl) (by rfl)
set_option maxRecDepth 100000 in
theorem kw_1245 : (Jvm.Cond.methodLink "LatticeKeys$Dsa" (249 : Nat) ({ cls := "java/util/Arrays", name := "fill", desc := "([BB)V" } : Jvm.MethodName)) ∈ WG := wgr_6 45 (by rfl) (by rfl)
set_option maxRecDepth 100000 in
theorem kw_1246 : (Jvm.Cond.static ({ cls := "java/util/Arrays", name := "fill", desc := "([BB)V" } : Jvm.MethodName)) ∈ WG := wgr_6 46 (by rfl) (by rfl)
set_option maxRecDepth 100000 in
theorem kw_1247 : (Jvm.Cond.code ({ cls := "java/util/Arrays", name := "fill", desc := "([BB)V" } : Jvm.MethodName) prog_33_method_109_code (4 : Nat) (Option.none : Option Jvm.ClassFile.FieldType)) ∈ WG := wgr_6 47 (by rfl) (by rfl)
set_option maxRecDepth 100000 in
theorem kw_1248 : (Jvm.Cond.methodLink "LatticeKeys$Dsa" (182 : Nat) ({ cls := "LatticeKeys$Dsa", name := "writeSignature", desc := "(LLatticeKeys$DsaSet;[B)V" } : Jvm.MethodName)) ∈ WG := wgr_6 48 (by rfl) (by rfl)
set_option maxRecDepth 100000 in
theorem kw_1250 : (Jvm.Cond.instanceMethod ({ cls := "LatticeKeys$Dsa", name := "writeSignature", desc := "(LLatticeKeys$DsaSet;[B)V" } : Jvm.MethodName)) ∈ WG := wgr_6 50 (by rfl) (by rfl)
set_option maxRecDepth 100000 in
theorem kw_1251 : (Jvm.Cond.code ({ cls := "LatticeKeys$Dsa", name := "writeSignature", desc := "(LLatticeKeys$DsaSet;[B)V" } : Jvm.MethodName) prog_3_method_18_code (4 : Nat) (Option.none : Option Jvm.ClassFile.FieldType)) ∈ WG := wgr_6 51 (by rfl) (by rfl)
set_option maxRecDepth 100000 in
theorem kw_1253 : (Jvm.Cond.methodLink "LatticeKeysLaw" (122 : Nat) ({ cls := "LatticeKeysLaw", name := "verify", desc := "(LLatticeKeys;II[J)I" } : Jvm.MethodName)) ∈ WG := wgr_6 53 (by rfl) (by rfl)
set_option maxRecDepth 100000 in
theorem kw_1254 : (Jvm.Cond.static ({ cls := "LatticeKeysLaw", name := "verify", desc := "(LLatticeKeys;II[J)I" } : Jvm.MethodName)) ∈ WG := wgr_6 54 (by rfl) (by rfl)
set_option maxRecDepth 100000 in
theorem kw_1256 : (Jvm.Cond.methodLink "LatticeKeysLaw" (61 : Nat) ({ cls := "LatticeKeys", name := "verify", desc := "(II)Z" } : Jvm.MethodName)) ∈ WG := wgr_6 56 (by rfl) (by rfl)
set_option maxRecDepth 100000 in
theorem kw_1257 : (Jvm.Cond.instanceMethod ({ cls := "LatticeKeys", name := "verify", desc := "(II)Z" } : Jvm.MethodName)) ∈ WG := wgr_6 57 (by rfl) (by rfl)
set_option maxRecDepth 100000 in
theorem kw_1258 : (Jvm.Cond.selects "LatticeKeys" ({ cls := "LatticeKeys", name := "verify", desc := "(II)Z" } : Jvm.MethodName) ({ cls := "LatticeKeys", name := "verify", desc := "(II)Z" } : Jvm.MethodName)) ∈ WG := wgr_6 58 (by rfl) (by rfl)
set_option maxRecDepth 100000 in
theorem kw_1259 : (Jvm.Cond.code ({ cls := "LatticeKeys", name := "verify", desc := "(II)Z" } : Jvm.MethodName) prog_1_method_14_code (6 : Nat) (Option.some Jvm.ClassFile.FieldType.boolean)) ∈ WG := wgr_6 59 (by rfl) (by rfl)
set_option maxRecDepth 100000 in
theorem kw_1261 : (Jvm.Cond.methodLink "LatticeKeys" (222 : Nat) ({ cls := "LatticeKeys$Dsa", name := "accepts", desc := "(LLatticeKeys$DsaSet;[B[BII)Z" } : Jvm.MethodName)) ∈ WG := wgr_6 61 (by rfl) (by rfl)
set_option maxRecDepth 100000 in
theorem kw_1262 : (Jvm.Cond.instanceMethod ({ cls := "LatticeKeys$Dsa", name := "accepts", desc := "(LLatticeKeys$DsaSet;[B[BII)Z" } : Jvm.MethodName)) ∈ WG := wgr_6 62 (by rfl) (by rfl)
set_option maxRecDepth 100000 in
theorem kw_1263 : (Jvm.Cond.selects "LatticeKeys$Dsa" ({ cls := "LatticeKeys$Dsa", name := "accepts", desc := "(LLatticeKeys$DsaSet;[B[BII)Z" } : Jvm.MethodName) ({ cls := "LatticeKeys$Dsa", name := "accepts", desc := "(LLatticeKeys$DsaSet;[B[BII)Z" } : Jvm.MethodName)) ∈ WG := wgr_6 63 (by rfl) (by rfl)
set_option maxRecDepth 100000 in
theorem kw_1264 : (Jvm.Cond.code ({ cls := "LatticeKeys$Dsa", name := "accepts", desc := "(LLatticeKeys$DsaSet;[B[BII)Z" } : Jvm.MethodName) prog_3_method_19_code (9 : Nat) (Option.some Jvm.ClassFile.FieldType.boolean)) ∈ WG := wgr_6 64 (by rfl) (by rfl)
set_option maxRecDepth 100000 in
theorem kw_1265 : (Jvm.Cond.methodLink "LatticeKeys$Dsa" (261 : Nat) ({ cls := "LatticeKeys$Dsa", name := "readSignature", desc := "(LLatticeKeys$DsaSet;[B)Z" } : Jvm.MethodName)) ∈ WG := wgr_6 65 (by rfl) (by rfl)
set_option maxRecDepth 100000 in
theorem kw_1267 : (Jvm.Cond.instanceMethod ({ cls := "LatticeKeys$Dsa", name := "readSignature", desc := "(LLatticeKeys$DsaSet;[B)Z" } : Jvm.MethodName)) ∈ WG := wgr_6 67 (by rfl) (by rfl)
set_option maxRecDepth 100000 in
theorem kw_1268 : (Jvm.Cond.code ({ cls := "LatticeKeys$Dsa", name := "readSignature", desc := "(LLatticeKeys$DsaSet;[B)Z" } : Jvm.MethodName) prog_3_method_20_code (4 : Nat) (Option.some Jvm.ClassFile.FieldType.boolean)) ∈ WG := wgr_6 68 (by rfl) (by rfl)
set_option maxRecDepth 100000 in
theorem kw_1269 : (Jvm.Cond.methodLink "LatticeKeys$Dsa" (279 : Nat) ({ cls := "LatticeKeys$Dsa", name := "hintsAreInForm", desc := "(LLatticeKeys$DsaSet;)Z" } : Jvm.MethodName)) ∈ WG := wgr_6 69 (by rfl) (by rfl)
set_option maxRecDepth 100000 in
theorem kw_1271 : (Jvm.Cond.instanceMethod ({ cls := "LatticeKeys$Dsa", name := "hintsAreInForm", desc := "(LLatticeKeys$DsaSet;)Z" } : Jvm.MethodName)) ∈ WG := wgr_6 71 (by rfl) (by rfl)
set_option maxRecDepth 100000 in
theorem kw_1272 : (Jvm.Cond.code ({ cls := "LatticeKeys$Dsa", name := "hintsAreInForm", desc := "(LLatticeKeys$DsaSet;)Z" } : Jvm.MethodName) prog_3_method_21_code (6 : Nat) (Option.some Jvm.ClassFile.FieldType.boolean)) ∈ WG := wgr_6 72 (by rfl) (by rfl)
set_option maxRecDepth 100000 in
theorem kw_1273 : (Jvm.Cond.methodLink "LatticeKeys$Dsa" (268 : Nat) ({ cls := "LatticeKeys$Dsa", name := "rebuildRow", desc := "(LLatticeKeys$DsaSet;[BI)V" } : Jvm.MethodName)) ∈ WG := wgr_6 73 (by rfl) (by rfl)
set_option maxRecDepth 100000 in
theorem kw_1275 : (Jvm.Cond.instanceMethod ({ cls := "LatticeKeys$Dsa", name := "rebuildRow", desc := "(LLatticeKeys$DsaSet;[BI)V" } : Jvm.MethodName)) ∈ WG := wgr_6 75 (by rfl) (by rfl)
set_option maxRecDepth 100000 in
theorem kw_1276 : (Jvm.Cond.code ({ cls := "LatticeKeys$Dsa", name := "rebuildRow", desc := "(LLatticeKeys$DsaSet;[BI)V" } : Jvm.MethodName) prog_3_method_22_code (5 : Nat) (Option.none : Option Jvm.ClassFile.FieldType)) ∈ WG := wgr_6 76 (by rfl) (by rfl)
set_option maxRecDepth 100000 in
theorem kw_1277 : (Jvm.Cond.methodLink "LatticeKeys$Dsa" (272 : Nat) ({ cls := "LatticeKeys$Dsa", name := "useHints", desc := "(LLatticeKeys$DsaSet;[III)V" } : Jvm.MethodName)) ∈ WG := wgr_6 77 (by rfl) (by rfl)
set_option maxRecDepth 100000 in
theorem kw_1279 : (Jvm.Cond.instanceMethod ({ cls := "LatticeKeys$Dsa", name := "useHints", desc := "(LLatticeKeys$DsaSet;[III)V" } : Jvm.MethodName)) ∈ WG := wgr_6 79 (by rfl) (by rfl)
set_option maxRecDepth 100000 in
theorem kw_1280 : (Jvm.Cond.code ({ cls := "LatticeKeys$Dsa", name := "useHints", desc := "(LLatticeKeys$DsaSet;[III)V" } : Jvm.MethodName) prog_3_method_23_code (7 : Nat) (Option.none : Option Jvm.ClassFile.FieldType)) ∈ WG := wgr_6 80 (by rfl) (by rfl)
set_option maxRecDepth 100000 in
theorem kw_1281 : (Jvm.Cond.methodLink "LatticeKeys$Dsa" (282 : Nat) ({ cls := "LatticeKeys$DsaSet", name := "hintedHigh", desc := "(I)I" } : Jvm.MethodName)) ∈ WG := wgr_6 81 (by rfl) (by rfl)
set_option maxRecDepth 100000 in
theorem kw_1282 : (Jvm.Cond.instanceMethod ({ cls := "LatticeKeys$DsaSet", name := "hintedHigh", desc := "(I)I" } : Jvm.MethodName)) ∈ WG := wgr_6 82 (by rfl) (by rfl)
set_option maxRecDepth 100000 in
theorem kw_1283 : (Jvm.Cond.selects "LatticeKeys$DsaSet" ({ cls := "LatticeKeys$DsaSet", name := "hintedHigh", desc := "(I)I" } : Jvm.MethodName) ({ cls := "LatticeKeys$DsaSet", name := "hintedHigh", desc := "(I)I" } : Jvm.MethodName)) ∈ WG := wgr_6 83 (by rfl) (by rfl)
set_option maxRecDepth 100000 in
theorem kw_1284 : (Jvm.Cond.code ({ cls := "LatticeKeys$DsaSet", name := "hintedHigh", desc := "(I)I" } : Jvm.MethodName) prog_5_method_4_code (3 : Nat) (Option.some Jvm.ClassFile.FieldType.int)) ∈ WG := wgr_6 84 (by rfl) (by rfl)
set_option maxRecDepth 100000 in
theorem kw_1285 : (Jvm.Cond.methodLink "LatticeKeys$DsaSet" (95 : Nat) ({ cls := "LatticeKeys$DsaSet", name := "high", desc := "(I)I" } : Jvm.MethodName)) ∈ WG := wgr_6 85 (by rfl) (by rfl)
set_option maxRecDepth 100000 in
theorem kw_1286 : (Jvm.Cond.methodLink "LatticeKeys$DsaSet" (99 : Nat) ({ cls := "LatticeKeys$DsaSet", name := "low", desc := "(I)I" } : Jvm.MethodName)) ∈ WG := wgr_6 86 (by rfl) (by rfl)
set_option maxRecDepth 100000 in
theorem kw_1287 : (Jvm.Cond.methodLink "LatticeKeys$Dsa" (276 : Nat) ({ cls := "LatticeKeys$Dsa", name := "challengesAgree", desc := "(LLatticeKeys$DsaSet;)Z" } : Jvm.MethodName)) ∈ WG := wgr_6 87 (by rfl) (by rfl)
set_option maxRecDepth 100000 in
theorem kw_1289 : (Jvm.Cond.instanceMethod ({ cls := "LatticeKeys$Dsa", name := "challengesAgree", desc := "(LLatticeKeys$DsaSet;)Z" } : Jvm.MethodName)) ∈ WG := wgr_6 89 (by rfl) (by rfl)
set_option maxRecDepth 100000 in
theorem kw_1290 : (Jvm.Cond.code ({ cls := "LatticeKeys$Dsa", name := "challengesAgree", desc := "(LLatticeKeys$DsaSet;)Z" } : Jvm.MethodName) prog_3_method_24_code (3 : Nat) (Option.some Jvm.ClassFile.FieldType.boolean)) ∈ WG := wgr_6 90 (by rfl) (by rfl)
set_option maxRecDepth 100000 in
theorem kw_1291 : (Jvm.Cond.methodLink "LatticeKeysLaw" (125 : Nat) ({ cls := "LatticeKeysLaw", name := "hash", desc := "(LLatticeKeys;II[J)I" } : Jvm.MethodName)) ∈ WG := wgr_6 91 (by rfl) (by rfl)
set_option maxRecDepth 100000 in
theorem kw_1292 : (Jvm.Cond.static ({ cls := "LatticeKeysLaw", name := "hash", desc := "(LLatticeKeys;II[J)I" } : Jvm.MethodName)) ∈ WG := wgr_6 92 (by rfl) (by rfl)
set_option maxRecDepth 100000 in
theorem kw_1294 : (Jvm.Cond.methodLink "LatticeKeysLaw" (65 : Nat) ({ cls := "LatticeKeys", name := "hash", desc := "(II)I" } : Jvm.MethodName)) ∈ WG := wgr_6 94 (by rfl) (by rfl)
set_option maxRecDepth 100000 in
theorem kw_1295 : (Jvm.Cond.instanceMethod ({ cls := "LatticeKeys", name := "hash", desc := "(II)I" } : Jvm.MethodName)) ∈ WG := wgr_6 95 (by rfl) (by rfl)
set_option maxRecDepth 100000 in
theorem kw_1296 : (Jvm.Cond.selects "LatticeKeys" ({ cls := "LatticeKeys", name := "hash", desc := "(II)I" } : Jvm.MethodName) ({ cls := "LatticeKeys", name := "hash", desc := "(II)I" } : Jvm.MethodName)) ∈ WG := wgr_6 96 (by rfl) (by rfl)
set_option maxRecDepth 100000 in
theorem kw_1297 : (Jvm.Cond.code ({ cls := "LatticeKeys", name := "hash", desc := "(II)I" } : Jvm.MethodName) prog_1_method_15_code (3 : Nat) (Option.some Jvm.ClassFile.FieldType.int)) ∈ WG := wgr_6 97 (by rfl) (by rfl)
set_option maxRecDepth 100000 in
theorem kw_1299 : (Jvm.Cond.methodLink "LatticeKeys" (228 : Nat) ({ cls := "LatticeKeys$Sponge", name := "start", desc := "(I)V" } : Jvm.MethodName)) ∈ WG := wgr_6 99 (by rfl) (by rfl)
set_option maxRecDepth 100000 in
theorem kw_1300 : (Jvm.Cond.methodLink "LatticeKeys" (231 : Nat) ({ cls := "LatticeKeys$Sponge", name := "absorb", desc := "([BII)V" } : Jvm.MethodName)) ∈ WG := wgr_6 100 (by rfl) (by rfl)
set_option maxRecDepth 100000 in
theorem kw_1301 : (Jvm.Cond.methodLink "LatticeKeys" (235 : Nat) ({ cls := "LatticeKeys$Sponge", name := "finish", desc := "()V" } : Jvm.MethodName)) ∈ WG := wgr_6 101 (by rfl) (by rfl)
set_option maxRecDepth 100000 in
theorem kw_1302 : (Jvm.Cond.methodLink "LatticeKeys" (238 : Nat) ({ cls := "LatticeKeys$Sponge", name := "squeeze", desc := "([BII)V" } : Jvm.MethodName)) ∈ WG := wgr_6 102 (by rfl) (by rfl)
set_option maxRecDepth 100000 in
theorem kw_1303 : (Jvm.Cond.methodLink "LatticeKeysLaw" (128 : Nat) ({ cls := "LatticeKeysLaw", name := "result", desc := "(LLatticeKeys;I[J)I" } : Jvm.MethodName)) ∈ WG := wgr_6 103 (by rfl) (by rfl)
set_option maxRecDepth 100000 in
theorem kw_1304 : (Jvm.Cond.static ({ cls := "LatticeKeysLaw", name := "result", desc := "(LLatticeKeys;I[J)I" } : Jvm.MethodName)) ∈ WG := wgr_6 104 (by rfl) (by rfl)
set_option maxRecDepth 100000 in
theorem kw_1306 : (Jvm.Cond.methodLink "LatticeKeysLaw" (68 : Nat) ({ cls := "LatticeKeys", name := "result", desc := "(I)I" } : Jvm.MethodName)) ∈ WG := wgr_6 106 (by rfl) (by rfl)
set_option maxRecDepth 100000 in
theorem kw_1307 : (Jvm.Cond.instanceMethod ({ cls := "LatticeKeys", name := "result", desc := "(I)I" } : Jvm.MethodName)) ∈ WG := wgr_6 107 (by rfl) (by rfl)
set_option maxRecDepth 100000 in
theorem kw_1308 : (Jvm.Cond.selects "LatticeKeys" ({ cls := "LatticeKeys", name := "result", desc := "(I)I" } : Jvm.MethodName) ({ cls := "LatticeKeys", name := "result", desc := "(I)I" } : Jvm.MethodName)) ∈ WG := wgr_6 108 (by rfl) (by rfl)
set_option maxRecDepth 100000 in
theorem kw_1309 : (Jvm.Cond.code ({ cls := "LatticeKeys", name := "result", desc := "(I)I" } : Jvm.MethodName) prog_1_method_16_code (2 : Nat) (Option.some Jvm.ClassFile.FieldType.int)) ∈ WG := wgr_6 109 (by rfl) (by rfl)
set_option maxRecDepth 100000 in
theorem kw_1311 : (Jvm.Cond.classLink "LatticeKeysLaw" (72 : Nat) "LatticeKeysModel") ∈ WG := wgr_6 111 (by rfl) (by rfl)
set_option maxRecDepth 100000 in
theorem kw_1312 : (Jvm.Cond.instantiable "LatticeKeysModel" (14 : Nat)) ∈ WG := wgr_6 112 (by rfl) (by rfl)
set_option maxRecDepth 100000 in
theorem kw_1313 : (Jvm.Cond.methodLink "LatticeKeysLaw" (74 : Nat) ({ cls := "LatticeKeysModel", name := "<init>", desc := "()V" } : Jvm.MethodName)) ∈ WG := wgr_6 113 (by rfl) (by rfl)
set_option maxRecDepth 100000 in
theorem kw_1314 : (Jvm.Cond.instanceMethod ({ cls := "LatticeKeysModel", name := "<init>", desc := "()V" } : Jvm.MethodName)) ∈ WG := wgr_6 114 (by rfl) (by rfl)
set_option maxRecDepth 100000 in
theorem kw_1315 : (Jvm.Cond.code ({ cls := "LatticeKeysModel", name := "<init>", desc := "()V" } : Jvm.MethodName) prog_12_method_3_code (1 : Nat) (Option.none : Option Jvm.ClassFile.FieldType)) ∈ WG := wgr_6 115 (by rfl) (by rfl)
set_option maxRecDepth 100000 in
theorem kw_1316 : (Jvm.Cond.methodLink "LatticeKeysModel" (1 : Nat) ({ cls := "java/lang/Object", name := "<init>", desc := "()V" } : Jvm.MethodName)) ∈ WG := wgr_6 116 (by rfl) (by rfl)
set_option maxRecDepth 100000 in
theorem kw_1317 : (Jvm.Cond.classLink "LatticeKeysModel" (19 : Nat) "[[B") ∈ WG := wgr_6 117 (by rfl) (by rfl)
set_option maxRecDepth 100000 in
theorem kw_1319 : (Jvm.Cond.classLink "LatticeKeysModel" (34 : Nat) "LatticeKeysModel$Sponge") ∈ WG := wgr_6 119 (by rfl) (by rfl)
set_option maxRecDepth 100000 in
theorem kw_1320 : (Jvm.Cond.instantiable "LatticeKeysModel$Sponge" (8 : Nat)) ∈ WG := wgr_6 120 (by rfl) (by rfl)
set_option maxRecDepth 100000 in
theorem kw_1321 : (Jvm.Cond.methodLink "LatticeKeysModel" (36 : Nat) ({ cls := "LatticeKeysModel$Sponge", name := "<init>", desc := "()V" } : Jvm.MethodName)) ∈ WG := wgr_6 121 (by rfl) (by rfl)
set_option maxRecDepth 100000 in
theorem kw_1322 : (Jvm.Cond.instanceMethod ({ cls := "LatticeKeysModel$Sponge", name := "<init>", desc := "()V" } : Jvm.MethodName)) ∈ WG := wgr_6 122 (by rfl) (by rfl)
set_option maxRecDepth 100000 in
theorem kw_1323 : (Jvm.Cond.code ({ cls := "LatticeKeysModel$Sponge", name := "<init>", desc := "()V" } : Jvm.MethodName) prog_16_method_1_code (6 : Nat) (Option.none : Option Jvm.ClassFile.FieldType)) ∈ WG := wgr_6 123 (by rfl) (by rfl)
set_option maxRecDepth 100000 in
theorem kw_1324 : (Jvm.Cond.methodLink "LatticeKeysModel$Sponge" (1 : Nat) ({ cls := "java/lang/Object", name := "<init>", desc := "()V" } : Jvm.MethodName)) ∈ WG := wgr_6 124 (by rfl) (by rfl)
set_option maxRecDepth 100000 in
theorem kw_1325 : (Jvm.Cond.fieldLink "LatticeKeysModel$Sponge" (7 : Nat) "LatticeKeysModel$Sponge" "s" "[J") ∈ WG := wgr_6 125 (by rfl) (by rfl)
set_option maxRecDepth 100000 in
theorem kw_1326 : (Jvm.Cond.fieldLink "LatticeKeysModel$Sponge" (13 : Nat) "LatticeKeysModel$Sponge" "t" "[J") ∈ WG := wgr_6 126 (by rfl) (by rfl)
set_option maxRecDepth 100000 in
theorem kw_1327 : (Jvm.Cond.fieldLink "LatticeKeysModel$Sponge" (16 : Nat) "LatticeKeysModel$Sponge" "column" "[J") ∈ WG := wgr_6 127 (by rfl) (by rfl)
set_option maxRecDepth 100000 in
theorem kw_1328 : (Jvm.Cond.fieldLink "LatticeKeysModel$Sponge" (19 : Nat) "LatticeKeysModel$Sponge" "rounds" "[J") ∈ WG := wgr_6 128 (by rfl) (by rfl)
set_option maxRecDepth 100000 in
theorem kw_1329 : (Jvm.Cond.fieldLink "LatticeKeysModel$Sponge" (22 : Nat) "LatticeKeysModel$Sponge" "turn" "[I") ∈ WG := wgr_6 129 (by rfl) (by rfl)
set_option maxRecDepth 100000 in
theorem kw_1330 : (Jvm.Cond.fieldLink "LatticeKeysModel$Sponge" (32 : Nat) "LatticeKeysModel$Sponge" "rate" "I") ∈ WG := wgr_6 130 (by rfl) (by rfl)
set_option maxRecDepth 100000 in
theorem kw_1331 : (Jvm.Cond.fieldLink "LatticeKeysModel$Sponge" (39 : Nat) "LatticeKeysModel$Sponge" "at" "I") ∈ WG := wgr_6 131 (by rfl) (by rfl)
set_option maxRecDepth 100000 in
theorem kw_1332 : (Jvm.Cond.fieldLink "LatticeKeysModel$Sponge" (36 : Nat) "LatticeKeysModel$Sponge" "suffix" "I") ∈ WG := wgr_6 132 (by rfl) (by rfl)
set_option maxRecDepth 100000 in
theorem kw_1333 : (Jvm.Cond.laysFinal "LatticeKeysModel$Sponge" "LatticeKeysModel$Sponge" "s" "[J") ∈ WG := wgr_6 133 (by rfl) (by rfl)
set_option maxRecDepth 100000 in
theorem kw_1335 : (Jvm.Cond.laysFinal "LatticeKeysModel$Sponge" "LatticeKeysModel$Sponge" "t" "[J") ∈ WG := wgr_6 135 (by rfl) (by rfl)
set_option maxRecDepth 100000 in
theorem kw_1337 : (Jvm.Cond.laysFinal "LatticeKeysModel$Sponge" "LatticeKeysModel$Sponge" "column" "[J") ∈ WG := wgr_6 137 (by rfl) (by rfl)
set_option maxRecDepth 100000 in
theorem kw_1339 : (Jvm.Cond.laysFinal "LatticeKeysModel$Sponge" "LatticeKeysModel$Sponge" "rounds" "[J") ∈ WG := wgr_6 139 (by rfl) (by rfl)
set_option maxRecDepth 100000 in
theorem kw_1341 : (Jvm.Cond.laysFinal "LatticeKeysModel$Sponge" "LatticeKeysModel$Sponge" "turn" "[I") ∈ WG := wgr_6 141 (by rfl) (by rfl)
set_option maxRecDepth 100000 in
theorem kw_1343 : (Jvm.Cond.lays "LatticeKeysModel$Sponge" "LatticeKeysModel$Sponge" "rate" "I") ∈ WG := wgr_6 143 (by rfl) (by rfl)
set_option maxRecDepth 100000 in
theorem kw_1345 : (Jvm.Cond.lays "LatticeKeysModel$Sponge" "LatticeKeysModel$Sponge" "at" "I") ∈ WG := wgr_6 145 (by rfl) (by rfl)
set_option maxRecDepth 100000 in
theorem kw_1347 : (Jvm.Cond.lays "LatticeKeysModel$Sponge" "LatticeKeysModel$Sponge" "suffix" "I") ∈ WG := wgr_6 147 (by rfl) (by rfl)
set_option maxRecDepth 100000 in
theorem kw_1350 : (Jvm.Cond.classLink "LatticeKeysModel" (41 : Nat) "LatticeKeysModel$Secrets") ∈ WG := wgr_6 150 (by rfl) (by rfl)
set_option maxRecDepth 100000 in
theorem kw_1351 : (Jvm.Cond.instantiable "LatticeKeysModel$Secrets" (14 : Nat)) ∈ WG := wgr_6 151 (by rfl) (by rfl)
set_option maxRecDepth 100000 in
theorem kw_1352 : (Jvm.Cond.methodLink "LatticeKeysModel" (43 : Nat) ({ cls := "LatticeKeysModel$Secrets", name := "<init>", desc := "(LLatticeKeysModel$Sponge;)V" } : Jvm.MethodName)) ∈ WG := wgr_6 152 (by rfl) (by rfl)
set_option maxRecDepth 100000 in
theorem kw_1353 : (Jvm.Cond.instanceMethod ({ cls := "LatticeKeysModel$Secrets", name := "<init>", desc := "(LLatticeKeysModel$Sponge;)V" } : Jvm.MethodName)) ∈ WG := wgr_6 153 (by rfl) (by rfl)
set_option maxRecDepth 100000 in
theorem kw_1354 : (Jvm.Cond.code ({ cls := "LatticeKeysModel$Secrets", name := "<init>", desc := "(LLatticeKeysModel$Sponge;)V" } : Jvm.MethodName) prog_15_method_1_code (2 : Nat) (Option.none : Option Jvm.ClassFile.FieldType)) ∈ WG := wgr_6 154 (by rfl) (by rfl)
set_option maxRecDepth 100000 in
theorem kw_1355 : (Jvm.Cond.methodLink "LatticeKeysModel$Secrets" (1 : Nat) ({ cls := "java/lang/Object", name := "<init>", desc := "()V" } : Jvm.MethodName)) ∈ WG := wgr_6 155 (by rfl) (by rfl)
set_option maxRecDepth 100000 in
theorem kw_1356 : (Jvm.Cond.classLink "LatticeKeysModel$Secrets" (7 : Nat) "LatticeKeysModel$Ring") ∈ WG := wgr_6 156 (by rfl) (by rfl)
set_option maxRecDepth 100000 in
theorem kw_1357 : (Jvm.Cond.instantiable "LatticeKeysModel$Ring" (5 : Nat)) ∈ WG := wgr_6 157 (by rfl) (by rfl)
set_option maxRecDepth 100000 in
theorem kw_1358 : (Jvm.Cond.methodLink "LatticeKeysModel$Secrets" (11 : Nat) ({ cls := "LatticeKeysModel$Ring", name := "<init>", desc := "(III)V" } : Jvm.MethodName)) ∈ WG := wgr_6 158 (by rfl) (by rfl)
set_option maxRecDepth 100000 in
theorem kw_1359 : (Jvm.Cond.instanceMethod ({ cls := "LatticeKeysModel$Ring", name := "<init>", desc := "(III)V" } : Jvm.MethodName)) ∈ WG := wgr_6 159 (by rfl) (by rfl)
set_option maxRecDepth 100000 in
theorem kw_1360 : (Jvm.Cond.code ({ cls := "LatticeKeysModel$Ring", name := "<init>", desc := "(III)V" } : Jvm.MethodName) prog_14_method_1_code (7 : Nat) (Option.none : Option Jvm.ClassFile.FieldType)) ∈ WG := wgr_6 160 (by rfl) (by rfl)
set_option maxRecDepth 100000 in
theorem kw_1361 : (Jvm.Cond.methodLink "LatticeKeysModel$Ring" (1 : Nat) ({ cls := "java/lang/Object", name := "<init>", desc := "()V" } : Jvm.MethodName)) ∈ WG := wgr_6 161 (by rfl) (by rfl)
set_option maxRecDepth 100000 in
theorem kw_1362 : (Jvm.Cond.fieldLink "LatticeKeysModel$Ring" (13 : Nat) "LatticeKeysModel$Ring" "q" "I") ∈ WG := wgr_6 162 (by rfl) (by rfl)
set_option maxRecDepth 100000 in
theorem kw_1363 : (Jvm.Cond.fieldLink "LatticeKeysModel$Ring" (17 : Nat) "LatticeKeysModel$Ring" "n" "I") ∈ WG := wgr_6 163 (by rfl) (by rfl)
set_option maxRecDepth 100000 in
theorem kw_1364 : (Jvm.Cond.fieldLink "LatticeKeysModel$Ring" (20 : Nat) "LatticeKeysModel$Ring" "power" "[J") ∈ WG := wgr_6 164 (by rfl) (by rfl)
set_option maxRecDepth 100000 in
theorem kw_1365 : (Jvm.Cond.fieldLink "LatticeKeysModel$Ring" (24 : Nat) "LatticeKeysModel$Ring" "root" "[I") ∈ WG := wgr_6 165 (by rfl) (by rfl)
set_option maxRecDepth 100000 in
theorem kw_1366 : (Jvm.Cond.fieldLink "LatticeKeysModel$Ring" (7 : Nat) "LatticeKeysModel$Ring" "inverse" "J") ∈ WG := wgr_6 166 (by rfl) (by rfl)
set_option maxRecDepth 100000 in
theorem kw_1367 : (Jvm.Cond.laysFinal "LatticeKeysModel$Ring" "LatticeKeysModel$Ring" "q" "I") ∈ WG := wgr_6 167 (by rfl) (by rfl)
set_option maxRecDepth 100000 in
theorem kw_1369 : (Jvm.Cond.laysFinal "LatticeKeysModel$Ring" "LatticeKeysModel$Ring" "n" "I") ∈ WG := wgr_6 169 (by rfl) (by rfl)
set_option maxRecDepth 100000 in
theorem kw_1371 : (Jvm.Cond.laysFinal "LatticeKeysModel$Ring" "LatticeKeysModel$Ring" "power" "[J") ∈ WG := wgr_6 171 (by rfl) (by rfl)
set_option maxRecDepth 100000 in
theorem kw_1373 : (Jvm.Cond.laysFinal "LatticeKeysModel$Ring" "LatticeKeysModel$Ring" "root" "[I") ∈ WG := wgr_6 173 (by rfl) (by rfl)
set_option maxRecDepth 100000 in
theorem kw_1375 : (Jvm.Cond.lays "LatticeKeysModel$Ring" "LatticeKeysModel$Ring" "inverse" "J") ∈ WG := wgr_6 175 (by rfl) (by rfl)
set_option maxRecDepth 100000 in
theorem kw_1378 : (Jvm.Cond.classLink "LatticeKeysModel$Secrets" (18 : Nat) "[[I") ∈ WG := wgr_6 178 (by rfl) (by rfl)
set_option maxRecDepth 100000 in
theorem kw_1379 : (Jvm.Cond.fieldLink "LatticeKeysModel$Secrets" (58 : Nat) "LatticeKeysModel$Secrets" "sponge" "LLatticeKeysModel$Sponge;") ∈ WG := wgr_6 179 (by rfl) (by rfl)
set_option maxRecDepth 100000 in
theorem kw_1380 : (Jvm.Cond.fieldLink "LatticeKeysModel$Secrets" (14 : Nat) "LatticeKeysModel$Secrets" "ring" "LLatticeKeysModel$Ring;") ∈ WG := wgr_6 180 (by rfl) (by rfl)
set_option maxRecDepth 100000 in
theorem kw_1381 : (Jvm.Cond.fieldLink "LatticeKeysModel$Secrets" (20 : Nat) "LatticeKeysModel$Secrets" "matrix" "[[I") ∈ WG := wgr_6 181 (by rfl) (by rfl)
set_option maxRecDepth 100000 in
theorem kw_1382 : (Jvm.Cond.fieldLink "LatticeKeysModel$Secrets" (23 : Nat) "LatticeKeysModel$Secrets" "s" "[[I") ∈ WG := wgr_6 182 (by rfl) (by rfl)
set_option maxRecDepth 100000 in
theorem kw_1383 : (Jvm.Cond.fieldLink "LatticeKeysModel$Secrets" (26 : Nat) "LatticeKeysModel$Secrets" "e" "[[I") ∈ WG := wgr_6 183 (by rfl) (by rfl)
set_option maxRecDepth 100000 in
theorem kw_1384 : (Jvm.Cond.fieldLink "LatticeKeysModel$Secrets" (29 : Nat) "LatticeKeysModel$Secrets" "open" "[[I") ∈ WG := wgr_6 184 (by rfl) (by rfl)
set_option maxRecDepth 100000 in
theorem kw_1385 : (Jvm.Cond.fieldLink "LatticeKeysModel$Secrets" (32 : Nat) "LatticeKeysModel$Secrets" "sum" "[I") ∈ WG := wgr_6 185 (by rfl) (by rfl)
set_option maxRecDepth 100000 in
theorem kw_1386 : (Jvm.Cond.fieldLink "LatticeKeysModel$Secrets" (36 : Nat) "LatticeKeysModel$Secrets" "plain" "[I") ∈ WG := wgr_6 186 (by rfl) (by rfl)
set_option maxRecDepth 100000 in
theorem kw_1387 : (Jvm.Cond.fieldLink "LatticeKeysModel$Secrets" (39 : Nat) "LatticeKeysModel$Secrets" "other" "[I") ∈ WG := wgr_6 187 (by rfl) (by rfl)
set_option maxRecDepth 100000 in
theorem kw_1388 : (Jvm.Cond.fieldLink "LatticeKeysModel$Secrets" (42 : Nat) "LatticeKeysModel$Secrets" "two" "[B") ∈ WG := wgr_6 188 (by rfl) (by rfl)
set_option maxRecDepth 100000 in
theorem kw_1389 : (Jvm.Cond.fieldLink "LatticeKeysModel$Secrets" (46 : Nat) "LatticeKeysModel$Secrets" "chance" "[B") ∈ WG := wgr_6 189 (by rfl) (by rfl)
set_option maxRecDepth 100000 in
theorem kw_1390 : (Jvm.Cond.fieldLink "LatticeKeysModel$Secrets" (49 : Nat) "LatticeKeysModel$Secrets" "hash" "[B") ∈ WG := wgr_6 190 (by rfl) (by rfl)
set_option maxRecDepth 100000 in
theorem kw_1391 : (Jvm.Cond.fieldLink "LatticeKeysModel$Secrets" (52 : Nat) "LatticeKeysModel$Secrets" "guess" "[B") ∈ WG := wgr_6 191 (by rfl) (by rfl)
set_option maxRecDepth 100000 in
theorem kw_1392 : (Jvm.Cond.fieldLink "LatticeKeysModel$Secrets" (55 : Nat) "LatticeKeysModel$Secrets" "again" "[B") ∈ WG := wgr_6 192 (by rfl) (by rfl)
set_option maxRecDepth 100000 in
theorem kw_1393 : (Jvm.Cond.laysFinal "LatticeKeysModel$Secrets" "LatticeKeysModel$Secrets" "sponge" "LLatticeKeysModel$Sponge;") ∈ WG := wgr_6 193 (by rfl) (by rfl)
set_option maxRecDepth 100000 in
theorem kw_1395 : (Jvm.Cond.laysFinal "LatticeKeysModel$Secrets" "LatticeKeysModel$Secrets" "ring" "LLatticeKeysModel$Ring;") ∈ WG := wgr_6 195 (by rfl) (by rfl)
set_option maxRecDepth 100000 in
theorem kw_1397 : (Jvm.Cond.laysFinal "LatticeKeysModel$Secrets" "LatticeKeysModel$Secrets" "matrix" "[[I") ∈ WG := wgr_6 197 (by rfl) (by rfl)
set_option maxRecDepth 100000 in
theorem kw_1399 : (Jvm.Cond.laysFinal "LatticeKeysModel$Secrets" "LatticeKeysModel$Secrets" "s" "[[I") ∈ WG := wgr_6 199 (by rfl) (by rfl)
set_option maxRecDepth 100000 in
theorem kw_1401 : (Jvm.Cond.laysFinal "LatticeKeysModel$Secrets" "LatticeKeysModel$Secrets" "e" "[[I") ∈ WG := wgr_6 201 (by rfl) (by rfl)
set_option maxRecDepth 100000 in
theorem kw_1403 : (Jvm.Cond.laysFinal "LatticeKeysModel$Secrets" "LatticeKeysModel$Secrets" "open" "[[I") ∈ WG := wgr_6 203 (by rfl) (by rfl)
set_option maxRecDepth 100000 in
theorem kw_1405 : (Jvm.Cond.laysFinal "LatticeKeysModel$Secrets" "LatticeKeysModel$Secrets" "sum" "[I") ∈ WG := wgr_6 205 (by rfl) (by rfl)
set_option maxRecDepth 100000 in
theorem kw_1407 : (Jvm.Cond.laysFinal "LatticeKeysModel$Secrets" "LatticeKeysModel$Secrets" "plain" "[I") ∈ WG := wgr_6 207 (by rfl) (by rfl)
set_option maxRecDepth 100000 in
theorem kw_1409 : (Jvm.Cond.laysFinal "LatticeKeysModel$Secrets" "LatticeKeysModel$Secrets" "other" "[I") ∈ WG := wgr_6 209 (by rfl) (by rfl)
set_option maxRecDepth 100000 in
theorem kw_1411 : (Jvm.Cond.laysFinal "LatticeKeysModel$Secrets" "LatticeKeysModel$Secrets" "two" "[B") ∈ WG := wgr_6 211 (by rfl) (by rfl)
set_option maxRecDepth 100000 in
theorem kw_1413 : (Jvm.Cond.laysFinal "LatticeKeysModel$Secrets" "LatticeKeysModel$Secrets" "chance" "[B") ∈ WG := wgr_6 213 (by rfl) (by rfl)
set_option maxRecDepth 100000 in
theorem kw_1415 : (Jvm.Cond.laysFinal "LatticeKeysModel$Secrets" "LatticeKeysModel$Secrets" "hash" "[B") ∈ WG := wgr_6 215 (by rfl) (by rfl)
set_option maxRecDepth 100000 in
theorem kw_1417 : (Jvm.Cond.laysFinal "LatticeKeysModel$Secrets" "LatticeKeysModel$Secrets" "guess" "[B") ∈ WG := wgr_6 217 (by rfl) (by rfl)
set_option maxRecDepth 100000 in
theorem kw_1419 : (Jvm.Cond.laysFinal "LatticeKeysModel$Secrets" "LatticeKeysModel$Secrets" "again" "[B") ∈ WG := wgr_6 219 (by rfl) (by rfl)
set_option maxRecDepth 100000 in
theorem kw_1422 : (Jvm.Cond.classLink "LatticeKeysModel" (50 : Nat) "LatticeKeysModel$Hands") ∈ WG := wgr_6 222 (by rfl) (by rfl)
set_option maxRecDepth 100000 in
theorem kw_1423 : (Jvm.Cond.instantiable "LatticeKeysModel$Hands" (31 : Nat)) ∈ WG := wgr_6 223 (by rfl) (by rfl)
set_option maxRecDepth 100000 in
theorem kw_1424 : (Jvm.Cond.methodLink "LatticeKeysModel" (52 : Nat) ({ cls := "LatticeKeysModel$Hands", name := "<init>", desc := "(LLatticeKeysModel$Sponge;)V" } : Jvm.MethodName)) ∈ WG := wgr_6 224 (by rfl) (by rfl)
set_option maxRecDepth 100000 in
theorem kw_1425 : (Jvm.Cond.instanceMethod ({ cls := "LatticeKeysModel$Hands", name := "<init>", desc := "(LLatticeKeysModel$Sponge;)V" } : Jvm.MethodName)) ∈ WG := wgr_6 225 (by rfl) (by rfl)
set_option maxRecDepth 100000 in
theorem kw_1426 : (Jvm.Cond.code ({ cls := "LatticeKeysModel$Hands", name := "<init>", desc := "(LLatticeKeysModel$Sponge;)V" } : Jvm.MethodName) prog_13_method_1_code (2 : Nat) (Option.none : Option Jvm.ClassFile.FieldType)) ∈ WG := wgr_6 226 (by rfl) (by rfl)
set_option maxRecDepth 100000 in
theorem kw_1427 : (Jvm.Cond.methodLink "LatticeKeysModel$Hands" (1 : Nat) ({ cls := "java/lang/Object", name := "<init>", desc := "()V" } : Jvm.MethodName)) ∈ WG := wgr_6 227 (by rfl) (by rfl)
set_option maxRecDepth 100000 in
theorem kw_1428 : (Jvm.Cond.classLink "LatticeKeysModel$Hands" (7 : Nat) "LatticeKeysModel$Ring") ∈ WG := wgr_6 228 (by rfl) (by rfl)
set_option maxRecDepth 100000 in
theorem kw_1429 : (Jvm.Cond.constant "LatticeKeysModel$Hands" (11 : Nat) (8380417 : Int32)) ∈ WG := wgr_6 229 (by rfl) (by rfl)
set_option maxRecDepth 100000 in
theorem kw_1430 : (Jvm.Cond.methodLink "LatticeKeysModel$Hands" (12 : Nat) ({ cls := "LatticeKeysModel$Ring", name := "<init>", desc := "(III)V" } : Jvm.MethodName)) ∈ WG := wgr_6 230 (by rfl) (by rfl)
set_option maxRecDepth 100000 in
theorem kw_1431 : (Jvm.Cond.classLink "LatticeKeysModel$Hands" (19 : Nat) "[[I") ∈ WG := wgr_6 231 (by rfl) (by rfl)
set_option maxRecDepth 100000 in
theorem kw_1432 : (Jvm.Cond.fieldLink "LatticeKeysModel$Hands" (87 : Nat) "LatticeKeysModel$Hands" "sponge" "LLatticeKeysModel$Sponge;") ∈ WG := wgr_6 232 (by rfl) (by rfl)
set_option maxRecDepth 100000 in
theorem kw_1433 : (Jvm.Cond.fieldLink "LatticeKeysModel$Hands" (15 : Nat) "LatticeKeysModel$Hands" "ring" "LLatticeKeysModel$Ring;") ∈ WG := wgr_6 233 (by rfl) (by rfl)
set_option maxRecDepth 100000 in
theorem kw_1434 : (Jvm.Cond.fieldLink "LatticeKeysModel$Hands" (21 : Nat) "LatticeKeysModel$Hands" "matrix" "[[I") ∈ WG := wgr_6 234 (by rfl) (by rfl)
set_option maxRecDepth 100000 in
theorem kw_1435 : (Jvm.Cond.fieldLink "LatticeKeysModel$Hands" (24 : Nat) "LatticeKeysModel$Hands" "s1" "[[I") ∈ WG := wgr_6 235 (by rfl) (by rfl)
set_option maxRecDepth 100000 in
theorem kw_1436 : (Jvm.Cond.fieldLink "LatticeKeysModel$Hands" (27 : Nat) "LatticeKeysModel$Hands" "s2" "[[I") ∈ WG := wgr_6 236 (by rfl) (by rfl)
set_option maxRecDepth 100000 in
theorem kw_1437 : (Jvm.Cond.fieldLink "LatticeKeysModel$Hands" (30 : Nat) "LatticeKeysModel$Hands" "t0" "[[I") ∈ WG := wgr_6 237 (by rfl) (by rfl)
set_option maxRecDepth 100000 in
theorem kw_1438 : (Jvm.Cond.fieldLink "LatticeKeysModel$Hands" (33 : Nat) "LatticeKeysModel$Hands" "t1" "[[I") ∈ WG := wgr_6 238 (by rfl) (by rfl)
set_option maxRecDepth 100000 in
theorem kw_1439 : (Jvm.Cond.fieldLink "LatticeKeysModel$Hands" (36 : Nat) "LatticeKeysModel$Hands" "y" "[[I") ∈ WG := wgr_6 239 (by rfl) (by rfl)
set_option maxRecDepth 100000 in
theorem kw_1440 : (Jvm.Cond.fieldLink "LatticeKeysModel$Hands" (39 : Nat) "LatticeKeysModel$Hands" "z" "[[I") ∈ WG := wgr_7 0 (by rfl) (by rfl)
set_option maxRecDepth 100000 in
theorem kw_1441 : (Jvm.Cond.fieldLink "LatticeKeysModel$Hands" (42 : Nat) "LatticeKeysModel$Hands" "hat" "[[I") ∈ WG := wgr_7 1 (by rfl) (by rfl)
set_option maxRecDepth 100000 in
theorem kw_1442 : (Jvm.Cond.fieldLink "LatticeKeysModel$Hands" (45 : Nat) "LatticeKeysModel$Hands" "w" "[[I") ∈ WG := wgr_7 2 (by rfl) (by rfl)
set_option maxRecDepth 100000 in
theorem kw_1443 : (Jvm.Cond.fieldLink "LatticeKeysModel$Hands" (48 : Nat) "LatticeKeysModel$Hands" "hint" "[[I") ∈ WG := wgr_7 3 (by rfl) (by rfl)
set_option maxRecDepth 100000 in
theorem kw_1444 : (Jvm.Cond.fieldLink "LatticeKeysModel$Hands" (51 : Nat) "LatticeKeysModel$Hands" "c" "[I") ∈ WG := wgr_7 4 (by rfl) (by rfl)
set_option maxRecDepth 100000 in
theorem kw_1445 : (Jvm.Cond.fieldLink "LatticeKeysModel$Hands" (55 : Nat) "LatticeKeysModel$Hands" "product" "[I") ∈ WG := wgr_7 5 (by rfl) (by rfl)
set_option maxRecDepth 100000 in
theorem kw_1446 : (Jvm.Cond.fieldLink "LatticeKeysModel$Hands" (58 : Nat) "LatticeKeysModel$Hands" "second" "[I") ∈ WG := wgr_7 6 (by rfl) (by rfl)
set_option maxRecDepth 100000 in
theorem kw_1447 : (Jvm.Cond.fieldLink "LatticeKeysModel$Hands" (61 : Nat) "LatticeKeysModel$Hands" "sum" "[J") ∈ WG := wgr_7 7 (by rfl) (by rfl)
set_option maxRecDepth 100000 in
theorem kw_1448 : (Jvm.Cond.fieldLink "LatticeKeysModel$Hands" (65 : Nat) "LatticeKeysModel$Hands" "seed" "[B") ∈ WG := wgr_7 8 (by rfl) (by rfl)
set_option maxRecDepth 100000 in
theorem kw_1449 : (Jvm.Cond.fieldLink "LatticeKeysModel$Hands" (69 : Nat) "LatticeKeysModel$Hands" "mu" "[B") ∈ WG := wgr_7 9 (by rfl) (by rfl)
set_option maxRecDepth 100000 in
theorem kw_1450 : (Jvm.Cond.fieldLink "LatticeKeysModel$Hands" (72 : Nat) "LatticeKeysModel$Hands" "chance" "[B") ∈ WG := wgr_7 10 (by rfl) (by rfl)
set_option maxRecDepth 100000 in
theorem kw_1451 : (Jvm.Cond.fieldLink "LatticeKeysModel$Hands" (75 : Nat) "LatticeKeysModel$Hands" "row" "[B") ∈ WG := wgr_7 11 (by rfl) (by rfl)
set_option maxRecDepth 100000 in
theorem kw_1452 : (Jvm.Cond.fieldLink "LatticeKeysModel$Hands" (78 : Nat) "LatticeKeysModel$Hands" "mark" "[B") ∈ WG := wgr_7 12 (by rfl) (by rfl)
set_option maxRecDepth 100000 in
theorem kw_1453 : (Jvm.Cond.fieldLink "LatticeKeysModel$Hands" (81 : Nat) "LatticeKeysModel$Hands" "told" "[B") ∈ WG := wgr_7 13 (by rfl) (by rfl)
set_option maxRecDepth 100000 in
theorem kw_1454 : (Jvm.Cond.fieldLink "LatticeKeysModel$Hands" (84 : Nat) "LatticeKeysModel$Hands" "tr" "[B") ∈ WG := wgr_7 14 (by rfl) (by rfl)
set_option maxRecDepth 100000 in
theorem kw_1455 : (Jvm.Cond.fieldLink "LatticeKeysModel$Hands" (103 : Nat) "LatticeKeysModel$Hands" "set" "I") ∈ WG := wgr_7 15 (by rfl) (by rfl)
set_option maxRecDepth 100000 in
theorem kw_1456 : (Jvm.Cond.fieldLink "LatticeKeysModel$Hands" (107 : Nat) "LatticeKeysModel$Hands" "k" "I") ∈ WG := wgr_7 16 (by rfl) (by rfl)
set_option maxRecDepth 100000 in
theorem kw_1457 : (Jvm.Cond.fieldLink "LatticeKeysModel$Hands" (110 : Nat) "LatticeKeysModel$Hands" "l" "I") ∈ WG := wgr_7 17 (by rfl) (by rfl)
set_option maxRecDepth 100000 in
theorem kw_1458 : (Jvm.Cond.fieldLink "LatticeKeysModel$Hands" (113 : Nat) "LatticeKeysModel$Hands" "eta" "I") ∈ WG := wgr_7 18 (by rfl) (by rfl)
set_option maxRecDepth 100000 in
theorem kw_1459 : (Jvm.Cond.fieldLink "LatticeKeysModel$Hands" (118 : Nat) "LatticeKeysModel$Hands" "gamma1" "I") ∈ WG := wgr_7 19 (by rfl) (by rfl)
set_option maxRecDepth 100000 in
theorem kw_1460 : (Jvm.Cond.fieldLink "LatticeKeysModel$Hands" (123 : Nat) "LatticeKeysModel$Hands" "gamma2" "I") ∈ WG := wgr_7 20 (by rfl) (by rfl)
set_option maxRecDepth 100000 in
theorem kw_1461 : (Jvm.Cond.fieldLink "LatticeKeysModel$Hands" (129 : Nat) "LatticeKeysModel$Hands" "beta" "I") ∈ WG := wgr_7 21 (by rfl) (by rfl)
set_option maxRecDepth 100000 in
theorem kw_1462 : (Jvm.Cond.fieldLink "LatticeKeysModel$Hands" (132 : Nat) "LatticeKeysModel$Hands" "marks" "I") ∈ WG := wgr_7 22 (by rfl) (by rfl)
set_option maxRecDepth 100000 in
theorem kw_1463 : (Jvm.Cond.laysFinal "LatticeKeysModel$Hands" "LatticeKeysModel$Hands" "sponge" "LLatticeKeysModel$Sponge;") ∈ WG := wgr_7 23 (by rfl) (by rfl)
set_option maxRecDepth 100000 in
theorem kw_1465 : (Jvm.Cond.laysFinal "LatticeKeysModel$Hands" "LatticeKeysModel$Hands" "ring" "LLatticeKeysModel$Ring;") ∈ WG := wgr_7 25 (by rfl) (by rfl)
set_option maxRecDepth 100000 in
theorem kw_1467 : (Jvm.Cond.laysFinal "LatticeKeysModel$Hands" "LatticeKeysModel$Hands" "matrix" "[[I") ∈ WG := wgr_7 27 (by rfl) (by rfl)
set_option maxRecDepth 100000 in
theorem kw_1469 : (Jvm.Cond.laysFinal "LatticeKeysModel$Hands" "LatticeKeysModel$Hands" "s1" "[[I") ∈ WG := wgr_7 29 (by rfl) (by rfl)
set_option maxRecDepth 100000 in
theorem kw_1471 : (Jvm.Cond.laysFinal "LatticeKeysModel$Hands" "LatticeKeysModel$Hands" "s2" "[[I") ∈ WG := wgr_7 31 (by rfl) (by rfl)
set_option maxRecDepth 100000 in
theorem kw_1473 : (Jvm.Cond.laysFinal "LatticeKeysModel$Hands" "LatticeKeysModel$Hands" "t0" "[[I") ∈ WG := wgr_7 33 (by rfl) (by rfl)
set_option maxRecDepth 100000 in
theorem kw_1475 : (Jvm.Cond.laysFinal "LatticeKeysModel$Hands" "LatticeKeysModel$Hands" "t1" "[[I") ∈ WG := wgr_7 35 (by rfl) (by rfl)
set_option maxRecDepth 100000 in
theorem kw_1477 : (Jvm.Cond.laysFinal "LatticeKeysModel$Hands" "LatticeKeysModel$Hands" "y" "[[I") ∈ WG := wgr_7 37 (by rfl) (by rfl)
set_option maxRecDepth 100000 in
theorem kw_1479 : (Jvm.Cond.laysFinal "LatticeKeysModel$Hands" "LatticeKeysModel$Hands" "z" "[[I") ∈ WG := wgr_7 39 (by rfl) (by rfl)
set_option maxRecDepth 100000 in
theorem kw_1481 : (Jvm.Cond.laysFinal "LatticeKeysModel$Hands" "LatticeKeysModel$Hands" "hat" "[[I") ∈ WG := wgr_7 41 (by rfl) (by rfl)
set_option maxRecDepth 100000 in
theorem kw_1483 : (Jvm.Cond.laysFinal "LatticeKeysModel$Hands" "LatticeKeysModel$Hands" "w" "[[I") ∈ WG := wgr_7 43 (by rfl) (by rfl)
set_option maxRecDepth 100000 in
theorem kw_1485 : (Jvm.Cond.laysFinal "LatticeKeysModel$Hands" "LatticeKeysModel$Hands" "hint" "[[I") ∈ WG := wgr_7 45 (by rfl) (by rfl)
set_option maxRecDepth 100000 in
theorem kw_1487 : (Jvm.Cond.laysFinal "LatticeKeysModel$Hands" "LatticeKeysModel$Hands" "c" "[I") ∈ WG := wgr_7 47 (by rfl) (by rfl)
set_option maxRecDepth 100000 in
theorem kw_1489 : (Jvm.Cond.laysFinal "LatticeKeysModel$Hands" "LatticeKeysModel$Hands" "product" "[I") ∈ WG := wgr_7 49 (by rfl) (by rfl)
set_option maxRecDepth 100000 in
theorem kw_1491 : (Jvm.Cond.laysFinal "LatticeKeysModel$Hands" "LatticeKeysModel$Hands" "second" "[I") ∈ WG := wgr_7 51 (by rfl) (by rfl)
set_option maxRecDepth 100000 in
theorem kw_1493 : (Jvm.Cond.laysFinal "LatticeKeysModel$Hands" "LatticeKeysModel$Hands" "sum" "[J") ∈ WG := wgr_7 53 (by rfl) (by rfl)
set_option maxRecDepth 100000 in
theorem kw_1495 : (Jvm.Cond.laysFinal "LatticeKeysModel$Hands" "LatticeKeysModel$Hands" "seed" "[B") ∈ WG := wgr_7 55 (by rfl) (by rfl)
set_option maxRecDepth 100000 in
theorem kw_1497 : (Jvm.Cond.laysFinal "LatticeKeysModel$Hands" "LatticeKeysModel$Hands" "mu" "[B") ∈ WG := wgr_7 57 (by rfl) (by rfl)
set_option maxRecDepth 100000 in
theorem kw_1499 : (Jvm.Cond.laysFinal "LatticeKeysModel$Hands" "LatticeKeysModel$Hands" "chance" "[B") ∈ WG := wgr_7 59 (by rfl) (by rfl)
set_option maxRecDepth 100000 in
theorem kw_1501 : (Jvm.Cond.laysFinal "LatticeKeysModel$Hands" "LatticeKeysModel$Hands" "row" "[B") ∈ WG := wgr_7 61 (by rfl) (by rfl)
set_option maxRecDepth 100000 in
theorem kw_1503 : (Jvm.Cond.laysFinal "LatticeKeysModel$Hands" "LatticeKeysModel$Hands" "mark" "[B") ∈ WG := wgr_7 63 (by rfl) (by rfl)
set_option maxRecDepth 100000 in
theorem kw_1505 : (Jvm.Cond.laysFinal "LatticeKeysModel$Hands" "LatticeKeysModel$Hands" "told" "[B") ∈ WG := wgr_7 65 (by rfl) (by rfl)
set_option maxRecDepth 100000 in
theorem kw_1507 : (Jvm.Cond.laysFinal "LatticeKeysModel$Hands" "LatticeKeysModel$Hands" "tr" "[B") ∈ WG := wgr_7 67 (by rfl) (by rfl)
set_option maxRecDepth 100000 in
theorem kw_1509 : (Jvm.Cond.lays "LatticeKeysModel$Hands" "LatticeKeysModel$Hands" "set" "I") ∈ WG := wgr_7 69 (by rfl) (by rfl)
set_option maxRecDepth 100000 in
theorem kw_1511 : (Jvm.Cond.lays "LatticeKeysModel$Hands" "LatticeKeysModel$Hands" "k" "I") ∈ WG := wgr_7 71 (by rfl) (by rfl)
set_option maxRecDepth 100000 in
theorem kw_1513 : (Jvm.Cond.lays "LatticeKeysModel$Hands" "LatticeKeysModel$Hands" "l" "I") ∈ WG := wgr_7 73 (by rfl) (by rfl)
set_option maxRecDepth 100000 in
theorem kw_1515 : (Jvm.Cond.lays "LatticeKeysModel$Hands" "LatticeKeysModel$Hands" "eta" "I") ∈ WG := wgr_7 75 (by rfl) (by rfl)
set_option maxRecDepth 100000 in
theorem kw_1517 : (Jvm.Cond.lays "LatticeKeysModel$Hands" "LatticeKeysModel$Hands" "gamma1" "I") ∈ WG := wgr_7 77 (by rfl) (by rfl)
set_option maxRecDepth 100000 in
theorem kw_1519 : (Jvm.Cond.lays "LatticeKeysModel$Hands" "LatticeKeysModel$Hands" "gamma2" "I") ∈ WG := wgr_7 79 (by rfl) (by rfl)
set_option maxRecDepth 100000 in
theorem kw_1521 : (Jvm.Cond.lays "LatticeKeysModel$Hands" "LatticeKeysModel$Hands" "beta" "I") ∈ WG := wgr_7 81 (by rfl) (by rfl)
set_option maxRecDepth 100000 in
theorem kw_1523 : (Jvm.Cond.lays "LatticeKeysModel$Hands" "LatticeKeysModel$Hands" "marks" "I") ∈ WG := wgr_7 83 (by rfl) (by rfl)
set_option maxRecDepth 100000 in
theorem kw_1526 : (Jvm.Cond.fieldLink "LatticeKeysModel" (57 : Nat) "LatticeKeysModel" "thrown" "I") ∈ WG := wgr_7 86 (by rfl) (by rfl)
set_option maxRecDepth 100000 in
theorem kw_1527 : (Jvm.Cond.fieldLink "LatticeKeysModel" (70 : Nat) "LatticeKeysModel" "taped" "I") ∈ WG := wgr_7 87 (by rfl) (by rfl)
set_option maxRecDepth 100000 in
theorem kw_1528 : (Jvm.Cond.fieldLink "LatticeKeysModel" (80 : Nat) "LatticeKeysModel" "results" "I") ∈ WG := wgr_7 88 (by rfl) (by rfl)
set_option maxRecDepth 100000 in
theorem kw_1529 : (Jvm.Cond.fieldLink "LatticeKeysModel" (83 : Nat) "LatticeKeysModel" "keys" "I") ∈ WG := wgr_7 89 (by rfl) (by rfl)
set_option maxRecDepth 100000 in
theorem kw_1530 : (Jvm.Cond.fieldLink "LatticeKeysModel" (7 : Nat) "LatticeKeysModel" "tape" "[B") ∈ WG := wgr_7 90 (by rfl) (by rfl)
set_option maxRecDepth 100000 in
theorem kw_1531 : (Jvm.Cond.fieldLink "LatticeKeysModel" (13 : Nat) "LatticeKeysModel" "result" "[B") ∈ WG := wgr_7 91 (by rfl) (by rfl)
set_option maxRecDepth 100000 in
theorem kw_1532 : (Jvm.Cond.fieldLink "LatticeKeysModel" (16 : Nat) "LatticeKeysModel" "mark" "[B") ∈ WG := wgr_7 92 (by rfl) (by rfl)
set_option maxRecDepth 100000 in
theorem kw_1533 : (Jvm.Cond.fieldLink "LatticeKeysModel" (21 : Nat) "LatticeKeysModel" "open" "[[B") ∈ WG := wgr_7 93 (by rfl) (by rfl)
set_option maxRecDepth 100000 in
theorem kw_1534 : (Jvm.Cond.fieldLink "LatticeKeysModel" (24 : Nat) "LatticeKeysModel" "hidden" "[[B") ∈ WG := wgr_7 94 (by rfl) (by rfl)
set_option maxRecDepth 100000 in
theorem kw_1535 : (Jvm.Cond.fieldLink "LatticeKeysModel" (27 : Nat) "LatticeKeysModel" "sets" "[I") ∈ WG := wgr_7 95 (by rfl) (by rfl)
set_option maxRecDepth 100000 in
theorem kw_1536 : (Jvm.Cond.fieldLink "LatticeKeysModel" (31 : Nat) "LatticeKeysModel" "hiddenSizes" "[I") ∈ WG := wgr_7 96 (by rfl) (by rfl)
set_option maxRecDepth 100000 in
theorem kw_1537 : (Jvm.Cond.fieldLink "LatticeKeysModel" (37 : Nat) "LatticeKeysModel" "sponge" "LLatticeKeysModel$Sponge;") ∈ WG := wgr_7 97 (by rfl) (by rfl)
set_option maxRecDepth 100000 in
theorem kw_1538 : (Jvm.Cond.fieldLink "LatticeKeysModel" (46 : Nat) "LatticeKeysModel" "secrets" "LLatticeKeysModel$Secrets;") ∈ WG := wgr_7 98 (by rfl) (by rfl)
set_option maxRecDepth 100000 in
theorem kw_1539 : (Jvm.Cond.fieldLink "LatticeKeysModel" (53 : Nat) "LatticeKeysModel" "hands" "LLatticeKeysModel$Hands;") ∈ WG := wgr_7 99 (by rfl) (by rfl)
set_option maxRecDepth 100000 in
theorem kw_1540 : (Jvm.Cond.lays "LatticeKeysModel" "LatticeKeysModel" "thrown" "I") ∈ WG := wgr_7 100 (by rfl) (by rfl)
set_option maxRecDepth 100000 in
theorem kw_1542 : (Jvm.Cond.lays "LatticeKeysModel" "LatticeKeysModel" "taped" "I") ∈ WG := wgr_7 102 (by rfl) (by rfl)
set_option maxRecDepth 100000 in
theorem kw_1544 : (Jvm.Cond.lays "LatticeKeysModel" "LatticeKeysModel" "results" "I") ∈ WG := wgr_7 104 (by rfl) (by rfl)
set_option maxRecDepth 100000 in
theorem kw_1546 : (Jvm.Cond.lays "LatticeKeysModel" "LatticeKeysModel" "keys" "I") ∈ WG := wgr_7 106 (by rfl) (by rfl)
set_option maxRecDepth 100000 in
theorem kw_1548 : (Jvm.Cond.laysFinal "LatticeKeysModel" "LatticeKeysModel" "tape" "[B") ∈ WG := wgr_7 108 (by rfl) (by rfl)
set_option maxRecDepth 100000 in
theorem kw_1550 : (Jvm.Cond.laysFinal "LatticeKeysModel" "LatticeKeysModel" "result" "[B") ∈ WG := wgr_7 110 (by rfl) (by rfl)
set_option maxRecDepth 100000 in
theorem kw_1552 : (Jvm.Cond.laysFinal "LatticeKeysModel" "LatticeKeysModel" "mark" "[B") ∈ WG := wgr_7 112 (by rfl) (by rfl)
set_option maxRecDepth 100000 in
theorem kw_1554 : (Jvm.Cond.laysFinal "LatticeKeysModel" "LatticeKeysModel" "open" "[[B") ∈ WG := wgr_7 114 (by rfl) (by rfl)
set_option maxRecDepth 100000 in
theorem kw_1556 : (Jvm.Cond.laysFinal "LatticeKeysModel" "LatticeKeysModel" "hidden" "[[B") ∈ WG := wgr_7 116 (by rfl) (by rfl)
set_option maxRecDepth 100000 in
theorem kw_1558 : (Jvm.Cond.laysFinal "LatticeKeysModel" "LatticeKeysModel" "sets" "[I") ∈ WG := wgr_7 118 (by rfl) (by rfl)
set_option maxRecDepth 100000 in
theorem kw_1560 : (Jvm.Cond.laysFinal "LatticeKeysModel" "LatticeKeysModel" "hiddenSizes" "[I") ∈ WG := wgr_7 120 (by rfl) (by rfl)
set_option maxRecDepth 100000 in
theorem kw_1562 : (Jvm.Cond.laysFinal "LatticeKeysModel" "LatticeKeysModel" "sponge" "LLatticeKeysModel$Sponge;") ∈ WG := wgr_7 122 (by rfl) (by rfl)
set_option maxRecDepth 100000 in
theorem kw_1564 : (Jvm.Cond.laysFinal "LatticeKeysModel" "LatticeKeysModel" "secrets" "LLatticeKeysModel$Secrets;") ∈ WG := wgr_7 124 (by rfl) (by rfl)
set_option maxRecDepth 100000 in
theorem kw_1566 : (Jvm.Cond.laysFinal "LatticeKeysModel" "LatticeKeysModel" "hands" "LLatticeKeysModel$Hands;") ∈ WG := wgr_7 126 (by rfl) (by rfl)
set_option maxRecDepth 100000 in
theorem kw_1569 : (Jvm.Cond.methodLink "LatticeKeysLaw" (110 : Nat) ({ cls := "LatticeKeysModel", name := "thrown", desc := "()I" } : Jvm.MethodName)) ∈ WG := wgr_7 129 (by rfl) (by rfl)
set_option maxRecDepth 100000 in
theorem kw_1570 : (Jvm.Cond.instanceMethod ({ cls := "LatticeKeysModel", name := "thrown", desc := "()I" } : Jvm.MethodName)) ∈ WG := wgr_7 130 (by rfl) (by rfl)
set_option maxRecDepth 100000 in
theorem kw_1571 : (Jvm.Cond.selects "LatticeKeysModel" ({ cls := "LatticeKeysModel", name := "thrown", desc := "()I" } : Jvm.MethodName) ({ cls := "LatticeKeysModel", name := "thrown", desc := "()I" } : Jvm.MethodName)) ∈ WG := wgr_7 131 (by rfl) (by rfl)
set_option maxRecDepth 100000 in
theorem kw_1572 : (Jvm.Cond.code ({ cls := "LatticeKeysModel", name := "thrown", desc := "()I" } : Jvm.MethodName) prog_12_method_4_code (1 : Nat) (Option.some Jvm.ClassFile.FieldType.int)) ∈ WG := wgr_7 132 (by rfl) (by rfl)
set_option maxRecDepth 100000 in
theorem kw_1573 : (Jvm.Cond.methodLink "LatticeKeysLaw" (80 : Nat) ({ cls := "LatticeKeysModel", name := "feed", desc := "(IIIII)I" } : Jvm.MethodName)) ∈ WG := wgr_7 133 (by rfl) (by rfl)
set_option maxRecDepth 100000 in
theorem kw_1574 : (Jvm.Cond.instanceMethod ({ cls := "LatticeKeysModel", name := "feed", desc := "(IIIII)I" } : Jvm.MethodName)) ∈ WG := wgr_7 134 (by rfl) (by rfl)
set_option maxRecDepth 100000 in
theorem kw_1575 : (Jvm.Cond.selects "LatticeKeysModel" ({ cls := "LatticeKeysModel", name := "feed", desc := "(IIIII)I" } : Jvm.MethodName) ({ cls := "LatticeKeysModel", name := "feed", desc := "(IIIII)I" } : Jvm.MethodName)) ∈ WG := wgr_7 135 (by rfl) (by rfl)
set_option maxRecDepth 100000 in
theorem kw_1576 : (Jvm.Cond.code ({ cls := "LatticeKeysModel", name := "feed", desc := "(IIIII)I" } : Jvm.MethodName) prog_12_method_9_code (6 : Nat) (Option.some Jvm.ClassFile.FieldType.int)) ∈ WG := wgr_7 136 (by rfl) (by rfl)
set_option maxRecDepth 100000 in
theorem kw_1577 : (Jvm.Cond.methodLink "LatticeKeysModel" (73 : Nat) ({ cls := "LatticeKeysModel", name := "fail", desc := "(I)I" } : Jvm.MethodName)) ∈ WG := wgr_7 137 (by rfl) (by rfl)
set_option maxRecDepth 100000 in
theorem kw_1579 : (Jvm.Cond.instanceMethod ({ cls := "LatticeKeysModel", name := "fail", desc := "(I)I" } : Jvm.MethodName)) ∈ WG := wgr_7 139 (by rfl) (by rfl)
set_option maxRecDepth 100000 in
theorem kw_1580 : (Jvm.Cond.code ({ cls := "LatticeKeysModel", name := "fail", desc := "(I)I" } : Jvm.MethodName) prog_12_method_5_code (2 : Nat) (Option.some Jvm.ClassFile.FieldType.int)) ∈ WG := wgr_7 140 (by rfl) (by rfl)
set_option maxRecDepth 100000 in
theorem kw_1581 : (Jvm.Cond.methodLink "LatticeKeysModel" (76 : Nat) ({ cls := "LatticeKeysModel", name := "four", desc := "(I)V" } : Jvm.MethodName)) ∈ WG := wgr_7 141 (by rfl) (by rfl)
set_option maxRecDepth 100000 in
theorem kw_1583 : (Jvm.Cond.instanceMethod ({ cls := "LatticeKeysModel", name := "four", desc := "(I)V" } : Jvm.MethodName)) ∈ WG := wgr_7 143 (by rfl) (by rfl)
set_option maxRecDepth 100000 in
theorem kw_1584 : (Jvm.Cond.code ({ cls := "LatticeKeysModel", name := "four", desc := "(I)V" } : Jvm.MethodName) prog_12_method_8_code (3 : Nat) (Option.none : Option Jvm.ClassFile.FieldType)) ∈ WG := wgr_7 144 (by rfl) (by rfl)
set_option maxRecDepth 100000 in
theorem kw_1585 : (Jvm.Cond.methodLink "LatticeKeysLaw" (84 : Nat) ({ cls := "LatticeKeysModel", name := "end", desc := "(I)I" } : Jvm.MethodName)) ∈ WG := wgr_7 145 (by rfl) (by rfl)
set_option maxRecDepth 100000 in
theorem kw_1586 : (Jvm.Cond.instanceMethod ({ cls := "LatticeKeysModel", name := "end", desc := "(I)I" } : Jvm.MethodName)) ∈ WG := wgr_7 146 (by rfl) (by rfl)
set_option maxRecDepth 100000 in
theorem kw_1587 : (Jvm.Cond.selects "LatticeKeysModel" ({ cls := "LatticeKeysModel", name := "end", desc := "(I)I" } : Jvm.MethodName) ({ cls := "LatticeKeysModel", name := "end", desc := "(I)I" } : Jvm.MethodName)) ∈ WG := wgr_7 147 (by rfl) (by rfl)
set_option maxRecDepth 100000 in
theorem kw_1588 : (Jvm.Cond.code ({ cls := "LatticeKeysModel", name := "end", desc := "(I)I" } : Jvm.MethodName) prog_12_method_10_code (2 : Nat) (Option.some Jvm.ClassFile.FieldType.int)) ∈ WG := wgr_7 148 (by rfl) (by rfl)
set_option maxRecDepth 100000 in
theorem kw_1589 : (Jvm.Cond.methodLink "LatticeKeysLaw" (88 : Nat) ({ cls := "LatticeKeysModel", name := "again", desc := "()I" } : Jvm.MethodName)) ∈ WG := wgr_7 149 (by rfl) (by rfl)
set_option maxRecDepth 100000 in
theorem kw_1590 : (Jvm.Cond.instanceMethod ({ cls := "LatticeKeysModel", name := "again", desc := "()I" } : Jvm.MethodName)) ∈ WG := wgr_7 150 (by rfl) (by rfl)
set_option maxRecDepth 100000 in
theorem kw_1591 : (Jvm.Cond.selects "LatticeKeysModel" ({ cls := "LatticeKeysModel", name := "again", desc := "()I" } : Jvm.MethodName) ({ cls := "LatticeKeysModel", name := "again", desc := "()I" } : Jvm.MethodName)) ∈ WG := wgr_7 151 (by rfl) (by rfl)
set_option maxRecDepth 100000 in
theorem kw_1592 : (Jvm.Cond.code ({ cls := "LatticeKeysModel", name := "again", desc := "()I" } : Jvm.MethodName) prog_12_method_11_code (2 : Nat) (Option.some Jvm.ClassFile.FieldType.int)) ∈ WG := wgr_7 152 (by rfl) (by rfl)
set_option maxRecDepth 100000 in
theorem kw_1593 : (Jvm.Cond.methodLink "LatticeKeysLaw" (92 : Nat) ({ cls := "LatticeKeysModel", name := "alter", desc := "(II)I" } : Jvm.MethodName)) ∈ WG := wgr_7 153 (by rfl) (by rfl)
set_option maxRecDepth 100000 in
theorem kw_1594 : (Jvm.Cond.instanceMethod ({ cls := "LatticeKeysModel", name := "alter", desc := "(II)I" } : Jvm.MethodName)) ∈ WG := wgr_7 154 (by rfl) (by rfl)
set_option maxRecDepth 100000 in
theorem kw_1595 : (Jvm.Cond.selects "LatticeKeysModel" ({ cls := "LatticeKeysModel", name := "alter", desc := "(II)I" } : Jvm.MethodName) ({ cls := "LatticeKeysModel", name := "alter", desc := "(II)I" } : Jvm.MethodName)) ∈ WG := wgr_7 155 (by rfl) (by rfl)
set_option maxRecDepth 100000 in
theorem kw_1596 : (Jvm.Cond.code ({ cls := "LatticeKeysModel", name := "alter", desc := "(II)I" } : Jvm.MethodName) prog_12_method_12_code (3 : Nat) (Option.some Jvm.ClassFile.FieldType.int)) ∈ WG := wgr_7 156 (by rfl) (by rfl)
set_option maxRecDepth 100000 in
theorem kw_1597 : (Jvm.Cond.methodLink "LatticeKeysLaw" (95 : Nat) ({ cls := "LatticeKeysModel", name := "keys", desc := "(I)I" } : Jvm.MethodName)) ∈ WG := wgr_7 157 (by rfl) (by rfl)
set_option maxRecDepth 100000 in
theorem kw_1598 : (Jvm.Cond.instanceMethod ({ cls := "LatticeKeysModel", name := "keys", desc := "(I)I" } : Jvm.MethodName)) ∈ WG := wgr_7 158 (by rfl) (by rfl)
set_option maxRecDepth 100000 in
theorem kw_1599 : (Jvm.Cond.selects "LatticeKeysModel" ({ cls := "LatticeKeysModel", name := "keys", desc := "(I)I" } : Jvm.MethodName) ({ cls := "LatticeKeysModel", name := "keys", desc := "(I)I" } : Jvm.MethodName)) ∈ WG := wgr_7 159 (by rfl) (by rfl)
set_option maxRecDepth 100000 in
theorem kw_1600 : (Jvm.Cond.code ({ cls := "LatticeKeysModel", name := "keys", desc := "(I)I" } : Jvm.MethodName) prog_12_method_14_code (2 : Nat) (Option.some Jvm.ClassFile.FieldType.int)) ∈ WG := wgr_7 160 (by rfl) (by rfl)
set_option maxRecDepth 100000 in
theorem kw_1601 : (Jvm.Cond.methodLink "LatticeKeysModel" (86 : Nat) ({ cls := "LatticeKeysModel$Secrets", name := "keys", desc := "(I[B[B[B)V" } : Jvm.MethodName)) ∈ WG := wgr_7 161 (by rfl) (by rfl)
set_option maxRecDepth 100000 in
theorem kw_1602 : (Jvm.Cond.instanceMethod ({ cls := "LatticeKeysModel$Secrets", name := "keys", desc := "(I[B[B[B)V" } : Jvm.MethodName)) ∈ WG := wgr_7 162 (by rfl) (by rfl)
set_option maxRecDepth 100000 in
theorem kw_1603 : (Jvm.Cond.selects "LatticeKeysModel$Secrets" ({ cls := "LatticeKeysModel$Secrets", name := "keys", desc := "(I[B[B[B)V" } : Jvm.MethodName) ({ cls := "LatticeKeysModel$Secrets", name := "keys", desc := "(I[B[B[B)V" } : Jvm.MethodName)) ∈ WG := wgr_7 163 (by rfl) (by rfl)
set_option maxRecDepth 100000 in
theorem kw_1604 : (Jvm.Cond.code ({ cls := "LatticeKeysModel$Secrets", name := "keys", desc := "(I[B[B[B)V" } : Jvm.MethodName) prog_15_method_19_code (8 : Nat) (Option.none : Option Jvm.ClassFile.FieldType)) ∈ WG := wgr_7 164 (by rfl) (by rfl)
set_option maxRecDepth 100000 in
theorem kw_1605 : (Jvm.Cond.fieldLink "LatticeKeysModel$Secrets" (62 : Nat) "LatticeKeysModel$Secrets" "K" "[I") ∈ WG := wgr_7 165 (by rfl) (by rfl)
set_option maxRecDepth 100000 in
theorem kw_1607 : (Jvm.Cond.methodLink "LatticeKeysModel$Secrets" (71 : Nat) ({ cls := "LatticeKeysModel$Sponge", name := "begin", desc := "(II)V" } : Jvm.MethodName)) ∈ WG := wgr_7 167 (by rfl) (by rfl)
set_option maxRecDepth 100000 in
theorem kw_1608 : (Jvm.Cond.instanceMethod ({ cls := "LatticeKeysModel$Sponge", name := "begin", desc := "(II)V" } : Jvm.MethodName)) ∈ WG := wgr_7 168 (by rfl) (by rfl)
set_option maxRecDepth 100000 in
theorem kw_1609 : (Jvm.Cond.selects "LatticeKeysModel$Sponge" ({ cls := "LatticeKeysModel$Sponge", name := "begin", desc := "(II)V" } : Jvm.MethodName) ({ cls := "LatticeKeysModel$Sponge", name := "begin", desc := "(II)V" } : Jvm.MethodName)) ∈ WG := wgr_7 169 (by rfl) (by rfl)
set_option maxRecDepth 100000 in
theorem kw_1610 : (Jvm.Cond.code ({ cls := "LatticeKeysModel$Sponge", name := "begin", desc := "(II)V" } : Jvm.MethodName) prog_16_method_4_code (4 : Nat) (Option.none : Option Jvm.ClassFile.FieldType)) ∈ WG := wgr_7 170 (by rfl) (by rfl)
set_option maxRecDepth 100000 in
theorem kw_1611 : (Jvm.Cond.methodLink "LatticeKeysModel$Secrets" (77 : Nat) ({ cls := "LatticeKeysModel$Sponge", name := "put", desc := "([BII)V" } : Jvm.MethodName)) ∈ WG := wgr_7 171 (by rfl) (by rfl)
set_option maxRecDepth 100000 in
theorem kw_1612 : (Jvm.Cond.instanceMethod ({ cls := "LatticeKeysModel$Sponge", name := "put", desc := "([BII)V" } : Jvm.MethodName)) ∈ WG := wgr_7 172 (by rfl) (by rfl)
set_option maxRecDepth 100000 in
theorem kw_1613 : (Jvm.Cond.selects "LatticeKeysModel$Sponge" ({ cls := "LatticeKeysModel$Sponge", name := "put", desc := "([BII)V" } : Jvm.MethodName) ({ cls := "LatticeKeysModel$Sponge", name := "put", desc := "([BII)V" } : Jvm.MethodName)) ∈ WG := wgr_7 173 (by rfl) (by rfl)
set_option maxRecDepth 100000 in
theorem kw_1614 : (Jvm.Cond.code ({ cls := "LatticeKeysModel$Sponge", name := "put", desc := "([BII)V" } : Jvm.MethodName) prog_16_method_7_code (5 : Nat) (Option.none : Option Jvm.ClassFile.FieldType)) ∈ WG := wgr_7 174 (by rfl) (by rfl)
set_option maxRecDepth 100000 in
theorem kw_1615 : (Jvm.Cond.methodLink "LatticeKeysModel$Sponge" (51 : Nat) ({ cls := "LatticeKeysModel$Sponge", name := "put", desc := "(I)V" } : Jvm.MethodName)) ∈ WG := wgr_7 175 (by rfl) (by rfl)
set_option maxRecDepth 100000 in
theorem kw_1616 : (Jvm.Cond.instanceMethod ({ cls := "LatticeKeysModel$Sponge", name := "put", desc := "(I)V" } : Jvm.MethodName)) ∈ WG := wgr_7 176 (by rfl) (by rfl)
set_option maxRecDepth 100000 in
theorem kw_1617 : (Jvm.Cond.selects "LatticeKeysModel$Sponge" ({ cls := "LatticeKeysModel$Sponge", name := "put", desc := "(I)V" } : Jvm.MethodName) ({ cls := "LatticeKeysModel$Sponge", name := "put", desc := "(I)V" } : Jvm.MethodName)) ∈ WG := wgr_7 177 (by rfl) (by rfl)
set_option maxRecDepth 100000 in
theorem kw_1618 : (Jvm.Cond.code ({ cls := "LatticeKeysModel$Sponge", name := "put", desc := "(I)V" } : Jvm.MethodName) prog_16_method_6_code (2 : Nat) (Option.none : Option Jvm.ClassFile.FieldType)) ∈ WG := wgr_7 178 (by rfl) (by rfl)
set_option maxRecDepth 100000 in
theorem kw_1619 : (Jvm.Cond.methodLink "LatticeKeysModel$Sponge" (44 : Nat) ({ cls := "LatticeKeysModel$Sponge", name := "add", desc := "(II)V" } : Jvm.MethodName)) ∈ WG := wgr_7 179 (by rfl) (by rfl)
set_option maxRecDepth 100000 in
theorem kw_1621 : (Jvm.Cond.instanceMethod ({ cls := "LatticeKeysModel$Sponge", name := "add", desc := "(II)V" } : Jvm.MethodName)) ∈ WG := wgr_7 181 (by rfl) (by rfl)
set_option maxRecDepth 100000 in
theorem kw_1622 : (Jvm.Cond.code ({ cls := "LatticeKeysModel$Sponge", name := "add", desc := "(II)V" } : Jvm.MethodName) prog_16_method_5_code (3 : Nat) (Option.none : Option Jvm.ClassFile.FieldType)) ∈ WG := wgr_7 182 (by rfl) (by rfl)
set_option maxRecDepth 100000 in
theorem kw_1623 : (Jvm.Cond.constantLong "LatticeKeysModel$Sponge" (42 : Nat) (255 : Int64)) ∈ WG := wgr_7 183 (by rfl) (by rfl)
set_option maxRecDepth 100000 in
theorem kw_1624 : (Jvm.Cond.methodLink "LatticeKeysModel$Sponge" (48 : Nat) ({ cls := "LatticeKeysModel$Sponge", name := "mix", desc := "()V" } : Jvm.MethodName)) ∈ WG := wgr_7 184 (by rfl) (by rfl)
set_option maxRecDepth 100000 in
theorem kw_1626 : (Jvm.Cond.instanceMethod ({ cls := "LatticeKeysModel$Sponge", name := "mix", desc := "()V" } : Jvm.MethodName)) ∈ WG := wgr_7 186 (by rfl) (by rfl)
set_option maxRecDepth 100000 in
theorem kw_1627 : (Jvm.Cond.code ({ cls := "LatticeKeysModel$Sponge", name := "mix", desc := "()V" } : Jvm.MethodName) prog_16_method_3_code (4 : Nat) (Option.none : Option Jvm.ClassFile.FieldType)) ∈ WG := wgr_7 187 (by rfl) (by rfl)
set_option maxRecDepth 100000 in
theorem kw_1628 : (Jvm.Cond.methodLink "LatticeKeysModel$Sponge" (26 : Nat) ({ cls := "LatticeKeysModel$Sponge", name := "left", desc := "(JI)J" } : Jvm.MethodName)) ∈ WG := wgr_7 188 (by rfl) (by rfl)
set_option maxRecDepth 100000 in
theorem kw_1629 : (Jvm.Cond.static ({ cls := "LatticeKeysModel$Sponge", name := "left", desc := "(JI)J" } : Jvm.MethodName)) ∈ WG := wgr_7 189 (by rfl) (by rfl)
set_option maxRecDepth 100000 in
theorem kw_1630 : (Jvm.Cond.code ({ cls := "LatticeKeysModel$Sponge", name := "left", desc := "(JI)J" } : Jvm.MethodName) prog_16_method_2_code (3 : Nat) (Option.some Jvm.ClassFile.FieldType.long)) ∈ WG := wgr_7 190 (by rfl) (by rfl)
set_option maxRecDepth 100000 in
theorem kw_1631 : (Jvm.Cond.constantLong "LatticeKeysModel$Sponge" (30 : Nat) (-1 : Int64)) ∈ WG := wgr_7 191 (by rfl) (by rfl)
set_option maxRecDepth 100000 in
theorem kw_1632 : (Jvm.Cond.methodLink "LatticeKeysModel$Secrets" (81 : Nat) ({ cls := "LatticeKeysModel$Sponge", name := "put", desc := "(I)V" } : Jvm.MethodName)) ∈ WG := wgr_7 192 (by rfl) (by rfl)
set_option maxRecDepth 100000 in
theorem kw_1633 : (Jvm.Cond.methodLink "LatticeKeysModel$Secrets" (84 : Nat) ({ cls := "LatticeKeysModel$Sponge", name := "end", desc := "()V" } : Jvm.MethodName)) ∈ WG := wgr_7 193 (by rfl) (by rfl)
set_option maxRecDepth 100000 in
theorem kw_1634 : (Jvm.Cond.instanceMethod ({ cls := "LatticeKeysModel$Sponge", name := "end", desc := "()V" } : Jvm.MethodName)) ∈ WG := wgr_7 194 (by rfl) (by rfl)
set_option maxRecDepth 100000 in
theorem kw_1635 : (Jvm.Cond.selects "LatticeKeysModel$Sponge" ({ cls := "LatticeKeysModel$Sponge", name := "end", desc := "()V" } : Jvm.MethodName) ({ cls := "LatticeKeysModel$Sponge", name := "end", desc := "()V" } : Jvm.MethodName)) ∈ WG := wgr_7 195 (by rfl) (by rfl)
set_option maxRecDepth 100000 in
theorem kw_1636 : (Jvm.Cond.code ({ cls := "LatticeKeysModel$Sponge", name := "end", desc := "()V" } : Jvm.MethodName) prog_16_method_8_code (1 : Nat) (Option.none : Option Jvm.ClassFile.FieldType)) ∈ WG := wgr_7 196 (by rfl) (by rfl)
set_option maxRecDepth 100000 in
theorem kw_1637 : (Jvm.Cond.methodLink "LatticeKeysModel$Secrets" (98 : Nat) ({ cls := "LatticeKeysModel$Sponge", name := "take", desc := "([BII)V" } : Jvm.MethodName)) ∈ WG := wgr_7 197 (by rfl) (by rfl)
set_option maxRecDepth 100000 in
theorem kw_1638 : (Jvm.Cond.instanceMethod ({ cls := "LatticeKeysModel$Sponge", name := "take", desc := "([BII)V" } : Jvm.MethodName)) ∈ WG := wgr_7 198 (by rfl) (by rfl)
set_option maxRecDepth 100000 in
theorem kw_1639 : (Jvm.Cond.selects "LatticeKeysModel$Sponge" ({ cls := "LatticeKeysModel$Sponge", name := "take", desc := "([BII)V" } : Jvm.MethodName) ({ cls := "LatticeKeysModel$Sponge", name := "take", desc := "([BII)V" } : Jvm.MethodName)) ∈ WG := wgr_7 199 (by rfl) (by rfl)
set_option maxRecDepth 100000 in
theorem kw_1640 : (Jvm.Cond.code ({ cls := "LatticeKeysModel$Sponge", name := "take", desc := "([BII)V" } : Jvm.MethodName) prog_16_method_10_code (5 : Nat) (Option.none : Option Jvm.ClassFile.FieldType)) ∈ WG := wgr_7 200 (by rfl) (by rfl)
set_option maxRecDepth 100000 in
theorem kw_1641 : (Jvm.Cond.methodLink "LatticeKeysModel$Sponge" (55 : Nat) ({ cls := "LatticeKeysModel$Sponge", name := "next", desc := "()I" } : Jvm.MethodName)) ∈ WG := wgr_7 201 (by rfl) (by rfl)
set_option maxRecDepth 100000 in
theorem kw_1642 : (Jvm.Cond.instanceMethod ({ cls := "LatticeKeysModel$Sponge", name := "next", desc := "()I" } : Jvm.MethodName)) ∈ WG := wgr_7 202 (by rfl) (by rfl)
set_option maxRecDepth 100000 in
theorem kw_1643 : (Jvm.Cond.selects "LatticeKeysModel$Sponge" ({ cls := "LatticeKeysModel$Sponge", name := "next", desc := "()I" } : Jvm.MethodName) ({ cls := "LatticeKeysModel$Sponge", name := "next", desc := "()I" } : Jvm.MethodName)) ∈ WG := wgr_7 203 (by rfl) (by rfl)
set_option maxRecDepth 100000 in
theorem kw_1644 : (Jvm.Cond.code ({ cls := "LatticeKeysModel$Sponge", name := "next", desc := "()I" } : Jvm.MethodName) prog_16_method_9_code (2 : Nat) (Option.some Jvm.ClassFile.FieldType.int)) ∈ WG := wgr_7 204 (by rfl) (by rfl)
set_option maxRecDepth 100000 in
theorem kw_1645 : (Jvm.Cond.methodLink "LatticeKeysModel$Secrets" (124 : Nat) ({ cls := "LatticeKeysModel$Secrets", name := "expand", desc := "([BII)V" } : Jvm.MethodName)) ∈ WG := wgr_7 205 (by rfl) (by rfl)
set_option maxRecDepth 100000 in
theorem kw_1647 : (Jvm.Cond.instanceMethod ({ cls := "LatticeKeysModel$Secrets", name := "expand", desc := "([BII)V" } : Jvm.MethodName)) ∈ WG := wgr_7 207 (by rfl) (by rfl)
set_option maxRecDepth 100000 in
theorem kw_1648 : (Jvm.Cond.code ({ cls := "LatticeKeysModel$Secrets", name := "expand", desc := "([BII)V" } : Jvm.MethodName) prog_15_method_5_code (6 : Nat) (Option.none : Option Jvm.ClassFile.FieldType)) ∈ WG := wgr_7 208 (by rfl) (by rfl)
set_option maxRecDepth 100000 in
theorem kw_1649 : (Jvm.Cond.methodLink "LatticeKeysModel$Secrets" (87 : Nat) ({ cls := "LatticeKeysModel$Secrets", name := "draw", desc := "([I)V" } : Jvm.MethodName)) ∈ WG := wgr_7 209 (by rfl) (by rfl)
set_option maxRecDepth 100000 in
theorem kw_1651 : (Jvm.Cond.instanceMethod ({ cls := "LatticeKeysModel$Secrets", name := "draw", desc := "([I)V" } : Jvm.MethodName)) ∈ WG := wgr_7 211 (by rfl) (by rfl)
set_option maxRecDepth 100000 in
theorem kw_1652 : (Jvm.Cond.code ({ cls := "LatticeKeysModel$Secrets", name := "draw", desc := "([I)V" } : Jvm.MethodName) prog_15_method_6_code (8 : Nat) (Option.none : Option Jvm.ClassFile.FieldType)) ∈ WG := wgr_7 212 (by rfl) (by rfl)
set_option maxRecDepth 100000 in
theorem kw_1653 : (Jvm.Cond.methodLink "LatticeKeysModel$Secrets" (91 : Nat) ({ cls := "LatticeKeysModel$Sponge", name := "next", desc := "()I" } : Jvm.MethodName)) ∈ WG := wgr_7 213 (by rfl) (by rfl)
set_option maxRecDepth 100000 in
theorem kw_1654 : (Jvm.Cond.fieldLink "LatticeKeysModel$Secrets" (127 : Nat) "LatticeKeysModel$Secrets" "ETA" "[I") ∈ WG := wgr_7 214 (by rfl) (by rfl)
set_option maxRecDepth 100000 in
theorem kw_1656 : (Jvm.Cond.methodLink "LatticeKeysModel$Secrets" (130 : Nat) ({ cls := "LatticeKeysModel$Secrets", name := "noise", desc := "([I[BIII)V" } : Jvm.MethodName)) ∈ WG := wgr_7 216 (by rfl) (by rfl)
set_option maxRecDepth 100000 in
theorem kw_1658 : (Jvm.Cond.instanceMethod ({ cls := "LatticeKeysModel$Secrets", name := "noise", desc := "([I[BIII)V" } : Jvm.MethodName)) ∈ WG := wgr_7 218 (by rfl) (by rfl)
set_option maxRecDepth 100000 in
theorem kw_1659 : (Jvm.Cond.code ({ cls := "LatticeKeysModel$Secrets", name := "noise", desc := "([I[BIII)V" } : Jvm.MethodName) prog_15_method_7_code (9 : Nat) (Option.none : Option Jvm.ClassFile.FieldType)) ∈ WG := wgr_7 219 (by rfl) (by rfl)
set_option maxRecDepth 100000 in
theorem kw_1660 : (Jvm.Cond.methodLink "LatticeKeysModel$Secrets" (95 : Nat) ({ cls := "LatticeKeysModel$Sponge", name := "shake", desc := "()V" } : Jvm.MethodName)) ∈ WG := wgr_7 220 (by rfl) (by rfl)
set_option maxRecDepth 100000 in
theorem kw_1661 : (Jvm.Cond.instanceMethod ({ cls := "LatticeKeysModel$Sponge", name := "shake", desc := "()V" } : Jvm.MethodName)) ∈ WG := wgr_7 221 (by rfl) (by rfl)
set_option maxRecDepth 100000 in
theorem kw_1662 : (Jvm.Cond.selects "LatticeKeysModel$Sponge" ({ cls := "LatticeKeysModel$Sponge", name := "shake", desc := "()V" } : Jvm.MethodName) ({ cls := "LatticeKeysModel$Sponge", name := "shake", desc := "()V" } : Jvm.MethodName)) ∈ WG := wgr_7 222 (by rfl) (by rfl)
set_option maxRecDepth 100000 in
theorem kw_1663 : (Jvm.Cond.code ({ cls := "LatticeKeysModel$Sponge", name := "shake", desc := "()V" } : Jvm.MethodName) prog_16_method_11_code (1 : Nat) (Option.none : Option Jvm.ClassFile.FieldType)) ∈ WG := wgr_7 223 (by rfl) (by rfl)
set_option maxRecDepth 100000 in
theorem kw_1664 : (Jvm.Cond.methodLink "LatticeKeysModel$Sponge" (59 : Nat) ({ cls := "LatticeKeysModel$Sponge", name := "begin", desc := "(II)V" } : Jvm.MethodName)) ∈ WG := wgr_7 224 (by rfl) (by rfl)
set_option maxRecDepth 100000 in
theorem kw_1666 : (Jvm.Cond.static ({ cls := "LatticeKeysModel", name := "unpack", desc := "([BII)I" } : Jvm.MethodName)) ∈ WG := wgr_7 226 (by rfl) (by rfl)
set_option maxRecDepth 100000 in
theorem kw_1667 : (Jvm.Cond.code ({ cls := "LatticeKeysModel", name := "unpack", desc := "([BII)I" } : Jvm.MethodName) prog_12_method_2_code (5 : Nat) (Option.some Jvm.ClassFile.FieldType.int)) ∈ WG := wgr_7 227 (by rfl) (by rfl)
set_option maxRecDepth 100000 in
theorem kw_1668 : (Jvm.Cond.methodLink "LatticeKeysModel$Secrets" (134 : Nat) ({ cls := "LatticeKeysModel$Secrets", name := "forth", desc := "([I)V" } : Jvm.MethodName)) ∈ WG := wgr_7 228 (by rfl) (by rfl)
set_option maxRecDepth 100000 in
theorem kw_1670 : (Jvm.Cond.instanceMethod ({ cls := "LatticeKeysModel$Secrets", name := "forth", desc := "([I)V" } : Jvm.MethodName)) ∈ WG := wgr_7 230 (by rfl) (by rfl)
set_option maxRecDepth 100000 in
theorem kw_1671 : (Jvm.Cond.code ({ cls := "LatticeKeysModel$Secrets", name := "forth", desc := "([I)V" } : Jvm.MethodName) prog_15_method_8_code (3 : Nat) (Option.none : Option Jvm.ClassFile.FieldType)) ∈ WG := wgr_7 231 (by rfl) (by rfl)
set_option maxRecDepth 100000 in
theorem kw_1672 : (Jvm.Cond.methodLink "LatticeKeysModel$Secrets" (107 : Nat) ({ cls := "LatticeKeysModel$Ring", name := "forth", desc := "([I[III)V" } : Jvm.MethodName)) ∈ WG := wgr_7 232 (by rfl) (by rfl)
set_option maxRecDepth 100000 in
theorem kw_1673 : (Jvm.Cond.instanceMethod ({ cls := "LatticeKeysModel$Ring", name := "forth", desc := "([I[III)V" } : Jvm.MethodName)) ∈ WG := wgr_7 233 (by rfl) (by rfl)
set_option maxRecDepth 100000 in
theorem kw_1674 : (Jvm.Cond.selects "LatticeKeysModel$Ring" ({ cls := "LatticeKeysModel$Ring", name := "forth", desc := "([I[III)V" } : Jvm.MethodName) ({ cls := "LatticeKeysModel$Ring", name := "forth", desc := "([I[III)V" } : Jvm.MethodName)) ∈ WG := wgr_7 234 (by rfl) (by rfl)
set_option maxRecDepth 100000 in
theorem kw_1675 : (Jvm.Cond.code ({ cls := "LatticeKeysModel$Ring", name := "forth", desc := "([I[III)V" } : Jvm.MethodName) prog_14_method_3_code (10 : Nat) (Option.none : Option Jvm.ClassFile.FieldType)) ∈ WG := wgr_7 235 (by rfl) (by rfl)
set_option maxRecDepth 100000 in
theorem kw_1676 : (Jvm.Cond.methodLink "LatticeKeysModel$Secrets" (136 : Nat) ({ cls := "LatticeKeysModel$Secrets", name := "product", desc := "([I[I[I)V" } : Jvm.MethodName)) ∈ WG := wgr_7 236 (by rfl) (by rfl)
set_option maxRecDepth 100000 in
theorem kw_1678 : (Jvm.Cond.instanceMethod ({ cls := "LatticeKeysModel$Secrets", name := "product", desc := "([I[I[I)V" } : Jvm.MethodName)) ∈ WG := wgr_7 238 (by rfl) (by rfl)
set_option maxRecDepth 100000 in
theorem kw_1679 : (Jvm.Cond.code ({ cls := "LatticeKeysModel$Secrets", name := "product", desc := "([I[I[I)V" } : Jvm.MethodName) prog_15_method_10_code (8 : Nat) (Option.none : Option Jvm.ClassFile.FieldType)) ∈ WG := wgr_7 239 (by rfl) (by rfl)
set_option maxRecDepth 100000 in
theorem kw_1680 : (Jvm.Cond.methodLink "LatticeKeysModel$Secrets" (114 : Nat) ({ cls := "LatticeKeysModel$Ring", name := "root", desc := "(I)J" } : Jvm.MethodName)) ∈ WG := wgr_8 0 (by rfl) (by rfl)
set_option maxRecDepth 100000 in
theorem kw_1681 : (Jvm.Cond.instanceMethod ({ cls := "LatticeKeysModel$Ring", name := "root", desc := "(I)J" } : Jvm.MethodName)) ∈ WG := wgr_8 1 (by rfl) (by rfl)
set_option maxRecDepth 100000 in
theorem kw_1682 : (Jvm.Cond.selects "LatticeKeysModel$Ring" ({ cls := "LatticeKeysModel$Ring", name := "root", desc := "(I)J" } : Jvm.MethodName) ({ cls := "LatticeKeysModel$Ring", name := "root", desc := "(I)J" } : Jvm.MethodName)) ∈ WG := wgr_8 2 (by rfl) (by rfl)
set_option maxRecDepth 100000 in
theorem kw_1683 : (Jvm.Cond.code ({ cls := "LatticeKeysModel$Ring", name := "root", desc := "(I)J" } : Jvm.MethodName) prog_14_method_2_code (2 : Nat) (Option.some Jvm.ClassFile.FieldType.long)) ∈ WG := wgr_8 3 (by rfl) (by rfl)
set_option maxRecDepth 100000 in
theorem kw_1684 : (Jvm.Cond.constantLong "LatticeKeysModel$Secrets" (118 : Nat) (3329 : Int64)) ∈ WG := wgr_8 4 (by rfl) (by rfl)
set_option maxRecDepth 100000 in
theorem kw_1685 : (Jvm.Cond.methodLink "LatticeKeysModel$Secrets" (140 : Nat) ({ cls := "LatticeKeysModel$Secrets", name := "write", desc := "([I[BII)V" } : Jvm.MethodName)) ∈ WG := wgr_8 5 (by rfl) (by rfl)
set_option maxRecDepth 100000 in
theorem kw_1686 : (Jvm.Cond.static ({ cls := "LatticeKeysModel$Secrets", name := "write", desc := "([I[BII)V" } : Jvm.MethodName)) ∈ WG := wgr_8 6 (by rfl) (by rfl)
set_option maxRecDepth 100000 in
theorem kw_1687 : (Jvm.Cond.code ({ cls := "LatticeKeysModel$Secrets", name := "write", desc := "([I[BII)V" } : Jvm.MethodName) prog_15_method_13_code (5 : Nat) (Option.none : Option Jvm.ClassFile.FieldType)) ∈ WG := wgr_8 7 (by rfl) (by rfl)
set_option maxRecDepth 100000 in
theorem kw_1689 : (Jvm.Cond.static ({ cls := "LatticeKeysModel", name := "pack", desc := "([BIII)V" } : Jvm.MethodName)) ∈ WG := wgr_8 9 (by rfl) (by rfl)
set_option maxRecDepth 100000 in
theorem kw_1690 : (Jvm.Cond.code ({ cls := "LatticeKeysModel", name := "pack", desc := "([BIII)V" } : Jvm.MethodName) prog_12_method_1_code (7 : Nat) (Option.none : Option Jvm.ClassFile.FieldType)) ∈ WG := wgr_8 10 (by rfl) (by rfl)
set_option maxRecDepth 100000 in
theorem kw_1691 : (Jvm.Cond.methodLink "LatticeKeysModel$Secrets" (144 : Nat) ({ cls := "LatticeKeysModel$Secrets", name := "openSize", desc := "(I)I" } : Jvm.MethodName)) ∈ WG := wgr_8 11 (by rfl) (by rfl)
set_option maxRecDepth 100000 in
theorem kw_1692 : (Jvm.Cond.static ({ cls := "LatticeKeysModel$Secrets", name := "openSize", desc := "(I)I" } : Jvm.MethodName)) ∈ WG := wgr_8 12 (by rfl) (by rfl)
set_option maxRecDepth 100000 in
theorem kw_1693 : (Jvm.Cond.code ({ cls := "LatticeKeysModel$Secrets", name := "openSize", desc := "(I)I" } : Jvm.MethodName) prog_15_method_2_code (1 : Nat) (Option.some Jvm.ClassFile.FieldType.int)) ∈ WG := wgr_8 13 (by rfl) (by rfl)
set_option maxRecDepth 100000 in
theorem kw_1694 : (Jvm.Cond.methodLink "LatticeKeysModel$Secrets" (148 : Nat) ({ cls := "LatticeKeysModel$Secrets", name := "hash", desc := "([BII[BI)V" } : Jvm.MethodName)) ∈ WG := wgr_8 14 (by rfl) (by rfl)
set_option maxRecDepth 100000 in
theorem kw_1696 : (Jvm.Cond.instanceMethod ({ cls := "LatticeKeysModel$Secrets", name := "hash", desc := "([BII[BI)V" } : Jvm.MethodName)) ∈ WG := wgr_8 16 (by rfl) (by rfl)
set_option maxRecDepth 100000 in
theorem kw_1697 : (Jvm.Cond.code ({ cls := "LatticeKeysModel$Secrets", name := "hash", desc := "([BII[BI)V" } : Jvm.MethodName) prog_15_method_18_code (6 : Nat) (Option.none : Option Jvm.ClassFile.FieldType)) ∈ WG := wgr_8 17 (by rfl) (by rfl)
set_option maxRecDepth 100000 in
theorem kw_1698 : (Jvm.Cond.methodLink "LatticeKeysModel" (89 : Nat) ({ cls := "LatticeKeysModel$Hands", name := "keys", desc := "(I[B[B[B)V" } : Jvm.MethodName)) ∈ WG := wgr_8 18 (by rfl) (by rfl)
set_option maxRecDepth 100000 in
theorem kw_1699 : (Jvm.Cond.instanceMethod ({ cls := "LatticeKeysModel$Hands", name := "keys", desc := "(I[B[B[B)V" } : Jvm.MethodName)) ∈ WG := wgr_8 19 (by rfl) (by rfl)
set_option maxRecDepth 100000 in
theorem kw_1700 : (Jvm.Cond.selects "LatticeKeysModel$Hands" ({ cls := "LatticeKeysModel$Hands", name := "keys", desc := "(I[B[B[B)V" } : Jvm.MethodName) ({ cls := "LatticeKeysModel$Hands", name := "keys", desc := "(I[B[B[B)V" } : Jvm.MethodName)) ∈ WG := wgr_8 20 (by rfl) (by rfl)
set_option maxRecDepth 100000 in
theorem kw_1701 : (Jvm.Cond.code ({ cls := "LatticeKeysModel$Hands", name := "keys", desc := "(I[B[B[B)V" } : Jvm.MethodName) prog_13_method_14_code (10 : Nat) (Option.none : Option Jvm.ClassFile.FieldType)) ∈ WG := wgr_8 21 (by rfl) (by rfl)
set_option maxRecDepth 100000 in
theorem kw_1702 : (Jvm.Cond.methodLink "LatticeKeysModel$Hands" (166 : Nat) ({ cls := "LatticeKeysModel$Hands", name := "as", desc := "(I)V" } : Jvm.MethodName)) ∈ WG := wgr_8 22 (by rfl) (by rfl)
set_option maxRecDepth 100000 in
theorem kw_1704 : (Jvm.Cond.instanceMethod ({ cls := "LatticeKeysModel$Hands", name := "as", desc := "(I)V" } : Jvm.MethodName)) ∈ WG := wgr_8 24 (by rfl) (by rfl)
set_option maxRecDepth 100000 in
theorem kw_1705 : (Jvm.Cond.code ({ cls := "LatticeKeysModel$Hands", name := "as", desc := "(I)V" } : Jvm.MethodName) prog_13_method_5_code (2 : Nat) (Option.none : Option Jvm.ClassFile.FieldType)) ∈ WG := wgr_8 25 (by rfl) (by rfl)
set_option maxRecDepth 100000 in
theorem kw_1706 : (Jvm.Cond.fieldLink "LatticeKeysModel$Hands" (91 : Nat) "LatticeKeysModel$Hands" "K" "[I") ∈ WG := wgr_8 26 (by rfl) (by rfl)
set_option maxRecDepth 100000 in
theorem kw_1708 : (Jvm.Cond.fieldLink "LatticeKeysModel$Hands" (97 : Nat) "LatticeKeysModel$Hands" "L" "[I") ∈ WG := wgr_8 28 (by rfl) (by rfl)
set_option maxRecDepth 100000 in
theorem kw_1710 : (Jvm.Cond.fieldLink "LatticeKeysModel$Hands" (94 : Nat) "LatticeKeysModel$Hands" "ETA" "[I") ∈ WG := wgr_8 30 (by rfl) (by rfl)
set_option maxRecDepth 100000 in
theorem kw_1712 : (Jvm.Cond.constant "LatticeKeysModel$Hands" (116 : Nat) (131072 : Int32)) ∈ WG := wgr_8 32 (by rfl) (by rfl)
set_option maxRecDepth 100000 in
theorem kw_1713 : (Jvm.Cond.constant "LatticeKeysModel$Hands" (117 : Nat) (524288 : Int32)) ∈ WG := wgr_8 33 (by rfl) (by rfl)
set_option maxRecDepth 100000 in
theorem kw_1714 : (Jvm.Cond.constant "LatticeKeysModel$Hands" (121 : Nat) (95232 : Int32)) ∈ WG := wgr_8 34 (by rfl) (by rfl)
set_option maxRecDepth 100000 in
theorem kw_1715 : (Jvm.Cond.constant "LatticeKeysModel$Hands" (122 : Nat) (261888 : Int32)) ∈ WG := wgr_8 35 (by rfl) (by rfl)
set_option maxRecDepth 100000 in
theorem kw_1716 : (Jvm.Cond.fieldLink "LatticeKeysModel$Hands" (126 : Nat) "LatticeKeysModel$Hands" "TAU" "[I") ∈ WG := wgr_8 36 (by rfl) (by rfl)
set_option maxRecDepth 100000 in
theorem kw_1718 : (Jvm.Cond.methodLink "LatticeKeysModel$Hands" (156 : Nat) ({ cls := "LatticeKeysModel$Sponge", name := "shake", desc := "()V" } : Jvm.MethodName)) ∈ WG := wgr_8 38 (by rfl) (by rfl)
set_option maxRecDepth 100000 in
theorem kw_1719 : (Jvm.Cond.methodLink "LatticeKeysModel$Hands" (142 : Nat) ({ cls := "LatticeKeysModel$Sponge", name := "put", desc := "([BII)V" } : Jvm.MethodName)) ∈ WG := wgr_8 39 (by rfl) (by rfl)
set_option maxRecDepth 100000 in
theorem kw_1720 : (Jvm.Cond.methodLink "LatticeKeysModel$Hands" (146 : Nat) ({ cls := "LatticeKeysModel$Sponge", name := "put", desc := "(I)V" } : Jvm.MethodName)) ∈ WG := wgr_8 40 (by rfl) (by rfl)
set_option maxRecDepth 100000 in
theorem kw_1721 : (Jvm.Cond.methodLink "LatticeKeysModel$Hands" (149 : Nat) ({ cls := "LatticeKeysModel$Sponge", name := "end", desc := "()V" } : Jvm.MethodName)) ∈ WG := wgr_8 41 (by rfl) (by rfl)
set_option maxRecDepth 100000 in
theorem kw_1722 : (Jvm.Cond.methodLink "LatticeKeysModel$Hands" (169 : Nat) ({ cls := "LatticeKeysModel$Sponge", name := "take", desc := "([BII)V" } : Jvm.MethodName)) ∈ WG := wgr_8 42 (by rfl) (by rfl)
set_option maxRecDepth 100000 in
theorem kw_1723 : (Jvm.Cond.methodLink "LatticeKeysModel$Hands" (172 : Nat) ({ cls := "LatticeKeysModel$Hands", name := "expand", desc := "([B)V" } : Jvm.MethodName)) ∈ WG := wgr_8 43 (by rfl) (by rfl)
set_option maxRecDepth 100000 in
theorem kw_1725 : (Jvm.Cond.instanceMethod ({ cls := "LatticeKeysModel$Hands", name := "expand", desc := "([B)V" } : Jvm.MethodName)) ∈ WG := wgr_8 45 (by rfl) (by rfl)
set_option maxRecDepth 100000 in
theorem kw_1726 : (Jvm.Cond.code ({ cls := "LatticeKeysModel$Hands", name := "expand", desc := "([B)V" } : Jvm.MethodName) prog_13_method_7_code (6 : Nat) (Option.none : Option Jvm.ClassFile.FieldType)) ∈ WG := wgr_8 46 (by rfl) (by rfl)
set_option maxRecDepth 100000 in
theorem kw_1727 : (Jvm.Cond.methodLink "LatticeKeysModel$Hands" (136 : Nat) ({ cls := "LatticeKeysModel$Sponge", name := "begin", desc := "(II)V" } : Jvm.MethodName)) ∈ WG := wgr_8 47 (by rfl) (by rfl)
set_option maxRecDepth 100000 in
theorem kw_1728 : (Jvm.Cond.methodLink "LatticeKeysModel$Hands" (152 : Nat) ({ cls := "LatticeKeysModel$Sponge", name := "next", desc := "()I" } : Jvm.MethodName)) ∈ WG := wgr_8 48 (by rfl) (by rfl)
set_option maxRecDepth 100000 in
theorem kw_1729 : (Jvm.Cond.methodLink "LatticeKeysModel$Hands" (176 : Nat) ({ cls := "LatticeKeysModel$Hands", name := "small", desc := "([I[BII)V" } : Jvm.MethodName)) ∈ WG := wgr_8 49 (by rfl) (by rfl)
set_option maxRecDepth 100000 in
theorem kw_1731 : (Jvm.Cond.instanceMethod ({ cls := "LatticeKeysModel$Hands", name := "small", desc := "([I[BII)V" } : Jvm.MethodName)) ∈ WG := wgr_8 51 (by rfl) (by rfl)
set_option maxRecDepth 100000 in
theorem kw_1732 : (Jvm.Cond.code ({ cls := "LatticeKeysModel$Hands", name := "small", desc := "([I[BII)V" } : Jvm.MethodName) prog_13_method_8_code (9 : Nat) (Option.none : Option Jvm.ClassFile.FieldType)) ∈ WG := wgr_8 52 (by rfl) (by rfl)
set_option maxRecDepth 100000 in
theorem kw_1733 : (Jvm.Cond.methodLink "LatticeKeysModel$Hands" (180 : Nat) ({ cls := "LatticeKeysModel$Ring", name := "forth", desc := "([I[III)V" } : Jvm.MethodName)) ∈ WG := wgr_8 53 (by rfl) (by rfl)
set_option maxRecDepth 100000 in
theorem kw_1734 : (Jvm.Cond.methodLink "LatticeKeysModel$Hands" (183 : Nat) ({ cls := "LatticeKeysModel$Hands", name := "rowBy", desc := "(I[I)V" } : Jvm.MethodName)) ∈ WG := wgr_8 54 (by rfl) (by rfl)
set_option maxRecDepth 100000 in
theorem kw_1736 : (Jvm.Cond.instanceMethod ({ cls := "LatticeKeysModel$Hands", name := "rowBy", desc := "(I[I)V" } : Jvm.MethodName)) ∈ WG := wgr_8 56 (by rfl) (by rfl)
set_option maxRecDepth 100000 in
theorem kw_1737 : (Jvm.Cond.code ({ cls := "LatticeKeysModel$Hands", name := "rowBy", desc := "(I[I)V" } : Jvm.MethodName) prog_13_method_9_code (7 : Nat) (Option.none : Option Jvm.ClassFile.FieldType)) ∈ WG := wgr_8 57 (by rfl) (by rfl)
set_option maxRecDepth 100000 in
theorem kw_1738 : (Jvm.Cond.constantLong "LatticeKeysModel$Hands" (159 : Nat) (8380417 : Int64)) ∈ WG := wgr_8 58 (by rfl) (by rfl)
set_option maxRecDepth 100000 in
theorem kw_1739 : (Jvm.Cond.methodLink "LatticeKeysModel$Hands" (161 : Nat) ({ cls := "LatticeKeysModel$Ring", name := "back", desc := "([I[III)V" } : Jvm.MethodName)) ∈ WG := wgr_8 59 (by rfl) (by rfl)
set_option maxRecDepth 100000 in
theorem kw_1740 : (Jvm.Cond.instanceMethod ({ cls := "LatticeKeysModel$Ring", name := "back", desc := "([I[III)V" } : Jvm.MethodName)) ∈ WG := wgr_8 60 (by rfl) (by rfl)
set_option maxRecDepth 100000 in
theorem kw_1741 : (Jvm.Cond.selects "LatticeKeysModel$Ring" ({ cls := "LatticeKeysModel$Ring", name := "back", desc := "([I[III)V" } : Jvm.MethodName) ({ cls := "LatticeKeysModel$Ring", name := "back", desc := "([I[III)V" } : Jvm.MethodName)) ∈ WG := wgr_8 61 (by rfl) (by rfl)
set_option maxRecDepth 100000 in
theorem kw_1742 : (Jvm.Cond.code ({ cls := "LatticeKeysModel$Ring", name := "back", desc := "([I[III)V" } : Jvm.MethodName) prog_14_method_4_code (9 : Nat) (Option.none : Option Jvm.ClassFile.FieldType)) ∈ WG := wgr_8 62 (by rfl) (by rfl)
set_option maxRecDepth 100000 in
theorem kw_1744 : (Jvm.Cond.methodLink "LatticeKeysModel$Hands" (193 : Nat) ({ cls := "LatticeKeysModel$Hands", name := "openSize", desc := "(I)I" } : Jvm.MethodName)) ∈ WG := wgr_8 64 (by rfl) (by rfl)
set_option maxRecDepth 100000 in
theorem kw_1745 : (Jvm.Cond.static ({ cls := "LatticeKeysModel$Hands", name := "openSize", desc := "(I)I" } : Jvm.MethodName)) ∈ WG := wgr_8 65 (by rfl) (by rfl)
set_option maxRecDepth 100000 in
theorem kw_1746 : (Jvm.Cond.code ({ cls := "LatticeKeysModel$Hands", name := "openSize", desc := "(I)I" } : Jvm.MethodName) prog_13_method_2_code (1 : Nat) (Option.some Jvm.ClassFile.FieldType.int)) ∈ WG := wgr_8 66 (by rfl) (by rfl)
set_option maxRecDepth 100000 in
theorem kw_1747 : (Jvm.Cond.methodLink "LatticeKeysModel" (90 : Nat) ({ cls := "LatticeKeysModel", name := "hiddenSize", desc := "(I)I" } : Jvm.MethodName)) ∈ WG := wgr_8 67 (by rfl) (by rfl)
set_option maxRecDepth 100000 in
theorem kw_1748 : (Jvm.Cond.static ({ cls := "LatticeKeysModel", name := "hiddenSize", desc := "(I)I" } : Jvm.MethodName)) ∈ WG := wgr_8 68 (by rfl) (by rfl)
set_option maxRecDepth 100000 in
theorem kw_1749 : (Jvm.Cond.code ({ cls := "LatticeKeysModel", name := "hiddenSize", desc := "(I)I" } : Jvm.MethodName) prog_12_method_7_code (1 : Nat) (Option.some Jvm.ClassFile.FieldType.int)) ∈ WG := wgr_8 69 (by rfl) (by rfl)
set_option maxRecDepth 100000 in
theorem kw_1750 : (Jvm.Cond.methodLink "LatticeKeysModel" (66 : Nat) ({ cls := "LatticeKeysModel$Secrets", name := "hiddenSize", desc := "(I)I" } : Jvm.MethodName)) ∈ WG := wgr_8 70 (by rfl) (by rfl)
set_option maxRecDepth 100000 in
theorem kw_1751 : (Jvm.Cond.static ({ cls := "LatticeKeysModel$Secrets", name := "hiddenSize", desc := "(I)I" } : Jvm.MethodName)) ∈ WG := wgr_8 71 (by rfl) (by rfl)
set_option maxRecDepth 100000 in
theorem kw_1752 : (Jvm.Cond.code ({ cls := "LatticeKeysModel$Secrets", name := "hiddenSize", desc := "(I)I" } : Jvm.MethodName) prog_15_method_3_code (1 : Nat) (Option.some Jvm.ClassFile.FieldType.int)) ∈ WG := wgr_8 72 (by rfl) (by rfl)
set_option maxRecDepth 100000 in
theorem kw_1753 : (Jvm.Cond.methodLink "LatticeKeysModel" (69 : Nat) ({ cls := "LatticeKeysModel$Hands", name := "hiddenSize", desc := "(I)I" } : Jvm.MethodName)) ∈ WG := wgr_8 73 (by rfl) (by rfl)
set_option maxRecDepth 100000 in
theorem kw_1754 : (Jvm.Cond.static ({ cls := "LatticeKeysModel$Hands", name := "hiddenSize", desc := "(I)I" } : Jvm.MethodName)) ∈ WG := wgr_8 74 (by rfl) (by rfl)
set_option maxRecDepth 100000 in
theorem kw_1755 : (Jvm.Cond.code ({ cls := "LatticeKeysModel$Hands", name := "hiddenSize", desc := "(I)I" } : Jvm.MethodName) prog_13_method_3_code (1 : Nat) (Option.some Jvm.ClassFile.FieldType.int)) ∈ WG := wgr_8 75 (by rfl) (by rfl)
set_option maxRecDepth 100000 in
theorem kw_1756 : (Jvm.Cond.methodLink "LatticeKeysModel" (91 : Nat) ({ cls := "LatticeKeysModel", name := "made", desc := "(II)I" } : Jvm.MethodName)) ∈ WG := wgr_8 76 (by rfl) (by rfl)
set_option maxRecDepth 100000 in
theorem kw_1758 : (Jvm.Cond.instanceMethod ({ cls := "LatticeKeysModel", name := "made", desc := "(II)I" } : Jvm.MethodName)) ∈ WG := wgr_8 78 (by rfl) (by rfl)
set_option maxRecDepth 100000 in
theorem kw_1759 : (Jvm.Cond.code ({ cls := "LatticeKeysModel", name := "made", desc := "(II)I" } : Jvm.MethodName) prog_12_method_13_code (3 : Nat) (Option.some Jvm.ClassFile.FieldType.int)) ∈ WG := wgr_8 79 (by rfl) (by rfl)
set_option maxRecDepth 100000 in
theorem kw_1760 : (Jvm.Cond.methodLink "LatticeKeysLaw" (99 : Nat) ({ cls := "LatticeKeysModel", name := "load", desc := "(IZ)I" } : Jvm.MethodName)) ∈ WG := wgr_8 80 (by rfl) (by rfl)
set_option maxRecDepth 100000 in
theorem kw_1761 : (Jvm.Cond.instanceMethod ({ cls := "LatticeKeysModel", name := "load", desc := "(IZ)I" } : Jvm.MethodName)) ∈ WG := wgr_8 81 (by rfl) (by rfl)
set_option maxRecDepth 100000 in
theorem kw_1762 : (Jvm.Cond.selects "LatticeKeysModel" ({ cls := "LatticeKeysModel", name := "load", desc := "(IZ)I" } : Jvm.MethodName) ({ cls := "LatticeKeysModel", name := "load", desc := "(IZ)I" } : Jvm.MethodName)) ∈ WG := wgr_8 82 (by rfl) (by rfl)
set_option maxRecDepth 100000 in
theorem kw_1763 : (Jvm.Cond.code ({ cls := "LatticeKeysModel", name := "load", desc := "(IZ)I" } : Jvm.MethodName) prog_12_method_15_code (5 : Nat) (Option.some Jvm.ClassFile.FieldType.int)) ∈ WG := wgr_8 83 (by rfl) (by rfl)
set_option maxRecDepth 100000 in
theorem kw_1764 : (Jvm.Cond.methodLink "LatticeKeysModel" (95 : Nat) ({ cls := "LatticeKeysModel", name := "openSize", desc := "(I)I" } : Jvm.MethodName)) ∈ WG := wgr_8 84 (by rfl) (by rfl)
set_option maxRecDepth 100000 in
theorem kw_1765 : (Jvm.Cond.static ({ cls := "LatticeKeysModel", name := "openSize", desc := "(I)I" } : Jvm.MethodName)) ∈ WG := wgr_8 85 (by rfl) (by rfl)
set_option maxRecDepth 100000 in
theorem kw_1766 : (Jvm.Cond.code ({ cls := "LatticeKeysModel", name := "openSize", desc := "(I)I" } : Jvm.MethodName) prog_12_method_6_code (1 : Nat) (Option.some Jvm.ClassFile.FieldType.int)) ∈ WG := wgr_8 86 (by rfl) (by rfl)
set_option maxRecDepth 100000 in
theorem kw_1767 : (Jvm.Cond.methodLink "LatticeKeysModel" (61 : Nat) ({ cls := "LatticeKeysModel$Secrets", name := "openSize", desc := "(I)I" } : Jvm.MethodName)) ∈ WG := wgr_8 87 (by rfl) (by rfl)
set_option maxRecDepth 100000 in
theorem kw_1768 : (Jvm.Cond.methodLink "LatticeKeysModel" (65 : Nat) ({ cls := "LatticeKeysModel$Hands", name := "openSize", desc := "(I)I" } : Jvm.MethodName)) ∈ WG := wgr_8 88 (by rfl) (by rfl)
set_option maxRecDepth 100000 in
theorem kw_1769 : (Jvm.Cond.methodLink "LatticeKeysModel" (96 : Nat) ({ cls := "LatticeKeysModel$Secrets", name := "goodHidden", desc := "(I[B)Z" } : Jvm.MethodName)) ∈ WG := wgr_8 89 (by rfl) (by rfl)
set_option maxRecDepth 100000 in
theorem kw_1770 : (Jvm.Cond.instanceMethod ({ cls := "LatticeKeysModel$Secrets", name := "goodHidden", desc := "(I[B)Z" } : Jvm.MethodName)) ∈ WG := wgr_8 90 (by rfl) (by rfl)
set_option maxRecDepth 100000 in
theorem kw_1771 : (Jvm.Cond.selects "LatticeKeysModel$Secrets" ({ cls := "LatticeKeysModel$Secrets", name := "goodHidden", desc := "(I[B)Z" } : Jvm.MethodName) ({ cls := "LatticeKeysModel$Secrets", name := "goodHidden", desc := "(I[B)Z" } : Jvm.MethodName)) ∈ WG := wgr_8 91 (by rfl) (by rfl)
set_option maxRecDepth 100000 in
theorem kw_1772 : (Jvm.Cond.code ({ cls := "LatticeKeysModel$Secrets", name := "goodHidden", desc := "(I[B)Z" } : Jvm.MethodName) prog_15_method_25_code (5 : Nat) (Option.some Jvm.ClassFile.FieldType.boolean)) ∈ WG := wgr_8 92 (by rfl) (by rfl)
set_option maxRecDepth 100000 in
theorem kw_1773 : (Jvm.Cond.methodLink "LatticeKeysModel" (100 : Nat) ({ cls := "LatticeKeysModel$Secrets", name := "goodOpen", desc := "(I[B)Z" } : Jvm.MethodName)) ∈ WG := wgr_8 93 (by rfl) (by rfl)
set_option maxRecDepth 100000 in
theorem kw_1774 : (Jvm.Cond.instanceMethod ({ cls := "LatticeKeysModel$Secrets", name := "goodOpen", desc := "(I[B)Z" } : Jvm.MethodName)) ∈ WG := wgr_8 94 (by rfl) (by rfl)
set_option maxRecDepth 100000 in
theorem kw_1775 : (Jvm.Cond.selects "LatticeKeysModel$Secrets" ({ cls := "LatticeKeysModel$Secrets", name := "goodOpen", desc := "(I[B)Z" } : Jvm.MethodName) ({ cls := "LatticeKeysModel$Secrets", name := "goodOpen", desc := "(I[B)Z" } : Jvm.MethodName)) ∈ WG := wgr_8 95 (by rfl) (by rfl)
set_option maxRecDepth 100000 in
theorem kw_1776 : (Jvm.Cond.code ({ cls := "LatticeKeysModel$Secrets", name := "goodOpen", desc := "(I[B)Z" } : Jvm.MethodName) prog_15_method_24_code (4 : Nat) (Option.some Jvm.ClassFile.FieldType.boolean)) ∈ WG := wgr_8 96 (by rfl) (by rfl)
set_option maxRecDepth 100000 in
theorem kw_1777 : (Jvm.Cond.methodLink "LatticeKeysLaw" (103 : Nat) ({ cls := "LatticeKeysModel", name := "part", desc := "(IZI)I" } : Jvm.MethodName)) ∈ WG := wgr_8 97 (by rfl) (by rfl)
set_option maxRecDepth 100000 in
theorem kw_1778 : (Jvm.Cond.instanceMethod ({ cls := "LatticeKeysModel", name := "part", desc := "(IZI)I" } : Jvm.MethodName)) ∈ WG := wgr_8 98 (by rfl) (by rfl)
set_option maxRecDepth 100000 in
theorem kw_1779 : (Jvm.Cond.selects "LatticeKeysModel" ({ cls := "LatticeKeysModel", name := "part", desc := "(IZI)I" } : Jvm.MethodName) ({ cls := "LatticeKeysModel", name := "part", desc := "(IZI)I" } : Jvm.MethodName)) ∈ WG := wgr_8 99 (by rfl) (by rfl)
set_option maxRecDepth 100000 in
theorem kw_1780 : (Jvm.Cond.code ({ cls := "LatticeKeysModel", name := "part", desc := "(IZI)I" } : Jvm.MethodName) prog_12_method_18_code (4 : Nat) (Option.some Jvm.ClassFile.FieldType.int)) ∈ WG := wgr_8 100 (by rfl) (by rfl)
set_option maxRecDepth 100000 in
theorem kw_1781 : (Jvm.Cond.methodLink "LatticeKeysModel" (103 : Nat) ({ cls := "LatticeKeysModel", name := "none", desc := "(I)Z" } : Jvm.MethodName)) ∈ WG := wgr_8 101 (by rfl) (by rfl)
set_option maxRecDepth 100000 in
theorem kw_1783 : (Jvm.Cond.instanceMethod ({ cls := "LatticeKeysModel", name := "none", desc := "(I)Z" } : Jvm.MethodName)) ∈ WG := wgr_8 103 (by rfl) (by rfl)
set_option maxRecDepth 100000 in
theorem kw_1784 : (Jvm.Cond.code ({ cls := "LatticeKeysModel", name := "none", desc := "(I)Z" } : Jvm.MethodName) prog_12_method_16_code (2 : Nat) (Option.some Jvm.ClassFile.FieldType.boolean)) ∈ WG := wgr_8 104 (by rfl) (by rfl)
set_option maxRecDepth 100000 in
theorem kw_1785 : (Jvm.Cond.methodLink "LatticeKeysModel" (107 : Nat) ({ cls := "LatticeKeysModel", name := "size", desc := "(IZ)I" } : Jvm.MethodName)) ∈ WG := wgr_8 105 (by rfl) (by rfl)
set_option maxRecDepth 100000 in
theorem kw_1787 : (Jvm.Cond.instanceMethod ({ cls := "LatticeKeysModel", name := "size", desc := "(IZ)I" } : Jvm.MethodName)) ∈ WG := wgr_8 107 (by rfl) (by rfl)
set_option maxRecDepth 100000 in
theorem kw_1788 : (Jvm.Cond.code ({ cls := "LatticeKeysModel", name := "size", desc := "(IZ)I" } : Jvm.MethodName) prog_12_method_17_code (3 : Nat) (Option.some Jvm.ClassFile.FieldType.int)) ∈ WG := wgr_8 108 (by rfl) (by rfl)
set_option maxRecDepth 100000 in
theorem kw_1789 : (Jvm.Cond.methodLink "LatticeKeysLaw" (106 : Nat) ({ cls := "LatticeKeysModel", name := "show", desc := "(IZ)I" } : Jvm.MethodName)) ∈ WG := wgr_8 109 (by rfl) (by rfl)
set_option maxRecDepth 100000 in
theorem kw_1790 : (Jvm.Cond.instanceMethod ({ cls := "LatticeKeysModel", name := "show", desc := "(IZ)I" } : Jvm.MethodName)) ∈ WG := wgr_8 110 (by rfl) (by rfl)
set_option maxRecDepth 100000 in
theorem kw_1791 : (Jvm.Cond.selects "LatticeKeysModel" ({ cls := "LatticeKeysModel", name := "show", desc := "(IZ)I" } : Jvm.MethodName) ({ cls := "LatticeKeysModel", name := "show", desc := "(IZ)I" } : Jvm.MethodName)) ∈ WG := wgr_8 111 (by rfl) (by rfl)
set_option maxRecDepth 100000 in
theorem kw_1792 : (Jvm.Cond.code ({ cls := "LatticeKeysModel", name := "show", desc := "(IZ)I" } : Jvm.MethodName) prog_12_method_19_code (4 : Nat) (Option.some Jvm.ClassFile.FieldType.int)) ∈ WG := wgr_8 112 (by rfl) (by rfl)
set_option maxRecDepth 100000 in
theorem kw_1793 : (Jvm.Cond.methodLink "LatticeKeysLaw" (109 : Nat) ({ cls := "LatticeKeysModel", name := "told", desc := "(II)I" } : Jvm.MethodName)) ∈ WG := wgr_8 113 (by rfl) (by rfl)
set_option maxRecDepth 100000 in
theorem kw_1794 : (Jvm.Cond.instanceMethod ({ cls := "LatticeKeysModel", name := "told", desc := "(II)I" } : Jvm.MethodName)) ∈ WG := wgr_8 114 (by rfl) (by rfl)
set_option maxRecDepth 100000 in
theorem kw_1795 : (Jvm.Cond.selects "LatticeKeysModel" ({ cls := "LatticeKeysModel", name := "told", desc := "(II)I" } : Jvm.MethodName) ({ cls := "LatticeKeysModel", name := "told", desc := "(II)I" } : Jvm.MethodName)) ∈ WG := wgr_8 115 (by rfl) (by rfl)
set_option maxRecDepth 100000 in
theorem kw_1796 : (Jvm.Cond.code ({ cls := "LatticeKeysModel", name := "told", desc := "(II)I" } : Jvm.MethodName) prog_12_method_20_code (3 : Nat) (Option.some Jvm.ClassFile.FieldType.int)) ∈ WG := wgr_8 116 (by rfl) (by rfl)
set_option maxRecDepth 100000 in
theorem kw_1797 : (Jvm.Cond.methodLink "LatticeKeysLaw" (115 : Nat) ({ cls := "LatticeKeysModel", name := "seal", desc := "(I)I" } : Jvm.MethodName)) ∈ WG := wgr_8 117 (by rfl) (by rfl)
set_option maxRecDepth 100000 in
theorem kw_1798 : (Jvm.Cond.instanceMethod ({ cls := "LatticeKeysModel", name := "seal", desc := "(I)I" } : Jvm.MethodName)) ∈ WG := wgr_8 118 (by rfl) (by rfl)
set_option maxRecDepth 100000 in
theorem kw_1799 : (Jvm.Cond.selects "LatticeKeysModel" ({ cls := "LatticeKeysModel", name := "seal", desc := "(I)I" } : Jvm.MethodName) ({ cls := "LatticeKeysModel", name := "seal", desc := "(I)I" } : Jvm.MethodName)) ∈ WG := wgr_8 119 (by rfl) (by rfl)
set_option maxRecDepth 100000 in
theorem kw_1800 : (Jvm.Cond.code ({ cls := "LatticeKeysModel", name := "seal", desc := "(I)I" } : Jvm.MethodName) prog_12_method_21_code (2 : Nat) (Option.some Jvm.ClassFile.FieldType.int)) ∈ WG := wgr_8 120 (by rfl) (by rfl)
set_option maxRecDepth 100000 in
theorem kw_1801 : (Jvm.Cond.methodLink "LatticeKeysModel" (111 : Nat) ({ cls := "LatticeKeysModel$Secrets", name := "seal", desc := "(I[B[B[B)I" } : Jvm.MethodName)) ∈ WG := wgr_8 121 (by rfl) (by rfl)
set_option maxRecDepth 100000 in
theorem kw_1802 : (Jvm.Cond.instanceMethod ({ cls := "LatticeKeysModel$Secrets", name := "seal", desc := "(I[B[B[B)I" } : Jvm.MethodName)) ∈ WG := wgr_8 122 (by rfl) (by rfl)
set_option maxRecDepth 100000 in
theorem kw_1803 : (Jvm.Cond.selects "LatticeKeysModel$Secrets" ({ cls := "LatticeKeysModel$Secrets", name := "seal", desc := "(I[B[B[B)I" } : Jvm.MethodName) ({ cls := "LatticeKeysModel$Secrets", name := "seal", desc := "(I[B[B[B)I" } : Jvm.MethodName)) ∈ WG := wgr_8 123 (by rfl) (by rfl)
set_option maxRecDepth 100000 in
theorem kw_1804 : (Jvm.Cond.code ({ cls := "LatticeKeysModel$Secrets", name := "seal", desc := "(I[B[B[B)I" } : Jvm.MethodName) prog_15_method_22_code (7 : Nat) (Option.some Jvm.ClassFile.FieldType.int)) ∈ WG := wgr_8 124 (by rfl) (by rfl)
set_option maxRecDepth 100000 in
theorem kw_1805 : (Jvm.Cond.methodLink "LatticeKeysModel$Secrets" (174 : Nat) ({ cls := "LatticeKeysModel$Secrets", name := "both", desc := "([B)V" } : Jvm.MethodName)) ∈ WG := wgr_8 125 (by rfl) (by rfl)
set_option maxRecDepth 100000 in
theorem kw_1807 : (Jvm.Cond.instanceMethod ({ cls := "LatticeKeysModel$Secrets", name := "both", desc := "([B)V" } : Jvm.MethodName)) ∈ WG := wgr_8 127 (by rfl) (by rfl)
set_option maxRecDepth 100000 in
theorem kw_1808 : (Jvm.Cond.code ({ cls := "LatticeKeysModel$Secrets", name := "both", desc := "([B)V" } : Jvm.MethodName) prog_15_method_21_code (2 : Nat) (Option.none : Option Jvm.ClassFile.FieldType)) ∈ WG := wgr_8 128 (by rfl) (by rfl)
set_option maxRecDepth 100000 in
theorem kw_1809 : (Jvm.Cond.methodLink "LatticeKeysModel$Secrets" (178 : Nat) ({ cls := "LatticeKeysModel$Secrets", name := "encrypt", desc := "(I[BI[B[B)V" } : Jvm.MethodName)) ∈ WG := wgr_8 129 (by rfl) (by rfl)
set_option maxRecDepth 100000 in
theorem kw_1811 : (Jvm.Cond.instanceMethod ({ cls := "LatticeKeysModel$Secrets", name := "encrypt", desc := "(I[BI[B[B)V" } : Jvm.MethodName)) ∈ WG := wgr_8 131 (by rfl) (by rfl)
set_option maxRecDepth 100000 in
theorem kw_1812 : (Jvm.Cond.code ({ cls := "LatticeKeysModel$Secrets", name := "encrypt", desc := "(I[BI[B[B)V" } : Jvm.MethodName) prog_15_method_20_code (9 : Nat) (Option.none : Option Jvm.ClassFile.FieldType)) ∈ WG := wgr_8 132 (by rfl) (by rfl)
set_option maxRecDepth 100000 in
theorem kw_1813 : (Jvm.Cond.methodLink "LatticeKeysModel$Secrets" (151 : Nat) ({ cls := "LatticeKeysModel$Secrets", name := "read", desc := "([BII[I)V" } : Jvm.MethodName)) ∈ WG := wgr_8 133 (by rfl) (by rfl)
set_option maxRecDepth 100000 in
theorem kw_1814 : (Jvm.Cond.static ({ cls := "LatticeKeysModel$Secrets", name := "read", desc := "([BII[I)V" } : Jvm.MethodName)) ∈ WG := wgr_8 134 (by rfl) (by rfl)
set_option maxRecDepth 100000 in
theorem kw_1815 : (Jvm.Cond.code ({ cls := "LatticeKeysModel$Secrets", name := "read", desc := "([BII[I)V" } : Jvm.MethodName) prog_15_method_14_code (5 : Nat) (Option.none : Option Jvm.ClassFile.FieldType)) ∈ WG := wgr_8 135 (by rfl) (by rfl)
set_option maxRecDepth 100000 in
theorem kw_1816 : (Jvm.Cond.methodLink "LatticeKeysModel$Secrets" (155 : Nat) ({ cls := "LatticeKeysModel$Secrets", name := "proper", desc := "([I)V" } : Jvm.MethodName)) ∈ WG := wgr_8 136 (by rfl) (by rfl)
set_option maxRecDepth 100000 in
theorem kw_1817 : (Jvm.Cond.static ({ cls := "LatticeKeysModel$Secrets", name := "proper", desc := "([I)V" } : Jvm.MethodName)) ∈ WG := wgr_8 137 (by rfl) (by rfl)
set_option maxRecDepth 100000 in
theorem kw_1818 : (Jvm.Cond.code ({ cls := "LatticeKeysModel$Secrets", name := "proper", desc := "([I)V" } : Jvm.MethodName) prog_15_method_17_code (2 : Nat) (Option.none : Option Jvm.ClassFile.FieldType)) ∈ WG := wgr_8 138 (by rfl) (by rfl)
set_option maxRecDepth 100000 in
theorem kw_1819 : (Jvm.Cond.methodLink "LatticeKeysModel$Secrets" (158 : Nat) ({ cls := "LatticeKeysModel$Secrets", name := "clear", desc := "([I)V" } : Jvm.MethodName)) ∈ WG := wgr_8 139 (by rfl) (by rfl)
set_option maxRecDepth 100000 in
theorem kw_1820 : (Jvm.Cond.static ({ cls := "LatticeKeysModel$Secrets", name := "clear", desc := "([I)V" } : Jvm.MethodName)) ∈ WG := wgr_8 140 (by rfl) (by rfl)
set_option maxRecDepth 100000 in
theorem kw_1821 : (Jvm.Cond.code ({ cls := "LatticeKeysModel$Secrets", name := "clear", desc := "([I)V" } : Jvm.MethodName) prog_15_method_11_code (2 : Nat) (Option.none : Option Jvm.ClassFile.FieldType)) ∈ WG := wgr_8 141 (by rfl) (by rfl)
set_option maxRecDepth 100000 in
theorem kw_1822 : (Jvm.Cond.methodLink "LatticeKeysModel$Secrets" (161 : Nat) ({ cls := "LatticeKeysModel$Secrets", name := "back", desc := "([I)V" } : Jvm.MethodName)) ∈ WG := wgr_8 142 (by rfl) (by rfl)
set_option maxRecDepth 100000 in
theorem kw_1824 : (Jvm.Cond.instanceMethod ({ cls := "LatticeKeysModel$Secrets", name := "back", desc := "([I)V" } : Jvm.MethodName)) ∈ WG := wgr_8 144 (by rfl) (by rfl)
set_option maxRecDepth 100000 in
theorem kw_1825 : (Jvm.Cond.code ({ cls := "LatticeKeysModel$Secrets", name := "back", desc := "([I)V" } : Jvm.MethodName) prog_15_method_9_code (3 : Nat) (Option.none : Option Jvm.ClassFile.FieldType)) ∈ WG := wgr_8 145 (by rfl) (by rfl)
set_option maxRecDepth 100000 in
theorem kw_1826 : (Jvm.Cond.methodLink "LatticeKeysModel$Secrets" (111 : Nat) ({ cls := "LatticeKeysModel$Ring", name := "back", desc := "([I[III)V" } : Jvm.MethodName)) ∈ WG := wgr_8 146 (by rfl) (by rfl)
set_option maxRecDepth 100000 in
theorem kw_1827 : (Jvm.Cond.methodLink "LatticeKeysModel$Secrets" (163 : Nat) ({ cls := "LatticeKeysModel$Secrets", name := "plus", desc := "([I[I)V" } : Jvm.MethodName)) ∈ WG := wgr_8 147 (by rfl) (by rfl)
set_option maxRecDepth 100000 in
theorem kw_1828 : (Jvm.Cond.static ({ cls := "LatticeKeysModel$Secrets", name := "plus", desc := "([I[I)V" } : Jvm.MethodName)) ∈ WG := wgr_8 148 (by rfl) (by rfl)
set_option maxRecDepth 100000 in
theorem kw_1829 : (Jvm.Cond.code ({ cls := "LatticeKeysModel$Secrets", name := "plus", desc := "([I[I)V" } : Jvm.MethodName) prog_15_method_12_code (3 : Nat) (Option.none : Option Jvm.ClassFile.FieldType)) ∈ WG := wgr_8 149 (by rfl) (by rfl)
set_option maxRecDepth 100000 in
theorem kw_1830 : (Jvm.Cond.fieldLink "LatticeKeysModel$Secrets" (65 : Nat) "LatticeKeysModel$Secrets" "DU" "[I") ∈ WG := wgr_8 150 (by rfl) (by rfl)
set_option maxRecDepth 100000 in
theorem kw_1832 : (Jvm.Cond.methodLink "LatticeKeysModel$Secrets" (167 : Nat) ({ cls := "LatticeKeysModel$Secrets", name := "less", desc := "([II)V" } : Jvm.MethodName)) ∈ WG := wgr_8 152 (by rfl) (by rfl)
set_option maxRecDepth 100000 in
theorem kw_1833 : (Jvm.Cond.static ({ cls := "LatticeKeysModel$Secrets", name := "less", desc := "([II)V" } : Jvm.MethodName)) ∈ WG := wgr_8 153 (by rfl) (by rfl)
set_option maxRecDepth 100000 in
theorem kw_1834 : (Jvm.Cond.code ({ cls := "LatticeKeysModel$Secrets", name := "less", desc := "([II)V" } : Jvm.MethodName) prog_15_method_15_code (3 : Nat) (Option.none : Option Jvm.ClassFile.FieldType)) ∈ WG := wgr_8 154 (by rfl) (by rfl)
set_option maxRecDepth 100000 in
theorem kw_1835 : (Jvm.Cond.methodLink "LatticeKeysModel$Secrets" (171 : Nat) ({ cls := "LatticeKeysModel$Secrets", name := "more", desc := "([II)V" } : Jvm.MethodName)) ∈ WG := wgr_8 155 (by rfl) (by rfl)
set_option maxRecDepth 100000 in
theorem kw_1836 : (Jvm.Cond.static ({ cls := "LatticeKeysModel$Secrets", name := "more", desc := "([II)V" } : Jvm.MethodName)) ∈ WG := wgr_8 156 (by rfl) (by rfl)
set_option maxRecDepth 100000 in
theorem kw_1837 : (Jvm.Cond.code ({ cls := "LatticeKeysModel$Secrets", name := "more", desc := "([II)V" } : Jvm.MethodName) prog_15_method_16_code (3 : Nat) (Option.none : Option Jvm.ClassFile.FieldType)) ∈ WG := wgr_8 157 (by rfl) (by rfl)
set_option maxRecDepth 100000 in
theorem kw_1838 : (Jvm.Cond.fieldLink "LatticeKeysModel$Secrets" (68 : Nat) "LatticeKeysModel$Secrets" "DV" "[I") ∈ WG := wgr_8 158 (by rfl) (by rfl)
set_option maxRecDepth 100000 in
theorem kw_1840 : (Jvm.Cond.methodLink "LatticeKeysModel$Secrets" (182 : Nat) ({ cls := "LatticeKeysModel$Secrets", name := "sealedSize", desc := "(I)I" } : Jvm.MethodName)) ∈ WG := wgr_8 160 (by rfl) (by rfl)
set_option maxRecDepth 100000 in
theorem kw_1841 : (Jvm.Cond.static ({ cls := "LatticeKeysModel$Secrets", name := "sealedSize", desc := "(I)I" } : Jvm.MethodName)) ∈ WG := wgr_8 161 (by rfl) (by rfl)
set_option maxRecDepth 100000 in
theorem kw_1842 : (Jvm.Cond.code ({ cls := "LatticeKeysModel$Secrets", name := "sealedSize", desc := "(I)I" } : Jvm.MethodName) prog_15_method_4_code (1 : Nat) (Option.some Jvm.ClassFile.FieldType.int)) ∈ WG := wgr_8 162 (by rfl) (by rfl)
set_option maxRecDepth 100000 in
theorem kw_1843 : (Jvm.Cond.methodLink "LatticeKeysLaw" (118 : Nat) ({ cls := "LatticeKeysModel", name := "open", desc := "(I)I" } : Jvm.MethodName)) ∈ WG := wgr_8 163 (by rfl) (by rfl)
set_option maxRecDepth 100000 in
theorem kw_1844 : (Jvm.Cond.instanceMethod ({ cls := "LatticeKeysModel", name := "open", desc := "(I)I" } : Jvm.MethodName)) ∈ WG := wgr_8 164 (by rfl) (by rfl)
set_option maxRecDepth 100000 in
theorem kw_1845 : (Jvm.Cond.selects "LatticeKeysModel" ({ cls := "LatticeKeysModel", name := "open", desc := "(I)I" } : Jvm.MethodName) ({ cls := "LatticeKeysModel", name := "open", desc := "(I)I" } : Jvm.MethodName)) ∈ WG := wgr_8 165 (by rfl) (by rfl)
set_option maxRecDepth 100000 in
theorem kw_1846 : (Jvm.Cond.code ({ cls := "LatticeKeysModel", name := "open", desc := "(I)I" } : Jvm.MethodName) prog_12_method_22_code (2 : Nat) (Option.some Jvm.ClassFile.FieldType.int)) ∈ WG := wgr_8 166 (by rfl) (by rfl)
set_option maxRecDepth 100000 in
theorem kw_1847 : (Jvm.Cond.methodLink "LatticeKeysModel" (115 : Nat) ({ cls := "LatticeKeysModel$Secrets", name := "sealedSize", desc := "(I)I" } : Jvm.MethodName)) ∈ WG := wgr_8 167 (by rfl) (by rfl)
set_option maxRecDepth 100000 in
theorem kw_1848 : (Jvm.Cond.methodLink "LatticeKeysModel" (118 : Nat) ({ cls := "LatticeKeysModel$Secrets", name := "open", desc := "(I[B[B[B)V" } : Jvm.MethodName)) ∈ WG := wgr_8 168 (by rfl) (by rfl)
set_option maxRecDepth 100000 in
theorem kw_1849 : (Jvm.Cond.instanceMethod ({ cls := "LatticeKeysModel$Secrets", name := "open", desc := "(I[B[B[B)V" } : Jvm.MethodName)) ∈ WG := wgr_8 169 (by rfl) (by rfl)
set_option maxRecDepth 100000 in
theorem kw_1850 : (Jvm.Cond.selects "LatticeKeysModel$Secrets" ({ cls := "LatticeKeysModel$Secrets", name := "open", desc := "(I[B[B[B)V" } : Jvm.MethodName) ({ cls := "LatticeKeysModel$Secrets", name := "open", desc := "(I[B[B[B)V" } : Jvm.MethodName)) ∈ WG := wgr_8 170 (by rfl) (by rfl)
set_option maxRecDepth 100000 in
theorem kw_1851 : (Jvm.Cond.code ({ cls := "LatticeKeysModel$Secrets", name := "open", desc := "(I[B[B[B)V" } : Jvm.MethodName) prog_15_method_23_code (9 : Nat) (Option.none : Option Jvm.ClassFile.FieldType)) ∈ WG := wgr_8 171 (by rfl) (by rfl)
set_option maxRecDepth 100000 in
theorem kw_1852 : (Jvm.Cond.methodLink "LatticeKeysLaw" (121 : Nat) ({ cls := "LatticeKeysModel", name := "sign", desc := "(II)I" } : Jvm.MethodName)) ∈ WG := wgr_8 172 (by rfl) (by rfl)
set_option maxRecDepth 100000 in
theorem kw_1853 : (Jvm.Cond.instanceMethod ({ cls := "LatticeKeysModel", name := "sign", desc := "(II)I" } : Jvm.MethodName)) ∈ WG := wgr_8 173 (by rfl) (by rfl)
set_option maxRecDepth 100000 in
theorem kw_1854 : (Jvm.Cond.selects "LatticeKeysModel" ({ cls := "LatticeKeysModel", name := "sign", desc := "(II)I" } : Jvm.MethodName) ({ cls := "LatticeKeysModel", name := "sign", desc := "(II)I" } : Jvm.MethodName)) ∈ WG := wgr_8 174 (by rfl) (by rfl)
set_option maxRecDepth 100000 in
theorem kw_1855 : (Jvm.Cond.code ({ cls := "LatticeKeysModel", name := "sign", desc := "(II)I" } : Jvm.MethodName) prog_12_method_23_code (5 : Nat) (Option.some Jvm.ClassFile.FieldType.int)) ∈ WG := wgr_8 175 (by rfl) (by rfl)
set_option maxRecDepth 100000 in
theorem kw_1856 : (Jvm.Cond.methodLink "LatticeKeysModel" (120 : Nat) ({ cls := "LatticeKeysModel$Hands", name := "sign", desc := "(I[B[BII[B)I" } : Jvm.MethodName)) ∈ WG := wgr_8 176 (by rfl) (by rfl)
set_option maxRecDepth 100000 in
theorem kw_1857 : (Jvm.Cond.instanceMethod ({ cls := "LatticeKeysModel$Hands", name := "sign", desc := "(I[B[BII[B)I" } : Jvm.MethodName)) ∈ WG := wgr_8 177 (by rfl) (by rfl)
set_option maxRecDepth 100000 in
theorem kw_1858 : (Jvm.Cond.selects "LatticeKeysModel$Hands" ({ cls := "LatticeKeysModel$Hands", name := "sign", desc := "(I[B[BII[B)I" } : Jvm.MethodName) ({ cls := "LatticeKeysModel$Hands", name := "sign", desc := "(I[B[BII[B)I" } : Jvm.MethodName)) ∈ WG := wgr_8 178 (by rfl) (by rfl)
set_option maxRecDepth 100000 in
theorem kw_1859 : (Jvm.Cond.code ({ cls := "LatticeKeysModel$Hands", name := "sign", desc := "(I[B[BII[B)I" } : Jvm.MethodName) prog_13_method_22_code (9 : Nat) (Option.some Jvm.ClassFile.FieldType.int)) ∈ WG := wgr_8 179 (by rfl) (by rfl)
set_option maxRecDepth 100000 in
theorem kw_1860 : (Jvm.Cond.methodLink "LatticeKeysModel$Hands" (226 : Nat) ({ cls := "LatticeKeysModel$Hands", name := "readHidden", desc := "([B)V" } : Jvm.MethodName)) ∈ WG := wgr_8 180 (by rfl) (by rfl)
set_option maxRecDepth 100000 in
theorem kw_1862 : (Jvm.Cond.instanceMethod ({ cls := "LatticeKeysModel$Hands", name := "readHidden", desc := "([B)V" } : Jvm.MethodName)) ∈ WG := wgr_8 182 (by rfl) (by rfl)
set_option maxRecDepth 100000 in
theorem kw_1863 : (Jvm.Cond.code ({ cls := "LatticeKeysModel$Hands", name := "readHidden", desc := "([B)V" } : Jvm.MethodName) prog_13_method_15_code (7 : Nat) (Option.none : Option Jvm.ClassFile.FieldType)) ∈ WG := wgr_8 183 (by rfl) (by rfl)
set_option maxRecDepth 100000 in
theorem kw_1865 : (Jvm.Cond.methodLink "LatticeKeysModel$Hands" (201 : Nat) ({ cls := "LatticeKeysModel$Hands", name := "minus", desc := "(II)I" } : Jvm.MethodName)) ∈ WG := wgr_8 185 (by rfl) (by rfl)
set_option maxRecDepth 100000 in
theorem kw_1866 : (Jvm.Cond.static ({ cls := "LatticeKeysModel$Hands", name := "minus", desc := "(II)I" } : Jvm.MethodName)) ∈ WG := wgr_8 186 (by rfl) (by rfl)
set_option maxRecDepth 100000 in
theorem kw_1867 : (Jvm.Cond.code ({ cls := "LatticeKeysModel$Hands", name := "minus", desc := "(II)I" } : Jvm.MethodName) prog_13_method_11_code (2 : Nat) (Option.some Jvm.ClassFile.FieldType.int)) ∈ WG := wgr_8 187 (by rfl) (by rfl)
set_option maxRecDepth 100000 in
theorem kw_1868 : (Jvm.Cond.methodLink "LatticeKeysModel$Hands" (229 : Nat) ({ cls := "LatticeKeysModel$Hands", name := "message", desc := "([BI[BIII)V" } : Jvm.MethodName)) ∈ WG := wgr_8 188 (by rfl) (by rfl)
set_option maxRecDepth 100000 in
theorem kw_1870 : (Jvm.Cond.instanceMethod ({ cls := "LatticeKeysModel$Hands", name := "message", desc := "([BI[BIII)V" } : Jvm.MethodName)) ∈ WG := wgr_8 190 (by rfl) (by rfl)
set_option maxRecDepth 100000 in
theorem kw_1871 : (Jvm.Cond.code ({ cls := "LatticeKeysModel$Hands", name := "message", desc := "([BI[BIII)V" } : Jvm.MethodName) prog_13_method_16_code (7 : Nat) (Option.none : Option Jvm.ClassFile.FieldType)) ∈ WG := wgr_8 191 (by rfl) (by rfl)
set_option maxRecDepth 100000 in
theorem kw_1872 : (Jvm.Cond.methodLink "LatticeKeysModel$Hands" (233 : Nat) ({ cls := "LatticeKeysModel$Hands", name := "mask", desc := "(I)V" } : Jvm.MethodName)) ∈ WG := wgr_8 192 (by rfl) (by rfl)
set_option maxRecDepth 100000 in
theorem kw_1874 : (Jvm.Cond.instanceMethod ({ cls := "LatticeKeysModel$Hands", name := "mask", desc := "(I)V" } : Jvm.MethodName)) ∈ WG := wgr_8 194 (by rfl) (by rfl)
set_option maxRecDepth 100000 in
theorem kw_1875 : (Jvm.Cond.code ({ cls := "LatticeKeysModel$Hands", name := "mask", desc := "(I)V" } : Jvm.MethodName) prog_13_method_17_code (5 : Nat) (Option.none : Option Jvm.ClassFile.FieldType)) ∈ WG := wgr_8 195 (by rfl) (by rfl)
set_option maxRecDepth 100000 in
theorem kw_1876 : (Jvm.Cond.methodLink "LatticeKeysModel$Hands" (236 : Nat) ({ cls := "LatticeKeysModel$Hands", name := "marked", desc := "(Z[B)V" } : Jvm.MethodName)) ∈ WG := wgr_8 196 (by rfl) (by rfl)
set_option maxRecDepth 100000 in
theorem kw_1878 : (Jvm.Cond.instanceMethod ({ cls := "LatticeKeysModel$Hands", name := "marked", desc := "(Z[B)V" } : Jvm.MethodName)) ∈ WG := wgr_8 198 (by rfl) (by rfl)
set_option maxRecDepth 100000 in
theorem kw_1879 : (Jvm.Cond.code ({ cls := "LatticeKeysModel$Hands", name := "marked", desc := "(Z[B)V" } : Jvm.MethodName) prog_13_method_18_code (6 : Nat) (Option.none : Option Jvm.ClassFile.FieldType)) ∈ WG := wgr_8 199 (by rfl) (by rfl)
set_option maxRecDepth 100000 in
theorem kw_1880 : (Jvm.Cond.methodLink "LatticeKeysModel$Hands" (205 : Nat) ({ cls := "LatticeKeysModel$Hands", name := "used", desc := "(II)I" } : Jvm.MethodName)) ∈ WG := wgr_8 200 (by rfl) (by rfl)
set_option maxRecDepth 100000 in
theorem kw_1882 : (Jvm.Cond.instanceMethod ({ cls := "LatticeKeysModel$Hands", name := "used", desc := "(II)I" } : Jvm.MethodName)) ∈ WG := wgr_8 202 (by rfl) (by rfl)
set_option maxRecDepth 100000 in
theorem kw_1883 : (Jvm.Cond.code ({ cls := "LatticeKeysModel$Hands", name := "used", desc := "(II)I" } : Jvm.MethodName) prog_13_method_19_code (4 : Nat) (Option.some Jvm.ClassFile.FieldType.int)) ∈ WG := wgr_8 203 (by rfl) (by rfl)
set_option maxRecDepth 100000 in
theorem kw_1884 : (Jvm.Cond.constant "LatticeKeysModel$Hands" (165 : Nat) (8380416 : Int32)) ∈ WG := wgr_8 204 (by rfl) (by rfl)
set_option maxRecDepth 100000 in
theorem kw_1885 : (Jvm.Cond.methodLink "LatticeKeysModel$Hands" (208 : Nat) ({ cls := "LatticeKeysModel$Hands", name := "high", desc := "(I)I" } : Jvm.MethodName)) ∈ WG := wgr_8 205 (by rfl) (by rfl)
set_option maxRecDepth 100000 in
theorem kw_1887 : (Jvm.Cond.instanceMethod ({ cls := "LatticeKeysModel$Hands", name := "high", desc := "(I)I" } : Jvm.MethodName)) ∈ WG := wgr_8 207 (by rfl) (by rfl)
set_option maxRecDepth 100000 in
theorem kw_1888 : (Jvm.Cond.code ({ cls := "LatticeKeysModel$Hands", name := "high", desc := "(I)I" } : Jvm.MethodName) prog_13_method_13_code (3 : Nat) (Option.some Jvm.ClassFile.FieldType.int)) ∈ WG := wgr_8 208 (by rfl) (by rfl)
set_option maxRecDepth 100000 in
theorem kw_1889 : (Jvm.Cond.methodLink "LatticeKeysModel$Hands" (211 : Nat) ({ cls := "LatticeKeysModel$Hands", name := "low", desc := "(I)I" } : Jvm.MethodName)) ∈ WG := wgr_8 209 (by rfl) (by rfl)
set_option maxRecDepth 100000 in
theorem kw_1891 : (Jvm.Cond.instanceMethod ({ cls := "LatticeKeysModel$Hands", name := "low", desc := "(I)I" } : Jvm.MethodName)) ∈ WG := wgr_8 211 (by rfl) (by rfl)
set_option maxRecDepth 100000 in
theorem kw_1892 : (Jvm.Cond.code ({ cls := "LatticeKeysModel$Hands", name := "low", desc := "(I)I" } : Jvm.MethodName) prog_13_method_12_code (3 : Nat) (Option.some Jvm.ClassFile.FieldType.int)) ∈ WG := wgr_8 212 (by rfl) (by rfl)
set_option maxRecDepth 100000 in
theorem kw_1893 : (Jvm.Cond.methodLink "LatticeKeysModel$Hands" (240 : Nat) ({ cls := "LatticeKeysModel$Hands", name := "ball", desc := "([B)V" } : Jvm.MethodName)) ∈ WG := wgr_8 213 (by rfl) (by rfl)
set_option maxRecDepth 100000 in
theorem kw_1895 : (Jvm.Cond.instanceMethod ({ cls := "LatticeKeysModel$Hands", name := "ball", desc := "([B)V" } : Jvm.MethodName)) ∈ WG := wgr_8 215 (by rfl) (by rfl)
set_option maxRecDepth 100000 in
theorem kw_1896 : (Jvm.Cond.code ({ cls := "LatticeKeysModel$Hands", name := "ball", desc := "([B)V" } : Jvm.MethodName) prog_13_method_20_code (6 : Nat) (Option.none : Option Jvm.ClassFile.FieldType)) ∈ WG := wgr_8 216 (by rfl) (by rfl)
set_option maxRecDepth 100000 in
theorem kw_1897 : (Jvm.Cond.methodLink "LatticeKeysModel$Hands" (243 : Nat) ({ cls := "LatticeKeysModel$Hands", name := "fits", desc := "()Z" } : Jvm.MethodName)) ∈ WG := wgr_8 217 (by rfl) (by rfl)
set_option maxRecDepth 100000 in
theorem kw_1899 : (Jvm.Cond.instanceMethod ({ cls := "LatticeKeysModel$Hands", name := "fits", desc := "()Z" } : Jvm.MethodName)) ∈ WG := wgr_8 219 (by rfl) (by rfl)
set_option maxRecDepth 100000 in
theorem kw_1900 : (Jvm.Cond.code ({ cls := "LatticeKeysModel$Hands", name := "fits", desc := "()Z" } : Jvm.MethodName) prog_13_method_21_code (4 : Nat) (Option.some Jvm.ClassFile.FieldType.boolean)) ∈ WG := wgr_8 220 (by rfl) (by rfl)
set_option maxRecDepth 100000 in
theorem kw_1901 : (Jvm.Cond.methodLink "LatticeKeysModel$Hands" (214 : Nat) ({ cls := "LatticeKeysModel$Hands", name := "turned", desc := "([I[I)V" } : Jvm.MethodName)) ∈ WG := wgr_8 221 (by rfl) (by rfl)
set_option maxRecDepth 100000 in
theorem kw_1903 : (Jvm.Cond.instanceMethod ({ cls := "LatticeKeysModel$Hands", name := "turned", desc := "([I[I)V" } : Jvm.MethodName)) ∈ WG := wgr_8 223 (by rfl) (by rfl)
set_option maxRecDepth 100000 in
theorem kw_1904 : (Jvm.Cond.code ({ cls := "LatticeKeysModel$Hands", name := "turned", desc := "([I[I)V" } : Jvm.MethodName) prog_13_method_10_code (8 : Nat) (Option.none : Option Jvm.ClassFile.FieldType)) ∈ WG := wgr_8 224 (by rfl) (by rfl)
set_option maxRecDepth 100000 in
theorem kw_1905 : (Jvm.Cond.methodLink "LatticeKeysModel$Hands" (218 : Nat) ({ cls := "LatticeKeysModel$Hands", name := "norm", desc := "(I)I" } : Jvm.MethodName)) ∈ WG := wgr_8 225 (by rfl) (by rfl)
set_option maxRecDepth 100000 in
theorem kw_1906 : (Jvm.Cond.static ({ cls := "LatticeKeysModel$Hands", name := "norm", desc := "(I)I" } : Jvm.MethodName)) ∈ WG := wgr_8 226 (by rfl) (by rfl)
set_option maxRecDepth 100000 in
theorem kw_1907 : (Jvm.Cond.code ({ cls := "LatticeKeysModel$Hands", name := "norm", desc := "(I)I" } : Jvm.MethodName) prog_13_method_6_code (1 : Nat) (Option.some Jvm.ClassFile.FieldType.int)) ∈ WG := wgr_8 227 (by rfl) (by rfl)
set_option maxRecDepth 100000 in
theorem kw_1908 : (Jvm.Cond.constant "LatticeKeysModel$Hands" (135 : Nat) (4190208 : Int32)) ∈ WG := wgr_8 228 (by rfl) (by rfl)
set_option maxRecDepth 100000 in
theorem kw_1909 : (Jvm.Cond.methodLink "LatticeKeysModel$Hands" (221 : Nat) ({ cls := "java/lang/Math", name := "abs", desc := "(I)I" } : Jvm.MethodName)) ∈ WG := wgr_8 229 (by rfl) (by rfl)
set_option maxRecDepth 100000 in
theorem kw_1910 : (Jvm.Cond.static ({ cls := "java/lang/Math", name := "abs", desc := "(I)I" } : Jvm.MethodName)) ∈ WG := wgr_8 230 (by rfl) (by rfl)
set_option maxRecDepth 100000 in
theorem kw_1911 : (Jvm.Cond.code ({ cls := "java/lang/Math", name := "abs", desc := "(I)I" } : Jvm.MethodName) prog_24_method_59_code (1 : Nat) (Option.some Jvm.ClassFile.FieldType.int)) ∈ WG := wgr_8 231 (by rfl) (by rfl)
set_option maxRecDepth 100000 in
theorem kw_1912 : (Jvm.Cond.fieldLink "LatticeKeysModel$Hands" (100 : Nat) "LatticeKeysModel$Hands" "OMEGA" "[I") ∈ WG := wgr_8 232 (by rfl) (by rfl)
set_option maxRecDepth 100000 in
theorem kw_1914 : (Jvm.Cond.methodLink "LatticeKeysModel$Hands" (247 : Nat) ({ cls := "LatticeKeysModel$Hands", name := "written", desc := "([B)V" } : Jvm.MethodName)) ∈ WG := wgr_8 234 (by rfl) (by rfl)
set_option maxRecDepth 100000 in
theorem kw_1916 : (Jvm.Cond.instanceMethod ({ cls := "LatticeKeysModel$Hands", name := "written", desc := "([B)V" } : Jvm.MethodName)) ∈ WG := wgr_8 236 (by rfl) (by rfl)
set_option maxRecDepth 100000 in
theorem kw_1917 : (Jvm.Cond.code ({ cls := "LatticeKeysModel$Hands", name := "written", desc := "([B)V" } : Jvm.MethodName) prog_13_method_23_code (8 : Nat) (Option.none : Option Jvm.ClassFile.FieldType)) ∈ WG := wgr_8 237 (by rfl) (by rfl)
set_option maxRecDepth 100000 in
theorem kw_1918 : (Jvm.Cond.methodLink "LatticeKeysModel" (124 : Nat) ({ cls := "LatticeKeysModel$Hands", name := "markSize", desc := "(I)I" } : Jvm.MethodName)) ∈ WG := wgr_8 238 (by rfl) (by rfl)
set_option maxRecDepth 100000 in
theorem kw_1919 : (Jvm.Cond.static ({ cls := "LatticeKeysModel$Hands", name := "markSize", desc := "(I)I" } : Jvm.MethodName)) ∈ WG := wgr_8 239 (by rfl) (by rfl)
set_option maxRecDepth 100000 in
theorem kw_1920 : (Jvm.Cond.code ({ cls := "LatticeKeysModel$Hands", name := "markSize", desc := "(I)I" } : Jvm.MethodName) prog_13_method_4_code (1 : Nat) (Option.some Jvm.ClassFile.FieldType.int)) ∈ WG := wgr_9 0 (by rfl) (by rfl)
set_option maxRecDepth 100000 in
theorem kw_1921 : (Jvm.Cond.methodLink "LatticeKeysLaw" (124 : Nat) ({ cls := "LatticeKeysModel", name := "verify", desc := "(II)Z" } : Jvm.MethodName)) ∈ WG := wgr_9 1 (by rfl) (by rfl)
set_option maxRecDepth 100000 in
theorem kw_1922 : (Jvm.Cond.instanceMethod ({ cls := "LatticeKeysModel", name := "verify", desc := "(II)Z" } : Jvm.MethodName)) ∈ WG := wgr_9 2 (by rfl) (by rfl)
set_option maxRecDepth 100000 in
theorem kw_1923 : (Jvm.Cond.selects "LatticeKeysModel" ({ cls := "LatticeKeysModel", name := "verify", desc := "(II)Z" } : Jvm.MethodName) ({ cls := "LatticeKeysModel", name := "verify", desc := "(II)Z" } : Jvm.MethodName)) ∈ WG := wgr_9 3 (by rfl) (by rfl)
set_option maxRecDepth 100000 in
theorem kw_1924 : (Jvm.Cond.code ({ cls := "LatticeKeysModel", name := "verify", desc := "(II)Z" } : Jvm.MethodName) prog_12_method_24_code (4 : Nat) (Option.some Jvm.ClassFile.FieldType.boolean)) ∈ WG := wgr_9 4 (by rfl) (by rfl)
set_option maxRecDepth 100000 in
theorem kw_1925 : (Jvm.Cond.methodLink "LatticeKeysModel" (127 : Nat) ({ cls := "LatticeKeysModel$Hands", name := "verify", desc := "(I[B[BII)Z" } : Jvm.MethodName)) ∈ WG := wgr_9 5 (by rfl) (by rfl)
set_option maxRecDepth 100000 in
theorem kw_1926 : (Jvm.Cond.instanceMethod ({ cls := "LatticeKeysModel$Hands", name := "verify", desc := "(I[B[BII)Z" } : Jvm.MethodName)) ∈ WG := wgr_9 6 (by rfl) (by rfl)
set_option maxRecDepth 100000 in
theorem kw_1927 : (Jvm.Cond.selects "LatticeKeysModel$Hands" ({ cls := "LatticeKeysModel$Hands", name := "verify", desc := "(I[B[BII)Z" } : Jvm.MethodName) ({ cls := "LatticeKeysModel$Hands", name := "verify", desc := "(I[B[BII)Z" } : Jvm.MethodName)) ∈ WG := wgr_9 7 (by rfl) (by rfl)
set_option maxRecDepth 100000 in
theorem kw_1928 : (Jvm.Cond.code ({ cls := "LatticeKeysModel$Hands", name := "verify", desc := "(I[B[BII)Z" } : Jvm.MethodName) prog_13_method_25_code (11 : Nat) (Option.some Jvm.ClassFile.FieldType.boolean)) ∈ WG := wgr_9 8 (by rfl) (by rfl)
set_option maxRecDepth 100000 in
theorem kw_1929 : (Jvm.Cond.methodLink "LatticeKeysModel$Hands" (250 : Nat) ({ cls := "LatticeKeysModel$Hands", name := "readHints", desc := "([BI)Z" } : Jvm.MethodName)) ∈ WG := wgr_9 9 (by rfl) (by rfl)
set_option maxRecDepth 100000 in
theorem kw_1931 : (Jvm.Cond.instanceMethod ({ cls := "LatticeKeysModel$Hands", name := "readHints", desc := "([BI)Z" } : Jvm.MethodName)) ∈ WG := wgr_9 11 (by rfl) (by rfl)
set_option maxRecDepth 100000 in
theorem kw_1932 : (Jvm.Cond.code ({ cls := "LatticeKeysModel$Hands", name := "readHints", desc := "([BI)Z" } : Jvm.MethodName) prog_13_method_24_code (8 : Nat) (Option.some Jvm.ClassFile.FieldType.boolean)) ∈ WG := wgr_9 12 (by rfl) (by rfl)
set_option maxRecDepth 100000 in
theorem kw_1933 : (Jvm.Cond.methodLink "LatticeKeysModel$Hands" (254 : Nat) ({ cls := "LatticeKeysModel$Hands", name := "markSize", desc := "(I)I" } : Jvm.MethodName)) ∈ WG := wgr_9 13 (by rfl) (by rfl)
set_option maxRecDepth 100000 in
theorem kw_1934 : (Jvm.Cond.methodLink "LatticeKeysLaw" (127 : Nat) ({ cls := "LatticeKeysModel", name := "hash", desc := "(II)I" } : Jvm.MethodName)) ∈ WG := wgr_9 14 (by rfl) (by rfl)
set_option maxRecDepth 100000 in
theorem kw_1935 : (Jvm.Cond.instanceMethod ({ cls := "LatticeKeysModel", name := "hash", desc := "(II)I" } : Jvm.MethodName)) ∈ WG := wgr_9 15 (by rfl) (by rfl)
set_option maxRecDepth 100000 in
theorem kw_1936 : (Jvm.Cond.selects "LatticeKeysModel" ({ cls := "LatticeKeysModel", name := "hash", desc := "(II)I" } : Jvm.MethodName) ({ cls := "LatticeKeysModel", name := "hash", desc := "(II)I" } : Jvm.MethodName)) ∈ WG := wgr_9 16 (by rfl) (by rfl)
set_option maxRecDepth 100000 in
theorem kw_1937 : (Jvm.Cond.code ({ cls := "LatticeKeysModel", name := "hash", desc := "(II)I" } : Jvm.MethodName) prog_12_method_25_code (3 : Nat) (Option.some Jvm.ClassFile.FieldType.int)) ∈ WG := wgr_9 17 (by rfl) (by rfl)
set_option maxRecDepth 100000 in
theorem kw_1938 : (Jvm.Cond.methodLink "LatticeKeysModel" (131 : Nat) ({ cls := "LatticeKeysModel$Sponge", name := "begin", desc := "(II)V" } : Jvm.MethodName)) ∈ WG := wgr_9 18 (by rfl) (by rfl)
set_option maxRecDepth 100000 in
theorem kw_1939 : (Jvm.Cond.methodLink "LatticeKeysModel" (135 : Nat) ({ cls := "LatticeKeysModel$Sponge", name := "put", desc := "([BII)V" } : Jvm.MethodName)) ∈ WG := wgr_9 19 (by rfl) (by rfl)
set_option maxRecDepth 100000 in
theorem kw_1940 : (Jvm.Cond.methodLink "LatticeKeysModel" (139 : Nat) ({ cls := "LatticeKeysModel$Sponge", name := "end", desc := "()V" } : Jvm.MethodName)) ∈ WG := wgr_9 20 (by rfl) (by rfl)
set_option maxRecDepth 100000 in
theorem kw_1941 : (Jvm.Cond.methodLink "LatticeKeysModel" (142 : Nat) ({ cls := "LatticeKeysModel$Sponge", name := "take", desc := "([BII)V" } : Jvm.MethodName)) ∈ WG := wgr_9 21 (by rfl) (by rfl)
set_option maxRecDepth 100000 in
theorem kw_1942 : (Jvm.Cond.methodLink "LatticeKeysLaw" (130 : Nat) ({ cls := "LatticeKeysModel", name := "result", desc := "(I)I" } : Jvm.MethodName)) ∈ WG := wgr_9 22 (by rfl) (by rfl)
set_option maxRecDepth 100000 in
theorem kw_1943 : (Jvm.Cond.instanceMethod ({ cls := "LatticeKeysModel", name := "result", desc := "(I)I" } : Jvm.MethodName)) ∈ WG := wgr_9 23 (by rfl) (by rfl)
set_option maxRecDepth 100000 in
theorem kw_1944 : (Jvm.Cond.selects "LatticeKeysModel" ({ cls := "LatticeKeysModel", name := "result", desc := "(I)I" } : Jvm.MethodName) ({ cls := "LatticeKeysModel", name := "result", desc := "(I)I" } : Jvm.MethodName)) ∈ WG := wgr_9 24 (by rfl) (by rfl)
set_option maxRecDepth 100000 in
theorem kw_1945 : (Jvm.Cond.code ({ cls := "LatticeKeysModel", name := "result", desc := "(I)I" } : Jvm.MethodName) prog_12_method_26_code (2 : Nat) (Option.some Jvm.ClassFile.FieldType.int)) ∈ WG := wgr_9 25 (by rfl) (by rfl)
set_option maxRecDepth 100000 in
theorem kw_1946 : (Jvm.Cond.methodLink "LatticeKeysLaw" (134 : Nat) ({ cls := "LatticeKeysModel", name := "count", desc := "(I)I" } : Jvm.MethodName)) ∈ WG := wgr_9 26 (by rfl) (by rfl)
set_option maxRecDepth 100000 in
theorem kw_1947 : (Jvm.Cond.instanceMethod ({ cls := "LatticeKeysModel", name := "count", desc := "(I)I" } : Jvm.MethodName)) ∈ WG := wgr_9 27 (by rfl) (by rfl)
set_option maxRecDepth 100000 in
theorem kw_1948 : (Jvm.Cond.selects "LatticeKeysModel" ({ cls := "LatticeKeysModel", name := "count", desc := "(I)I" } : Jvm.MethodName) ({ cls := "LatticeKeysModel", name := "count", desc := "(I)I" } : Jvm.MethodName)) ∈ WG := wgr_9 28 (by rfl) (by rfl)
set_option maxRecDepth 100000 in
theorem kw_1949 : (Jvm.Cond.code ({ cls := "LatticeKeysModel", name := "count", desc := "(I)I" } : Jvm.MethodName) prog_12_method_27_code (2 : Nat) (Option.some Jvm.ClassFile.FieldType.int)) ∈ WG := wgr_9 29 (by rfl) (by rfl)
theorem kobj : Cond.code Lib.objectInit ⟨#[0xb1]⟩ 1 none ∈ WG := kw_42
theorem ks_1 : Cond.selects "LatticeKeys" ⟨"LatticeKeys", "writeNumber", "(I)V"⟩ ⟨"LatticeKeys", "writeNumber", "(I)V"⟩ ∈ WG := wgs 1 (by rfl) (by rfl)
theorem ks_2 : Cond.selects "LatticeKeys" ⟨"LatticeKeys", "publicLength", "(I)I"⟩ ⟨"LatticeKeys", "publicLength", "(I)I"⟩ ∈ WG := wgs 2 (by rfl) (by rfl)
theorem ks_3 : Cond.selects "LatticeKeys" ⟨"LatticeKeys", "secretLength", "(I)I"⟩ ⟨"LatticeKeys", "secretLength", "(I)I"⟩ ∈ WG := wgs 3 (by rfl) (by rfl)
theorem ks_4 : Cond.selects "LatticeKeys$Sponge" ⟨"LatticeKeys$Sponge", "mixIn", "(II)V"⟩ ⟨"LatticeKeys$Sponge", "mixIn", "(II)V"⟩ ∈ WG := wgs 4 (by rfl) (by rfl)
theorem ks_5 : Cond.selects "LatticeKeys$Sponge" ⟨"LatticeKeys$Sponge", "permute", "()V"⟩ ⟨"LatticeKeys$Sponge", "permute", "()V"⟩ ∈ WG := wgs 5 (by rfl) (by rfl)
theorem ks_6 : Cond.selects "LatticeKeys$Kem" ⟨"LatticeKeys$Kem", "sampleNoise", "([III)V"⟩ ⟨"LatticeKeys$Kem", "sampleNoise", "([III)V"⟩ ∈ WG := wgs 6 (by rfl) (by rfl)
theorem ks_7 : Cond.selects "LatticeKeys$Ring" ⟨"LatticeKeys$Ring", "spread", "([IIIJ)V"⟩ ⟨"LatticeKeys$Ring", "spread", "([IIIJ)V"⟩ ∈ WG := wgs 7 (by rfl) (by rfl)
theorem ks_8 : Cond.selects "LatticeKeys$Kem" ⟨"LatticeKeys$Kem", "sampleEntry", "([BIII)V"⟩ ⟨"LatticeKeys$Kem", "sampleEntry", "([BIII)V"⟩ ∈ WG := wgs 8 (by rfl) (by rfl)
theorem ks_9 : Cond.selects "LatticeKeys$Ring" ⟨"LatticeKeys$Ring", "addPair", "([I[I[IIJ)V"⟩ ⟨"LatticeKeys$Ring", "addPair", "([I[I[IIJ)V"⟩ ∈ WG := wgs 9 (by rfl) (by rfl)
theorem ks_10 : Cond.selects "LatticeKeys$Kem" ⟨"LatticeKeys$Kem", "digestOf", "([BII)V"⟩ ⟨"LatticeKeys$Kem", "digestOf", "([BII)V"⟩ ∈ WG := wgs 10 (by rfl) (by rfl)
theorem ks_11 : Cond.selects "LatticeKeys$Dsa" ⟨"LatticeKeys$Dsa", "writeSmallVectors", "(LLatticeKeys$DsaSet;[B)V"⟩ ⟨"LatticeKeys$Dsa", "writeSmallVectors", "(LLatticeKeys$DsaSet;[B)V"⟩ ∈ WG := wgs 11 (by rfl) (by rfl)
theorem ks_12 : Cond.selects "LatticeKeys$DsaSampler" ⟨"LatticeKeys$DsaSampler", "startNumbered", "([BII)V"⟩ ⟨"LatticeKeys$DsaSampler", "startNumbered", "([BII)V"⟩ ∈ WG := wgs 12 (by rfl) (by rfl)
theorem ks_13 : Cond.selects "LatticeKeys$DsaSampler" ⟨"LatticeKeys$DsaSampler", "putSmall", "(I[III)I"⟩ ⟨"LatticeKeys$DsaSampler", "putSmall", "(I[III)I"⟩ ∈ WG := wgs 13 (by rfl) (by rfl)
theorem ks_14 : Cond.selects "LatticeKeys$DsaSampler" ⟨"LatticeKeys$DsaSampler", "sampleEntry", "([I[BII)V"⟩ ⟨"LatticeKeys$DsaSampler", "sampleEntry", "([I[BII)V"⟩ ∈ WG := wgs 14 (by rfl) (by rfl)
theorem ks_15 : Cond.selects "LatticeKeys$Dsa" ⟨"LatticeKeys$Dsa", "multiplyRow", "(LLatticeKeys$DsaSet;I[[I)V"⟩ ⟨"LatticeKeys$Dsa", "multiplyRow", "(LLatticeKeys$DsaSet;I[[I)V"⟩ ∈ WG := wgs 15 (by rfl) (by rfl)
theorem ks_16 : Cond.selects "LatticeKeys$Ring" ⟨"LatticeKeys$Ring", "gather", "([IIIJ)V"⟩ ⟨"LatticeKeys$Ring", "gather", "([IIIJ)V"⟩ ∈ WG := wgs 16 (by rfl) (by rfl)
theorem ks_17 : Cond.selects "LatticeKeys$Dsa" ⟨"LatticeKeys$Dsa", "splitRow", "([I)V"⟩ ⟨"LatticeKeys$Dsa", "splitRow", "([I)V"⟩ ∈ WG := wgs 17 (by rfl) (by rfl)
theorem ks_18 : Cond.selects "LatticeKeys$Dsa" ⟨"LatticeKeys$Dsa", "digestOf", "([B)V"⟩ ⟨"LatticeKeys$Dsa", "digestOf", "([B)V"⟩ ∈ WG := wgs 18 (by rfl) (by rfl)
theorem ks_19 : Cond.selects "LatticeKeys" ⟨"LatticeKeys", "keep", "(LLatticeKeys$KeyPair;)I"⟩ ⟨"LatticeKeys", "keep", "(LLatticeKeys$KeyPair;)I"⟩ ∈ WG := wgs 19 (by rfl) (by rfl)
theorem ks_20 : Cond.selects "LatticeKeys" ⟨"LatticeKeys", "isLoadable", "(IZ)Z"⟩ ⟨"LatticeKeys", "isLoadable", "(IZ)Z"⟩ ∈ WG := wgs 20 (by rfl) (by rfl)
theorem ks_21 : Cond.selects "LatticeKeys" ⟨"LatticeKeys", "isSound", "(LLatticeKeys$KemSet;Z)Z"⟩ ⟨"LatticeKeys", "isSound", "(LLatticeKeys$KemSet;Z)Z"⟩ ∈ WG := wgs 21 (by rfl) (by rfl)
theorem ks_22 : Cond.selects "LatticeKeys" ⟨"LatticeKeys", "secretFromTape", "(I)LLatticeKeys$KeyPair;"⟩ ⟨"LatticeKeys", "secretFromTape", "(I)LLatticeKeys$KeyPair;"⟩ ∈ WG := wgs 22 (by rfl) (by rfl)
theorem ks_23 : Cond.selects "LatticeKeys" ⟨"LatticeKeys", "partOf", "(IZ)[B"⟩ ⟨"LatticeKeys", "partOf", "(IZ)[B"⟩ ∈ WG := wgs 23 (by rfl) (by rfl)
theorem ks_24 : Cond.selects "LatticeKeys" ⟨"LatticeKeys", "find", "(I)LLatticeKeys$KeyPair;"⟩ ⟨"LatticeKeys", "find", "(I)LLatticeKeys$KeyPair;"⟩ ∈ WG := wgs 24 (by rfl) (by rfl)
theorem ks_25 : Cond.selects "LatticeKeys" ⟨"LatticeKeys", "findKem", "(I)LLatticeKeys$KeyPair;"⟩ ⟨"LatticeKeys", "findKem", "(I)LLatticeKeys$KeyPair;"⟩ ∈ WG := wgs 25 (by rfl) (by rfl)
theorem ks_26 : Cond.selects "LatticeKeys$Kem" ⟨"LatticeKeys$Kem", "deriveSeeds", "([BI)V"⟩ ⟨"LatticeKeys$Kem", "deriveSeeds", "([BI)V"⟩ ∈ WG := wgs 26 (by rfl) (by rfl)
theorem ks_27 : Cond.selects "LatticeKeys$Kem" ⟨"LatticeKeys$Kem", "encrypt", "(LLatticeKeys$KemSet;[B[B)V"⟩ ⟨"LatticeKeys$Kem", "encrypt", "(LLatticeKeys$KemSet;[B[B)V"⟩ ∈ WG := wgs 27 (by rfl) (by rfl)
theorem ks_28 : Cond.selects "LatticeKeys$Kem" ⟨"LatticeKeys$Kem", "writeRounded", "([II[BI)V"⟩ ⟨"LatticeKeys$Kem", "writeRounded", "([II[BI)V"⟩ ∈ WG := wgs 28 (by rfl) (by rfl)
theorem ks_29 : Cond.selects "LatticeKeys$Kem" ⟨"LatticeKeys$Kem", "readReduced", "([BI)V"⟩ ⟨"LatticeKeys$Kem", "readReduced", "([BI)V"⟩ ∈ WG := wgs 29 (by rfl) (by rfl)
theorem ks_30 : Cond.selects "LatticeKeys$Kem" ⟨"LatticeKeys$Kem", "readRounded", "([II[BI)V"⟩ ⟨"LatticeKeys$Kem", "readRounded", "([II[BI)V"⟩ ∈ WG := wgs 30 (by rfl) (by rfl)
theorem ks_31 : Cond.selects "LatticeKeys$Kem" ⟨"LatticeKeys$Kem", "decrypt", "(LLatticeKeys$KemSet;[B[B)V"⟩ ⟨"LatticeKeys$Kem", "decrypt", "(LLatticeKeys$KemSet;[B[B)V"⟩ ∈ WG := wgs 31 (by rfl) (by rfl)
theorem ks_32 : Cond.selects "LatticeKeys" ⟨"LatticeKeys", "findDsa", "(I)LLatticeKeys$KeyPair;"⟩ ⟨"LatticeKeys", "findDsa", "(I)LLatticeKeys$KeyPair;"⟩ ∈ WG := wgs 32 (by rfl) (by rfl)
theorem ks_33 : Cond.selects "LatticeKeys" ⟨"LatticeKeys", "holdsContext", "(II)Z"⟩ ⟨"LatticeKeys", "holdsContext", "(II)Z"⟩ ∈ WG := wgs 33 (by rfl) (by rfl)
theorem ks_34 : Cond.selects "LatticeKeys$Dsa" ⟨"LatticeKeys$Dsa", "readSecret", "(LLatticeKeys$DsaSet;[B)V"⟩ ⟨"LatticeKeys$Dsa", "readSecret", "(LLatticeKeys$DsaSet;[B)V"⟩ ∈ WG := wgs 34 (by rfl) (by rfl)
theorem ks_35 : Cond.selects "LatticeKeys$Dsa" ⟨"LatticeKeys$Dsa", "readFlipped", "([III[BI)V"⟩ ⟨"LatticeKeys$Dsa", "readFlipped", "([III[BI)V"⟩ ∈ WG := wgs 35 (by rfl) (by rfl)
theorem ks_36 : Cond.selects "LatticeKeys$Dsa" ⟨"LatticeKeys$Dsa", "digestMessage", "([BIII)V"⟩ ⟨"LatticeKeys$Dsa", "digestMessage", "([BIII)V"⟩ ∈ WG := wgs 36 (by rfl) (by rfl)
theorem ks_37 : Cond.selects "LatticeKeys$Dsa" ⟨"LatticeKeys$Dsa", "commit", "(LLatticeKeys$DsaSet;I)V"⟩ ⟨"LatticeKeys$Dsa", "commit", "(LLatticeKeys$DsaSet;I)V"⟩ ∈ WG := wgs 37 (by rfl) (by rfl)
theorem ks_38 : Cond.selects "LatticeKeys$Dsa" ⟨"LatticeKeys$Dsa", "startChallenge", "()V"⟩ ⟨"LatticeKeys$Dsa", "startChallenge", "()V"⟩ ∈ WG := wgs 38 (by rfl) (by rfl)
theorem ks_39 : Cond.selects "LatticeKeys$Dsa" ⟨"LatticeKeys$Dsa", "absorbHigh", "(LLatticeKeys$DsaSet;)V"⟩ ⟨"LatticeKeys$Dsa", "absorbHigh", "(LLatticeKeys$DsaSet;)V"⟩ ∈ WG := wgs 39 (by rfl) (by rfl)
theorem ks_40 : Cond.selects "LatticeKeys$Dsa" ⟨"LatticeKeys$Dsa", "answerIsShort", "(LLatticeKeys$DsaSet;)Z"⟩ ⟨"LatticeKeys$Dsa", "answerIsShort", "(LLatticeKeys$DsaSet;)Z"⟩ ∈ WG := wgs 40 (by rfl) (by rfl)
theorem ks_41 : Cond.selects "LatticeKeys$Dsa" ⟨"LatticeKeys$Dsa", "multiplyBall", "([I)V"⟩ ⟨"LatticeKeys$Dsa", "multiplyBall", "([I)V"⟩ ∈ WG := wgs 41 (by rfl) (by rfl)
theorem ks_42 : Cond.selects "LatticeKeys$Dsa" ⟨"LatticeKeys$Dsa", "restIsShort", "(LLatticeKeys$DsaSet;)Z"⟩ ⟨"LatticeKeys$Dsa", "restIsShort", "(LLatticeKeys$DsaSet;)Z"⟩ ∈ WG := wgs 42 (by rfl) (by rfl)
theorem ks_43 : Cond.selects "LatticeKeys$Dsa" ⟨"LatticeKeys$Dsa", "makeHints", "(LLatticeKeys$DsaSet;)Z"⟩ ⟨"LatticeKeys$Dsa", "makeHints", "(LLatticeKeys$DsaSet;)Z"⟩ ∈ WG := wgs 43 (by rfl) (by rfl)
theorem ks_44 : Cond.selects "LatticeKeys$Dsa" ⟨"LatticeKeys$Dsa", "writeSignature", "(LLatticeKeys$DsaSet;[B)V"⟩ ⟨"LatticeKeys$Dsa", "writeSignature", "(LLatticeKeys$DsaSet;[B)V"⟩ ∈ WG := wgs 44 (by rfl) (by rfl)
theorem ks_45 : Cond.selects "LatticeKeys$Dsa" ⟨"LatticeKeys$Dsa", "readSignature", "(LLatticeKeys$DsaSet;[B)Z"⟩ ⟨"LatticeKeys$Dsa", "readSignature", "(LLatticeKeys$DsaSet;[B)Z"⟩ ∈ WG := wgs 45 (by rfl) (by rfl)
theorem ks_46 : Cond.selects "LatticeKeys$Dsa" ⟨"LatticeKeys$Dsa", "hintsAreInForm", "(LLatticeKeys$DsaSet;)Z"⟩ ⟨"LatticeKeys$Dsa", "hintsAreInForm", "(LLatticeKeys$DsaSet;)Z"⟩ ∈ WG := wgs 46 (by rfl) (by rfl)
theorem ks_47 : Cond.selects "LatticeKeys$Dsa" ⟨"LatticeKeys$Dsa", "rebuildRow", "(LLatticeKeys$DsaSet;[BI)V"⟩ ⟨"LatticeKeys$Dsa", "rebuildRow", "(LLatticeKeys$DsaSet;[BI)V"⟩ ∈ WG := wgs 47 (by rfl) (by rfl)
theorem ks_48 : Cond.selects "LatticeKeys$Dsa" ⟨"LatticeKeys$Dsa", "useHints", "(LLatticeKeys$DsaSet;[III)V"⟩ ⟨"LatticeKeys$Dsa", "useHints", "(LLatticeKeys$DsaSet;[III)V"⟩ ∈ WG := wgs 48 (by rfl) (by rfl)
theorem ks_49 : Cond.selects "LatticeKeys$Dsa" ⟨"LatticeKeys$Dsa", "challengesAgree", "(LLatticeKeys$DsaSet;)Z"⟩ ⟨"LatticeKeys$Dsa", "challengesAgree", "(LLatticeKeys$DsaSet;)Z"⟩ ∈ WG := wgs 49 (by rfl) (by rfl)
theorem ks_50 : Cond.selects "LatticeKeysModel" ⟨"LatticeKeysModel", "fail", "(I)I"⟩ ⟨"LatticeKeysModel", "fail", "(I)I"⟩ ∈ WG := wgs 50 (by rfl) (by rfl)
theorem ks_51 : Cond.selects "LatticeKeysModel" ⟨"LatticeKeysModel", "four", "(I)V"⟩ ⟨"LatticeKeysModel", "four", "(I)V"⟩ ∈ WG := wgs 51 (by rfl) (by rfl)
theorem ks_52 : Cond.selects "LatticeKeysModel$Sponge" ⟨"LatticeKeysModel$Sponge", "add", "(II)V"⟩ ⟨"LatticeKeysModel$Sponge", "add", "(II)V"⟩ ∈ WG := wgs 52 (by rfl) (by rfl)
theorem ks_53 : Cond.selects "LatticeKeysModel$Sponge" ⟨"LatticeKeysModel$Sponge", "mix", "()V"⟩ ⟨"LatticeKeysModel$Sponge", "mix", "()V"⟩ ∈ WG := wgs 53 (by rfl) (by rfl)
theorem ks_54 : Cond.selects "LatticeKeysModel$Secrets" ⟨"LatticeKeysModel$Secrets", "expand", "([BII)V"⟩ ⟨"LatticeKeysModel$Secrets", "expand", "([BII)V"⟩ ∈ WG := wgs 54 (by rfl) (by rfl)
theorem ks_55 : Cond.selects "LatticeKeysModel$Secrets" ⟨"LatticeKeysModel$Secrets", "draw", "([I)V"⟩ ⟨"LatticeKeysModel$Secrets", "draw", "([I)V"⟩ ∈ WG := wgs 55 (by rfl) (by rfl)
theorem ks_56 : Cond.selects "LatticeKeysModel$Secrets" ⟨"LatticeKeysModel$Secrets", "noise", "([I[BIII)V"⟩ ⟨"LatticeKeysModel$Secrets", "noise", "([I[BIII)V"⟩ ∈ WG := wgs 56 (by rfl) (by rfl)
theorem ks_57 : Cond.selects "LatticeKeysModel$Secrets" ⟨"LatticeKeysModel$Secrets", "forth", "([I)V"⟩ ⟨"LatticeKeysModel$Secrets", "forth", "([I)V"⟩ ∈ WG := wgs 57 (by rfl) (by rfl)
theorem ks_58 : Cond.selects "LatticeKeysModel$Secrets" ⟨"LatticeKeysModel$Secrets", "product", "([I[I[I)V"⟩ ⟨"LatticeKeysModel$Secrets", "product", "([I[I[I)V"⟩ ∈ WG := wgs 58 (by rfl) (by rfl)
theorem ks_59 : Cond.selects "LatticeKeysModel$Secrets" ⟨"LatticeKeysModel$Secrets", "hash", "([BII[BI)V"⟩ ⟨"LatticeKeysModel$Secrets", "hash", "([BII[BI)V"⟩ ∈ WG := wgs 59 (by rfl) (by rfl)
theorem ks_60 : Cond.selects "LatticeKeysModel$Hands" ⟨"LatticeKeysModel$Hands", "as", "(I)V"⟩ ⟨"LatticeKeysModel$Hands", "as", "(I)V"⟩ ∈ WG := wgs 60 (by rfl) (by rfl)
theorem ks_61 : Cond.selects "LatticeKeysModel$Hands" ⟨"LatticeKeysModel$Hands", "expand", "([B)V"⟩ ⟨"LatticeKeysModel$Hands", "expand", "([B)V"⟩ ∈ WG := wgs 61 (by rfl) (by rfl)
theorem ks_62 : Cond.selects "LatticeKeysModel$Hands" ⟨"LatticeKeysModel$Hands", "small", "([I[BII)V"⟩ ⟨"LatticeKeysModel$Hands", "small", "([I[BII)V"⟩ ∈ WG := wgs 62 (by rfl) (by rfl)
theorem ks_63 : Cond.selects "LatticeKeysModel$Hands" ⟨"LatticeKeysModel$Hands", "rowBy", "(I[I)V"⟩ ⟨"LatticeKeysModel$Hands", "rowBy", "(I[I)V"⟩ ∈ WG := wgs 63 (by rfl) (by rfl)
theorem ks_64 : Cond.selects "LatticeKeysModel" ⟨"LatticeKeysModel", "made", "(II)I"⟩ ⟨"LatticeKeysModel", "made", "(II)I"⟩ ∈ WG := wgs 64 (by rfl) (by rfl)
theorem ks_65 : Cond.selects "LatticeKeysModel" ⟨"LatticeKeysModel", "none", "(I)Z"⟩ ⟨"LatticeKeysModel", "none", "(I)Z"⟩ ∈ WG := wgs 65 (by rfl) (by rfl)
theorem ks_66 : Cond.selects "LatticeKeysModel" ⟨"LatticeKeysModel", "size", "(IZ)I"⟩ ⟨"LatticeKeysModel", "size", "(IZ)I"⟩ ∈ WG := wgs 66 (by rfl) (by rfl)
theorem ks_67 : Cond.selects "LatticeKeysModel$Secrets" ⟨"LatticeKeysModel$Secrets", "both", "([B)V"⟩ ⟨"LatticeKeysModel$Secrets", "both", "([B)V"⟩ ∈ WG := wgs 67 (by rfl) (by rfl)
theorem ks_68 : Cond.selects "LatticeKeysModel$Secrets" ⟨"LatticeKeysModel$Secrets", "encrypt", "(I[BI[B[B)V"⟩ ⟨"LatticeKeysModel$Secrets", "encrypt", "(I[BI[B[B)V"⟩ ∈ WG := wgs 68 (by rfl) (by rfl)
theorem ks_69 : Cond.selects "LatticeKeysModel$Secrets" ⟨"LatticeKeysModel$Secrets", "back", "([I)V"⟩ ⟨"LatticeKeysModel$Secrets", "back", "([I)V"⟩ ∈ WG := wgs 69 (by rfl) (by rfl)
theorem ks_70 : Cond.selects "LatticeKeysModel$Hands" ⟨"LatticeKeysModel$Hands", "readHidden", "([B)V"⟩ ⟨"LatticeKeysModel$Hands", "readHidden", "([B)V"⟩ ∈ WG := wgs 70 (by rfl) (by rfl)
theorem ks_71 : Cond.selects "LatticeKeysModel$Hands" ⟨"LatticeKeysModel$Hands", "message", "([BI[BIII)V"⟩ ⟨"LatticeKeysModel$Hands", "message", "([BI[BIII)V"⟩ ∈ WG := wgs 71 (by rfl) (by rfl)
theorem ks_72 : Cond.selects "LatticeKeysModel$Hands" ⟨"LatticeKeysModel$Hands", "mask", "(I)V"⟩ ⟨"LatticeKeysModel$Hands", "mask", "(I)V"⟩ ∈ WG := wgs 72 (by rfl) (by rfl)
theorem ks_73 : Cond.selects "LatticeKeysModel$Hands" ⟨"LatticeKeysModel$Hands", "marked", "(Z[B)V"⟩ ⟨"LatticeKeysModel$Hands", "marked", "(Z[B)V"⟩ ∈ WG := wgs 73 (by rfl) (by rfl)
theorem ks_74 : Cond.selects "LatticeKeysModel$Hands" ⟨"LatticeKeysModel$Hands", "used", "(II)I"⟩ ⟨"LatticeKeysModel$Hands", "used", "(II)I"⟩ ∈ WG := wgs 74 (by rfl) (by rfl)
theorem ks_75 : Cond.selects "LatticeKeysModel$Hands" ⟨"LatticeKeysModel$Hands", "high", "(I)I"⟩ ⟨"LatticeKeysModel$Hands", "high", "(I)I"⟩ ∈ WG := wgs 75 (by rfl) (by rfl)
theorem ks_76 : Cond.selects "LatticeKeysModel$Hands" ⟨"LatticeKeysModel$Hands", "low", "(I)I"⟩ ⟨"LatticeKeysModel$Hands", "low", "(I)I"⟩ ∈ WG := wgs 76 (by rfl) (by rfl)
theorem ks_77 : Cond.selects "LatticeKeysModel$Hands" ⟨"LatticeKeysModel$Hands", "ball", "([B)V"⟩ ⟨"LatticeKeysModel$Hands", "ball", "([B)V"⟩ ∈ WG := wgs 77 (by rfl) (by rfl)
theorem ks_78 : Cond.selects "LatticeKeysModel$Hands" ⟨"LatticeKeysModel$Hands", "fits", "()Z"⟩ ⟨"LatticeKeysModel$Hands", "fits", "()Z"⟩ ∈ WG := wgs 78 (by rfl) (by rfl)
theorem ks_79 : Cond.selects "LatticeKeysModel$Hands" ⟨"LatticeKeysModel$Hands", "turned", "([I[I)V"⟩ ⟨"LatticeKeysModel$Hands", "turned", "([I[I)V"⟩ ∈ WG := wgs 79 (by rfl) (by rfl)
theorem ks_80 : Cond.selects "LatticeKeysModel$Hands" ⟨"LatticeKeysModel$Hands", "written", "([B)V"⟩ ⟨"LatticeKeysModel$Hands", "written", "([B)V"⟩ ∈ WG := wgs 80 (by rfl) (by rfl)
theorem ks_81 : Cond.selects "LatticeKeysModel$Hands" ⟨"LatticeKeysModel$Hands", "readHints", "([BI)Z"⟩ ⟨"LatticeKeysModel$Hands", "readHints", "([BI)Z"⟩ ∈ WG := wgs 81 (by rfl) (by rfl)
