set_option linter.all false
def T_K : u_T := fun k => match k with
  | 0 => ("LatticeKeys", "tape", "[B", true)
  | 1 => ("LatticeKeys", "tapeLength", "I", false)
  | 2 => ("LatticeKeys", "answer", "[B", true)
  | 3 => ("LatticeKeys", "answerLength", "I", false)
  | 4 => ("LatticeKeys", "pairs", "[LLatticeKeys$KeyPair;", true)
  | 5 => ("LatticeKeys", "pairCount", "I", false)
  | 6 => ("LatticeKeys", "kemSets", "[LLatticeKeys$KemSet;", true)
  | 7 => ("LatticeKeys", "dsaSets", "[LLatticeKeys$DsaSet;", true)
  | 8 => ("LatticeKeys", "sponge", "LLatticeKeys$Sponge;", true)
  | 9 => ("LatticeKeys", "kem", "LLatticeKeys$Kem;", true)
  | _ => ("LatticeKeys", "dsa", "LLatticeKeys$Dsa;", true)
def ty_K : Nat → FieldType := fun k => match k with
  | 0 => .array .byte
  | 1 => .int
  | 2 => .array .byte
  | 3 => .int
  | 4 => .array (.object "LatticeKeys$KeyPair")
  | 5 => .int
  | 6 => .array (.object "LatticeKeys$KemSet")
  | 7 => .array (.object "LatticeKeys$DsaSet")
  | 8 => .object "LatticeKeys$Sponge"
  | 9 => .object "LatticeKeys$Kem"
  | _ => .object "LatticeKeys$Dsa"
theorem n_K : ∀ a, a < 11 → ∀ b, b < 11 → a ≠ b → (T_K a).2.1 ≠ (T_K b).2.1 := by decide +kernel
theorem k_K : ∀ k, k < 11 → parseFieldDescriptor (T_K k).2.2.1 = some (ty_K k) := by decide +kernel
theorem z_K : ∀ j, j < 11 → defaultValue (ty_K j) = vp_V [.null, .int 0, .null, .int 0, .null, .int 0, .null, .null, .null, .null, .null] j := by decide +kernel
theorem i_K : ∀ w ∈ u_ws "LatticeKeys" T_K 11, w ∈ WG := wg_f (fun k hk => by match k, hk with | 0, _ => exact kw_385 | 1, _ => exact kw_387 | 2, _ => exact kw_389 | 3, _ => exact kw_391 | 4, _ => exact kw_393 | 5, _ => exact kw_395 | 6, _ => exact kw_397 | 7, _ => exact kw_399 | 8, _ => exact kw_401 | 9, _ => exact kw_403 | 10, _ => exact kw_405 | n + 11, hk => exact absurd hk (by omega))
def T_KS : u_T := fun k => match k with
  | 0 => ("LatticeKeys$KemSet", "rank", "I", true)
  | 1 => ("LatticeKeys$KemSet", "secretNoise", "I", true)
  | 2 => ("LatticeKeys$KemSet", "vectorBits", "I", true)
  | 3 => ("LatticeKeys$KemSet", "valueBits", "I", true)
  | 4 => ("LatticeKeys$KemSet", "publicLength", "I", true)
  | 5 => ("LatticeKeys$KemSet", "secretLength", "I", true)
  | 6 => ("LatticeKeys$KemSet", "cipherLength", "I", true)
  | 7 => ("LatticeKeys$KemSet", "publicPlace", "I", true)
  | 8 => ("LatticeKeys$KemSet", "hashPlace", "I", true)
  | _ => ("LatticeKeys$KemSet", "refusalPlace", "I", true)
def ty_KS : Nat → FieldType := fun k => match k with
  | 0 => .int
  | 1 => .int
  | 2 => .int
  | 3 => .int
  | 4 => .int
  | 5 => .int
  | 6 => .int
  | 7 => .int
  | 8 => .int
  | _ => .int
theorem n_KS : ∀ a, a < 10 → ∀ b, b < 10 → a ≠ b → (T_KS a).2.1 ≠ (T_KS b).2.1 := by decide +kernel
theorem k_KS : ∀ k, k < 10 → parseFieldDescriptor (T_KS k).2.2.1 = some (ty_KS k) := by decide +kernel
theorem z_KS : ∀ j, j < 10 → defaultValue (ty_KS j) = vp_V [.int 0, .int 0, .int 0, .int 0, .int 0, .int 0, .int 0, .int 0, .int 0, .int 0] j := by decide +kernel
theorem i_KS : ∀ w ∈ u_ws "LatticeKeys$KemSet" T_KS 10, w ∈ WG := wg_f (fun k hk => by match k, hk with | 0, _ => exact kw_253 | 1, _ => exact kw_255 | 2, _ => exact kw_257 | 3, _ => exact kw_259 | 4, _ => exact kw_261 | 5, _ => exact kw_263 | 6, _ => exact kw_265 | 7, _ => exact kw_267 | 8, _ => exact kw_269 | 9, _ => exact kw_271 | n + 10, hk => exact absurd hk (by omega))
def T_DS : u_T := fun k => match k with
  | 0 => ("LatticeKeys$DsaSet", "rows", "I", true)
  | 1 => ("LatticeKeys$DsaSet", "columns", "I", true)
  | 2 => ("LatticeKeys$DsaSet", "noise", "I", true)
  | 3 => ("LatticeKeys$DsaSet", "noiseBits", "I", true)
  | 4 => ("LatticeKeys$DsaSet", "ones", "I", true)
  | 5 => ("LatticeKeys$DsaSet", "challengeLength", "I", true)
  | 6 => ("LatticeKeys$DsaSet", "maskBits", "I", true)
  | 7 => ("LatticeKeys$DsaSet", "maskTop", "I", true)
  | 8 => ("LatticeKeys$DsaSet", "steps", "I", true)
  | 9 => ("LatticeKeys$DsaSet", "stepBits", "I", true)
  | 10 => ("LatticeKeys$DsaSet", "halfStep", "I", true)
  | 11 => ("LatticeKeys$DsaSet", "mostHints", "I", true)
  | 12 => ("LatticeKeys$DsaSet", "slack", "I", true)
  | 13 => ("LatticeKeys$DsaSet", "publicLength", "I", true)
  | 14 => ("LatticeKeys$DsaSet", "secretLength", "I", true)
  | 15 => ("LatticeKeys$DsaSet", "hintPlace", "I", true)
  | _ => ("LatticeKeys$DsaSet", "signatureLength", "I", true)
def ty_DS : Nat → FieldType := fun k => match k with
  | 0 => .int
  | 1 => .int
  | 2 => .int
  | 3 => .int
  | 4 => .int
  | 5 => .int
  | 6 => .int
  | 7 => .int
  | 8 => .int
  | 9 => .int
  | 10 => .int
  | 11 => .int
  | 12 => .int
  | 13 => .int
  | 14 => .int
  | 15 => .int
  | _ => .int
theorem n_DS : ∀ a, a < 17 → ∀ b, b < 17 → a ≠ b → (T_DS a).2.1 ≠ (T_DS b).2.1 := by decide +kernel
theorem k_DS : ∀ k, k < 17 → parseFieldDescriptor (T_DS k).2.2.1 = some (ty_DS k) := by decide +kernel
theorem z_DS : ∀ j, j < 17 → defaultValue (ty_DS j) = vp_V [.int 0, .int 0, .int 0, .int 0, .int 0, .int 0, .int 0, .int 0, .int 0, .int 0, .int 0, .int 0, .int 0, .int 0, .int 0, .int 0, .int 0] j := by decide +kernel
theorem i_DS : ∀ w ∈ u_ws "LatticeKeys$DsaSet" T_DS 17, w ∈ WG := wg_f (fun k hk => by match k, hk with | 0, _ => exact kw_339 | 1, _ => exact kw_341 | 2, _ => exact kw_343 | 3, _ => exact kw_345 | 4, _ => exact kw_347 | 5, _ => exact kw_349 | 6, _ => exact kw_351 | 7, _ => exact kw_353 | 8, _ => exact kw_355 | 9, _ => exact kw_357 | 10, _ => exact kw_359 | 11, _ => exact kw_361 | 12, _ => exact kw_363 | 13, _ => exact kw_365 | 14, _ => exact kw_367 | 15, _ => exact kw_369 | 16, _ => exact kw_371 | n + 17, hk => exact absurd hk (by omega))
def T_SP : u_T := fun k => match k with
  | 0 => ("LatticeKeys$Sponge", "lanes", "[J", true)
  | 1 => ("LatticeKeys$Sponge", "rate", "I", false)
  | 2 => ("LatticeKeys$Sponge", "suffix", "I", false)
  | _ => ("LatticeKeys$Sponge", "position", "I", false)
def ty_SP : Nat → FieldType := fun k => match k with
  | 0 => .array .long
  | 1 => .int
  | 2 => .int
  | _ => .int
theorem n_SP : ∀ a, a < 4 → ∀ b, b < 4 → a ≠ b → (T_SP a).2.1 ≠ (T_SP b).2.1 := by decide +kernel
theorem k_SP : ∀ k, k < 4 → parseFieldDescriptor (T_SP k).2.2.1 = some (ty_SP k) := by decide +kernel
theorem z_SP : ∀ j, j < 4 → defaultValue (ty_SP j) = vp_V [.null, .int 0, .int 0, .int 0] j := by decide +kernel
theorem i_SP : ∀ w ∈ u_ws "LatticeKeys$Sponge" T_SP 4, w ∈ WG := wg_f (fun k hk => by match k, hk with | 0, _ => exact kw_63 | 1, _ => exact kw_65 | 2, _ => exact kw_67 | 3, _ => exact kw_69 | n + 4, hk => exact absurd hk (by omega))
def T_RG : u_T := fun k => match k with
  | 0 => ("LatticeKeys$Ring", "modulus", "I", true)
  | 1 => ("LatticeKeys$Ring", "layers", "I", true)
  | 2 => ("LatticeKeys$Ring", "scale", "I", true)
  | _ => ("LatticeKeys$Ring", "roots", "[I", true)
def ty_RG : Nat → FieldType := fun k => match k with
  | 0 => .int
  | 1 => .int
  | 2 => .int
  | _ => .array .int
theorem n_RG : ∀ a, a < 4 → ∀ b, b < 4 → a ≠ b → (T_RG a).2.1 ≠ (T_RG b).2.1 := by decide +kernel
theorem k_RG : ∀ k, k < 4 → parseFieldDescriptor (T_RG k).2.2.1 = some (ty_RG k) := by decide +kernel
theorem z_RG : ∀ j, j < 4 → defaultValue (ty_RG j) = vp_V [.int 0, .int 0, .int 0, .null] j := by decide +kernel
theorem i_RG : ∀ w ∈ u_ws "LatticeKeys$Ring" T_RG 4, w ∈ WG := wg_f (fun k hk => by match k, hk with | 0, _ => exact kw_95 | 1, _ => exact kw_97 | 2, _ => exact kw_99 | 3, _ => exact kw_101 | n + 4, hk => exact absurd hk (by omega))
def T_KM : u_T := fun k => match k with
  | 0 => ("LatticeKeys$Kem", "sponge", "LLatticeKeys$Sponge;", true)
  | 1 => ("LatticeKeys$Kem", "ring", "LLatticeKeys$Ring;", true)
  | 2 => ("LatticeKeys$Kem", "secret", "[[I", true)
  | 3 => ("LatticeKeys$Kem", "sum", "[I", true)
  | 4 => ("LatticeKeys$Kem", "other", "[I", true)
  | 5 => ("LatticeKeys$Kem", "message", "[B", true)
  | 6 => ("LatticeKeys$Kem", "digest", "[B", true)
  | 7 => ("LatticeKeys$Kem", "seeds", "[B", true)
  | 8 => ("LatticeKeys$Kem", "noise", "[B", true)
  | _ => ("LatticeKeys$Kem", "cipherAgain", "[B", true)
def ty_KM : Nat → FieldType := fun k => match k with
  | 0 => .object "LatticeKeys$Sponge"
  | 1 => .object "LatticeKeys$Ring"
  | 2 => .array (.array .int)
  | 3 => .array .int
  | 4 => .array .int
  | 5 => .array .byte
  | 6 => .array .byte
  | 7 => .array .byte
  | 8 => .array .byte
  | _ => .array .byte
theorem n_KM : ∀ a, a < 10 → ∀ b, b < 10 → a ≠ b → (T_KM a).2.1 ≠ (T_KM b).2.1 := by decide +kernel
theorem k_KM : ∀ k, k < 10 → parseFieldDescriptor (T_KM k).2.2.1 = some (ty_KM k) := by decide +kernel
theorem z_KM : ∀ j, j < 10 → defaultValue (ty_KM j) = vp_V [.null, .null, .null, .null, .null, .null, .null, .null, .null, .null] j := by decide +kernel
theorem i_KM : ∀ w ∈ u_ws "LatticeKeys$Kem" T_KM 10, w ∈ WG := wg_f (fun k hk => by match k, hk with | 0, _ => exact kw_117 | 1, _ => exact kw_119 | 2, _ => exact kw_121 | 3, _ => exact kw_123 | 4, _ => exact kw_125 | 5, _ => exact kw_127 | 6, _ => exact kw_129 | 7, _ => exact kw_131 | 8, _ => exact kw_133 | 9, _ => exact kw_135 | n + 10, hk => exact absurd hk (by omega))
def T_DA : u_T := fun k => match k with
  | 0 => ("LatticeKeys$Dsa", "sponge", "LLatticeKeys$Sponge;", true)
  | 1 => ("LatticeKeys$Dsa", "ring", "LLatticeKeys$Ring;", true)
  | 2 => ("LatticeKeys$Dsa", "sampler", "LLatticeKeys$DsaSampler;", true)
  | 3 => ("LatticeKeys$Dsa", "matrix", "[[I", true)
  | 4 => ("LatticeKeys$Dsa", "secret", "[[I", true)
  | 5 => ("LatticeKeys$Dsa", "error", "[[I", true)
  | 6 => ("LatticeKeys$Dsa", "lowPart", "[[I", true)
  | 7 => ("LatticeKeys$Dsa", "mask", "[[I", true)
  | 8 => ("LatticeKeys$Dsa", "product", "[[I", true)
  | 9 => ("LatticeKeys$Dsa", "ball", "[I", true)
  | 10 => ("LatticeKeys$Dsa", "work", "[I", true)
  | 11 => ("LatticeKeys$Dsa", "seeds", "[B", true)
  | 12 => ("LatticeKeys$Dsa", "digest", "[B", true)
  | 13 => ("LatticeKeys$Dsa", "challenge", "[B", true)
  | 14 => ("LatticeKeys$Dsa", "challengeAgain", "[B", true)
  | 15 => ("LatticeKeys$Dsa", "hints", "[B", true)
  | _ => ("LatticeKeys$Dsa", "packed", "[B", true)
def ty_DA : Nat → FieldType := fun k => match k with
  | 0 => .object "LatticeKeys$Sponge"
  | 1 => .object "LatticeKeys$Ring"
  | 2 => .object "LatticeKeys$DsaSampler"
  | 3 => .array (.array .int)
  | 4 => .array (.array .int)
  | 5 => .array (.array .int)
  | 6 => .array (.array .int)
  | 7 => .array (.array .int)
  | 8 => .array (.array .int)
  | 9 => .array .int
  | 10 => .array .int
  | 11 => .array .byte
  | 12 => .array .byte
  | 13 => .array .byte
  | 14 => .array .byte
  | 15 => .array .byte
  | _ => .array .byte
theorem n_DA : ∀ a, a < 17 → ∀ b, b < 17 → a ≠ b → (T_DA a).2.1 ≠ (T_DA b).2.1 := by decide +kernel
theorem k_DA : ∀ k, k < 17 → parseFieldDescriptor (T_DA k).2.2.1 = some (ty_DA k) := by decide +kernel
theorem z_DA : ∀ j, j < 17 → defaultValue (ty_DA j) = vp_V [.null, .null, .null, .null, .null, .null, .null, .null, .null, .null, .null, .null, .null, .null, .null, .null, .null] j := by decide +kernel
theorem i_DA : ∀ w ∈ u_ws "LatticeKeys$Dsa" T_DA 17, w ∈ WG := wg_f (fun k hk => by match k, hk with | 0, _ => exact kw_182 | 1, _ => exact kw_184 | 2, _ => exact kw_186 | 3, _ => exact kw_188 | 4, _ => exact kw_190 | 5, _ => exact kw_192 | 6, _ => exact kw_194 | 7, _ => exact kw_196 | 8, _ => exact kw_198 | 9, _ => exact kw_200 | 10, _ => exact kw_202 | 11, _ => exact kw_204 | 12, _ => exact kw_206 | 13, _ => exact kw_208 | 14, _ => exact kw_210 | 15, _ => exact kw_212 | 16, _ => exact kw_214 | n + 17, hk => exact absurd hk (by omega))
def T_SA : u_T := fun k => match k with
  | 0 => ("LatticeKeys$DsaSampler", "sponge", "LLatticeKeys$Sponge;", true)
  | _ => ("LatticeKeys$DsaSampler", "packed", "[B", true)
def ty_SA : Nat → FieldType := fun k => match k with
  | 0 => .object "LatticeKeys$Sponge"
  | _ => .array .byte
theorem n_SA : ∀ a, a < 2 → ∀ b, b < 2 → a ≠ b → (T_SA a).2.1 ≠ (T_SA b).2.1 := by decide +kernel
theorem k_SA : ∀ k, k < 2 → parseFieldDescriptor (T_SA k).2.2.1 = some (ty_SA k) := by decide +kernel
theorem z_SA : ∀ j, j < 2 → defaultValue (ty_SA j) = vp_V [.null, .null] j := by decide +kernel
theorem i_SA : ∀ w ∈ u_ws "LatticeKeys$DsaSampler" T_SA 2, w ∈ WG := wg_f (fun k hk => by match k, hk with | 0, _ => exact kw_159 | 1, _ => exact kw_161 | n + 2, hk => exact absurd hk (by omega))
def T_M : u_T := fun k => match k with
  | 0 => ("LatticeKeysModel", "thrown", "I", false)
  | 1 => ("LatticeKeysModel", "taped", "I", false)
  | 2 => ("LatticeKeysModel", "results", "I", false)
  | 3 => ("LatticeKeysModel", "keys", "I", false)
  | 4 => ("LatticeKeysModel", "tape", "[B", true)
  | 5 => ("LatticeKeysModel", "result", "[B", true)
  | 6 => ("LatticeKeysModel", "mark", "[B", true)
  | 7 => ("LatticeKeysModel", "open", "[[B", true)
  | 8 => ("LatticeKeysModel", "hidden", "[[B", true)
  | 9 => ("LatticeKeysModel", "sets", "[I", true)
  | 10 => ("LatticeKeysModel", "hiddenSizes", "[I", true)
  | 11 => ("LatticeKeysModel", "sponge", "LLatticeKeysModel$Sponge;", true)
  | 12 => ("LatticeKeysModel", "secrets", "LLatticeKeysModel$Secrets;", true)
  | _ => ("LatticeKeysModel", "hands", "LLatticeKeysModel$Hands;", true)
def ty_M : Nat → FieldType := fun k => match k with
  | 0 => .int
  | 1 => .int
  | 2 => .int
  | 3 => .int
  | 4 => .array .byte
  | 5 => .array .byte
  | 6 => .array .byte
  | 7 => .array (.array .byte)
  | 8 => .array (.array .byte)
  | 9 => .array .int
  | 10 => .array .int
  | 11 => .object "LatticeKeysModel$Sponge"
  | 12 => .object "LatticeKeysModel$Secrets"
  | _ => .object "LatticeKeysModel$Hands"
theorem n_M : ∀ a, a < 14 → ∀ b, b < 14 → a ≠ b → (T_M a).2.1 ≠ (T_M b).2.1 := by decide +kernel
theorem k_M : ∀ k, k < 14 → parseFieldDescriptor (T_M k).2.2.1 = some (ty_M k) := by decide +kernel
theorem z_M : ∀ j, j < 14 → defaultValue (ty_M j) = vp_V [.int 0, .int 0, .int 0, .int 0, .null, .null, .null, .null, .null, .null, .null, .null, .null, .null] j := by decide +kernel
theorem i_M : ∀ w ∈ u_ws "LatticeKeysModel" T_M 14, w ∈ WG := wg_f (fun k hk => by match k, hk with | 0, _ => exact kw_1540 | 1, _ => exact kw_1542 | 2, _ => exact kw_1544 | 3, _ => exact kw_1546 | 4, _ => exact kw_1548 | 5, _ => exact kw_1550 | 6, _ => exact kw_1552 | 7, _ => exact kw_1554 | 8, _ => exact kw_1556 | 9, _ => exact kw_1558 | 10, _ => exact kw_1560 | 11, _ => exact kw_1562 | 12, _ => exact kw_1564 | 13, _ => exact kw_1566 | n + 14, hk => exact absurd hk (by omega))
def T_MS : u_T := fun k => match k with
  | 0 => ("LatticeKeysModel$Sponge", "s", "[J", true)
  | 1 => ("LatticeKeysModel$Sponge", "t", "[J", true)
  | 2 => ("LatticeKeysModel$Sponge", "column", "[J", true)
  | 3 => ("LatticeKeysModel$Sponge", "rounds", "[J", true)
  | 4 => ("LatticeKeysModel$Sponge", "turn", "[I", true)
  | 5 => ("LatticeKeysModel$Sponge", "rate", "I", false)
  | 6 => ("LatticeKeysModel$Sponge", "at", "I", false)
  | _ => ("LatticeKeysModel$Sponge", "suffix", "I", false)
def ty_MS : Nat → FieldType := fun k => match k with
  | 0 => .array .long
  | 1 => .array .long
  | 2 => .array .long
  | 3 => .array .long
  | 4 => .array .int
  | 5 => .int
  | 6 => .int
  | _ => .int
theorem n_MS : ∀ a, a < 8 → ∀ b, b < 8 → a ≠ b → (T_MS a).2.1 ≠ (T_MS b).2.1 := by decide +kernel
theorem k_MS : ∀ k, k < 8 → parseFieldDescriptor (T_MS k).2.2.1 = some (ty_MS k) := by decide +kernel
theorem z_MS : ∀ j, j < 8 → defaultValue (ty_MS j) = vp_V [.null, .null, .null, .null, .null, .int 0, .int 0, .int 0] j := by decide +kernel
theorem i_MS : ∀ w ∈ u_ws "LatticeKeysModel$Sponge" T_MS 8, w ∈ WG := wg_f (fun k hk => by match k, hk with | 0, _ => exact kw_1333 | 1, _ => exact kw_1335 | 2, _ => exact kw_1337 | 3, _ => exact kw_1339 | 4, _ => exact kw_1341 | 5, _ => exact kw_1343 | 6, _ => exact kw_1345 | 7, _ => exact kw_1347 | n + 8, hk => exact absurd hk (by omega))
def T_MR : u_T := fun k => match k with
  | 0 => ("LatticeKeysModel$Ring", "q", "I", true)
  | 1 => ("LatticeKeysModel$Ring", "n", "I", true)
  | 2 => ("LatticeKeysModel$Ring", "power", "[J", true)
  | 3 => ("LatticeKeysModel$Ring", "root", "[I", true)
  | _ => ("LatticeKeysModel$Ring", "inverse", "J", false)
def ty_MR : Nat → FieldType := fun k => match k with
  | 0 => .int
  | 1 => .int
  | 2 => .array .long
  | 3 => .array .int
  | _ => .long
theorem n_MR : ∀ a, a < 5 → ∀ b, b < 5 → a ≠ b → (T_MR a).2.1 ≠ (T_MR b).2.1 := by decide +kernel
theorem k_MR : ∀ k, k < 5 → parseFieldDescriptor (T_MR k).2.2.1 = some (ty_MR k) := by decide +kernel
theorem z_MR : ∀ j, j < 5 → defaultValue (ty_MR j) = vp_V [.int 0, .int 0, .null, .null, .long 0] j := by decide +kernel
theorem i_MR : ∀ w ∈ u_ws "LatticeKeysModel$Ring" T_MR 5, w ∈ WG := wg_f (fun k hk => by match k, hk with | 0, _ => exact kw_1367 | 1, _ => exact kw_1369 | 2, _ => exact kw_1371 | 3, _ => exact kw_1373 | 4, _ => exact kw_1375 | n + 5, hk => exact absurd hk (by omega))
def T_ME : u_T := fun k => match k with
  | 0 => ("LatticeKeysModel$Secrets", "sponge", "LLatticeKeysModel$Sponge;", true)
  | 1 => ("LatticeKeysModel$Secrets", "ring", "LLatticeKeysModel$Ring;", true)
  | 2 => ("LatticeKeysModel$Secrets", "matrix", "[[I", true)
  | 3 => ("LatticeKeysModel$Secrets", "s", "[[I", true)
  | 4 => ("LatticeKeysModel$Secrets", "e", "[[I", true)
  | 5 => ("LatticeKeysModel$Secrets", "open", "[[I", true)
  | 6 => ("LatticeKeysModel$Secrets", "sum", "[I", true)
  | 7 => ("LatticeKeysModel$Secrets", "plain", "[I", true)
  | 8 => ("LatticeKeysModel$Secrets", "other", "[I", true)
  | 9 => ("LatticeKeysModel$Secrets", "two", "[B", true)
  | 10 => ("LatticeKeysModel$Secrets", "chance", "[B", true)
  | 11 => ("LatticeKeysModel$Secrets", "hash", "[B", true)
  | 12 => ("LatticeKeysModel$Secrets", "guess", "[B", true)
  | _ => ("LatticeKeysModel$Secrets", "again", "[B", true)
def ty_ME : Nat → FieldType := fun k => match k with
  | 0 => .object "LatticeKeysModel$Sponge"
  | 1 => .object "LatticeKeysModel$Ring"
  | 2 => .array (.array .int)
  | 3 => .array (.array .int)
  | 4 => .array (.array .int)
  | 5 => .array (.array .int)
  | 6 => .array .int
  | 7 => .array .int
  | 8 => .array .int
  | 9 => .array .byte
  | 10 => .array .byte
  | 11 => .array .byte
  | 12 => .array .byte
  | _ => .array .byte
theorem n_ME : ∀ a, a < 14 → ∀ b, b < 14 → a ≠ b → (T_ME a).2.1 ≠ (T_ME b).2.1 := by decide +kernel
theorem k_ME : ∀ k, k < 14 → parseFieldDescriptor (T_ME k).2.2.1 = some (ty_ME k) := by decide +kernel
theorem z_ME : ∀ j, j < 14 → defaultValue (ty_ME j) = vp_V [.null, .null, .null, .null, .null, .null, .null, .null, .null, .null, .null, .null, .null, .null] j := by decide +kernel
theorem i_ME : ∀ w ∈ u_ws "LatticeKeysModel$Secrets" T_ME 14, w ∈ WG := wg_f (fun k hk => by match k, hk with | 0, _ => exact kw_1393 | 1, _ => exact kw_1395 | 2, _ => exact kw_1397 | 3, _ => exact kw_1399 | 4, _ => exact kw_1401 | 5, _ => exact kw_1403 | 6, _ => exact kw_1405 | 7, _ => exact kw_1407 | 8, _ => exact kw_1409 | 9, _ => exact kw_1411 | 10, _ => exact kw_1413 | 11, _ => exact kw_1415 | 12, _ => exact kw_1417 | 13, _ => exact kw_1419 | n + 14, hk => exact absurd hk (by omega))
def T_MH : u_T := fun k => match k with
  | 0 => ("LatticeKeysModel$Hands", "sponge", "LLatticeKeysModel$Sponge;", true)
  | 1 => ("LatticeKeysModel$Hands", "ring", "LLatticeKeysModel$Ring;", true)
  | 2 => ("LatticeKeysModel$Hands", "matrix", "[[I", true)
  | 3 => ("LatticeKeysModel$Hands", "s1", "[[I", true)
  | 4 => ("LatticeKeysModel$Hands", "s2", "[[I", true)
  | 5 => ("LatticeKeysModel$Hands", "t0", "[[I", true)
  | 6 => ("LatticeKeysModel$Hands", "t1", "[[I", true)
  | 7 => ("LatticeKeysModel$Hands", "y", "[[I", true)
  | 8 => ("LatticeKeysModel$Hands", "z", "[[I", true)
  | 9 => ("LatticeKeysModel$Hands", "hat", "[[I", true)
  | 10 => ("LatticeKeysModel$Hands", "w", "[[I", true)
  | 11 => ("LatticeKeysModel$Hands", "hint", "[[I", true)
  | 12 => ("LatticeKeysModel$Hands", "c", "[I", true)
  | 13 => ("LatticeKeysModel$Hands", "product", "[I", true)
  | 14 => ("LatticeKeysModel$Hands", "second", "[I", true)
  | 15 => ("LatticeKeysModel$Hands", "sum", "[J", true)
  | 16 => ("LatticeKeysModel$Hands", "seed", "[B", true)
  | 17 => ("LatticeKeysModel$Hands", "mu", "[B", true)
  | 18 => ("LatticeKeysModel$Hands", "chance", "[B", true)
  | 19 => ("LatticeKeysModel$Hands", "row", "[B", true)
  | 20 => ("LatticeKeysModel$Hands", "mark", "[B", true)
  | 21 => ("LatticeKeysModel$Hands", "told", "[B", true)
  | 22 => ("LatticeKeysModel$Hands", "tr", "[B", true)
  | 23 => ("LatticeKeysModel$Hands", "set", "I", false)
  | 24 => ("LatticeKeysModel$Hands", "k", "I", false)
  | 25 => ("LatticeKeysModel$Hands", "l", "I", false)
  | 26 => ("LatticeKeysModel$Hands", "eta", "I", false)
  | 27 => ("LatticeKeysModel$Hands", "gamma1", "I", false)
  | 28 => ("LatticeKeysModel$Hands", "gamma2", "I", false)
  | 29 => ("LatticeKeysModel$Hands", "beta", "I", false)
  | _ => ("LatticeKeysModel$Hands", "marks", "I", false)
def ty_MH : Nat → FieldType := fun k => match k with
  | 0 => .object "LatticeKeysModel$Sponge"
  | 1 => .object "LatticeKeysModel$Ring"
  | 2 => .array (.array .int)
  | 3 => .array (.array .int)
  | 4 => .array (.array .int)
  | 5 => .array (.array .int)
  | 6 => .array (.array .int)
  | 7 => .array (.array .int)
  | 8 => .array (.array .int)
  | 9 => .array (.array .int)
  | 10 => .array (.array .int)
  | 11 => .array (.array .int)
  | 12 => .array .int
  | 13 => .array .int
  | 14 => .array .int
  | 15 => .array .long
  | 16 => .array .byte
  | 17 => .array .byte
  | 18 => .array .byte
  | 19 => .array .byte
  | 20 => .array .byte
  | 21 => .array .byte
  | 22 => .array .byte
  | 23 => .int
  | 24 => .int
  | 25 => .int
  | 26 => .int
  | 27 => .int
  | 28 => .int
  | 29 => .int
  | _ => .int
theorem n_MH : ∀ a, a < 31 → ∀ b, b < 31 → a ≠ b → (T_MH a).2.1 ≠ (T_MH b).2.1 := by decide +kernel
theorem k_MH : ∀ k, k < 31 → parseFieldDescriptor (T_MH k).2.2.1 = some (ty_MH k) := by decide +kernel
theorem z_MH : ∀ j, j < 31 → defaultValue (ty_MH j) = vp_V [.null, .null, .null, .null, .null, .null, .null, .null, .null, .null, .null, .null, .null, .null, .null, .null, .null, .null, .null, .null, .null, .null, .null, .int 0, .int 0, .int 0, .int 0, .int 0, .int 0, .int 0, .int 0] j := by decide +kernel
theorem i_MH : ∀ w ∈ u_ws "LatticeKeysModel$Hands" T_MH 31, w ∈ WG := wg_f (fun k hk => by match k, hk with | 0, _ => exact kw_1463 | 1, _ => exact kw_1465 | 2, _ => exact kw_1467 | 3, _ => exact kw_1469 | 4, _ => exact kw_1471 | 5, _ => exact kw_1473 | 6, _ => exact kw_1475 | 7, _ => exact kw_1477 | 8, _ => exact kw_1479 | 9, _ => exact kw_1481 | 10, _ => exact kw_1483 | 11, _ => exact kw_1485 | 12, _ => exact kw_1487 | 13, _ => exact kw_1489 | 14, _ => exact kw_1491 | 15, _ => exact kw_1493 | 16, _ => exact kw_1495 | 17, _ => exact kw_1497 | 18, _ => exact kw_1499 | 19, _ => exact kw_1501 | 20, _ => exact kw_1503 | 21, _ => exact kw_1505 | 22, _ => exact kw_1507 | 23, _ => exact kw_1509 | 24, _ => exact kw_1511 | 25, _ => exact kw_1513 | 26, _ => exact kw_1515 | 27, _ => exact kw_1517 | 28, _ => exact kw_1519 | 29, _ => exact kw_1521 | 30, _ => exact kw_1523 | n + 31, hk => exact absurd hk (by omega))
def T_KP : u_T := fun k => match k with
  | 0 => ("LatticeKeys$KeyPair", "set", "I", true)
  | 1 => ("LatticeKeys$KeyPair", "publicPart", "[B", true)
  | _ => ("LatticeKeys$KeyPair", "secretPart", "[B", true)
def ty_KP : Nat → FieldType := fun k => match k with
  | 0 => .int
  | 1 => .array .byte
  | _ => .array .byte
theorem n_KP : ∀ a, a < 3 → ∀ b, b < 3 → a ≠ b → (T_KP a).2.1 ≠ (T_KP b).2.1 := by decide +kernel
theorem k_KP : ∀ k, k < 3 → parseFieldDescriptor (T_KP k).2.2.1 = some (ty_KP k) := by decide +kernel
theorem z_KP : ∀ j, j < 3 → defaultValue (ty_KP j) = vp_V [.int 0, .null, .null] j := by decide +kernel
theorem i_KP : ∀ w ∈ u_ws "LatticeKeys$KeyPair" T_KP 3, w ∈ WG := wg_f (fun k hk => by match k, hk with | 0, _ => exact kw_753 | 1, _ => exact kw_755 | 2, _ => exact kw_757 | n + 3, hk => exact absurd hk (by omega))
abbrev vcl : List vw_C := [("LatticeKeys", T_K, 11), ("LatticeKeys$KemSet", T_KS, 10), ("LatticeKeys$DsaSet", T_DS, 17), ("LatticeKeys$Sponge", T_SP, 4), ("LatticeKeys$Ring", T_RG, 4), ("LatticeKeys$Kem", T_KM, 10), ("LatticeKeys$Dsa", T_DA, 17), ("LatticeKeys$DsaSampler", T_SA, 2), ("LatticeKeysModel", T_M, 14), ("LatticeKeysModel$Sponge", T_MS, 8), ("LatticeKeysModel$Ring", T_MR, 5), ("LatticeKeysModel$Secrets", T_ME, 14), ("LatticeKeysModel$Hands", T_MH, 31), ("LatticeKeys$KeyPair", T_KP, 3)]
abbrev Gd : Type := va_G × (Nat → ClassId) × (Nat → Nat)
def tyA (c : Nat → ClassId) : List (ClassId × FieldType) := [(c 0, .int), (c 1, .byte), (c 2, .long), (c 3, .object "LatticeKeys$KemSet"), (c 4, .object "LatticeKeys$DsaSet"), (c 5, .object "LatticeKeys$KeyPair"), (c 6, .array .int), (c 7, .array .byte)]
abbrev stT : Type := String × String × String × FieldType × Nat × (Nat → Value)
def st_0 : Nat → Value := fun j => .int (([136, 72, 168, 136] : List Int32).getD j 0)
def st_1 : Nat → Value := fun j => .int (([6, 6, 31, 31] : List Int32).getD j 0)
def st_2 : Nat → Value := fun j => .long (([1, 32898, -9223372036854742902, -9223372034707259392, 32907, 2147483649, -9223372034707259263, -9223372036854743031, 138, 136, 2147516425, 2147483658, 2147516555, -9223372036854775669, -9223372036854742903, -9223372036854743037, -9223372036854743038, -9223372036854775680, 32778, -9223372034707292150, -9223372034707259263, -9223372036854742912, 2147483649, -9223372034707259384] : List Int64).getD j 0)
def st_3 : Nat → Value := fun j => .int (([10, 7, 11, 17, 18, 3, 5, 16, 8, 21, 24, 4, 15, 23, 19, 13, 12, 2, 20, 14, 22, 9, 6, 1] : List Int32).getD j 0)
def st_4 : Nat → Value := fun j => .int (([1, 3, 6, 10, 15, 21, 28, 36, 45, 55, 2, 14, 27, 41, 56, 8, 25, 43, 62, 18, 39, 61, 20, 44] : List Int32).getD j 0)
def st_5 : Nat → Value := fun j => .int (([2, 3, 4] : List Int32).getD j 0)
def st_6 : Nat → Value := fun j => .int (([3, 2, 2] : List Int32).getD j 0)
def st_7 : Nat → Value := fun j => .int (([10, 10, 11] : List Int32).getD j 0)
def st_8 : Nat → Value := fun j => .int (([4, 4, 5] : List Int32).getD j 0)
def st_9 : Nat → Value := fun j => .int (([4, 6, 8] : List Int32).getD j 0)
def st_10 : Nat → Value := fun j => .int (([4, 5, 7] : List Int32).getD j 0)
def st_11 : Nat → Value := fun j => .int (([2, 4, 2] : List Int32).getD j 0)
def st_12 : Nat → Value := fun j => .int (([3, 4, 3] : List Int32).getD j 0)
def st_13 : Nat → Value := fun j => .int (([39, 49, 60] : List Int32).getD j 0)
def st_14 : Nat → Value := fun j => .int (([32, 48, 64] : List Int32).getD j 0)
def st_15 : Nat → Value := fun j => .int (([18, 20, 20] : List Int32).getD j 0)
def st_16 : Nat → Value := fun j => .int (([44, 16, 16] : List Int32).getD j 0)
def st_17 : Nat → Value := fun j => .int (([6, 4, 4] : List Int32).getD j 0)
def st_18 : Nat → Value := fun j => .int (([80, 55, 75] : List Int32).getD j 0)
def st_19 : Nat → Value := fun j => .int (([2, 3, 4] : List Int32).getD j 0)
def st_20 : Nat → Value := fun j => .int (([3, 2, 2] : List Int32).getD j 0)
def st_21 : Nat → Value := fun j => .int (([10, 10, 11] : List Int32).getD j 0)
def st_22 : Nat → Value := fun j => .int (([4, 4, 5] : List Int32).getD j 0)
def st_23 : Nat → Value := fun j => .int (([4, 6, 8] : List Int32).getD j 0)
def st_24 : Nat → Value := fun j => .int (([4, 5, 7] : List Int32).getD j 0)
def st_25 : Nat → Value := fun j => .int (([2, 4, 2] : List Int32).getD j 0)
def st_26 : Nat → Value := fun j => .int (([39, 49, 60] : List Int32).getD j 0)
def st_27 : Nat → Value := fun j => .int (([80, 55, 75] : List Int32).getD j 0)
def sts : List stT := [("LatticeKeys$Sponge", "RATES", "[I", .int, 4, st_0), ("LatticeKeys$Sponge", "SUFFIXES", "[I", .int, 4, st_1), ("LatticeKeys$Sponge", "ROUND_CONSTANTS", "[J", .long, 24, st_2), ("LatticeKeys$Sponge", "PLACES", "[I", .int, 24, st_3), ("LatticeKeys$Sponge", "TURNS", "[I", .int, 24, st_4), ("LatticeKeys$KemSet", "RANKS", "[I", .int, 3, st_5), ("LatticeKeys$KemSet", "SECRET_NOISES", "[I", .int, 3, st_6), ("LatticeKeys$KemSet", "VECTOR_BITS", "[I", .int, 3, st_7), ("LatticeKeys$KemSet", "VALUE_BITS", "[I", .int, 3, st_8), ("LatticeKeys$DsaSet", "ROWS", "[I", .int, 3, st_9), ("LatticeKeys$DsaSet", "COLUMNS", "[I", .int, 3, st_10), ("LatticeKeys$DsaSet", "NOISES", "[I", .int, 3, st_11), ("LatticeKeys$DsaSet", "NOISE_BITS", "[I", .int, 3, st_12), ("LatticeKeys$DsaSet", "ONES", "[I", .int, 3, st_13), ("LatticeKeys$DsaSet", "CHALLENGE_LENGTHS", "[I", .int, 3, st_14), ("LatticeKeys$DsaSet", "MASK_BITS", "[I", .int, 3, st_15), ("LatticeKeys$DsaSet", "STEPS", "[I", .int, 3, st_16), ("LatticeKeys$DsaSet", "STEP_BITS", "[I", .int, 3, st_17), ("LatticeKeys$DsaSet", "MOST_HINTS", "[I", .int, 3, st_18), ("LatticeKeysModel$Secrets", "K", "[I", .int, 3, st_19), ("LatticeKeysModel$Secrets", "ETA", "[I", .int, 3, st_20), ("LatticeKeysModel$Secrets", "DU", "[I", .int, 3, st_21), ("LatticeKeysModel$Secrets", "DV", "[I", .int, 3, st_22), ("LatticeKeysModel$Hands", "K", "[I", .int, 3, st_23), ("LatticeKeysModel$Hands", "L", "[I", .int, 3, st_24), ("LatticeKeysModel$Hands", "ETA", "[I", .int, 3, st_25), ("LatticeKeysModel$Hands", "TAU", "[I", .int, 3, st_26), ("LatticeKeysModel$Hands", "OMEGA", "[I", .int, 3, st_27)]
/-- the private methods of the nest that others call -/
def nst (U : State) : Prop := va_Nw (.methodLinkNest "LatticeKeysModel$Secrets" 101 ⟨"LatticeKeysModel", "unpack", "([BII)I"⟩ "LatticeKeysModel") U ∧ va_Nw (.methodLinkNest "LatticeKeysModel$Secrets" 120 ⟨"LatticeKeysModel", "pack", "([BIII)V"⟩ "LatticeKeysModel") U ∧ va_Nw (.methodLinkNest "LatticeKeysModel$Hands" 187 ⟨"LatticeKeysModel", "pack", "([BIII)V"⟩ "LatticeKeysModel") U ∧ va_Nw (.methodLinkNest "LatticeKeysModel$Hands" 197 ⟨"LatticeKeysModel", "unpack", "([BII)I"⟩ "LatticeKeysModel") U
theorem nst_w {u U : State} (hW : u.WarmedH U.vm) (h : nst u) : nst U := ⟨va_Nw.warmM hW h.1, va_Nw.warmM hW h.2.1, va_Nw.warmM hW h.2.2.1, va_Nw.warmM hW h.2.2.2⟩
def en (g : Gd) (A : Nat → Prop) (U : State) (H : Heap) : Prop := va_K g.1 vcl (tyA g.2.1) U ∧ (∀ (k : Nat) (q : stT), sts[k]? = some q → va_Z q.1 q.2.1 q.2.2.1 (.ref (g.2.2 k)) A U H ∧ va_T q.2.2.2.1 (g.2.2 k) q.2.2.2.2.1 q.2.2.2.2.2 A U H) ∧ va_AO "LatticeKeys$KeyPair" U ∧ va_AO "LatticeKeys$KemSet" U ∧ va_AO "LatticeKeys$DsaSet" U ∧ (Cond.arrayOver (.array .int)).before #[] U = true ∧ (Cond.arrayOver (.array .byte)).before #[] U = true ∧ nst U
theorem en_ok (g : Gd) : EnvOk (en g) :=
  ⟨fun A u U H hW h => ⟨va_K.moved hW.alike h.1, fun k q hq => ⟨va_Z.moved hW.alike (h.2.1 k q hq).1, va_T.moved hW.alike (h.2.1 k q hq).2⟩, va_AO.moved hW.alike h.2.2.1, va_AO.moved hW.alike h.2.2.2.1, va_AO.moved hW.alike h.2.2.2.2.1, over_moved hW.alike h.2.2.2.2.2.1, over_moved hW.alike h.2.2.2.2.2.2.1, nst_w hW h.2.2.2.2.2.2.2⟩,
   fun A U H H1 h hq => ⟨h.1, fun k q e => ⟨va_Z.kept (h.2.1 k q e).1 hq, va_T.kept (h.2.1 k q e).2 hq⟩, h.2.2⟩,
   fun A B U H h hAB => ⟨h.1, fun k q e => ⟨va_Z.narrow (h.2.1 k q e).1 hAB, va_T.narrow (h.2.1 k q e).2 hAB⟩, h.2.2⟩⟩
